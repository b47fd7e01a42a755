/-! reading a text: figures -/
theorem lp_two {α₁ ρ₁ α₂ ρ₂ : Type} {b₁ : (α₁ → Option ρ₁) → α₁ → Option ρ₁} {b₂ : (α₂ → Option ρ₂) → α₂ → Option ρ₂} (I : Nat → α₁ → α₂ → Prop) (Q : ρ₁ → ρ₂ → Prop) (hi : Nat) (hhi : hi < 3000)
    (hs : ∀ i a₁ a₂, i < hi → I i a₁ a₂ → (∃ a₁' a₂', I (i + 1) a₁' a₂' ∧ (∀ K, b₁ K a₁ = K a₁') ∧ ∀ K, b₂ K a₂ = K a₂') ∨ ∃ r₁ r₂, Q r₁ r₂ ∧ (∀ K, b₁ K a₁ = some r₁) ∧ ∀ K, b₂ K a₂ = some r₂)
    (he : ∀ a₁ a₂, I hi a₁ a₂ → ∃ r₁ r₂, Q r₁ r₂ ∧ (∀ K, b₁ K a₁ = some r₁) ∧ ∀ K, b₂ K a₂ = some r₂) {a₁ : α₁} {a₂ : α₂} (h0 : I 0 a₁ a₂) : ∃ r₁ r₂, lp b₁ FU a₁ = some r₁ ∧ lp b₂ FU a₂ = some r₂ ∧ Q r₁ r₂ := by
  have key : ∀ n i a₁ a₂, I i a₁ a₂ → i ≤ hi → hi - i < n → ∃ r₁ r₂, lp b₁ n a₁ = some r₁ ∧ lp b₂ n a₂ = some r₂ ∧ Q r₁ r₂ := by
    intro n
    induction n with
    | zero => intro i a₁ a₂ _ _ h; omega
    | succ n ih =>
      intro i a₁ a₂ hI hle hlt
      by_cases h : i = hi
      · subst h
        obtain ⟨r₁, r₂, hq, k₁, k₂⟩ := he a₁ a₂ hI
        exact ⟨r₁, r₂, k₁ _, k₂ _, hq⟩
      · rcases hs i a₁ a₂ (by omega) hI with ⟨a₁', a₂', hI', k₁, k₂⟩ | ⟨r₁, r₂, hq, k₁, k₂⟩
        · obtain ⟨r₁, r₂, e₁, e₂, hq⟩ := ih (i + 1) a₁' a₂' hI' (by omega) (by omega)
          exact ⟨r₁, r₂, (k₁ _).trans e₁, (k₂ _).trans e₂, hq⟩
        · exact ⟨r₁, r₂, k₁ _, k₂ _, hq⟩
  exact key FU 0 a₁ a₂ h0 (Nat.zero_le _) (by unfold FU; omega)
theorem up2_up2 (σ : St) (k j : Nat) (v w : Int32) : up2 (up2 σ k j v) k j w = up2 σ k j w := by
  funext a b
  rw [up2_g, up2_g, up2_g]
  by_cases h : a = k ∧ b = j
  · rw [if_pos h, if_pos h]
  · rw [if_neg h, if_neg h, if_neg h]
theorem up2_cm (σ : St) {k j k' j' : Nat} (v w : Int32) (h : k ≠ k' ∨ j ≠ j') : up2 (up2 σ k j v) k' j' w = up2 (up2 σ k' j' w) k j v := by
  funext a b
  rw [up2_g, up2_g, up2_g, up2_g]
  by_cases h1 : a = k ∧ b = j
  · rw [if_neg (by omega), if_pos h1, if_pos h1]
  · by_cases h2 : a = k' ∧ b = j'
    · rw [if_pos h2, if_neg h1, if_pos h2]
    · rw [if_neg h2, if_neg h1, if_neg h1, if_neg h2]
/-- the reader's place and what it found wrong -/
def cu (σ : St) (pl : Nat) (w : Int32) : St := up2 (up2 σ 3 1 (nI pl)) 3 2 w
def mu (τ : St) (pl : Nat) (w : Int32) : St := up2 (up2 τ 0 2 (nI pl)) 0 56 w
theorem cu_1 {σ : St} {pl : Nat} {w : Int32} : cu σ pl w 3 1 = nI pl := by unfold cu; rw [up2_c (by decide), up2_at]
theorem cu_2 {σ : St} {pl : Nat} {w : Int32} : cu σ pl w 3 2 = w := up2_at _ _ _ _
theorem cu_r {σ : St} {pl : Nat} {w : Int32} {a : Nat} (h : a ≠ 3) : cu σ pl w a = σ a := by unfold cu; rw [up2_ne h, up2_ne h]
theorem cu_c {σ : St} {pl : Nat} {w : Int32} {b : Nat} (h1 : b ≠ 1) (h2 : b ≠ 2) : cu σ pl w 3 b = σ 3 b := by unfold cu; rw [up2_c h2, up2_c h1]
theorem cu_s1 {σ : St} {pl pl' : Nat} {w : Int32} : up2 (cu σ pl w) 3 1 (nI pl') = cu σ pl' w := by unfold cu; rw [up2_cm _ _ _ (Or.inr (by decide)), up2_up2]
theorem cu_s2 {σ : St} {pl : Nat} {w w' : Int32} : up2 (cu σ pl w) 3 2 w' = cu σ pl w' := by unfold cu; rw [up2_up2]
theorem mu_1 {τ : St} {pl : Nat} {w : Int32} : mu τ pl w 0 2 = nI pl := by unfold mu; rw [up2_c (by decide), up2_at]
theorem mu_2 {τ : St} {pl : Nat} {w : Int32} : mu τ pl w 0 56 = w := up2_at _ _ _ _
theorem mu_r {τ : St} {pl : Nat} {w : Int32} {a : Nat} (h : a ≠ 0) : mu τ pl w a = τ a := by unfold mu; rw [up2_ne h, up2_ne h]
theorem mu_c {τ : St} {pl : Nat} {w : Int32} {b : Nat} (h1 : b ≠ 2) (h2 : b ≠ 56) : mu τ pl w 0 b = τ 0 b := by unfold mu; rw [up2_c h2, up2_c h1]
theorem mu_s1 {τ : St} {pl pl' : Nat} {w : Int32} : up2 (mu τ pl w) 0 2 (nI pl') = mu τ pl' w := by unfold mu; rw [up2_cm _ _ _ (Or.inr (by decide)), up2_up2]
theorem mu_s2 {τ : St} {pl : Nat} {w w' : Int32} : up2 (mu τ pl w) 0 56 w' = mu τ pl w' := by unfold mu; rw [up2_up2]
/-- the letter at a place: the class's and the reference's -/
theorem lett {σ τ : St} (hT : rT σ τ) {pl : Nat} (hpl : pl ≤ 400) (w w' : Int32) : (∃ x, f_X6_at 1 (nI pl) (cu σ pl w) = some (x, cu σ pl w) ∧ f_X8_letterAt (nI pl) (mu τ pl w') = some (x, mu τ pl w') ∧ pl < 200) ∨ (f_X6_at 1 (nI pl) (cu σ pl w) = some (-4, cu σ pl w) ∧ f_X8_letterAt (nI pl) (mu τ pl w') = some (0, mu τ pl w')) := by
  obtain ⟨len, hl, e1, e2, e3⟩ := hT
  have c1 : cu σ pl w 1 1 = nI len := by rw [cu_r (by decide)]; exact e1
  have m1 : mu τ pl w' 0 0 = nI len := by rw [mu_c (by decide) (by decide)]; exact e2
  unfold f_X6_at f_X8_letterAt
  rw [c1, m1, if_neg (nI_pos (by omega)), cn2]
  by_cases h : pl < len
  · left
    refine ⟨σ 2 pl, ?_, ?_, by omega⟩
    · rw [if_neg (by rw [nI_leI (by omega) (by omega)]; omega), if_neg (by rw [nI_leI (by omega) (by omega)]; omega), gd_t (ix_nI (by omega) (by decide)), nt_nI (by omega), cu_r (by decide)]
    · rw [if_neg (by rw [nI_leI (by omega) (by omega)]; omega), gd_t (ix_nI (by omega) (by decide)), nt_nI (by omega), mu_r (by decide), e3 pl h]
  · right
    exact ⟨by rw [if_pos (nI_le (by omega) (by omega))], by rw [if_pos (nI_le (by omega) (by omega))]⟩
theorem fin_c {σ : St} {pl : Nat} {lo hi v : Int32} : f_X5_readNumber_84 lo hi v (cu σ pl 0) = some (v, cu σ pl (if lo.toInt ≤ v.toInt ∧ v.toInt ≤ hi.toInt then 0 else 12)) := by
  unfold f_X5_readNumber_84
  rw [cu_2, if_pos rfl, cu_s2]
  by_cases h1 : v < lo
  · rw [if_pos h1, vl_d, if_neg (by rw [i_lt] at h1; omega)]
  · rw [if_neg h1]
    by_cases h2 : v ≤ hi
    · rw [if_pos h2, if_pos (by rw [i_lt] at h1; rw [i_le] at h2; omega)]
    · rw [if_neg h2, vl_d, if_neg (by rw [i_le] at h2; omega)]
theorem fin_c' {σ : St} {pl : Nat} {lo hi v w : Int32} (hw : w ≠ 0) : f_X5_readNumber_84 lo hi v (cu σ pl w) = some (v, cu σ pl w) := by
  unfold f_X5_readNumber_84
  rw [cu_2, if_neg hw]
theorem fin_m {τ : St} {pl : Nat} {lo hi v : Int32} : f_X8_number_84 lo hi v (mu τ pl 0) = some (v, mu τ pl (if lo.toInt ≤ v.toInt ∧ v.toInt ≤ hi.toInt then 0 else 12)) := by
  unfold f_X8_number_84
  rw [mu_2, if_pos rfl, in_r, w64, w64, w64]
  by_cases h : lo.toInt ≤ v.toInt ∧ v.toInt ≤ hi.toInt
  · rw [if_pos h, if_pos h, cl_some, if_neg (by decide), vl_d, up2_self]
  · rw [if_neg h, if_neg h, cl_some, if_pos rfl, vl_d, mu_s2]
theorem fin_m' {τ : St} {pl : Nat} {lo hi v w : Int32} (hw : w ≠ 0) : f_X8_number_84 lo hi v (mu τ pl w) = some (v, mu τ pl w) := by
  unfold f_X8_number_84
  rw [mu_2, if_neg hw, vl_d, show up2 (mu τ pl w) 0 56 w = mu τ pl w from mu_s2]
/-- a number of k figures -/
theorem num {σ τ : St} (hT : rT σ τ) {pl k : Nat} (hpl : pl ≤ 300) (hk : k ≤ 4) (lo hi : Int32) : ∃ v pl' w, f_X5_readNumber (nI k) lo hi (cu σ pl 0) = some (v, cu σ pl' w) ∧ f_X8_number (nI k) lo hi (mu τ pl 0) = some (v, mu τ pl' w) ∧ pl ≤ pl' ∧ pl' ≤ pl + k ∧ ((w = 0 ∧ lo.toInt ≤ v.toInt ∧ v.toInt ≤ hi.toInt) ∨ w = 11 ∨ w = 12) := by
  obtain ⟨r₁, r₂, e₁, e₂, v, pl', w, rfl, rfl, q1, q2, q3⟩ := lp_two (b₁ := fun K a => b_X5_readNumber_6 K a.1 a.2.1 a.2.2.1 a.2.2.2.1 a.2.2.2.2.1 a.2.2.2.2.2) (b₂ := fun K a => b_X8_number_6 K a.1 a.2.1 a.2.2.1 a.2.2.2.1 a.2.2.2.2.1 a.2.2.2.2.2)
    (fun i a₁ a₂ => ∃ v p w, a₁ = (nI k, lo, hi, v, nI i, cu σ p w) ∧ a₂ = (nI k, lo, hi, v, nI i, mu τ p w) ∧ pl ≤ p ∧ p ≤ pl + i ∧ (w = 0 ∨ w = 11))
    (fun r₁ r₂ => ∃ v p w, r₁ = (v, cu σ p w) ∧ r₂ = (v, mu τ p w) ∧ pl ≤ p ∧ p ≤ pl + k ∧ ((w = 0 ∧ lo.toInt ≤ v.toInt ∧ v.toInt ≤ hi.toInt) ∨ w = 11 ∨ w = 12)) k (by omega)
    (fun i a₁ a₂ hi' hI => by
      obtain ⟨v, p, w, rfl, rfl, u1, u2, u3⟩ := hI
      have n0 : ¬ nI k ≤ nI i := by rw [nI_leI (by omega) (by omega)]; omega
      rcases u3 with rfl | rfl
      · rcases lett hT (pl := p) (by omega) 0 0 with ⟨x, l1, l2, l3⟩ | ⟨l1, l2⟩
        · by_cases hx : 48 ≤ x.toInt ∧ x.toInt ≤ 57
          · refine Or.inl ⟨(nI k, lo, hi, v * 10 + x - 48, nI (i + 1), cu σ (p + 1) 0), (nI k, lo, hi, v * 10 + x - 48, nI (i + 1), mu τ (p + 1) 0), ⟨_, p + 1, 0, rfl, rfl, by omega, by omega, Or.inl rfl⟩, fun K => ?_, fun K => ?_⟩
            · show b_X5_readNumber_6 K (nI k) lo hi v (nI i) (cu σ p 0) = _
              unfold b_X5_readNumber_6
              rw [if_neg n0, cu_2, if_pos rfl, cu_1, l1, cl_some, if_neg (by rw [i_lt, t_lit 48 (by decide)]; omega), if_pos (by rw [i_le, t_lit 57 (by decide)]; omega), vl_d, vl_d, vl_d, cu_1, nI_1, nI_1, cu_s1]
            · show b_X8_number_6 K (nI k) lo hi v (nI i) (mu τ p 0) = _
              unfold b_X8_number_6
              rw [if_neg n0, mu_2, if_pos rfl, mu_1, l2, cl_some, in_t (by rw [t64 48 (by decide)]; omega) (by rw [t64 57 (by decide)]; omega), cl_some, if_neg (by decide), mu_1, l2, cl_some, vl_d, vl_d, vl_d, mu_1, nI_1, nI_1, mu_s1, Int32.mul_comm 10 v]
          · refine Or.inl ⟨(nI k, lo, hi, v, nI (i + 1), cu σ p 11), (nI k, lo, hi, v, nI (i + 1), mu τ p 11), ⟨_, p, 11, rfl, rfl, by omega, by omega, Or.inr rfl⟩, fun K => ?_, fun K => ?_⟩
            · show b_X5_readNumber_6 K (nI k) lo hi v (nI i) (cu σ p 0) = _
              unfold b_X5_readNumber_6
              rw [if_neg n0, cu_2, if_pos rfl, cu_1, l1, cl_some, cu_s2]
              by_cases h1 : x < 48
              · rw [if_pos h1, vl_d, vl_d, nI_1]
              · rw [if_neg h1, if_neg (by rw [i_lt, t_lit 48 (by decide)] at h1; rw [i_le, t_lit 57 (by decide)]; omega), vl_d, vl_d, nI_1]
            · show b_X8_number_6 K (nI k) lo hi v (nI i) (mu τ p 0) = _
              unfold b_X8_number_6
              rw [if_neg n0, mu_2, if_pos rfl, mu_1, l2, cl_some, in_f (by rw [t64 48 (by decide), t64 57 (by decide)]; exact hx), cl_some, if_pos rfl, vl_d, vl_d, nI_1, mu_s2]
        · refine Or.inl ⟨(nI k, lo, hi, v, nI (i + 1), cu σ p 11), (nI k, lo, hi, v, nI (i + 1), mu τ p 11), ⟨_, p, 11, rfl, rfl, by omega, by omega, Or.inr rfl⟩, fun K => ?_, fun K => ?_⟩
          · show b_X5_readNumber_6 K (nI k) lo hi v (nI i) (cu σ p 0) = _
            unfold b_X5_readNumber_6
            rw [if_neg n0, cu_2, if_pos rfl, cu_1, l1, cl_some, cu_s2, if_pos (by decide), vl_d, vl_d, nI_1]
          · show b_X8_number_6 K (nI k) lo hi v (nI i) (mu τ p 0) = _
            unfold b_X8_number_6
            rw [if_neg n0, mu_2, if_pos rfl, mu_1, l2, cl_some, in_f (by rw [t64 48 (by decide), t64 57 (by decide), t_lit 0 (by decide)]; omega), cl_some, if_pos rfl, vl_d, vl_d, nI_1, mu_s2]
      · refine Or.inr ⟨_, _, ⟨v, p, 11, rfl, rfl, by omega, by omega, Or.inr (Or.inl rfl)⟩, fun K => ?_, fun K => ?_⟩
        · show b_X5_readNumber_6 K (nI k) lo hi v (nI i) (cu σ p 11) = _
          unfold b_X5_readNumber_6
          rw [if_neg n0, cu_2, if_neg (by decide), fin_c' (by decide)]
        · show b_X8_number_6 K (nI k) lo hi v (nI i) (mu τ p 11) = _
          unfold b_X8_number_6
          rw [if_neg n0, mu_2, if_neg (by decide), fin_m' (by decide)])
    (fun a₁ a₂ hI => by
      obtain ⟨v, p, w, rfl, rfl, u1, u2, u3⟩ := hI
      have n0 : nI k ≤ nI k := nI_le (Nat.le_refl _) (by omega)
      rcases u3 with rfl | rfl
      · refine ⟨_, _, ⟨v, p, (if lo.toInt ≤ v.toInt ∧ v.toInt ≤ hi.toInt then 0 else 12), rfl, rfl, by omega, by omega, ?_⟩, fun K => ?_, fun K => ?_⟩
        · by_cases h : lo.toInt ≤ v.toInt ∧ v.toInt ≤ hi.toInt
          · rw [if_pos h]; exact Or.inl ⟨rfl, h⟩
          · rw [if_neg h]; exact Or.inr (Or.inr rfl)
        · show b_X5_readNumber_6 K (nI k) lo hi v (nI k) (cu σ p 0) = _
          unfold b_X5_readNumber_6
          rw [if_pos n0, fin_c]
        · show b_X8_number_6 K (nI k) lo hi v (nI k) (mu τ p 0) = _
          unfold b_X8_number_6
          rw [if_pos n0, fin_m]
      · refine ⟨_, _, ⟨v, p, 11, rfl, rfl, by omega, by omega, Or.inr (Or.inl rfl)⟩, fun K => ?_, fun K => ?_⟩
        · show b_X5_readNumber_6 K (nI k) lo hi v (nI k) (cu σ p 11) = _
          unfold b_X5_readNumber_6
          rw [if_pos n0, fin_c' (by decide)]
        · show b_X8_number_6 K (nI k) lo hi v (nI k) (mu τ p 11) = _
          unfold b_X8_number_6
          rw [if_pos n0, fin_m' (by decide)])
    (a₁ := (nI k, lo, hi, 0, 0, cu σ pl 0)) (a₂ := (nI k, lo, hi, 0, 0, mu τ pl 0)) ⟨0, pl, 0, rfl, rfl, by omega, by omega, Or.inl rfl⟩
  exact ⟨v, pl', w, e₁, e₂, q1, q2, q3⟩
/-- after a fault no number is read -/
theorem num_s {σ : St} {pl k : Nat} {w : Int32} (hk : 1 ≤ k) (hk4 : k ≤ 4) (hw : w ≠ 0) (lo hi : Int32) : f_X5_readNumber (nI k) lo hi (cu σ pl w) = some (0, cu σ pl w) := by
  unfold f_X5_readNumber
  show lp _ (Nat.succ (FU - 1)) _ = _
  show b_X5_readNumber_6 _ (nI k) lo hi 0 0 (cu σ pl w) = _
  unfold b_X5_readNumber_6
  rw [if_neg (show ¬ nI k ≤ (0 : Int32) from by rw [i_le, t_lit 0 (by decide), t_nI k (by omega)]; omega), cu_2, if_neg hw, fin_c' hw]
