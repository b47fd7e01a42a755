/-! nest -/
def Cl (a b x s : Nat) : Prop := (x - s) + (s - x) < a ∨ b < a + ((x - s) + (s - x))
def fC (f : Nat → Nat) (a b x nc : Nat) (r : Int32) : Prop := (r = -4 ∧ ∀ i, i < nc → ¬ Cl a b x (f i)) ∨ ∃ k, k < nc ∧ r = nI k ∧ Cl a b x (f k) ∧ ∀ i, i < k → ¬ Cl a b x (f i)
theorem fC_one {f : Nat → Nat} {a b x nc : Nat} {r r' : Int32} (h : fC f a b x nc r) (h' : fC f a b x nc r') : r = r' := by
  rcases h with ⟨e, u⟩ | ⟨k, hk, e, u, v⟩ <;> rcases h' with ⟨e', u'⟩ | ⟨k', hk', e', u', v'⟩
  · rw [e, e']
  · exact absurd u' (u k' hk')
  · exact absurd u (u' k hk)
  · rcases Nat.lt_trichotomy k k' with z | z | z
    · exact absurd u (v' k z)
    · rw [e, e', z]
    · exact absurd u' (v k' z)
theorem c_clash {o nc a b x : Nat} {f : Nat → Nat} {σ : St} (hnc : nc ≤ 4) (hb : b ≤ 1536) (ha : a ≤ b) (hx : x < b) (h5 : σ o 5 = nI nc) (h0 : σ o 0 = nI b) (h1 : σ o 1 = nI a) (hf : ∀ i, i < nc → f i < b ∧ σ (o + 2) i = nI (f i)) : ∃ r, f_X3_clashOf o (nI x) σ = some (r, σ) ∧ fC f a b x nc r := by
  obtain ⟨r, hr, r', rfl, q⟩ := lp_FU (b := fun K a => b_X3_clashOf_2 o K a.1 a.2.1 a.2.2) (fun k c => c = (nI x, nI k, σ) ∧ ∀ i, i < k → ¬ Cl a b x (f i)) (fun r => ∃ r', r = (r', σ) ∧ fC f a b x nc r') nc (by omega)
    (fun k c hk hc => by
      obtain ⟨rfl, hI⟩ := hc
      obtain ⟨hs, es⟩ := hf k hk
      have ed : (if 0 ≤ (nI x - nI (f k)) then (nI x - nI (f k)) else 0 - (nI x - nI (f k))) = nI ((x - f k) + (f k - x)) := by
        have e := pk_sub_toInt (a := x) (b := f k) (by omega) (by omega)
        by_cases hge : f k ≤ x
        · rw [if_pos (by rw [i_le, e]; show (0 : Int) ≤ _; omega), nI_m _ _ hge, show f k - x = 0 by omega, Nat.add_zero]
        · rw [if_neg (by rw [i_le, e]; show ¬ (0 : Int) ≤ _; omega), show x - f k = 0 by omega, Nat.zero_add]
          rw [Int32.zero_sub, Int32.neg_sub, nI_m _ _ (by omega)]
      by_cases hC : Cl a b x (f k)
      · refine Or.inr ⟨_, ⟨nI k, rfl, Or.inr ⟨k, hk, rfl, hC, hI⟩⟩, fun K => ?_⟩
        show b_X3_clashOf_2 o K (nI x) (nI k) σ = _
        unfold b_X3_clashOf_2
        rw [h5, if_neg (by rw [nI_leI (by omega) (by omega)]; omega), if_neg (by rw [nI_leI (by omega) (by omega)]; omega), gd_t (ix_nI (by omega) (by decide)), nt_nI (by omega), es, vl_d, ed, h1]
        by_cases h : (x - f k) + (f k - x) < a
        · rw [if_pos (nI_lt h (by omega))]
        · have h' : b < a + ((x - f k) + (f k - x)) := by rcases hC with q | q <;> omega
          rw [if_neg (by rw [nI_ltI (by omega) (by omega)]; exact h), h0, nI_m _ _ (by omega), if_neg (by rw [nI_leI (by omega) (by omega)]; omega)]
      · refine Or.inl ⟨(nI x, nI (k + 1), σ), ⟨rfl, fun i hi => ?_⟩, fun K => ?_⟩
        · by_cases e : i = k
          · rw [e]; exact hC
          · exact hI i (by omega)
        · show b_X3_clashOf_2 o K (nI x) (nI k) σ = _
          unfold b_X3_clashOf_2
          unfold Cl at hC
          rw [h5, if_neg (by rw [nI_leI (by omega) (by omega)]; omega), if_neg (by rw [nI_leI (by omega) (by omega)]; omega), gd_t (ix_nI (by omega) (by decide)), nt_nI (by omega), es, vl_d, ed, h1, if_neg (by rw [nI_ltI (by omega) (by omega)]; omega), h0, nI_m _ _ (by omega), if_pos (by rw [nI_leI (by omega) (by omega)]; omega), vl_d, nI_1])
    (fun c hc => by
      obtain ⟨rfl, hI⟩ := hc
      refine ⟨_, ⟨-4, rfl, Or.inl ⟨rfl, hI⟩⟩, fun K => ?_⟩
      show b_X3_clashOf_2 o K (nI x) (nI nc) σ = _
      unfold b_X3_clashOf_2
      rw [h5, if_pos (nI_le (Nat.le_refl _) (by omega))])
    (a := (nI x, 0, σ)) ⟨rfl, fun i hi => by omega⟩
  exact ⟨r', hr, q⟩
theorem subadd {x s b : Nat} (hs : s < b) : nI x - nI s + nI b = nI (x + b - s) := by
  rw [show nI b = nI s + nI (b - s) from by rw [nI_add]; exact congrArg nI (by omega), ← Int32.add_assoc, Int32.sub_add_cancel, nI_add]
  exact congrArg nI (by omega)
theorem m_meets {p nc a b x : Nat} {f : Nat → Nat} {τ : St} (hp : mn p = 4) (hnc : nc ≤ 4) (hb : b ≤ 1536) (h1b : 1 ≤ b) (ha : a ≤ b) (ha1 : 1 ≤ a) (hx : x < b) (hf : ∀ i, i < nc → f i < b ∧ τ p i = nI (f i)) : ∃ r, f_X8_meets p (nI nc) (nI x) (nI b) (nI a) τ = some (r, τ) ∧ fC f a b x nc r := by
  obtain ⟨r, hr, r', rfl, q⟩ := lp_FU (b := fun K a => b_X8_meets_3 p K a.1 a.2.1 a.2.2.1 a.2.2.2.1 a.2.2.2.2.1 a.2.2.2.2.2) (fun k c => c = (nI nc, nI x, nI b, nI a, nI k, τ) ∧ ∀ i, i < k → ¬ Cl a b x (f i)) (fun r => ∃ r', r = (r', τ) ∧ fC f a b x nc r') nc (by omega)
    (fun k c hk hc => by
      obtain ⟨rfl, hI⟩ := hc
      obtain ⟨hs, es⟩ := hf k hk
      have nb : ¬ nI b = 0 := by rw [i_eq, t_nI b (by omega), t_lit 0 (by decide)]; omega
      have e1 : (nI x - nI (f k) + nI b) - (nI x - nI (f k) + nI b) / nI b * nI b = nI ((x + b - f k) % b) := by rw [subadd hs, pk_rem (by omega) (by omega) (by omega)]
      have e2 : (nI (f k) - nI x + nI b) - (nI (f k) - nI x + nI b) / nI b * nI b = nI ((f k + b - x) % b) := by rw [subadd hx, pk_rem (by omega) (by omega) (by omega)]
      have l1 : (x + b - f k) % b < b := Nat.mod_lt _ (by omega)
      have l2 : (f k + b - x) % b < b := Nat.mod_lt _ (by omega)
      have key : Cl a b x (f k) ↔ ((x + b - f k) % b < a ∨ (f k + b - x) % b < a) := by
        unfold Cl
        rcases Nat.lt_trichotomy x (f k) with z | z | z
        · rw [Nat.mod_eq_of_lt (show x + b - f k < b by omega), show f k + b - x = (f k - x) + b by omega, Nat.add_mod_right, Nat.mod_eq_of_lt (show f k - x < b by omega)]
          omega
        · rw [z, show f k + b - f k = b by omega, Nat.mod_self]
          omega
        · rw [Nat.mod_eq_of_lt (show f k + b - x < b by omega), show x + b - f k = (x - f k) + b by omega, Nat.add_mod_right, Nat.mod_eq_of_lt (show x - f k < b by omega)]
          omega
      by_cases hC : Cl a b x (f k)
      · refine Or.inr ⟨_, ⟨nI k, rfl, Or.inr ⟨k, hk, rfl, hC, hI⟩⟩, fun K => ?_⟩
        show b_X8_meets_3 p K (nI nc) (nI x) (nI b) (nI a) (nI k) τ = _
        unfold b_X8_meets_3
        rw [if_neg (by rw [nI_leI (by omega) (by omega)]; omega), hp, gd_t (ix_nI (by omega) (by decide)), gd_t nb, nt_nI (by omega), es, vl_d, gd_t (ix_nI (by omega) (by decide)), gd_t nb, vl_d, e1, e2]
        by_cases h : (x + b - f k) % b < a
        · rw [if_pos (nI_lt h (by omega))]
        · have h' := (key.mp hC).resolve_left h
          rw [if_neg (by rw [nI_ltI (by omega) (by omega)]; exact h), if_neg (by rw [nI_leI (by omega) (by omega)]; omega)]
      · refine Or.inl ⟨(nI nc, nI x, nI b, nI a, nI (k + 1), τ), ⟨rfl, fun i hi => ?_⟩, fun K => ?_⟩
        · by_cases e : i = k
          · rw [e]; exact hC
          · exact hI i (by omega)
        · show b_X8_meets_3 p K (nI nc) (nI x) (nI b) (nI a) (nI k) τ = _
          unfold b_X8_meets_3
          have n1 : ¬ (x + b - f k) % b < a := fun q => hC (key.mpr (Or.inl q))
          have n2 : ¬ (f k + b - x) % b < a := fun q => hC (key.mpr (Or.inr q))
          rw [if_neg (by rw [nI_leI (by omega) (by omega)]; omega), hp, gd_t (ix_nI (by omega) (by decide)), gd_t nb, nt_nI (by omega), es, vl_d, gd_t (ix_nI (by omega) (by decide)), gd_t nb, vl_d, e1, e2, if_neg (by rw [nI_ltI (by omega) (by omega)]; exact n1), if_pos (by rw [nI_leI (by omega) (by omega)]; omega), vl_d, nI_1])
    (fun c hc => by
      obtain ⟨rfl, hI⟩ := hc
      refine ⟨_, ⟨-4, rfl, Or.inl ⟨rfl, hI⟩⟩, fun K => ?_⟩
      show b_X8_meets_3 p K (nI nc) (nI x) (nI b) (nI a) (nI nc) τ = _
      unfold b_X8_meets_3
      rw [if_pos (nI_le (Nat.le_refl _) (by omega))])
    (a := (nI nc, nI x, nI b, nI a, 0, τ)) ⟨rfl, fun i hi => by omega⟩
  exact ⟨r', hr, q⟩
/-- the first beacon of a part that is laid now -/
def fB (N x b : Nat) : Nat := if x < N then x + (N - x + b - 1) / b * b else x
theorem fB_le {N x b : Nat} (hb : 1 ≤ b) : fB N x b ≤ N + x + b := by
  unfold fB
  split
  · have := Nat.div_mul_le_self (N - x + b - 1) b
    omega
  · omega
theorem c_fb {o N x b : Nat} {σ : St} (hN : N < 1000000000) (hx : x < b) (hb : b ≤ 1536) (h0 : σ o 0 = nI b) : f_X3_firstBeacon o (nI x) (nI N) σ = some (nI (fB N x b), σ) := by
  unfold f_X3_firstBeacon fB
  by_cases h : x < N
  · have e1 : (if (1 : Int32) < nI b then nI b else (1 : Int32)) = nI b := by
      by_cases h1 : b = 1
      · rw [h1, if_neg (by decide)]; rfl
      · rw [if_pos (by rw [i_lt, t_lit 1 (by decide), t_nI b (by omega)]; omega)]
    have nb : ¬ nI b = 0 := by rw [i_eq, t_nI b (by omega), t_lit 0 (by decide)]; omega
    rw [if_pos (nI_lt h (by omega)), if_pos h, h0, e1, vl_d, gd_t nb, vl_d, nI_m _ _ (by omega), nI_add, show (1 : Int32) = nI 1 from rfl, nI_m _ _ (by omega), pk_div (by omega) (by omega) (by omega), pk_mul, nI_add]
  · rw [if_neg (by rw [nI_ltI (by omega) (by omega)]; exact h), if_neg h]
theorem m_fb {N x b : Nat} (hN : N < 1000000000) (hx : x < b) (hb : b ≤ 1536) : ∃ m, m < b ∧ (let x26 := (nI N - nI x) - (nI N - nI x) / nI b * nI b; (if 0 ≤ x26 then x26 else x26 + nI b) = nI m) ∧ fB N x b = if m = 0 then N else N + b - m := by
  by_cases h : x ≤ N
  · have e : (nI N - nI x) - (nI N - nI x) / nI b * nI b = nI ((N - x) % b) := by rw [nI_m _ _ h, pk_rem (by omega) (by omega) (by omega)]
    have hm : (N - x) % b < b := Nat.mod_lt _ (by omega)
    refine ⟨(N - x) % b, hm, ?_, ?_⟩
    · show (if 0 ≤ ((nI N - nI x) - (nI N - nI x) / nI b * nI b) then ((nI N - nI x) - (nI N - nI x) / nI b * nI b) else ((nI N - nI x) - (nI N - nI x) / nI b * nI b) + nI b) = _
      rw [e, if_pos (by rw [i_le, t_nI _ (by omega)]; show (0 : Int) ≤ _; omega)]
    · unfold fB
      have dm := Nat.div_add_mod (N - x) b
      by_cases hlt : x < N
      · rw [if_pos hlt]
        by_cases h0 : (N - x) % b = 0
        · rw [if_pos h0]
          have e1 : (N - x + b - 1) / b = (N - x) / b := by
            apply Nat.div_eq_of_lt_le
            · rw [Nat.mul_comm]; omega
            · rw [Nat.succ_mul, Nat.mul_comm]; omega
          rw [e1, Nat.mul_comm]
          omega
        · rw [if_neg h0]
          have e1 : (N - x + b - 1) / b = (N - x) / b + 1 := by
            apply Nat.div_eq_of_lt_le
            · rw [Nat.succ_mul, Nat.mul_comm]; omega
            · rw [Nat.succ_mul, Nat.succ_mul, Nat.mul_comm]; omega
          rw [e1, Nat.succ_mul, Nat.mul_comm]
          omega
      · have : x = N := by omega
        subst this
        rw [if_neg hlt, if_pos (by rw [Nat.sub_self, Nat.zero_mod])]
  · have ev := pk_sub_toInt (a := N) (b := x) (by omega) (by omega)
    have ed : (nI N - nI x) / nI b = 0 := by
      rw [i_eq, Int32.toInt_div, ev, t_nI b (by omega), show ((N : Int) - x) = -((x - N : Nat) : Int) by omega, Int.neg_tdiv, Int.tdiv_eq_zero_of_lt (by omega) (by omega)]
      rfl
    refine ⟨b - (x - N), by omega, ?_, ?_⟩
    · show (if 0 ≤ ((nI N - nI x) - (nI N - nI x) / nI b * nI b) then ((nI N - nI x) - (nI N - nI x) / nI b * nI b) else ((nI N - nI x) - (nI N - nI x) / nI b * nI b) + nI b) = _
      rw [ed, Int32.zero_mul, Int32.sub_zero, if_neg (by rw [i_le, ev]; show ¬ (0 : Int) ≤ _; omega), subadd hx]
      exact congrArg nI (by omega)
    · unfold fB
      rw [if_neg (by omega), if_neg (by omega)]
      omega
