/-! reading a text: items -/
def RY (o nc nd B li : Nat) (σ τ : St) : Prop :=
  (1 ≤ nc ∧ nc ≤ 4 ∧ nd ≤ 8 ∧ 1 ≤ li ∧ li ≤ 9) ∧ (σ o 4 = nI li ∧ τ 0 8 = nI li) ∧ (σ o 5 = nI nc ∧ τ 0 9 = nI nc) ∧ (σ o 6 = nI nd ∧ τ 0 12 = nI nd) ∧ (∀ c, c < nc → σ (o + 1) c = τ 10 c) ∧
  (∀ c, c < nc → ∃ s, s < 48 * 2 ^ B ∧ σ (o + 2) c = nI s ∧ τ 11 c = nI s) ∧
  ∀ d, d < nd → ∃ h x e, h < nc ∧ 1 ≤ x ∧ x ≤ 8 ∧ e ≤ 3 ∧ (σ (o + 3) d = nI h ∧ τ 13 d = nI h) ∧ (σ (o + 4) d = nI x ∧ τ 14 d = nI x) ∧ (σ (o + 5) d = nI e ∧ τ 15 d = nI e)
def RO (o B S le : Nat) (σ τ : St) : Prop :=
  (B ≤ 5 ∧ S ≤ 3 ∧ S ≤ B ∧ 1 ≤ le ∧ le ≤ 9) ∧ σ o 0 = nI (48 * 2 ^ B) ∧ σ o 1 = nI (48 * 2 ^ S) ∧ σ o 2 = nI (3 * 2 ^ S) ∧ σ o 3 = nI le ∧ τ 0 5 = nI B ∧ τ 0 6 = nI S ∧ τ 0 7 = nI le
def Okk (o pl : Nat) (σ τ : St) : Prop := ∃ nc nd B S le li p, RY o nc nd B li σ τ ∧ RO o B S le σ τ ∧ σ 3 1 = nI p ∧ τ 0 2 = nI p ∧ σ 3 2 = 0 ∧ τ 0 56 = 0 ∧ pl < p ∧ p ≤ 200
def Bad (σ τ : St) : Prop := ∃ w, w ≠ 0 ∧ σ 3 2 = w ∧ τ 0 56 = w ∧ ((w = 13 ∧ ∃ i, i < 4 ∧ σ 3 3 = nI i ∧ τ 0 57 = nI (20 + i)) ∨ (w ≠ 13 ∧ τ 0 57 = 0))
def FrR (o : Nat) (σ τ σ' τ' : St) : Prop := (∀ k, k ≠ 3 → (k < o ∨ o + 6 ≤ k) → σ' k = σ k) ∧ (∀ k, k ≠ 0 → (k < 10 ∨ 15 < k) → τ' k = τ k) ∧ ∀ j, j = 0 ∨ j = 3 ∨ (16 ≤ j ∧ j ≤ 55) → τ' 0 j = τ 0 j
theorem FrR.rf {o : Nat} {σ τ : St} : FrR o σ τ σ τ := ⟨fun _ _ _ => rfl, fun _ _ _ => rfl, fun _ _ => rfl⟩
theorem FrR.tr {o : Nat} {σ τ σ' τ' σ'' τ'' : St} (h : FrR o σ τ σ' τ') (h' : FrR o σ' τ' σ'' τ'') : FrR o σ τ σ'' τ'' :=
  ⟨fun k a b => (h'.1 k a b).trans (h.1 k a b), fun k a b => (h'.2.1 k a b).trans (h.2.1 k a b), fun j a => (h'.2.2 j a).trans (h.2.2 j a)⟩
theorem FrR.cur {o : Nat} {σ τ σ' τ' : St} (h : FrR o σ τ σ' τ') (p p' : Nat) (w w' : Int32) : FrR o σ τ (cu σ' p w) (mu τ' p' w') :=
  ⟨fun k a b => by rw [cu_r a]; exact h.1 k a b, fun k a b => by rw [mu_r a]; exact h.2.1 k a b, fun j a => by rw [mu_c (by omega) (by omega)]; exact h.2.2 j a⟩
theorem FrR.T {o : Nat} {σ τ σ' τ' : St} (h : FrR o σ τ σ' τ') (ho : o = 8 ∨ o = 14) (hT : rT σ τ) : rT σ' τ' :=
  hT.cg (h.1 1 (by decide) (by omega)) (h.1 2 (by decide) (by omega)) (h.2.2 0 (Or.inl rfl)) (h.2.1 1 (by decide) (by decide))
theorem cu_cm {σ : St} {pl : Nat} {w : Int32} {k j : Nat} {v : Int32} (h : k ≠ 3 ∨ (j ≠ 1 ∧ j ≠ 2)) : up2 (cu σ pl w) k j v = cu (up2 σ k j v) pl w := by
  unfold cu
  rw [up2_cm _ _ _ (show (3 ≠ k ∨ 2 ≠ j) by omega), up2_cm _ _ _ (show (3 ≠ k ∨ 1 ≠ j) by omega)]
theorem mu_cm {τ : St} {pl : Nat} {w : Int32} {k j : Nat} {v : Int32} (h : k ≠ 0 ∨ (j ≠ 2 ∧ j ≠ 56)) : up2 (mu τ pl w) k j v = mu (up2 τ k j v) pl w := by
  unfold mu
  rw [up2_cm _ _ _ (show (0 ≠ k ∨ 56 ≠ j) by omega), up2_cm _ _ _ (show (0 ≠ k ∨ 2 ≠ j) by omega)]
theorem RY.cur {o nc nd B li : Nat} {σ τ : St} (ho : o = 8 ∨ o = 14) (h : RY o nc nd B li σ τ) (p p' : Nat) (w w' : Int32) : RY o nc nd B li (cu σ p w) (mu τ p' w') := by
  unfold RY at h ⊢
  rw [cu_r (show o ≠ 3 by omega), cu_r (show o + 1 ≠ 3 by omega), cu_r (show o + 2 ≠ 3 by omega), cu_r (show o + 3 ≠ 3 by omega), cu_r (show o + 4 ≠ 3 by omega), cu_r (show o + 5 ≠ 3 by omega), mu_c (by decide) (by decide), mu_c (by decide) (by decide), mu_c (by decide) (by decide), mu_r (by decide), mu_r (by decide), mu_r (by decide), mu_r (by decide), mu_r (by decide)]
  exact h
theorem RO.cur {o B S le : Nat} {σ τ : St} (ho : o = 8 ∨ o = 14) (h : RO o B S le σ τ) (p p' : Nat) (w w' : Int32) : RO o B S le (cu σ p w) (mu τ p' w') := by
  unfold RO at h ⊢
  rw [cu_r (show o ≠ 3 by omega), mu_c (by decide) (by decide), mu_c (by decide) (by decide), mu_c (by decide) (by decide)]
  exact h
theorem end_0 {σ τ : St} (hT : rT σ τ) {pl : Nat} (hpl : pl ≤ 400) : ∃ w, f_X5_readEnd (cu σ pl 0) = some ((), cu σ (pl + 1) w) ∧ f_X8_item_107 (mu τ pl 0) = some ((), mu τ (pl + 1) w) ∧ ((w = 0 ∧ pl < 200) ∨ w = 11) := by
  unfold f_X5_readEnd f_X8_item_107
  rw [cu_2, if_pos rfl, cu_1, mu_2, if_pos rfl, mu_1]
  rcases lett hT hpl 0 0 with ⟨x, l1, l2, l3⟩ | ⟨l1, l2⟩
  · rw [l1, l2, cl_some, cl_some]
    by_cases hx : x = 59
    · exact ⟨0, by rw [if_pos hx, vl_d, cu_1, nI_1, cu_s1], by rw [if_pos hx, vl_d, vl_d, mu_s2, mu_1, nI_1, mu_s1], Or.inl ⟨rfl, l3⟩⟩
    · exact ⟨11, by rw [if_neg hx, vl_d, vl_d, cu_s2, cu_1, nI_1, cu_s1], by rw [if_neg hx, vl_d, vl_d, mu_s2, mu_1, nI_1, mu_s1], Or.inr rfl⟩
  · rw [l1, l2, cl_some, cl_some]
    exact ⟨11, by rw [if_neg (by decide), vl_d, vl_d, cu_s2, cu_1, nI_1, cu_s1], by rw [if_neg (by decide), vl_d, vl_d, mu_s2, mu_1, nI_1, mu_s1], Or.inr rfl⟩
theorem end_c {σ : St} {pl : Nat} {w : Int32} (hw : w ≠ 0) : f_X5_readEnd (cu σ pl w) = some ((), cu σ (pl + 1) w) := by
  unfold f_X5_readEnd
  rw [cu_2, if_neg hw, vl_d, cu_1, nI_1, cu_s1]
theorem end_m {τ : St} {pl : Nat} {w : Int32} (hw : w ≠ 0) : f_X8_item_107 (mu τ pl w) = some ((), mu τ pl w) := by
  unfold f_X8_item_107
  rw [mu_2, if_neg hw]
theorem bad_cur {σ τ : St} {p p' : Nat} {w : Int32} (hw : w = 10 ∨ w = 11 ∨ w = 12) (h : τ 0 57 = 0) : Bad (cu σ p w) (mu τ p' w) := by
  refine ⟨w, ?_, cu_2, mu_2, Or.inr ⟨?_, by rw [mu_c (by decide) (by decide)]; exact h⟩⟩
  · rcases hw with rfl | rfl | rfl <;> decide
  · rcases hw with rfl | rfl | rfl <;> decide
theorem sh48 : ∀ B, B < 6 → (48 : Int32) <<< (nI B &&& 31) = nI (48 * 2 ^ B) := by decide +kernel
theorem sh3 : ∀ B, B < 4 → (3 : Int32) <<< (nI B &&& 31) = nI (3 * 2 ^ B) := by decide +kernel
theorem nat_of {v : Int32} {a b : Nat} (h : (a : Int) ≤ v.toInt) (h' : v.toInt ≤ (b : Int)) : ∃ x, a ≤ x ∧ x ≤ b ∧ v = nI x := ⟨v.toInt.toNat, by omega, by omega, nI_of_toInt (by omega)⟩
theorem w_ne {w : Int32} (h : w = 11 ∨ w = 12) : w ≠ 0 := by rcases h with rfl | rfl <;> decide
theorem it_life {o nc nd B S le li pl : Nat} {σ τ : St} (ho : o = 8 ∨ o = 14) (hT : rT σ τ) (hY : RY o nc nd B li σ τ) (hO : RO o B S le σ τ) (h57 : τ 0 57 = 0) (hpl : pl ≤ 200) : ∃ σ' τ', f_X5_readLife o (cu σ pl 0) = some ((), σ') ∧ (cl (f_X8_number 1 1 9 (mu τ pl 0)) fun r18 σ17 => vl (up2 σ17 0 8 r18) fun σ20 => f_X8_item_107 σ20) = some ((), τ') ∧ (Okk o pl σ' τ' ∨ Bad σ' τ') ∧ FrR o σ τ σ' τ' := by
  obtain ⟨v, p1, w, c1, m1, q1, q2, q3⟩ := num hT (pl := pl) (k := 1) (by omega) (by decide) 1 9
  have fr : ∀ v, FrR o σ τ σ (up2 τ 0 8 v) := fun v => ⟨fun _ _ _ => rfl, fun k a b => up2_ne a, fun j a => up2_c (by omega)⟩
  have c1' : f_X5_readNumber 1 1 9 (cu σ pl 0) = some (v, cu σ p1 w) := c1
  have m1' : f_X8_number 1 1 9 (mu τ pl 0) = some (v, mu τ p1 w) := m1
  have z57 : ∀ v, up2 τ 0 8 v 0 57 = 0 := fun v => by rw [up2_c (by decide)]; exact h57
  unfold f_X5_readLife
  rw [c1', m1', cl_some, cl_some, vl_d, mu_cm (Or.inr (by decide))]
  rcases q3 with ⟨rfl, k1, k2⟩ | hw
  · obtain ⟨x, x1, x2, rfl⟩ := nat_of (a := 1) (b := 9) (by rw [t_lit 1 (by decide)] at k1; exact k1) (by rw [t_lit 9 (by decide)] at k2; exact k2)
    obtain ⟨w, e1, e2, e3⟩ := end_0 (σ := σ) (τ := up2 τ 0 8 (nI x)) ((fr (nI x)).T ho hT) (pl := p1) (by omega)
    rw [e1, e2, cl_some, cu_2]
    rcases e3 with ⟨rfl, e3⟩ | rfl
    · refine ⟨_, _, by rw [if_pos rfl, vl_d, cu_cm (Or.inl (by omega))], rfl, Or.inl ⟨nc, nd, B, S, le, x, p1 + 1, RY.cur ho ?_ _ _ _ _, RO.cur ho ?_ _ _ _ _, cu_1, mu_1, cu_2, mu_2, by omega, by omega⟩, ?_⟩
      · obtain ⟨y1, y2, y3, y4, y5, y6, y7⟩ := hY
        refine ⟨⟨y1.1, y1.2.1, y1.2.2.1, x1, x2⟩, ⟨up2_at _ _ _ _, up2_at _ _ _ _⟩, ?_, ?_, ?_, ?_, ?_⟩
        · rw [up2_c (by decide), up2_c (by decide)]; exact y3
        · rw [up2_c (by decide), up2_c (by decide)]; exact y4
        · rw [up2_ne (show o + 1 ≠ o by omega), up2_ne (by decide)]; exact y5
        · rw [up2_ne (show o + 2 ≠ o by omega), up2_ne (by decide)]; exact y6
        · rw [up2_ne (show o + 3 ≠ o by omega), up2_ne (show o + 4 ≠ o by omega), up2_ne (show o + 5 ≠ o by omega), up2_ne (by decide), up2_ne (by decide), up2_ne (by decide)]; exact y7
      · unfold RO at hO ⊢
        rw [up2_c (by decide), up2_c (by decide), up2_c (by decide), up2_c (by decide), up2_c (by decide), up2_c (by decide), up2_c (by decide)]
        exact hO
      · exact FrR.cur ⟨fun k a b => up2_ne (by omega), fun k a b => up2_ne a, fun j a => up2_c (by omega)⟩ _ _ _ _
    · exact ⟨_, _, by rw [if_neg (by decide)], rfl, Or.inr (bad_cur (by decide) (z57 _)), (fr _).cur _ _ _ _⟩
  · rw [end_c (w_ne hw), end_m (w_ne hw), cl_some, cu_2]
    exact ⟨_, _, by rw [if_neg (w_ne hw)], rfl, Or.inr (bad_cur (Or.inr hw) (z57 _)), (fr _).cur _ _ _ _⟩
