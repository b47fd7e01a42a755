/-! the class takes up the whole party -/
def fcX (nd : Nat) (σ σ' : St) : Prop := (∀ a, a ≠ 6 → (a < 46 ∨ 46 + nd ≤ a) → σ' a = σ a) ∧ (∀ j, j ≠ 2 → j ≠ 3 → j ≠ 4 → σ' 6 j = σ 6 j) ∧ ∀ d, d < nd → ∀ j, (j = 0 ∨ 19 < j) → σ' (46 + d) j = σ (46 + d) j
theorem fcX.rf {nd : Nat} {σ : St} : fcX nd σ σ := ⟨fun _ _ _ => rfl, fun _ _ _ _ => rfl, fun _ _ _ _ => rfl⟩
theorem fcX.tr {nd : Nat} {σ σ' σ'' : St} (h : fcX nd σ σ') (h' : fcX nd σ' σ'') : fcX nd σ σ'' := ⟨fun a b c => (h'.1 a b c).trans (h.1 a b c), fun j a b c => (h'.2.1 j a b c).trans (h.2.1 j a b c), fun d a j b => (h'.2.2 d a j b).trans (h.2.2 d a j b)⟩
theorem fcW.X {nd : Nat} {σ σ' : St} (h : fcW nd σ σ') : fcX nd σ σ' := ⟨h.1, fun j a _ _ => h.2.1 j a, h.2.2⟩
theorem c_count {nd d i : Nat} {t T li : Int32} {σ : St} {V : Wd} (h : cW nd σ V) (hd : d < nd) (h0 : σ (46 + d) 0 = nI d) : ∃ σ', (∀ K, f_X0_takeUp_89 d K t T li 8 (nI i) σ = K (t, T, (cCnt V d (σ 6 3, σ 6 4, li)).2.2, 8, nI (i + 1), σ')) ∧ cW nd σ' V ∧ fcX nd σ σ' ∧ σ' 6 3 = (cCnt V d (σ 6 3, σ 6 4, li)).1 ∧ σ' 6 4 = (cCnt V d (σ 6 3, σ 6 4, li)).2.1 := by
  have r10 := h.1 d hd 10 (by decide) (by decide)
  have k : ∀ σ', σ' (46 + d) 10 = V.1 d 10 → ∀ K, f_X0_takeUp_117 d K t T li 8 (nI i) σ' = K (t, T, (if li = 0 then (if V.1 d 10 = 0 then 0 else if V.1 d 10 = 3 then 0 else 1) else 1), 8, nI (i + 1), σ') := by
    intro σ' e K
    unfold f_X0_takeUp_117
    rw [e, vl_d, vl_d, nI_1]
    by_cases h1 : li = 0
    · rw [if_pos h1, if_pos h1]
      by_cases h2 : V.1 d 10 = 0
      · rw [if_pos h2, if_pos h2]
      · rw [if_neg h2, if_neg h2]
        by_cases h3 : V.1 d 10 = 3
        · rw [if_pos h3, if_pos h3]
        · rw [if_neg h3, if_neg h3]
    · rw [if_neg h1, if_neg h1]
  unfold f_X0_takeUp_89 cCnt
  rw [r10]
  by_cases h4 : V.1 d 10 = 4
  · rw [if_pos h4, if_pos h4]
    have e1 : up2 (up2 σ 6 3 (σ 6 3 + 1)) 6 4 (nI d) (46 + d) 10 = V.1 d 10 := by rw [up2_r (by omega), up2_r (by omega)]; exact r10
    refine ⟨up2 (up2 σ 6 3 (σ 6 3 + 1)) 6 4 (nI d), fun K => ?_, ⟨fun d' hd' j j1 j2 => ?_, ?_⟩, ⟨fun a b c => ?_, fun j a b c => ?_, fun d' hd' j hj => ?_⟩, ?_, ?_⟩
    · rw [if_pos h4, vl_d, vl_d, up2_r (by omega), h0]
      exact k _ e1 K
    · rw [up2_r (by omega), up2_r (by omega)]; exact h.1 d' hd' j j1 j2
    · rw [up2_c (by decide), up2_c (by decide)]; exact h.2
    · rw [up2_ne b, up2_ne b]
    · rw [up2_c c, up2_c b]
    · rw [up2_r (by omega), up2_r (by omega)]
    · rw [up2_c (by decide), up2_at]
    · rw [up2_at]
  · rw [if_neg h4, if_neg h4]
    exact ⟨σ, fun K => by rw [if_neg h4]; exact k σ r10 K, h, fcX.rf, rfl, rfl⟩
theorem cCnt_b (V : Wd) (d : Nat) (c : Int32 × Int32 × Int32) : (cCnt V d c).2.2 = 0 ∨ (cCnt V d c).2.2 = 1 := by
  show (if c.2.2 = 0 then (if V.1 d 10 = 0 then (0 : Int32) else if V.1 d 10 = 3 then 0 else 1) else 1) = 0 ∨ (if c.2.2 = 0 then (if V.1 d 10 = 0 then (0 : Int32) else if V.1 d 10 = 3 then 0 else 1) else 1) = 1
  by_cases h1 : c.2.2 = 0
  · rw [if_pos h1]
    by_cases h2 : V.1 d 10 = 0
    · rw [if_pos h2]; exact Or.inl rfl
    · rw [if_neg h2]
      by_cases h3 : V.1 d 10 = 3
      · rw [if_pos h3]; exact Or.inl rfl
      · rw [if_neg h3]; exact Or.inr rfl
  · rw [if_neg h1]; exact Or.inr rfl
def wPair (t T : Int32) (x : Wd × (Int32 × Int32 × Int32)) (d : Nat) : Wd × (Int32 × Int32 × Int32) := (wABC t T d x.1, cCnt (wABC t T d x.1) d x.2)
theorem wABC_I {nd d : Nat} {t T : Int32} {W : Wd} (hI : wI nd W) (hd : d < nd) : wI nd (wABC t T d W) := wC_I (wB_I (wA_I hI hd) hd) hd
theorem wABC_15 (t T : Int32) (d : Nat) (V : Wd) (d' : Nat) : (wABC t T d V).1 d' 15 = V.1 d' 15 := by unfold wABC; rw [wC_15, wB_15, wA_15]
theorem wA_ne (t : Int32) {d d' : Nat} (V : Wd) (h : d' ≠ d) : (wA t d V).1 d' = V.1 d' := by
  unfold wA wBeg
  split
  · split
    · split
      · rfl
      · rw [wDraw_ne _ h, wSet_ne _ h, wSet_ne _ h]
    · split
      · split
        · rw [wDraw_ne _ h]
        · rfl
      · rfl
  · rfl
theorem wB_ne (t T : Int32) {d d' : Nat} (V : Wd) (h : d' ≠ d) : (wB t T d V).1 d' = V.1 d' := by
  unfold wB
  split
  · split
    · split
      · split
        · rw [wSet_ne _ h, wSet_ne _ h]
        · rw [wSet_ne _ h, wSet_ne _ h]
      · rfl
    · rfl
  · rfl
theorem wC_ne {d d' : Nat} (V : Wd) (h : d' ≠ d) : (wC d V).1 d' = V.1 d' := by
  unfold wC
  split
  · split
    · split
      · rw [wSet_ne _ h, wSet_ne _ h, wSet_ne _ h]
      · rfl
    · rfl
  · rfl
theorem wABC_row (t T : Int32) {d d' : Nat} (V : Wd) (h : d' ≠ d) : (wABC t T d V).1 d' = V.1 d' := by
  unfold wABC
  rw [wC_ne _ h, wB_ne _ _ _ h, wA_ne _ _ h]
theorem q_takeUp {k : Nat} {t T li : Int32} {σ : St} (hk : k < 8) (h15 : σ (46 + k) 15 = 0) (h10 : σ (46 + k) 10 = 0 ∨ σ (46 + k) 10 = 3) (hli : li = 0 ∨ li = 1) (K : Int32 × Int32 × Int32 × Int32 × Int32 × St → Option (Int32 × St)) : b_X0_takeUp_21 K t T li 8 (nI k) σ = K (t, T, li, 8, nI (k + 1), σ) := by
  have n8 : ¬ (8 : Int32) ≤ nI k := by rw [i_le, t_lit 8 (by decide), t_nI _ (by omega)]; omega
  have n1 : ¬ σ (46 + k) 10 = 1 := by rcases h10 with e | e <;> rw [e] <;> decide
  have n2 : ¬ σ (46 + k) 10 = 2 := by rcases h10 with e | e <;> rw [e] <;> decide
  have n4 : ¬ σ (46 + k) 10 = 4 := by rcases h10 with e | e <;> rw [e] <;> decide
  unfold b_X0_takeUp_21
  rw [if_neg n8, gd_t (ix_nI hk (by decide)), vl_d, nt_nI (show k < 2147483648 by omega)]
  unfold f_X0_begin
  rw [if_pos h15, cl_some, if_neg n1, if_neg n2]
  unfold f_X0_takeUp_89
  rw [if_neg n4]
  unfold f_X0_takeUp_117
  rcases hli with e | e
  · rw [e, if_pos rfl]
    rcases h10 with e | e
    · rw [if_pos e, vl_d, nI_1]
    · rw [if_neg (show ¬ σ (46 + k) 10 = 0 by rw [e]; decide), if_pos e, vl_d, nI_1]
  · rw [e, if_neg (by decide), vl_d, nI_1]
theorem c_takeUp {nd : Nat} {t T : Int32} {σ : St} {W : Wd} (hnd : nd ≤ 8) (h : cW nd σ W) (hI : wI nd W) (h0 : ∀ d, d < nd → σ (46 + d) 0 = nI d) (hq : qW nd W) (hs : qS nd σ) :
    ∃ x σ', x = (pty W nd).foldl (wPair t T) (W, (0, σ 6 4, 0)) ∧ f_X0_takeUp t T σ = some (x.2.2.2, σ') ∧ cW nd σ' x.1 ∧ wI nd x.1 ∧ fcX nd σ σ' ∧ σ' 6 3 = x.2.1 ∧ σ' 6 4 = x.2.2.1 := by
  obtain ⟨r, hr, x, σ', ex, rfl, q1, q2, q3, q4, q5⟩ := lp_FU (b := fun K a => b_X0_takeUp_21 K a.1 a.2.1 a.2.2.1 a.2.2.2.1 a.2.2.2.2.1 a.2.2.2.2.2)
    (fun k a => ∃ x σk, x = (pty W (min k nd)).foldl (wPair t T) (W, (0, σ 6 4, 0)) ∧ a = (t, T, x.2.2.2, 8, nI k, σk) ∧ cW nd σk x.1 ∧ wI nd x.1 ∧ fcX nd σ σk ∧ σk 6 3 = x.2.1 ∧ σk 6 4 = x.2.2.1 ∧ (x.2.2.2 = 0 ∨ x.2.2.2 = 1) ∧ (∀ d, x.1.1 d 15 = W.1 d 15) ∧ ∀ d, ¬ W.1 d 15 = 1 → x.1.1 d = W.1 d)
    (fun r => ∃ x σ', x = (pty W nd).foldl (wPair t T) (W, (0, σ 6 4, 0)) ∧ r = (x.2.2.2, σ') ∧ cW nd σ' x.1 ∧ wI nd x.1 ∧ fcX nd σ σ' ∧ σ' 6 3 = x.2.1 ∧ σ' 6 4 = x.2.2.1) 8 (by decide)
    (fun k a hk ha => by
      obtain ⟨x, σk, ex, rfl, m1, m2, m3, m4, m5, m6, m7, m8⟩ := ha
      by_cases hh : k < nd ∧ W.1 k 15 = 1
      · obtain ⟨hdn, hd15⟩ := id hh
        obtain ⟨σ1, s1, s2, s3⟩ := m1.take (t := t) (T := T) (li := x.2.2.2) hnd m2 hdn (by rw [m7]; exact hd15)
        have z3 : σ1 6 3 = x.2.1 := by rw [s3.2.1 3 (by decide)]; exact m4
        have z4 : σ1 6 4 = x.2.2.1 := by rw [s3.2.1 4 (by decide)]; exact m5
        obtain ⟨σ2, c1, c2, c3, c4, c5⟩ := c_count (t := t) (T := T) (li := x.2.2.2) (i := k) s2 hdn (by rw [s3.2.2 k hdn 0 (Or.inl rfl), m3.2.2 k hdn 0 (Or.inl rfl)]; exact h0 k hdn)
        rw [z3, z4] at c1 c4 c5
        refine Or.inl ⟨(t, T, (wPair t T x k).2.2.2, 8, nI (k + 1), σ2), ⟨wPair t T x k, σ2, ?_, rfl, c2, wABC_I m2 hdn, m3.tr (s3.X.tr c3), c4, c5, ?_, fun d' => (wABC_15 t T k x.1 d').trans (m7 d'), fun d' hd' => ?_⟩, fun K => ?_⟩
        · rw [pty_min, if_pos hh, List.foldl_append, ← ex]; rfl
        · exact cCnt_b _ _ _
        · exact (wABC_row t T x.1 (fun e => hd' (by rw [e]; exact hd15))).trans (m8 d' hd')
        · show b_X0_takeUp_21 K t T x.2.2.2 8 (nI k) σk = _
          rw [s1, c1]
          rfl
      · have fr : ∀ a, 46 + nd ≤ a → σk a = σ a := fun a ha => m3.1 a (by omega) (Or.inr ha)
        have e0 : k < nd → x.1.1 k = W.1 k := fun q => m8 k (fun z => hh ⟨q, z⟩)
        refine Or.inl ⟨(t, T, x.2.2.2, 8, nI (k + 1), σk), ⟨x, σk, by rw [pty_min, if_neg hh]; exact ex, rfl, m1, m2, m3, m4, m5, m6, m7, m8⟩, fun K => ?_⟩
        exact q_takeUp hk (quiet15 hI hs hk hh e0 m1 fr) (quiet hq hs hk hh e0 m1 fr) m6 K)
    (fun a ha => by
      obtain ⟨x, σk, ex, rfl, m1, m2, m3, m4, m5, m6, m7, m8⟩ := ha
      rw [show min 8 nd = nd by omega] at ex
      refine ⟨_, ⟨x, σk, ex, rfl, m1, m2, m3, m4, m5⟩, fun K => ?_⟩
      show b_X0_takeUp_21 K t T x.2.2.2 8 (nI 8) σk = _
      unfold b_X0_takeUp_21
      rw [if_pos (by decide), gd_t m6])
    (a := (t, T, 0, 8, 0, up2 σ 6 3 0)) ⟨(W, (0, σ 6 4, 0)), up2 σ 6 3 0, by rw [Nat.zero_min]; rfl, rfl, ⟨fun d hd j j1 j2 => by rw [up2_r (by omega)]; exact h.1 d hd j j1 j2, by rw [up2_c (by decide)]; exact h.2⟩, hI, ⟨fun a b c => up2_ne b, fun j a b c => up2_c b, fun d hd j hj => by rw [up2_r (by omega)]⟩, up2_at _ _ _ _, by rw [up2_c (by decide)], Or.inl rfl, fun _ => rfl, fun _ _ => rfl⟩
  refine ⟨x, σ', ex, ?_, q1, q2, q3, q4, q5⟩
  unfold f_X0_takeUp
  rw [vl_d]
  exact hr
