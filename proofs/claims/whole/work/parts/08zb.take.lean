/-! the party, and the class's steps A, B, C device by device -/
theorem wF_keep {f : Nat → Wd → Wd} (hkeep : ∀ d V d', (f d V).1 d' 15 = V.1 d' 15) (W : Wd) : ∀ k d', (wF f W k).1 d' 15 = W.1 d' 15 := by
  intro k
  induction k with
  | zero => exact fun _ => rfl
  | succ k ih => exact fun d' => (hkeep k _ d').trans (ih d')
abbrev pty (W : Wd) (k : Nat) : List Nat := (List.range k).filter (fun d => decide (W.1 d 15 = 1))
theorem wF_party {f : Nat → Wd → Wd} (hskip : ∀ d V, V.1 d 15 ≠ 1 → f d V = V) (hkeep : ∀ d V d', (f d V).1 d' 15 = V.1 d' 15) (W : Wd) : ∀ k, wF f W k = (pty W k).foldl (fun V d => f d V) W := by
  intro k
  induction k with
  | zero => rfl
  | succ k ih =>
    show f k (wF f W k) = _
    unfold pty
    rw [List.range_succ, List.filter_append, List.foldl_append]
    by_cases h : W.1 k 15 = 1
    · rw [show List.filter (fun d => decide (W.1 d 15 = 1)) [k] = [k] from by simp [h]]
      show f k (wF f W k) = f k _
      rw [ih]
    · rw [show List.filter (fun d => decide (W.1 d 15 = 1)) [k] = [] from by simp [h]]
      show f k (wF f W k) = _
      rw [hskip k _ (by rw [wF_keep hkeep]; exact h), ih]
      rfl
theorem pty_succ (W : Wd) (k : Nat) : pty W (k + 1) = if W.1 k 15 = 1 then pty W k ++ [k] else pty W k := by
  unfold pty
  rw [List.range_succ, List.filter_append]
  by_cases h : W.1 k 15 = 1
  · rw [if_pos h, show List.filter (fun d => decide (W.1 d 15 = 1)) [k] = [k] from by simp [h]]
  · rw [if_neg h, show List.filter (fun d => decide (W.1 d 15 = 1)) [k] = [] from by simp [h], List.append_nil]
theorem pty_min (W : Wd) (nd k : Nat) : pty W (min (k + 1) nd) = if k < nd ∧ W.1 k 15 = 1 then pty W (min k nd) ++ [k] else pty W (min k nd) := by
  by_cases hk : k < nd
  · rw [show min (k + 1) nd = k + 1 by omega, show min k nd = k by omega, pty_succ]
    by_cases h : W.1 k 15 = 1
    · rw [if_pos h, if_pos ⟨hk, h⟩]
    · rw [if_neg h, if_neg (fun q => h q.2)]
  · rw [show min (k + 1) nd = nd by omega, show min k nd = nd by omega, if_neg (fun q => hk q.1)]
/-- whoever did not hear rests or is held -/
def qW (nd : Nat) (W : Wd) : Prop := ∀ d, d < nd → ¬ W.1 d 15 = 1 → W.1 d 10 = 0 ∨ W.1 d 10 = 3
/-- the devices that aren't laid rest, and heard nothing -/
def qS (nd : Nat) (σ : St) : Prop := ∀ d, nd ≤ d → d < 8 → σ (46 + d) 10 = 0 ∧ σ (46 + d) 15 = 0
theorem quiet {nd k : Nat} {σ σk : St} {W V : Wd} (hq : qW nd W) (hs : qS nd σ) (hk : k < 8) (hn : ¬ (k < nd ∧ W.1 k 15 = 1)) (m0 : k < nd → V.1 k = W.1 k) (m1 : cW nd σk V) (m3 : ∀ a, 46 + nd ≤ a → σk a = σ a) : σk (46 + k) 10 = 0 ∨ σk (46 + k) 10 = 3 := by
  by_cases h : k < nd
  · rw [m1.1 k h 10 (by decide) (by decide), m0 h]
    exact hq k h (fun q => hn ⟨h, q⟩)
  · rw [m3 _ (by omega)]
    exact Or.inl (hs k (by omega) hk).1
theorem quiet15 {nd k : Nat} {σ σk : St} {W V : Wd} (hI : wI nd W) (hs : qS nd σ) (hk : k < 8) (hn : ¬ (k < nd ∧ W.1 k 15 = 1)) (m0 : k < nd → V.1 k = W.1 k) (m1 : cW nd σk V) (m3 : ∀ a, 46 + nd ≤ a → σk a = σ a) : σk (46 + k) 15 = 0 := by
  by_cases h : k < nd
  · rw [m1.1 k h 15 (by decide) (by decide), m0 h]
    exact (hI.2 k h).1.resolve_right (fun q => hn ⟨h, q⟩)
  · rw [m3 _ (by omega)]
    exact (hs k (by omega) hk).2
theorem wSet_15 (W : Wd) {d j : Nat} {v : Int32} (d' : Nat) (h : j ≠ 15) : (wSet W d j v).1 d' 15 = W.1 d' 15 := by rw [wSet_g, if_neg (fun q => h q.2.symm)]
theorem wDraw_15 (W : Wd) (d d' : Nat) : (wDraw d W).1 d' 15 = W.1 d' 15 := by
  show up2 (up2 W.1 d 10 1) d 16 (sWait (sNext W.2) (W.1 d 11)) d' 15 = _
  rw [up2_g, if_neg (by omega), up2_g, if_neg (by omega)]
theorem wA_15 (t : Int32) (d : Nat) (V : Wd) (d' : Nat) : (wA t d V).1 d' 15 = V.1 d' 15 := by
  unfold wA wBeg
  split
  · split
    · split
      · rfl
      · rw [wDraw_15, wSet_15 _ _ (by decide), wSet_15 _ _ (by decide)]
    · split
      · split
        · rw [wDraw_15]
        · rfl
      · rfl
  · rfl
theorem wB_15 (t T : Int32) (d : Nat) (V : Wd) (d' : Nat) : (wB t T d V).1 d' 15 = V.1 d' 15 := by
  unfold wB
  split
  · split
    · split
      · split
        · rw [wSet_15 _ _ (by decide), wSet_15 _ _ (by decide)]
        · rw [wSet_15 _ _ (by decide), wSet_15 _ _ (by decide)]
      · rfl
    · rfl
  · rfl
theorem wC_15 (d : Nat) (V : Wd) (d' : Nat) : (wC d V).1 d' 15 = V.1 d' 15 := by
  unfold wC
  split
  · split
    · split
      · rw [wSet_15 _ _ (by decide), wSet_15 _ _ (by decide), wSet_15 _ _ (by decide)]
      · rfl
    · rfl
  · rfl
def wABC (t T : Int32) (d : Nat) (V : Wd) : Wd := wC d (wB t T d (wA t d V))
/-- what the class counts while it takes up: senders, the last of them, whether one is lively -/
def cCnt (V : Wd) (d : Nat) (c : Int32 × Int32 × Int32) : Int32 × Int32 × Int32 := ((if V.1 d 10 = 4 then c.1 + 1 else c.1), (if V.1 d 10 = 4 then nI d else c.2.1), (if c.2.2 = 0 then (if V.1 d 10 = 0 then 0 else if V.1 d 10 = 3 then 0 else 1) else 1))
theorem cW.B {nd d : Nat} {t T : Int32} {σ : St} {W : Wd} (h : cW nd σ W) (hd : d < nd) (h15 : W.1 d 15 = 1) (h1 : W.1 d 10 = 1) (h16 : W.1 d 16 = 0) : ∃ σ', f_X2_lookOrHold d t T σ = some ((), σ') ∧ cW nd σ' (wB t T d W) ∧ fcW nd σ σ' := by
  unfold f_X2_lookOrHold wB
  rw [if_pos h15, if_pos h1, if_pos h16, h.1 d hd 2 (by decide) (by decide)]
  by_cases hT : T < (t + W.1 d 2) + 2
  · rw [if_pos hT, if_pos hT, vl_d, vl_d]
    have s1 := h.set (d := d) (j := 10) (v := 3) hd (by decide) (by decide)
    have s2 := s1.1.set (d := d) (j := 17) (v := 0) hd (by decide) (by decide)
    exact ⟨_, rfl, s2.1, s1.2.tr s2.2⟩
  · rw [if_neg hT, if_neg hT, vl_d, vl_d]
    have s1 := h.set (d := d) (j := 10) (v := 2) hd (by decide) (by decide)
    have s2 := s1.1.set (d := d) (j := 17) (v := 0) hd (by decide) (by decide)
    exact ⟨_, rfl, s2.1, s1.2.tr s2.2⟩
theorem wB_no {t T : Int32} {d : Nat} {W : Wd} (h : ¬ (W.1 d 10 = 1 ∧ W.1 d 16 = 0)) : wB t T d W = W := by
  unfold wB
  split
  · split
    · split
      · rename_i a b; exact absurd ⟨a, b⟩ h
      · rfl
    · rfl
  · rfl
theorem cW.C {nd d : Nat} {σ : St} {W : Wd} (h : cW nd σ W) (hd : d < nd) (h15 : W.1 d 15 = 1) (h2 : W.1 d 10 = 2) (h17 : W.1 d 17 = 2) : ∃ σ', f_X2_startSending d σ = some ((), σ') ∧ cW nd σ' (wC d W) ∧ fcW nd σ σ' := by
  unfold f_X2_startSending wC
  rw [if_pos h15, if_pos h2, if_pos h17, vl_d, up2_c (show (2 : Nat) ≠ 10 by decide), h.1 d hd 2 (by decide) (by decide), vl_d, vl_d]
  have s1 := h.set (d := d) (j := 10) (v := 4) hd (by decide) (by decide)
  have s2 := s1.1.set (d := d) (j := 18) (v := W.1 d 2) hd (by decide) (by decide)
  have s3 := s2.1.set (d := d) (j := 19) (v := 0) hd (by decide) (by decide)
  exact ⟨_, rfl, s3.1, s1.2.tr (s2.2.tr s3.2)⟩
theorem wC_no {d : Nat} {W : Wd} (h : ¬ (W.1 d 10 = 2 ∧ W.1 d 17 = 2)) : wC d W = W := by
  unfold wC
  split
  · split
    · split
      · rename_i a b; exact absurd ⟨a, b⟩ h
      · rfl
    · rfl
  · rfl
theorem wB_17 {t T : Int32} {d : Nat} {W : Wd} (h15 : W.1 d 15 = 1) (h1 : W.1 d 10 = 1) (h16 : W.1 d 16 = 0) : (wB t T d W).1 d 17 = 0 := by
  unfold wB
  rw [if_pos h15, if_pos h1, if_pos h16]
  split
  · rw [wSet_row, wSet_row]; rfl
  · rw [wSet_row, wSet_row]; rfl
/-- A, B, C at one device of the class: the body up to the count -/
theorem cW.take {nd d : Nat} {t T li : Int32} {σ : St} {W : Wd} (hnd : nd ≤ 8) (h : cW nd σ W) (hI : wI nd W) (hd : d < nd) (h15 : W.1 d 15 = 1) : ∃ σ', (∀ K, b_X0_takeUp_21 K t T li 8 (nI d) σ = f_X0_takeUp_89 d K t T li 8 (nI d) σ') ∧ cW nd σ' (wABC t T d W) ∧ fcW nd σ σ' := by
  obtain ⟨σ1, a1, a2, a3⟩ := h.A (t := t) hI hd h15
  have I1 := wA_I (t := t) hI hd
  have k15 : (wA t d W).1 d 15 = 1 := by rw [wA_15]; exact h15
  obtain ⟨V, eV⟩ : ∃ V, V = wA t d W := ⟨_, rfl⟩
  rw [← eV] at a2 I1 k15
  have hp : ¬ (8 : Int32) ≤ nI d := by rw [i_le, t_lit 8 (by decide), t_nI _ (by omega)]; omega
  have hi : d < 8 := by omega
  have r10 := a2.1 d hd 10 (by decide) (by decide)
  have r16 := a2.1 d hd 16 (by decide) (by decide)
  have r17 := a2.1 d hd 17 (by decide) (by decide)
  unfold wABC
  rw [← eV]
  unfold b_X0_takeUp_21
  by_cases h1 : V.1 d 10 = 1
  · by_cases h16 : V.1 d 16 = 0
    · obtain ⟨σ2, b1, b2, b3⟩ := a2.B (t := t) (T := T) hd k15 h1 h16
      have q10 := b2.1 d hd 10 (by decide) (by decide)
      have q17 := b2.1 d hd 17 (by decide) (by decide)
      rw [wB_17 k15 h1 h16] at q17
      have e3 : wC d (wB t T d V) = wB t T d V := wC_no (fun q => by rw [wB_17 k15 h1 h16] at q; exact absurd q.2 (by decide))
      refine ⟨σ2, fun K => ?_, by rw [e3]; exact b2, a3.tr b3⟩
      rw [if_neg hp, gd_t (ix_nI hi (by decide)), vl_d, nt_nI (show d < 2147483648 by omega), a1, cl_some, r10, if_pos h1, r16, if_pos h16, b1, cl_some, q17, if_pos (show (0 : Int32) < 2 by decide)]
      split
      · rfl
      · rfl
    · have e2 : wB t T d V = V := wB_no (fun q => h16 q.2)
      have e3 : wC d V = V := wC_no (fun q => by rw [h1] at q; exact absurd q.1 (by decide))
      refine ⟨σ1, fun K => ?_, by rw [e2, e3]; exact a2, a3⟩
      rw [if_neg hp, gd_t (ix_nI hi (by decide)), vl_d, nt_nI (show d < 2147483648 by omega), a1, cl_some, r10, if_pos h1, r16, if_neg h16, if_neg (by rw [h1]; decide)]
  · have e2 : wB t T d V = V := wB_no (fun q => h1 q.1)
    rw [e2]
    by_cases h2 : V.1 d 10 = 2
    · obtain ⟨f, f1, f2⟩ := (I1.2 d hd).2.2.2.2.2.2.2.2.1 h2
      by_cases h17 : V.1 d 17 = 2
      · obtain ⟨σ2, b1, b2, b3⟩ := a2.C hd k15 h2 h17
        refine ⟨σ2, fun K => ?_, b2, a3.tr b3⟩
        rw [if_neg hp, gd_t (ix_nI hi (by decide)), vl_d, nt_nI (show d < 2147483648 by omega), a1, cl_some, r10, if_neg h1, if_pos h2, r17, if_neg (by rw [h17]; decide), b1, cl_some]
      · have e3 : wC d V = V := wC_no (fun q => h17 q.2)
        refine ⟨σ1, fun K => ?_, by rw [e3]; exact a2, a3⟩
        rw [if_neg hp, gd_t (ix_nI hi (by decide)), vl_d, nt_nI (show d < 2147483648 by omega), a1, cl_some, r10, if_neg h1, if_pos h2, r17, if_pos (by
          rw [f2] at h17 ⊢
          rw [i_lt, t_lit 2 (by decide), t_nI f (by omega)]
          rw [i_eq, t_lit 2 (by decide), t_nI f (by omega)] at h17
          omega)]
    · have e3 : wC d V = V := wC_no (fun q => h2 q.1)
      refine ⟨σ1, fun K => ?_, by rw [e3]; exact a2, a3⟩
      rw [if_neg hp, gd_t (ix_nI hi (by decide)), vl_d, nt_nI (show d < 2147483648 by omega), a1, cl_some, r10, if_neg h1, if_neg h2]
