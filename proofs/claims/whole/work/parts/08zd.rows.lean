/-! steps as functions of one row and the seed: they commute -/
abbrev Rw : Type := Nat → Int32
def wOp (F : Rw → Int32 → Rw × Int32) (d : Nat) (W : Wd) : Wd := (fun a => if a = d then (F (W.1 d) W.2).1 else W.1 a, (F (W.1 d) W.2).2)
theorem wOp_comm {F G : Rw → Int32 → Rw × Int32} {g : Rw → Rw} (hG : ∀ r s, G r s = (g r, s)) {d d' : Nat} (hne : d ≠ d') (W : Wd) : wOp G d (wOp F d' W) = wOp F d' (wOp G d W) := by
  have e1 : (wOp F d' W).1 d = W.1 d := if_neg hne
  have e2 : (wOp G d W).1 d' = W.1 d' := if_neg (Ne.symm hne)
  have e3 : (wOp G d W).2 = W.2 := by show (G (W.1 d) W.2).2 = _; rw [hG]
  have l : wOp G d (wOp F d' W) = (fun a => if a = d then g (W.1 d) else (wOp F d' W).1 a, (wOp F d' W).2) := by
    show (fun a => if a = d then (G ((wOp F d' W).1 d) (wOp F d' W).2).1 else (wOp F d' W).1 a, (G ((wOp F d' W).1 d) (wOp F d' W).2).2) = _
    rw [e1, hG]
  have r : wOp F d' (wOp G d W) = (fun a => if a = d' then (F (W.1 d') W.2).1 else (wOp G d W).1 a, (F (W.1 d') W.2).2) := by
    show (fun a => if a = d' then (F ((wOp G d W).1 d') (wOp G d W).2).1 else (wOp G d W).1 a, (F ((wOp G d W).1 d') (wOp G d W).2).2) = _
    rw [e2, e3]
  rw [l, r]
  refine Prod.ext (funext fun a => ?_) rfl
  show (if a = d then g (W.1 d) else if a = d' then (F (W.1 d') W.2).1 else W.1 a) = if a = d' then (F (W.1 d') W.2).1 else if a = d then (G (W.1 d) W.2).1 else W.1 a
  rw [hG]
  by_cases h1 : a = d
  · rw [if_pos h1, if_neg (by rw [h1]; exact hne), if_pos h1]
  · rw [if_neg h1]
    by_cases h2 : a = d'
    · rw [if_pos h2, if_pos h2]
    · rw [if_neg h2, if_neg h2, if_neg h1]
theorem wOp_id (d : Nat) (W : Wd) : wOp (fun r s => (r, s)) d W = W := by
  refine Prod.ext (funext fun a => ?_) rfl
  show (if a = d then W.1 d else W.1 a) = W.1 a
  by_cases h : a = d
  · rw [if_pos h, h]
  · rw [if_neg h]
theorem wSet_op (d j : Nat) (v : Int32) (W : Wd) : wSet W d j v = wOp (fun r s => (upd r j v, s)) d W := by
  refine Prod.ext (funext fun a => ?_) rfl
  show up2 W.1 d j v a = if a = d then upd (W.1 d) j v else W.1 a
  by_cases h : a = d
  · rw [if_pos h, h, up2_row]
  · rw [if_neg h, up2_ne h]
def rDraw (r : Rw) (s : Int32) : Rw × Int32 := (upd (upd r 10 1) 16 (sWait (sNext s) (r 11)), sNext s)
theorem wDraw_op (d : Nat) (W : Wd) : wDraw d W = wOp rDraw d W := by
  refine Prod.ext (funext fun a => ?_) rfl
  by_cases h : a = d
  · subst h
    rw [wDraw_row]
    exact (if_pos rfl).symm
  · rw [wDraw_ne W h]
    exact (if_neg h).symm
theorem wOp_seq (F G : Rw → Int32 → Rw × Int32) (d : Nat) (W : Wd) : wOp G d (wOp F d W) = wOp (fun r s => G (F r s).1 (F r s).2) d W := by
  have e : (wOp F d W).1 d = (F (W.1 d) W.2).1 := if_pos rfl
  refine Prod.ext (funext fun a => ?_) ?_
  · show (if a = d then (G ((wOp F d W).1 d) (wOp F d W).2).1 else (wOp F d W).1 a) = if a = d then (G (F (W.1 d) W.2).1 (F (W.1 d) W.2).2).1 else W.1 a
    by_cases h : a = d
    · rw [if_pos h, if_pos h, e]; rfl
    · rw [if_neg h, if_neg h]; exact if_neg h
  · show (G ((wOp F d W).1 d) (wOp F d W).2).2 = (G (F (W.1 d) W.2).1 (F (W.1 d) W.2).2).2
    rw [e]; rfl
def rwA (t : Int32) (r : Rw) (s : Int32) : Rw × Int32 := if r 15 = 1 then (if r 10 = 0 then (if r 4 ≤ 0 then (r, s) else rDraw (upd (upd r 12 0) 11 (r 3)) s) else if r 10 = 3 then (if t = 1 then rDraw r s else (r, s)) else (r, s)) else (r, s)
def rwB (t T : Int32) (r : Rw) : Rw := if r 15 = 1 then (if r 10 = 1 then (if r 16 = 0 then (if T < (t + r 2) + 2 then upd (upd r 10 3) 17 0 else upd (upd r 10 2) 17 0) else r) else r) else r
def rwC (r : Rw) : Rw := if r 15 = 1 then (if r 10 = 2 then (if r 17 = 2 then upd (upd (upd r 10 4) 18 (r 2)) 19 0 else r) else r) else r
theorem wOp_at {F : Rw → Int32 → Rw × Int32} {d : Nat} {W : Wd} {p : Rw × Int32} (h : F (W.1 d) W.2 = p) : wOp F d W = (fun a => if a = d then p.1 else W.1 a, p.2) := by unfold wOp; rw [h]
theorem wB_op (t T : Int32) (d : Nat) (W : Wd) : wB t T d W = wOp (fun r s => (rwB t T r, s)) d W := by
  have id' : W = (fun a => if a = d then W.1 d else W.1 a, W.2) := (wOp_id d W).symm
  have key : ∀ r', rwB t T (W.1 d) = r' → wOp (fun r s => (rwB t T r, s)) d W = (fun a => if a = d then r' else W.1 a, W.2) := fun r' e => wOp_at (p := (r', W.2)) (by rw [e])
  unfold wB
  by_cases h15 : W.1 d 15 = 1
  · rw [if_pos h15]
    by_cases h1 : W.1 d 10 = 1
    · rw [if_pos h1]
      by_cases h16 : W.1 d 16 = 0
      · rw [if_pos h16]
        by_cases hT : T < (t + W.1 d 2) + 2
        · rw [if_pos hT, wSet_op, wSet_op, wOp_seq, key (upd (upd (W.1 d) 10 3) 17 0) (by unfold rwB; rw [if_pos h15, if_pos h1, if_pos h16, if_pos hT])]
          rfl
        · rw [if_neg hT, wSet_op, wSet_op, wOp_seq, key (upd (upd (W.1 d) 10 2) 17 0) (by unfold rwB; rw [if_pos h15, if_pos h1, if_pos h16, if_neg hT])]
          rfl
      · rw [if_neg h16, key (W.1 d) (by unfold rwB; rw [if_pos h15, if_pos h1, if_neg h16])]; exact id'
    · rw [if_neg h1, key (W.1 d) (by unfold rwB; rw [if_pos h15, if_neg h1])]; exact id'
  · rw [if_neg h15, key (W.1 d) (by unfold rwB; rw [if_neg h15])]; exact id'
