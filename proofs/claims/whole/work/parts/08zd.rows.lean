/-! steps as functions of one row and the seed: they commute -/
abbrev Rw : Type := Nat → Int32
def wOp (F : Rw → Int32 → Rw × Int32) (d : Nat) (W : Wd) : Wd := (fun a => if a = d then (F (W.1 d) W.2).1 else W.1 a, (F (W.1 d) W.2).2)
theorem wOp_comm {F G : Rw → Int32 → Rw × Int32} {g : Rw → Rw} (hG : ∀ r s, G r s = (g r, s)) {d d' : Nat} (hne : d ≠ d') (W : Wd) : wOp G d (wOp F d' W) = wOp F d' (wOp G d W) := by
  have e1 : (wOp F d' W).1 d = W.1 d := if_neg hne
  have e2 : (wOp G d W).1 d' = W.1 d' := if_neg (Ne.symm hne)
  have e3 : (wOp G d W).2 = W.2 := by show (G (W.1 d) W.2).2 = _; rw [hG]
  have l : wOp G d (wOp F d' W) = (fun a => if a = d then g (W.1 d) else (wOp F d' W).1 a, (wOp F d' W).2) := by
    show (fun a => if a = d then (G ((wOp F d' W).1 d) (wOp F d' W).2).1 else (wOp F d' W).1 a, (G ((wOp F d' W).1 d) (wOp F d' W).2).2) = _
    rw [e1, hG]
  have r : wOp F d' (wOp G d W) = (fun a => if a = d' then (F (W.1 d') W.2).1 else (wOp G d W).1 a, (F (W.1 d') W.2).2) := by
    show (fun a => if a = d' then (F ((wOp G d W).1 d') (wOp G d W).2).1 else (wOp G d W).1 a, (F ((wOp G d W).1 d') (wOp G d W).2).2) = _
    rw [e2, e3]
  rw [l, r]
  refine Prod.ext (funext fun a => ?_) rfl
  show (if a = d then g (W.1 d) else if a = d' then (F (W.1 d') W.2).1 else W.1 a) = if a = d' then (F (W.1 d') W.2).1 else if a = d then (G (W.1 d) W.2).1 else W.1 a
  rw [hG]
  by_cases h1 : a = d
  · rw [if_pos h1, if_neg (by rw [h1]; exact hne), if_pos h1]
  · rw [if_neg h1]
    by_cases h2 : a = d'
    · rw [if_pos h2, if_pos h2]
    · rw [if_neg h2, if_neg h2, if_neg h1]
theorem wOp_id (d : Nat) (W : Wd) : wOp (fun r s => (r, s)) d W = W := by
  refine Prod.ext (funext fun a => ?_) rfl
  show (if a = d then W.1 d else W.1 a) = W.1 a
  by_cases h : a = d
  · rw [if_pos h, h]
  · rw [if_neg h]
theorem wSet_op (d j : Nat) (v : Int32) (W : Wd) : wSet W d j v = wOp (fun r s => (upd r j v, s)) d W := by
  refine Prod.ext (funext fun a => ?_) rfl
  show up2 W.1 d j v a = if a = d then upd (W.1 d) j v else W.1 a
  by_cases h : a = d
  · rw [if_pos h, h, up2_row]
  · rw [if_neg h, up2_ne h]
def rDraw (r : Rw) (s : Int32) : Rw × Int32 := (upd (upd r 10 1) 16 (sWait (sNext s) (r 11)), sNext s)
theorem wDraw_op (d : Nat) (W : Wd) : wDraw d W = wOp rDraw d W := by
  refine Prod.ext (funext fun a => ?_) rfl
  by_cases h : a = d
  · subst h
    rw [wDraw_row]
    exact (if_pos rfl).symm
  · rw [wDraw_ne W h]
    exact (if_neg h).symm
theorem wOp_seq (F G : Rw → Int32 → Rw × Int32) (d : Nat) (W : Wd) : wOp G d (wOp F d W) = wOp (fun r s => G (F r s).1 (F r s).2) d W := by
  have e : (wOp F d W).1 d = (F (W.1 d) W.2).1 := if_pos rfl
  refine Prod.ext (funext fun a => ?_) ?_
  · show (if a = d then (G ((wOp F d W).1 d) (wOp F d W).2).1 else (wOp F d W).1 a) = if a = d then (G (F (W.1 d) W.2).1 (F (W.1 d) W.2).2).1 else W.1 a
    by_cases h : a = d
    · rw [if_pos h, if_pos h, e]; rfl
    · rw [if_neg h, if_neg h]; exact if_neg h
  · show (G ((wOp F d W).1 d) (wOp F d W).2).2 = (G (F (W.1 d) W.2).1 (F (W.1 d) W.2).2).2
    rw [e]; rfl
def rwA (t : Int32) (r : Rw) (s : Int32) : Rw × Int32 := if r 15 = 1 then (if r 10 = 0 then (if r 4 ≤ 0 then (r, s) else rDraw (upd (upd r 12 0) 11 (r 3)) s) else if r 10 = 3 then (if t = 1 then rDraw r s else (r, s)) else (r, s)) else (r, s)
def rwB (t T : Int32) (r : Rw) : Rw := if r 15 = 1 then (if r 10 = 1 then (if r 16 = 0 then (if T < (t + r 2) + 2 then upd (upd r 10 3) 17 0 else upd (upd r 10 2) 17 0) else r) else r) else r
def rwC (r : Rw) : Rw := if r 15 = 1 then (if r 10 = 2 then (if r 17 = 2 then upd (upd (upd r 10 4) 18 (r 2)) 19 0 else r) else r) else r
theorem wOp_at {F : Rw → Int32 → Rw × Int32} {d : Nat} {W : Wd} {p : Rw × Int32} (h : F (W.1 d) W.2 = p) : wOp F d W = (fun a => if a = d then p.1 else W.1 a, p.2) := by unfold wOp; rw [h]
theorem wB_op (t T : Int32) (d : Nat) (W : Wd) : wB t T d W = wOp (fun r s => (rwB t T r, s)) d W := by
  have id' : W = (fun a => if a = d then W.1 d else W.1 a, W.2) := (wOp_id d W).symm
  have key : ∀ r', rwB t T (W.1 d) = r' → wOp (fun r s => (rwB t T r, s)) d W = (fun a => if a = d then r' else W.1 a, W.2) := fun r' e => wOp_at (p := (r', W.2)) (by rw [e])
  unfold wB
  by_cases h15 : W.1 d 15 = 1
  · rw [if_pos h15]
    by_cases h1 : W.1 d 10 = 1
    · rw [if_pos h1]
      by_cases h16 : W.1 d 16 = 0
      · rw [if_pos h16]
        by_cases hT : T < (t + W.1 d 2) + 2
        · rw [if_pos hT, wSet_op, wSet_op, wOp_seq, key (upd (upd (W.1 d) 10 3) 17 0) (by unfold rwB; rw [if_pos h15, if_pos h1, if_pos h16, if_pos hT])]
          rfl
        · rw [if_neg hT, wSet_op, wSet_op, wOp_seq, key (upd (upd (W.1 d) 10 2) 17 0) (by unfold rwB; rw [if_pos h15, if_pos h1, if_pos h16, if_neg hT])]
          rfl
      · rw [if_neg h16, key (W.1 d) (by unfold rwB; rw [if_pos h15, if_pos h1, if_neg h16])]; exact id'
    · rw [if_neg h1, key (W.1 d) (by unfold rwB; rw [if_pos h15, if_neg h1])]; exact id'
  · rw [if_neg h15, key (W.1 d) (by unfold rwB; rw [if_neg h15])]; exact id'
theorem wC_op (d : Nat) (W : Wd) : wC d W = wOp (fun r s => (rwC r, s)) d W := by
  have id' : W = (fun a => if a = d then W.1 d else W.1 a, W.2) := (wOp_id d W).symm
  have key : ∀ r', rwC (W.1 d) = r' → wOp (fun r s => (rwC r, s)) d W = (fun a => if a = d then r' else W.1 a, W.2) := fun r' e => wOp_at (p := (r', W.2)) (by rw [e])
  unfold wC
  by_cases h15 : W.1 d 15 = 1
  · rw [if_pos h15]
    by_cases h1 : W.1 d 10 = 2
    · rw [if_pos h1]
      by_cases h17 : W.1 d 17 = 2
      · rw [if_pos h17, wSet_op, wSet_op, wSet_op, wOp_seq, wOp_seq, key (upd (upd (upd (W.1 d) 10 4) 18 (W.1 d 2)) 19 0) (by unfold rwC; rw [if_pos h15, if_pos h1, if_pos h17])]
        rfl
      · rw [if_neg h17, key (W.1 d) (by unfold rwC; rw [if_pos h15, if_pos h1, if_neg h17])]; exact id'
    · rw [if_neg h1, key (W.1 d) (by unfold rwC; rw [if_pos h15, if_neg h1])]; exact id'
  · rw [if_neg h15, key (W.1 d) (by unfold rwC; rw [if_neg h15])]; exact id'
theorem wA_op (t : Int32) (d : Nat) (W : Wd) : wA t d W = wOp (rwA t) d W := by
  have id' : W = (fun a => if a = d then W.1 d else W.1 a, W.2) := (wOp_id d W).symm
  unfold wA
  by_cases h15 : W.1 d 15 = 1
  · rw [if_pos h15]
    by_cases h0 : W.1 d 10 = 0
    · rw [if_pos h0]
      by_cases h4 : W.1 d 4 ≤ 0
      · rw [if_pos h4, wOp_at (F := rwA t) (p := (W.1 d, W.2)) (by unfold rwA; rw [if_pos h15, if_pos h0, if_pos h4])]; exact id'
      · rw [if_neg h4, wOp_at (F := rwA t) (p := rDraw (upd (upd (W.1 d) 12 0) 11 (W.1 d 3)) W.2) (by unfold rwA; rw [if_pos h15, if_pos h0, if_neg h4])]
        unfold wBeg
        rw [wDraw_op, wSet_op, wSet_op, wOp_seq, wOp_seq]
        rfl
    · rw [if_neg h0]
      by_cases h3 : W.1 d 10 = 3
      · rw [if_pos h3]
        by_cases ht : t = 1
        · rw [if_pos ht, wOp_at (F := rwA t) (p := rDraw (W.1 d) W.2) (by unfold rwA; rw [if_pos h15, if_neg h0, if_pos h3, if_pos ht]), wDraw_op]
          rfl
        · rw [if_neg ht, wOp_at (F := rwA t) (p := (W.1 d, W.2)) (by unfold rwA; rw [if_pos h15, if_neg h0, if_pos h3, if_neg ht])]; exact id'
      · rw [if_neg h3, wOp_at (F := rwA t) (p := (W.1 d, W.2)) (by unfold rwA; rw [if_pos h15, if_neg h0, if_neg h3])]; exact id'
  · rw [if_neg h15, wOp_at (F := rwA t) (p := (W.1 d, W.2)) (by unfold rwA; rw [if_neg h15])]; exact id'
/-- device by device is step by step -/
theorem abc_split (t T : Int32) (W : Wd) (k : Nat) : wF (wABC t T) W k = wF wC (wF (wB t T) (wF (wA t) W k) k) k := by
  have h1 : wF (fun d V => wC d (wB t T d (wA t d V))) W k = wF wC (wF (fun d V => wB t T d (wA t d V)) W k) k := wF_split (fun d V => wB t T d (wA t d V)) wC (fun d d' V hd => by
    show wC d (wB t T d' (wA t d' V)) = wB t T d' (wA t d' (wC d V))
    rw [wC_op, wB_op, wA_op, wOp_seq, wOp_comm (g := rwC) (fun _ _ => rfl) (by omega), wC_op, wB_op, wA_op, wOp_seq]) k W
  have h2 : wF (fun d V => wB t T d (wA t d V)) W k = wF (wB t T) (wF (wA t) W k) k := wF_split (wA t) (wB t T) (fun d d' V hd => by
    rw [wB_op, wA_op, wOp_comm (g := rwB t T) (fun _ _ => rfl) (by omega), wB_op, wA_op]) k W
  show wF (fun d V => wC d (wB t T d (wA t d V))) W k = _
  rw [h1, h2]
theorem wPair_fst (t T : Int32) : ∀ (P : List Nat) (x : Wd × (Int32 × Int32 × Int32)), (P.foldl (wPair t T) x).1 = P.foldl (fun V d => wABC t T d V) x.1 := by
  intro P
  induction P with
  | nil => exact fun _ => rfl
  | cons d P ih => exact fun x => ih (wPair t T x d)
theorem abc_party (t T : Int32) (W : Wd) (k : Nat) (c : Int32 × Int32 × Int32) : ((pty W k).foldl (wPair t T) (W, c)).1 = wF wC (wF (wB t T) (wF (wA t) W k) k) k := by
  rw [wPair_fst, ← abc_split]
  refine (wF_party (f := wABC t T) (fun d V hV => ?_) (fun d V d' => wABC_15 t T d V d') W k).symm
  unfold wABC
  have eA : wA t d V = V := by unfold wA; rw [if_neg hV]
  have eB : wB t T d V = V := by unfold wB; rw [if_neg hV]
  have eC : wC d V = V := by unfold wC; rw [if_neg hV]
  rw [eA, eB, eC]
