/-! who sends in a tick: counted by both -/
abbrev sd4 (V : Wd) (k : Nat) : List Nat := (pty V k).filter (fun d => decide (V.1 d 10 = 4))
def lst (l : List Nat) (x : Int32) : Int32 := l.foldl (fun _ d => nI d) x
def av (l : List Nat) : Int32 := if l.length = 0 then 0 else if l.length = 1 then 10 + lst l 0 else 2
theorem lst1 {l : List Nat} (h : l.length = 1) (x y : Int32) : lst l x = lst l y := by
  match l, h with
  | [e], _ => rfl
theorem cnt_spec (V : Wd) : ∀ (P : List Nat) (n : Nat) (c : Int32 × Int32 × Int32), c.1 = nI n → (P.foldl (fun c d => cCnt V d c) c).1 = nI (n + (P.filter (fun d => decide (V.1 d 10 = 4))).length) ∧ (P.foldl (fun c d => cCnt V d c) c).2.1 = lst (P.filter (fun d => decide (V.1 d 10 = 4))) c.2.1 ∧ ((P.foldl (fun c d => cCnt V d c) c).2.2 = 0 → c.2.2 = 0 ∧ ∀ d ∈ P, V.1 d 10 = 0 ∨ V.1 d 10 = 3) := by
  intro P
  induction P with
  | nil => exact fun n c h => ⟨h, rfl, fun q => ⟨q, fun d hd => absurd hd (List.not_mem_nil)⟩⟩
  | cons d P ih =>
    intro n c h
    show (P.foldl (fun c d => cCnt V d c) (cCnt V d c)).1 = _ ∧ (P.foldl (fun c d => cCnt V d c) (cCnt V d c)).2.1 = _ ∧ ((P.foldl (fun c d => cCnt V d c) (cCnt V d c)).2.2 = 0 → _)
    have e3 : (cCnt V d c).2.2 = 0 → c.2.2 = 0 ∧ (V.1 d 10 = 0 ∨ V.1 d 10 = 3) := by
      intro q
      have q' : (if c.2.2 = 0 then (if V.1 d 10 = 0 then (0 : Int32) else if V.1 d 10 = 3 then 0 else 1) else 1) = 0 := q
      by_cases h0 : c.2.2 = 0
      · rw [if_pos h0] at q'
        refine ⟨h0, ?_⟩
        by_cases h1 : V.1 d 10 = 0
        · exact Or.inl h1
        · rw [if_neg h1] at q'
          by_cases h2 : V.1 d 10 = 3
          · exact Or.inr h2
          · rw [if_neg h2] at q'; exact absurd q' (by decide)
      · rw [if_neg h0] at q'; exact absurd q' (by decide)
    have fin : ((P.foldl (fun c d => cCnt V d c) (cCnt V d c)).2.2 = 0 → (cCnt V d c).2.2 = 0 ∧ ∀ d ∈ P, V.1 d 10 = 0 ∨ V.1 d 10 = 3) → ((P.foldl (fun c d => cCnt V d c) (cCnt V d c)).2.2 = 0 → c.2.2 = 0 ∧ ∀ d' ∈ d :: P, V.1 d' 10 = 0 ∨ V.1 d' 10 = 3) := by
      intro q z
      obtain ⟨q1, q2⟩ := q z
      refine ⟨(e3 q1).1, fun d' hd' => ?_⟩
      rcases List.mem_cons.mp hd' with rfl | hm
      · exact (e3 q1).2
      · exact q2 d' hm
    by_cases h4 : V.1 d 10 = 4
    · obtain ⟨i1, i2, i3⟩ := ih (n + 1) (cCnt V d c) (by show (if V.1 d 10 = 4 then c.1 + 1 else c.1) = _; rw [if_pos h4, h, nI_1])
      rw [List.filter_cons_of_pos (by simp [h4])]
      refine ⟨by rw [i1, List.length_cons]; congr 1; omega, ?_, fin i3⟩
      rw [i2, show (cCnt V d c).2.1 = nI d from if_pos h4]
      rfl
    · obtain ⟨i1, i2, i3⟩ := ih n (cCnt V d c) (by show (if V.1 d 10 = 4 then c.1 + 1 else c.1) = _; rw [if_neg h4, h])
      rw [List.filter_cons_of_neg (by simp [h4])]
      exact ⟨i1, by rw [i2, show (cCnt V d c).2.1 = c.2.1 from if_neg h4], fin i3⟩
theorem wABC_ne {t T : Int32} {d d' : Nat} (V : Wd) (h : d' ≠ d) : (wABC t T d V).1 d' = V.1 d' := by
  unfold wABC
  rw [wC_op, wOp_ne _ _ h, wB_op, wOp_ne _ _ h, wA_op, wOp_ne _ _ h]
theorem abc_ne {t T : Int32} : ∀ (P : List Nat) (W : Wd) (d : Nat), d ∉ P → (P.foldl (fun V d => wABC t T d V) W).1 d = W.1 d := by
  intro P
  induction P with
  | nil => exact fun _ _ _ => rfl
  | cons e P ih =>
    intro W d hd
    rw [List.mem_cons] at hd
    exact (ih (wABC t T e W) d (fun q => hd (Or.inr q))).trans (wABC_ne W (fun q => hd (Or.inl q)))
theorem wPair_cnt {t T : Int32} : ∀ (P : List Nat) (W : Wd) (c : Int32 × Int32 × Int32), P.Nodup → (P.foldl (wPair t T) (W, c)).2 = P.foldl (fun c d => cCnt (P.foldl (fun V d => wABC t T d V) W) d c) c := by
  intro P
  induction P with
  | nil => exact fun _ _ _ => rfl
  | cons e P ih =>
    intro W c hP
    obtain ⟨h1, h2⟩ := List.nodup_cons.mp hP
    show (P.foldl (wPair t T) (wABC t T e W, cCnt (wABC t T e W) e c)).2 = P.foldl (fun c d => cCnt (P.foldl (fun V d => wABC t T d V) (wABC t T e W)) d c) (cCnt (P.foldl (fun V d => wABC t T d V) (wABC t T e W)) e c)
    rw [ih (wABC t T e W) _ h2]
    unfold cCnt
    rw [abc_ne P (wABC t T e W) e h1]
theorem c_airNow {σ : St} {l : List Nat} {x : Int32} (hl : l.length ≤ 8) (h3 : σ 6 3 = nI l.length) (h4 : σ 6 4 = lst l x) : f_X0_airNow σ = some (av l, σ) := by
  unfold f_X0_airNow av
  rw [h3, h4]
  by_cases h0 : l.length = 0
  · rw [if_pos h0, h0]; rfl
  · rw [if_neg h0]
    by_cases h1 : l.length = 1
    · rw [if_pos h1, lst1 h1 x 0, h1]; rfl
    · rw [if_neg h1, if_neg (by rw [i_le, t_nI _ (by omega), t_lit 1 (by decide)]; omega)]
theorem m_115 {c t : Nat} {τ : St} {l : List Nat} (hc : c < 4) (ht : t < 384) (hl : l.length ≤ 8) : f_X8_sending_115 (nI c) (nI t) (nI l.length) (lst l 0) τ = some (nI l.length, up2 τ 34 (384 * c + t) (av l)) := by
  have ei : (384 : Int32) * nI c + nI t = nI (384 * c + t) := by rw [show (384 : Int32) = nI 384 from rfl, pk_mul, nI_add]
  have g : ix (nI (384 * c + t)) 1536 := ix_nI (by omega) (by decide)
  unfold f_X8_sending_115 av
  rw [ei, nt_nI (by omega)]
  by_cases h0 : l.length = 0
  · rw [if_pos h0, if_pos (by rw [h0]; rfl), gd_t g, vl_d]
  · rw [if_neg h0, if_neg (by rw [i_eq, t_nI _ (by omega), t_lit 0 (by decide)]; omega)]
    by_cases h1 : l.length = 1
    · rw [if_pos h1, if_pos (by rw [h1]; rfl), gd_t g, vl_d]
    · rw [if_neg h1, if_neg (by rw [i_eq, t_nI _ (by omega), t_lit 1 (by decide)]; omega), gd_t g, vl_d]
theorem sd4_succ (V : Wd) (k : Nat) : sd4 V (k + 1) = if V.1 k 15 = 1 then (if V.1 k 10 = 4 then sd4 V k ++ [k] else sd4 V k) else sd4 V k := by
  unfold sd4 pty
  rw [List.range_succ, List.filter_append, List.filter_append]
  by_cases h15 : V.1 k 15 = 1
  · rw [if_pos h15, show List.filter (fun d => decide (V.1 d 15 = 1)) [k] = [k] from by simp [h15]]
    by_cases h4 : V.1 k 10 = 4
    · rw [if_pos h4, show List.filter (fun d => decide (V.1 d 10 = 4)) [k] = [k] from by simp [h4]]
    · rw [if_neg h4, show List.filter (fun d => decide (V.1 d 10 = 4)) [k] = [] from by simp [h4], List.append_nil]
  · rw [if_neg h15, show List.filter (fun d => decide (V.1 d 15 = 1)) [k] = [] from by simp [h15]]
    simp
theorem sd4_len (V : Wd) (k : Nat) : (sd4 V k).length ≤ k := Nat.le_trans (List.length_filter_le _ _) (pty_len V k)
/-- the reference's frame with its air -/
def fmA (nd : Nat) (τ τ' : St) : Prop := (∀ a, a ≠ 0 → a ≠ 34 → (a < 36 ∨ 55 < a) → τ' a = τ a) ∧ (∀ j, j ≠ 22 → τ' 0 j = τ 0 j) ∧ ∀ a d, nd ≤ d → a ≠ 0 → a ≠ 34 → τ' a d = τ a d
theorem fmA.rf {nd : Nat} {τ : St} : fmA nd τ τ := ⟨fun _ _ _ _ => rfl, fun _ _ => rfl, fun _ _ _ _ _ => rfl⟩
theorem fmA.tr {nd : Nat} {τ τ' τ'' : St} (h : fmA nd τ τ') (h' : fmA nd τ' τ'') : fmA nd τ τ'' := ⟨fun a b c d => (h'.1 a b c d).trans (h.1 a b c d), fun j a => (h'.2.1 j a).trans (h.2.1 j a), fun d a j b c => (h'.2.2 d a j b c).trans (h.2.2 d a j b c)⟩
theorem fmW.A {nd : Nat} {τ τ' : St} (h : fmW nd τ τ') : fmA nd τ τ' := ⟨fun a b _ c => h.1 a b c, h.2.1, fun a d x y _ => h.2.2 a d x y⟩
theorem fmW.a34 {nd : Nat} {τ τ' : St} (h : fmW nd τ τ') : τ' 34 = τ 34 := h.1 34 (by decide) (Or.inl (by decide))
theorem fmA.up {nd j : Nat} {τ : St} {v : Int32} : fmA nd τ (up2 τ 34 j v) := ⟨fun a _ h _ => up2_ne h, fun j _ => by rw [up2_r (by decide)], fun a d _ _ h => by rw [up2_r h]⟩
theorem mW.up {nd j : Nat} {τ : St} {v : Int32} {V : Wd} (h : mW nd τ V) : mW nd (up2 τ 34 j v) V := ⟨fun d hd k k1 k2 => by rw [up2_r (by omega)]; exact h.1 d hd k k1 k2, by rw [up2_r (by decide)]; exact h.2⟩
theorem rH_le {n : Nat} (hn : n ≤ 1) (V : Wd) : ∀ k, wF (wOp (fun r s => (rH n r, s))) V k = V := by
  intro k
  induction k with
  | zero => rfl
  | succ k ih =>
    show wOp (fun r s => (rH n r, s)) k (wF (wOp (fun r s => (rH n r, s))) V k) = V
    rw [ih, wOp_put, show rH n (V.1 k) = V.1 k from by
      unfold rH
      rw [if_pos hn, upd_self, ite_self, ite_self]]
    exact wPut_self V k
theorem m_sending {nd c t : Nat} {τ : St} {V : Wd} (hnd : nd ≤ 8) (hc : c < 4) (ht : t < 384) (h35 : τ 0 35 = nI nd) (h : mW nd τ V) : ∃ τ', f_X8_sending (nI c) (nI t) τ = some (nI (sd4 V nd).length, τ') ∧ mW nd τ' (wF (wOp (fun r s => (rH (sd4 V nd).length r, s))) V nd) ∧ fmA nd τ τ' ∧ τ' 34 = upd (τ 34) (384 * c + t) (av (sd4 V nd)) := by
  have hl := sd4_len V nd
  have hurt : ∃ r, lp (fun K a => b_X8_sending_55 K a.1 a.2.1 a.2.2.1 a.2.2.2.1 a.2.2.2.2.1 a.2.2.2.2.2) FU (nI c, nI t, nI (sd4 V nd).length, lst (sd4 V nd) 0, (0 : Int32), τ) = some r ∧ ∃ τ', r = (nI (sd4 V nd).length, τ') ∧ mW nd τ' (wF (wOp (fun r s => (rH (sd4 V nd).length r, s))) V nd) ∧ fmA nd τ τ' ∧ τ' 34 = upd (τ 34) (384 * c + t) (av (sd4 V nd)) := by
    by_cases h1 : (sd4 V nd).length ≤ 1
    · refine ⟨(nI (sd4 V nd).length, up2 τ 34 (384 * c + t) (av (sd4 V nd))), ?_, _, rfl, ?_, fmA.up, up2_row _ _ _ _⟩
      · refine lp_eq (b := fun K a => b_X8_sending_55 K a.1 a.2.1 a.2.2.1 a.2.2.2.1 a.2.2.2.2.1 a.2.2.2.2.2) (fun k a => a = (nI c, nI t, nI (sd4 V nd).length, lst (sd4 V nd) 0, (0 : Int32), τ)) _ 0 (by decide) (fun k a hk _ => absurd hk (by omega)) (fun a ha K => ?_) rfl
        subst ha
        show b_X8_sending_55 K (nI c) (nI t) (nI (sd4 V nd).length) (lst (sd4 V nd) 0) 0 τ = _
        unfold b_X8_sending_55
        rw [if_pos (show nI (sd4 V nd).length ≤ 1 from nI_le h1 (by decide)), ite_self]
        exact m_115 hc ht (by omega)
      · rw [rH_le h1]; exact h.up
    · refine dev_loop (b := fun K a => b_X8_sending_55 K a.1 a.2.1 a.2.2.1 a.2.2.2.1 a.2.2.2.2.1 a.2.2.2.2.2) hnd (fun x i τ => (nI c, nI t, nI (sd4 V nd).length, lst (sd4 V nd) 0, i, τ)) (fun r s => (rH (sd4 V nd).length r, s)) (fun _ => 0) (fun _ _ _ => True) (x0 := 0) h trivial (fun k τk U x hk m1 m2 m3 _ => ?_) (fun τ' U x eU m1 m2 _ _ => ?_)
      · have g8 : ix (nI k) 8 := ix_nI (by omega) (by decide)
        have M0 := m1.R (d := k)
        have z15 : τk 50 k = U.1 k 15 := M0.g hk 15 (by decide) (by decide)
        have z10 : τk 45 k = U.1 k 10 := M0.g hk 10 (by decide) (by decide)
        have pre : ∀ K, b_X8_sending_55 K (nI c) (nI t) (nI (sd4 V nd).length) (lst (sd4 V nd) 0) (nI k) τk = if U.1 k 15 = 1 then (if U.1 k 10 = 4 then K (nI c, nI t, nI (sd4 V nd).length, lst (sd4 V nd) 0, nI (k + 1), up2 τk 54 k 1) else K (nI c, nI t, nI (sd4 V nd).length, lst (sd4 V nd) 0, nI (k + 1), τk)) else K (nI c, nI t, nI (sd4 V nd).length, lst (sd4 V nd) 0, nI (k + 1), τk) := by
          intro K
          unfold b_X8_sending_55
          rw [if_neg (f35 hnd hk h35 m3), if_neg (show ¬ nI (sd4 V nd).length ≤ 1 by rw [i_le, t_nI _ (by omega), t_lit 1 (by decide)]; omega)]
          simp only [gd_t g8, nt_nI (show k < 2147483648 by omega), z15, z10, vl_d, nI_1, up2_self]
        by_cases h15 : U.1 k 15 = 1
        · by_cases h4 : U.1 k 10 = 4
          · have M1 := (M0.put hk 19 1 (by decide) (by decide)).to (F := fun r s => (rH (sd4 V nd).length r, s)) (by simp only [rH, if_pos h15, if_pos h4, if_neg h1])
            exact ⟨_, fun K => by show b_X8_sending_55 K _ _ _ _ _ _ = _; rw [pre, if_pos h15, if_pos h4], M1.1, M1.2, trivial⟩
          · have M1 := M0.to (F := fun r s => (rH (sd4 V nd).length r, s)) (by simp only [rH, if_pos h15, if_neg h4])
            exact ⟨_, fun K => by show b_X8_sending_55 K _ _ _ _ _ _ = _; rw [pre, if_pos h15, if_neg h4], M1.1, M1.2, trivial⟩
        · have M1 := M0.to (F := fun r s => (rH (sd4 V nd).length r, s)) (by simp only [rH, if_neg h15])
          exact ⟨_, fun K => by show b_X8_sending_55 K _ _ _ _ _ _ = _; rw [pre, if_neg h15], M1.1, M1.2, trivial⟩
      · subst eU
        refine ⟨_, ⟨up2 τ' 34 (384 * c + t) (av (sd4 V nd)), rfl, m1.up, m2.A.tr fmA.up, by rw [up2_row, m2.a34]⟩, fun K => ?_⟩
        show b_X8_sending_55 K (nI c) (nI t) (nI (sd4 V nd).length) (lst (sd4 V nd) 0) (nI nd) τ' = _
        unfold b_X8_sending_55
        rw [if_pos (f35e hnd h35 m2)]
        exact m_115 hc ht (by omega)
  obtain ⟨r, hr, τ', rfl, q⟩ := hurt
  refine ⟨τ', ?_, q⟩
  refine lp_eq (b := fun K a => b_X8_sending_8 K a.1 a.2.1 a.2.2.1 a.2.2.2.1 a.2.2.2.2.1 a.2.2.2.2.2) (fun k a => a = (nI c, nI t, nI (sd4 V k).length, lst (sd4 V k) 0, nI k, τ)) _ nd (by omega) (fun k a hk ha => ?_) (fun a ha K => ?_) rfl
  · subst ha
    have g8 : ix (nI k) 8 := ix_nI (by omega) (by decide)
    have z15 : τ 50 k = V.1 k 15 := h.1 k hk 15 (by decide) (by decide)
    have z10 : τ 45 k = V.1 k 10 := h.1 k hk 10 (by decide) (by decide)
    refine ⟨_, rfl, fun K => ?_⟩
    show b_X8_sending_8 K (nI c) (nI t) (nI (sd4 V k).length) (lst (sd4 V k) 0) (nI k) τ = _
    unfold b_X8_sending_8
    rw [if_neg (f35 hnd hk h35 fmW.rf), sd4_succ]
    simp only [gd_t g8, nt_nI (show k < 2147483648 by omega), z15, z10, vl_d, nI_1]
    by_cases h15 : V.1 k 15 = 1
    · rw [if_pos h15, if_pos h15]
      by_cases h4 : V.1 k 10 = 4
      · rw [if_pos h4, if_pos h4, List.length_append]
        unfold lst
        rw [List.foldl_append]
        rfl
      · rw [if_neg h4, if_neg h4]
    · rw [if_neg h15, if_neg h15]
  · subst ha
    show b_X8_sending_8 K (nI c) (nI t) (nI (sd4 V nd).length) (lst (sd4 V nd) 0) (nI nd) τ = _
    unfold b_X8_sending_8
    rw [if_pos (f35e hnd h35 fmW.rf)]
    exact hr
