/-! what each step keeps of a row -/
def sOk (s : Int32) : Prop := ∃ sd, sd ≤ 65520 ∧ s = nI sd
theorem sOk.next {s : Int32} (h : sOk s) : sOk (sNext s) := by
  obtain ⟨sd, h1, rfl⟩ := h
  exact sNext_ok h1
theorem sOk.wait {s : Int32} {e : Nat} (h : sOk s) (he : e ≤ 5) : ∃ w, w ≤ 31 ∧ sWait (sNext s) (nI e) = nI w := by
  obtain ⟨sd, h1, e1⟩ := h.next
  rw [e1]
  exact sWait_ok h1 he
theorem wF_row {F : Rw → Int32 → Rw × Int32} {W : Wd} (hS : ∀ r s, sOk s → sOk (F r s).2) (h0 : sOk W.2) : ∀ k, sOk (wF (wOp F) W k).2 ∧ ∀ d, d < k → ∃ s, sOk s ∧ (wF (wOp F) W k).1 d = (F (W.1 d) s).1 := by
  intro k
  induction k with
  | zero => exact ⟨h0, fun d hd => absurd hd (by omega)⟩
  | succ k ih =>
    obtain ⟨i1, i2⟩ := ih
    refine ⟨hS _ _ i1, fun d hd => ?_⟩
    by_cases e : d = k
    · subst e
      refine ⟨(wF (wOp F) W d).2, i1, ?_⟩
      show (wOp F d (wF (wOp F) W d)).1 d = _
      rw [wOp_row, wF_late F W d d (Nat.le_refl _)]
    · obtain ⟨s, s1, s2⟩ := i2 d (by omega)
      exact ⟨s, s1, by show (wOp F k (wF (wOp F) W k)).1 d = _; rw [wOp_ne F _ e]; exact s2⟩
theorem wF_id {F : Rw → Int32 → Rw × Int32} {W : Wd} : ∀ k, (∀ d, d < k → F (W.1 d) W.2 = (W.1 d, W.2)) → wF (wOp F) W k = W := by
  intro k
  induction k with
  | zero => exact fun _ => rfl
  | succ k ih =>
    intro h
    show wOp F k (wF (wOp F) W k) = W
    rw [ih (fun d hd => h d (by omega)), wOp_put, h k (by omega)]
    exact wPut_self W k
theorem rDraw_s {r : Rw} {s : Int32} (h : sOk s) : sOk (rDraw r s).2 := h.next
theorem rwA_s (t : Int32) (r : Rw) (s : Int32) (h : sOk s) : sOk (rwA t r s).2 := by
  unfold rwA
  repeat' split
  all_goals first | (with_reducible exact h) | (with_reducible exact rDraw_s h)
theorem rDd_s (b : Int32) (r : Rw) (s : Int32) (h : sOk s) : sOk (rDd b r s).2 := by
  unfold rDd
  repeat' split
  all_goals first | (with_reducible exact h) | (with_reducible exact rDraw_s h)
theorem rLw_s (n : Nat) (r : Rw) (s : Int32) (h : sOk s) : sOk (rLw n r s).2 := rDd_s _ _ _ h
theorem rFf_s (r : Rw) (s : Int32) (h : sOk s) : sOk (rFf r s).2 := by
  unfold rFf
  repeat' split
  all_goals first | (with_reducible exact h) | (with_reducible exact rDraw_s h)
/-- places that contention leaves alone -/
def kpl (j : Nat) : Prop := j = 1 ∨ j = 2 ∨ j = 3 ∨ j = 5 ∨ j = 8 ∨ j = 9 ∨ j = 15
theorem rwA_k (t : Int32) (r : Rw) (s : Int32) {j : Nat} (hj : kpl j) : (rwA t r s).1 j = r j := by
  rcases hj with rfl | rfl | rfl | rfl | rfl | rfl | rfl <;> (unfold rwA rDraw; repeat' split) <;> simp [upd_n]
theorem rwB_k (t T : Int32) (r : Rw) {j : Nat} (hj : kpl j) : rwB t T r j = r j := by
  rcases hj with rfl | rfl | rfl | rfl | rfl | rfl | rfl <;> (unfold rwB; repeat' split) <;> simp [upd_n]
theorem rwC_k (r : Rw) {j : Nat} (hj : kpl j) : rwC r j = r j := by
  rcases hj with rfl | rfl | rfl | rfl | rfl | rfl | rfl <;> (unfold rwC; repeat' split) <;> simp [upd_n]
theorem rH_k (n : Nat) (r : Rw) {j : Nat} (hj : kpl j) : rH n r j = r j := by
  rcases hj with rfl | rfl | rfl | rfl | rfl | rfl | rfl <;> (unfold rH; repeat' split) <;> simp [upd_n]
theorem rDd_k (b : Int32) (r : Rw) (s : Int32) {j : Nat} (hj : kpl j) : (rDd b r s).1 j = r j := by
  rcases hj with rfl | rfl | rfl | rfl | rfl | rfl | rfl <;> (unfold rDd rGone rBusy rDraw; repeat' split) <;> simp [upd_n]
theorem rEe_k (r : Rw) {j : Nat} (hj : kpl j) : rEe r j = r j := by
  rcases hj with rfl | rfl | rfl | rfl | rfl | rfl | rfl <;> (unfold rEe; repeat' split) <;> simp [upd_n]
theorem rLw_k (n : Nat) (r : Rw) (s : Int32) {j : Nat} (hj : kpl j) : (rLw n r s).1 j = r j := by
  show rEe (rDd (bz n) (rH n r) s).1 j = r j
  rw [rEe_k _ hj, rDd_k _ _ _ hj, rH_k _ _ hj]
theorem rFf_k (r : Rw) (s : Int32) {j : Nat} (hj : kpl j) : (rFf r s).1 j = r j := by
  rcases hj with rfl | rfl | rfl | rfl | rfl | rfl | rfl <;> (unfold rFf rGone rHu rDraw; repeat' split) <;> simp [upd_n]
theorem rHold_k (r : Rw) {j : Nat} (hj : kpl j) : rHold r j = r j := by
  rcases hj with rfl | rfl | rfl | rfl | rfl | rfl | rfl <;> (unfold rHold; repeat' split) <;> simp [upd_n]
theorem wF_k {F : Rw → Int32 → Rw × Int32} (hF : ∀ r s j, kpl j → (F r s).1 j = r j) (W : Wd) {j : Nat} (hj : kpl j) : ∀ k d, (wF (wOp F) W k).1 d j = W.1 d j := by
  intro k
  induction k with
  | zero => exact fun _ => rfl
  | succ k ih =>
    intro d
    show (wOp F k (wF (wOp F) W k)).1 d j = _
    by_cases e : d = k
    · rw [e, wOp_row, hF _ _ _ hj, ih]
    · rw [wOp_ne F _ e, ih]
theorem k15 : kpl 15 := Or.inr (Or.inr (Or.inr (Or.inr (Or.inr (Or.inr rfl)))))
/-- a frame under way ends within the shared ticks -/
def dJ (t T : Nat) (r : Rw) : Prop := (r 15 ≠ 1 → r 10 = 0 ∨ r 10 = 3) ∧ (r 10 = 2 → ∃ f x, f ≤ 2 ∧ r 17 = nI f ∧ r 2 = nI x ∧ 1 ≤ x ∧ x ≤ 8 ∧ t + 2 + x ≤ T + f) ∧ (r 10 = 4 → ∃ q, 1 ≤ q ∧ q ≤ 8 ∧ r 18 = nI q ∧ t + q ≤ T)
def dJ2 (t T : Nat) (r : Rw) : Prop := (r 15 ≠ 1 → r 10 = 0 ∨ r 10 = 3) ∧ (r 10 = 2 → ∃ f x, f ≤ 2 ∧ r 17 = nI f ∧ r 2 = nI x ∧ 1 ≤ x ∧ x ≤ 8 ∧ t + 3 + x ≤ T + f) ∧ (r 10 = 4 → ∃ q, 1 ≤ q ∧ q ≤ 8 ∧ r 18 = nI q ∧ t + q ≤ T)
def dQ0 (r : Rw) : Prop := r 15 = 1 → r 10 = 0 → r 4 ≤ 0
theorem n10 {a b : Int32} (h : a = b) {P : Prop} (hne : ¬ b = a := by decide) : P := absurd h.symm hne
theorem jDraw {t T : Nat} {r : Rw} {s : Int32} (h15 : r 15 = 1) : dJ t T (rDraw r s).1 ∧ dQ0 (rDraw r s).1 :=
  ⟨⟨fun q => absurd (show r 15 = 1 from h15) q, fun q => n10 (show (1 : Int32) = 2 from q), fun q => n10 (show (1 : Int32) = 4 from q)⟩, fun _ q => n10 (show (1 : Int32) = 0 from q)⟩
theorem jA {t T : Nat} {tt : Int32} {r : Rw} {s : Int32} (h : dJ t T r) : dJ t T (rwA tt r s).1 ∧ dQ0 (rwA tt r s).1 := by
  unfold rwA
  by_cases h15 : r 15 = 1
  · rw [if_pos h15]
    by_cases h0 : r 10 = 0
    · rw [if_pos h0]
      by_cases h4 : r 4 ≤ 0
      · rw [if_pos h4]; exact ⟨h, fun _ _ => h4⟩
      · rw [if_neg h4]; exact jDraw h15
    · rw [if_neg h0]
      by_cases h3 : r 10 = 3
      · rw [if_pos h3]
        by_cases ht : tt = 1
        · rw [if_pos ht]; exact jDraw h15
        · rw [if_neg ht]; exact ⟨h, fun _ q => absurd q h0⟩
      · rw [if_neg h3]; exact ⟨h, fun _ q => absurd q h0⟩
  · rw [if_neg h15]; exact ⟨h, fun q => absurd q h15⟩
theorem jB {t T : Nat} {r : Rw} (ht : t ≤ 400) (hT : T ≤ 400) (hw : dW r) (h : dJ t T r) (h0 : dQ0 r) : dJ t T (rwB (nI t) (nI T) r) ∧ dQ0 (rwB (nI t) (nI T) r) := by
  obtain ⟨x, x1, x2, x3⟩ := hw.2.2.2.1
  unfold rwB
  by_cases h15 : r 15 = 1
  · rw [if_pos h15]
    by_cases h1 : r 10 = 1
    · rw [if_pos h1]
      by_cases h16 : r 16 = 0
      · rw [if_pos h16]
        by_cases hK : nI T < (nI t + r 2) + 2
        · rw [if_pos hK]
          exact ⟨⟨fun q => absurd (show r 15 = 1 from h15) q, fun q => n10 (show (3 : Int32) = 2 from q), fun q => n10 (show (3 : Int32) = 4 from q)⟩, fun _ q => n10 (show (3 : Int32) = 0 from q)⟩
        · rw [if_neg hK]
          rw [x3, nI_add, show (2 : Int32) = nI 2 from rfl, nI_add, i_lt, t_nI _ (by omega), t_nI _ (by omega)] at hK
          exact ⟨⟨fun q => absurd (show r 15 = 1 from h15) q, fun _ => ⟨0, x, by decide, rfl, x3, x1, x2, by omega⟩, fun q => n10 (show (2 : Int32) = 4 from q)⟩, fun _ q => n10 (show (2 : Int32) = 0 from q)⟩
      · rw [if_neg h16]; exact ⟨h, h0⟩
    · rw [if_neg h1]; exact ⟨h, h0⟩
  · rw [if_neg h15]; exact ⟨h, h0⟩
theorem jC {t T : Nat} {r : Rw} (h : dJ t T r) (h0 : dQ0 r) : dJ t T (rwC r) ∧ dQ0 (rwC r) ∧ (rwC r 10 = 2 → ¬ rwC r 17 = 2) := by
  unfold rwC
  by_cases h15 : r 15 = 1
  · rw [if_pos h15]
    by_cases h2 : r 10 = 2
    · rw [if_pos h2]
      obtain ⟨f, x, j1, j2, j3, j4, j5, j6⟩ := h.2.1 h2
      by_cases h17 : r 17 = 2
      · rw [if_pos h17]
        exact ⟨⟨fun q => absurd (show r 15 = 1 from h15) q, fun q => n10 (show (4 : Int32) = 2 from q), fun _ => ⟨x, j4, j5, j3, by omega⟩⟩, fun _ q => n10 (show (4 : Int32) = 0 from q), fun q => n10 (show (4 : Int32) = 2 from q)⟩
      · rw [if_neg h17]; exact ⟨h, h0, fun _ => h17⟩
    · rw [if_neg h2]; exact ⟨h, h0, fun q => absurd q h2⟩
  · rw [if_neg h15]
    refine ⟨h, h0, fun q => ?_⟩
    rcases h.1 h15 with z | z
    · rw [z] at q; exact n10 q
    · rw [z] at q; exact n10 q
theorem h_dW {n : Nat} {r : Rw} (h : dW r) : dW (rH n r) := by
  unfold rH
  by_cases h15 : r 15 = 1
  · rw [if_pos h15]
    by_cases h4 : r 10 = 4
    · rw [if_pos h4]
      obtain ⟨a1, a2, a3, a4, a5, a6, a7, c1, c2, c3⟩ := h
      refine ⟨a1, a2, a3, a4, a5, a6, a7, c1, c2, fun q => ⟨(c3 q).1, ?_⟩⟩
      rw [upd_s]
      by_cases hn : n ≤ 1
      · rw [if_pos hn]; exact (c3 h4).2
      · rw [if_neg hn]; exact Or.inr rfl
    · rw [if_neg h4]; exact h
  · rw [if_neg h15]; exact h
theorem lw_I {t T n : Nat} {r : Rw} {s : Int32} (hw : dW r) (h : dJ t T r) (hf : r 10 = 2 → ¬ r 17 = 2) (h20 : r 20 = 0) (hs : sOk s) : dW (rLw n r s).1 ∧ dJ2 t T (rLw n r s).1 := by
  have hw' := hw
  obtain ⟨a1, ⟨e, a2, a2'⟩, a3, a4, a5, ⟨l, b1, b2, b3⟩, a7, c1, c2, c3⟩ := hw
  by_cases h15 : r 15 = 1
  · by_cases h4 : r 10 = 4
    · have e1 : (rLw n r s).1 = upd (rH n r) 20 0 := by simp [rLw, rH, rDd, rEe, upd_s, upd_n, h15, h4]
      rw [e1]
      have q := h_dW (n := n) hw'
      refine ⟨q, ?_⟩
      have z10 : rH n r 10 = 4 := by simp [rH, upd_n, h15, h4]
      have z18 : rH n r 18 = r 18 := by simp [rH, upd_n, h15, h4]
      refine ⟨fun z => absurd ((upd_n _ _ (by decide)).trans ((rH_k n r k15).trans h15)) z, fun z => n10 (z10.symm.trans z), fun _ => ?_⟩
      obtain ⟨q, q1, q2, q3, q4⟩ := h.2.2 h4
      exact ⟨q, q1, q2, by rw [upd_n _ _ (by decide), z18]; exact q3, q4⟩
    · by_cases h2 : r 10 = 2
      · have hl := b3 (by rw [h2]; decide)
        obtain ⟨f, x, j1, j2, j3, j4, j5, j6⟩ := h.2.1 h2
        have hf2 : f ≤ 1 := by
          have := hf h2
          rw [j2, i_eq, t_nI _ (by omega), t_lit 2 (by decide)] at this
          omega
        by_cases hn0 : n = 0
        · have e1 : (rLw n r s).1 = upd (upd r 17 (r 17 + 1)) 20 0 := by simp [rLw, rH, rDd, rEe, upd_s, upd_n, h15, h2, bz, hn0]
          rw [e1, j2, nI_1]
          exact ⟨⟨a1, ⟨e, a2, a2'⟩, a3, a4, a5, ⟨l, b1, b2, b3⟩, a7, c1, fun _ => ⟨f + 1, by omega, rfl⟩, c3⟩, h.1, fun _ => ⟨f + 1, x, by omega, rfl, j3, j4, j5, by omega⟩, fun q => absurd q h4⟩
        · have bz1 : bz n = 1 := if_neg hn0
          obtain ⟨e', f1, f2⟩ := fb_le e (by omega)
          rw [← a2'] at f2
          by_cases hb : r 12 + 1 = 5
          · have e1 : (rLw n r s).1 = upd (rGone (upd (rBusy r) 7 (r 7 + 1))) 20 0 := by simp [rLw, rH, rDd, rEe, rGone, rBusy, upd_s, upd_n, h15, h2, bz1, hb]
            rw [e1]
            exact ⟨⟨a1, ⟨e', by omega, f2⟩, a3, a4, Or.inl rfl, ⟨5, by decide, hb, fun q => absurd rfl q⟩, ⟨0, by decide, rfl⟩, fun q => n10 (show (0 : Int32) = 1 from q), fun q => n10 (show (0 : Int32) = 2 from q), fun q => n10 (show (0 : Int32) = 4 from q)⟩, fun _ => Or.inl rfl, fun q => n10 (show (0 : Int32) = 2 from q), fun q => n10 (show (0 : Int32) = 4 from q)⟩
          · have e1 : (rLw n r s).1 = upd (upd (rDraw (rBusy r) s).1 20 1) 20 0 := by simp [rLw, rH, rDd, rEe, rDraw, rBusy, upd_s, upd_n, h15, h2, bz1, hb]
            rw [e1]
            obtain ⟨w, w1, w2⟩ := hs.wait (e := e') (by omega)
            have hl4 : l + 1 ≤ 4 := by
              rw [b2, nI_1, i_eq, t_nI _ (by omega), t_lit 5 (by decide)] at hb
              omega
            exact ⟨⟨a1, ⟨e', by omega, f2⟩, a3, a4, Or.inr (Or.inl rfl), ⟨l + 1, by omega, by show r 12 + 1 = _; rw [b2, nI_1], fun _ => hl4⟩, a7, fun _ => ⟨w, w1, by show sWait (sNext s) (if r 11 = 5 then 5 else r 11 + 1) = _; rw [f2]; exact w2⟩, fun q => n10 (show (1 : Int32) = 2 from q), fun q => n10 (show (1 : Int32) = 4 from q)⟩, fun q => absurd (show r 15 = 1 from h15) q, fun q => n10 (show (1 : Int32) = 2 from q), fun q => n10 (show (1 : Int32) = 4 from q)⟩
      · by_cases h1 : r 10 = 1
        · obtain ⟨w, w1, w2⟩ := c1 h1
          have e1 : (rLw n r s).1 = upd (upd r 16 (if r 16 ≤ 0 then r 16 else r 16 - 1)) 20 0 := by simp [rLw, rH, rDd, rEe, upd_s, upd_n, h15, h1, h20]
          rw [e1]
          refine ⟨⟨a1, ⟨e, a2, a2'⟩, a3, a4, a5, ⟨l, b1, b2, b3⟩, a7, fun _ => ?_, c2, c3⟩, h.1, fun q => absurd q h2, fun q => absurd q h4⟩
          show ∃ w, w ≤ 31 ∧ (if r 16 ≤ 0 then r 16 else r 16 - 1) = nI w
          by_cases h0 : r 16 ≤ 0
          · rw [if_pos h0]; exact ⟨w, w1, w2⟩
          · rw [if_neg h0]
            refine ⟨w - 1, by omega, ?_⟩
            rw [w2, i_le, t_nI _ (by omega), t_lit 0 (by decide)] at h0
            rw [w2, show (1 : Int32) = nI 1 from rfl, nI_m _ _ (by omega)]
        · have e1 : (rLw n r s).1 = upd r 20 0 := by simp [rLw, rH, rDd, rEe, upd_s, upd_n, h15, h4, h2, h1]
          rw [e1]
          exact ⟨hw', h.1, fun q => absurd q h2, fun q => absurd q h4⟩
  · have e1 : (rLw n r s).1 = r := by simp [rLw, rH, rDd, rEe, h15]
    rw [e1]
    refine ⟨hw', h.1, fun q => ?_, fun q => ?_⟩
    · rcases h.1 h15 with z | z
      · rw [z] at q; exact n10 q
      · rw [z] at q; exact n10 q
    · rcases h.1 h15 with z | z
      · rw [z] at q; exact n10 q
      · rw [z] at q; exact n10 q
theorem ff_I {t T : Nat} {r : Rw} {s : Int32} (hw : dW r) (h : dJ2 t T r) (hs : sOk s) : dW (rFf r s).1 ∧ dJ (t + 1) T (rFf r s).1 := by
  have hw' := hw
  obtain ⟨a1, ⟨e, a2, a2'⟩, ⟨e3, a3, a3'⟩, a4, a5, ⟨l, b1, b2, b3⟩, ⟨y, a7, a7'⟩, c1, c2, c3⟩ := hw
  unfold rFf
  have base : ¬ r 10 = 4 → dJ (t + 1) T r := fun h4 => ⟨h.1, fun q => by
    obtain ⟨f, x, j1, j2, j3, j4, j5, j6⟩ := h.2.1 q
    exact ⟨f, x, j1, j2, j3, j4, j5, by omega⟩, fun q => absurd q h4⟩
  by_cases h15 : r 15 = 1
  · rw [if_pos h15]
    by_cases h4 : r 10 = 4
    · rw [if_pos h4]
      obtain ⟨q, q1, q2, q3, q4⟩ := h.2.2 h4
      have hl := b3 (by rw [h4]; decide)
      by_cases h0 : r 18 - 1 = 0
      · rw [if_pos h0]
        by_cases h19 : r 19 = 0
        · rw [if_pos h19]
          exact ⟨⟨a1, ⟨e, a2, a2'⟩, ⟨e3, a3, a3'⟩, a4, Or.inl rfl, ⟨l, b1, b2, fun _ => hl⟩, ⟨0, by decide, rfl⟩, fun q => n10 (show (0 : Int32) = 1 from q), fun q => n10 (show (0 : Int32) = 2 from q), fun q => n10 (show (0 : Int32) = 4 from q)⟩, fun _ => Or.inl rfl, fun q => n10 (show (0 : Int32) = 2 from q), fun q => n10 (show (0 : Int32) = 4 from q)⟩
        · rw [if_neg h19]
          by_cases hb : r 13 + 1 = 4
          · rw [if_pos hb]
            exact ⟨⟨a1, ⟨e, a2, a2'⟩, ⟨e3, a3, a3'⟩, a4, Or.inl rfl, ⟨l, b1, b2, fun _ => hl⟩, ⟨0, by decide, rfl⟩, fun q => n10 (show (0 : Int32) = 1 from q), fun q => n10 (show (0 : Int32) = 2 from q), fun q => n10 (show (0 : Int32) = 4 from q)⟩, fun _ => Or.inl rfl, fun q => n10 (show (0 : Int32) = 2 from q), fun q => n10 (show (0 : Int32) = 4 from q)⟩
          · rw [if_neg hb]
            obtain ⟨w, w1, w2⟩ := hs.wait (e := e3) (by omega)
            have y4 : y + 1 ≤ 3 := by
              rw [a7', nI_1, i_eq, t_nI _ (by omega), t_lit 4 (by decide)] at hb
              omega
            exact ⟨⟨a1, ⟨e3, by omega, a3'⟩, ⟨e3, a3, a3'⟩, a4, Or.inr (Or.inl rfl), ⟨0, by decide, rfl, fun _ => by decide⟩, ⟨y + 1, y4, by show r 13 + 1 = _; rw [a7', nI_1]⟩, fun _ => ⟨w, w1, by show sWait (sNext s) (r 3) = _; rw [a3']; exact w2⟩, fun q => n10 (show (1 : Int32) = 2 from q), fun q => n10 (show (1 : Int32) = 4 from q)⟩, fun q => absurd (show r 15 = 1 from h15) q, fun q => n10 (show (1 : Int32) = 2 from q), fun q => n10 (show (1 : Int32) = 4 from q)⟩
      · rw [if_neg h0]
        have q5 : 2 ≤ q := by
          rw [q3, show (1 : Int32) = nI 1 from rfl, nI_m _ _ (by omega), i_eq, t_nI _ (by omega), t_lit 0 (by decide)] at h0
          omega
        have e18 : r 18 - 1 = nI (q - 1) := by rw [q3, show (1 : Int32) = nI 1 from rfl, nI_m _ _ (by omega)]
        rw [e18]
        exact ⟨⟨a1, ⟨e, a2, a2'⟩, ⟨e3, a3, a3'⟩, a4, a5, ⟨l, b1, b2, b3⟩, ⟨y, a7, a7'⟩, c1, c2, fun _ => ⟨⟨q - 1, by omega, by omega, rfl⟩, (c3 h4).2⟩⟩, fun z => absurd (show r 15 = 1 from h15) z, fun z => absurd (h4.symm.trans (show r 10 = 2 from z)) (by decide), fun _ => ⟨q - 1, by omega, by omega, rfl, by omega⟩⟩
    · rw [if_neg h4]; exact ⟨hw', base h4⟩
  · rw [if_neg h15]
    refine ⟨hw', base (fun q => ?_)⟩
    rcases h.1 h15 with z | z
    · rw [z] at q; exact n10 q
    · rw [z] at q; exact n10 q
