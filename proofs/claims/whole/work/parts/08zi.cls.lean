/-! hurt, listening, waiting, ending, holding: one device's row, and the class's side -/
def rH (n : Nat) (r : Rw) : Rw := if r 15 = 1 then (if r 10 = 4 then upd r 19 (if n ≤ 1 then r 19 else 1) else r) else r
def rGone (r : Rw) : Rw := upd (upd (upd r 4 (r 4 - 1)) 10 0) 13 0
def rBusy (r : Rw) : Rw := upd (upd r 12 (r 12 + 1)) 11 (if r 11 = 5 then 5 else r 11 + 1)
def rDd (b : Int32) (r : Rw) (s : Int32) : Rw × Int32 := if r 15 = 1 then (if r 10 = 2 then (if b = 0 then (upd r 17 (r 17 + 1), s) else if r 12 + 1 = 5 then (rGone (upd (rBusy r) 7 (r 7 + 1)), s) else (upd (rDraw (rBusy r) s).1 20 1, (rDraw (rBusy r) s).2)) else (r, s)) else (r, s)
def rEe (r : Rw) : Rw := if r 15 = 1 then upd (if r 10 = 1 then (if r 20 = 0 then upd r 16 (if r 16 ≤ 0 then r 16 else r 16 - 1) else r) else r) 20 0 else r
def bz (n : Nat) : Int32 := if n = 0 then 0 else 1
def rLw (n : Nat) (r : Rw) (s : Int32) : Rw × Int32 := (rEe (rDd (bz n) (rH n r) s).1, (rDd (bz n) (rH n r) s).2)
def rHu (r : Rw) : Rw := upd (upd (upd r 18 (r 18 - 1)) 14 (r 14 + 1)) 13 (r 13 + 1)
def rFf (r : Rw) (s : Int32) : Rw × Int32 := if r 15 = 1 then (if r 10 = 4 then (if r 18 - 1 = 0 then (if r 19 = 0 then (rGone (upd (upd r 18 (r 18 - 1)) 6 (r 6 + 1)), s) else if r 13 + 1 = 4 then (rGone (upd (rHu r) 7 (r 7 + 1)), s) else rDraw (upd (upd (rHu r) 12 0) 11 (r 3)) s) else (upd r 18 (r 18 - 1), s)) else (r, s)) else (r, s)
def cFf (r : Rw) : Int32 := if r 15 = 1 then (if r 10 = 4 then (if r 18 - 1 = 0 then (if r 19 = 0 then 1 else 0) else 0) else 0) else 0
def rHold (r : Rw) : Rw := if r 15 = 1 then (if r 10 = 1 then upd r 10 3 else if r 10 = 2 then upd r 10 3 else r) else r
theorem upd_self (r : Rw) (j : Nat) : upd r j (r j) = r := by
  funext k
  by_cases h : k = j
  · rw [h, upd_s]
  · rw [upd_n _ _ h]
theorem wl_ok : ∀ w, w < 32 → (if (0 : Int32) < nI w - 1 then nI w - 1 else 0) = if nI w ≤ 0 then nI w else nI w - 1 := by decide +kernel
theorem fb_ok : ∀ e, e < 6 → (if nI e + 1 < (5 : Int32) then nI e + 1 else 5) = if nI e = 5 then 5 else nI e + 1 := by decide +kernel
theorem fb_le : ∀ e, e < 6 → ∃ e', e' < 6 ∧ (if nI e = (5 : Int32) then (5 : Int32) else nI e + 1) = nI e' := by decide +kernel
theorem lk_ok : ∀ l, l < 5 → (nI l + 1 < (5 : Int32) ↔ ¬ nI l + 1 = (5 : Int32)) := by decide +kernel
theorem hu_ok : ∀ l, l < 4 → (nI l + 1 < (4 : Int32) ↔ ¬ nI l + 1 = (4 : Int32)) := by decide +kernel
theorem tk_ok : ∀ q, q < 9 → 1 ≤ q → ((0 : Int32) < nI q - 1 ↔ ¬ nI q - 1 = (0 : Int32)) := by decide +kernel
theorem n8_ok {d : Nat} (h : d < 8) : ¬ (8 : Int32) ≤ nI d := by rw [i_le, t_lit 8 (by decide), t_nI _ (by omega)]; omega
theorem cR.gone {nd d : Nat} {σ0 σ : St} {V : Wd} {r : Rw} {s : Int32} (h : cR nd σ0 σ V d r s) (hd : d < nd) : ∃ σ', f_X2_endFrame d σ = some ((), σ') ∧ cR nd σ0 σ' V d (rGone r) s := by
  have h1 := h.put hd 4 (r 4 - 1) (by decide) (by decide)
  have h2 := h1.put hd 10 0 (by decide) (by decide)
  have h3 := h2.put hd 13 0 (by decide) (by decide)
  refine ⟨_, ?_, h3⟩
  unfold f_X2_endFrame
  rw [h.g hd 4 (by decide) (by decide), vl_d, vl_d, vl_d]
theorem cR.up {nd d : Nat} {σ0 σ : St} {V : Wd} {r : Rw} {s : Int32} (h : cR nd σ0 σ V d r s) (hd : d < nd) : ∃ σ', f_X2_giveUp d σ = some ((), σ') ∧ cR nd σ0 σ' V d (rGone (upd r 7 (r 7 + 1))) s := by
  have h1 := h.put hd 7 (r 7 + 1) (by decide) (by decide)
  obtain ⟨σ', q1, q2⟩ := h1.gone hd
  refine ⟨σ', ?_, q2⟩
  unfold f_X2_giveUp
  rw [h.g hd 7 (by decide) (by decide), vl_d, q1, cl_some]
theorem cR.beg {nd d e : Nat} {σ0 σ : St} {V : Wd} {r : Rw} {s : Int32} (h : cR nd σ0 σ V d r s) (hd : d < nd) (he : e ≤ 3) (e3 : r 3 = nI e) : ∃ σ1 σ', f_X2_beginFrame d σ = some ((), σ1) ∧ f_X0_draw d σ1 = some ((), σ') ∧ cR nd σ0 σ' V d (rDraw (upd (upd r 12 0) 11 (r 3)) s).1 (rDraw (upd (upd r 12 0) 11 (r 3)) s).2 := by
  have h1 := h.put hd 12 0 (by decide) (by decide)
  have h2 := h1.put hd 11 (r 3) (by decide) (by decide)
  obtain ⟨σ', q1, q2⟩ := h2.draw hd (e := e) (by omega) (by rw [upd_s]; exact e3)
  refine ⟨_, σ', ?_, q1, q2⟩
  unfold f_X2_beginFrame
  rw [vl_d, vl_d, h1.g hd 3 (by decide) (by decide), upd_n _ _ (by decide)]
theorem cR.to {nd d : Nat} {σ σ' : St} {V : Wd} {F : Rw → Int32 → Rw × Int32} {r : Rw} {s : Int32} (h : cR nd σ σ' V d r s) (e : F (V.1 d) V.2 = (r, s)) : cW nd σ' (wOp F d V) ∧ fcW nd σ σ' := by
  rw [wOp_put, e]
  exact h
theorem c_listen {nd d n : Nat} {σ : St} {V : Wd} (hnd : nd ≤ 8) (h : cW nd σ V) (hr : dW (V.1 d)) (hd : d < nd) (h15 : V.1 d 15 = 1) (h20 : V.1 d 20 = 0) (hn : n ≤ 8) (h63 : σ 6 3 = nI n) : ∃ σ', (∀ K, b_X0_listenAndWait_10 K 8 (nI d) σ = K (8, nI (d + 1), σ')) ∧ cW nd σ' (wOp (rLw n) d V) ∧ fcW nd σ σ' := by
  obtain ⟨a1, ⟨e, a2, a2'⟩, a3, a4, a5, ⟨l, b1, b2, b3⟩, a7, c1, c2, c3⟩ := hr
  have R0 : cR nd σ σ V d (V.1 d) V.2 := h.R
  obtain ⟨r, er⟩ : ∃ r, r = V.1 d := ⟨_, rfl⟩
  obtain ⟨s, es⟩ : ∃ s, s = V.2 := ⟨_, rfl⟩
  rw [← er] at a1 a2' a4 a5 b2 b3 a7 c1 c2 c3 h15 h20 R0
  rw [← es] at R0
  have hp := n8_ok (show d < 8 by omega)
  have g8 : ix (nI d) 8 := ix_nI (by omega) (by decide)
  have r10 := R0.g hd 10 (by decide) (by decide)
  have r19 := R0.g hd 19 (by decide) (by decide)
  suffices hh : ∃ σ' r' s', (∀ K, b_X0_listenAndWait_10 K 8 (nI d) σ = K (8, nI (d + 1), σ')) ∧ rLw n r s = (r', s') ∧ cR nd σ σ' V d r' s' by
    obtain ⟨σ', r', s', q1, q2, q3⟩ := hh
    exact ⟨σ', q1, q3.to (by rw [← er, ← es]; exact q2)⟩
  have pre : ∀ K, b_X0_listenAndWait_10 K 8 (nI d) σ = if r 10 = 4 then (if r 19 = 0 then (if nI n ≤ 1 then K (8, nI (d + 1), up2 σ (46 + d) 19 0) else K (8, nI (d + 1), up2 σ (46 + d) 19 1)) else K (8, nI (d + 1), up2 σ (46 + d) 19 1)) else if r 10 = 2 then (if nI n = 0 then K (8, nI (d + 1), up2 σ (46 + d) 17 (σ (46 + d) 17 + 1)) else f_X0_listenAndWait_88 d K 8 (nI d) σ) else f_X0_listenAndWait_88 d K 8 (nI d) σ := by
    intro K
    unfold b_X0_listenAndWait_10
    rw [if_neg hp, gd_t g8, vl_d, nt_nI (show d < 2147483648 by omega), r10, r19, h63]
    simp only [vl_d, nI_1]
  by_cases h4 : r 10 = 4
  · refine ⟨up2 σ (46 + d) 19 (if n ≤ 1 then r 19 else 1), upd (upd r 19 (if n ≤ 1 then r 19 else 1)) 20 0, s, fun K => ?_, ?_, (R0.put hd 19 _ (by decide) (by decide)).p20⟩
    · rw [pre, if_pos h4]
      by_cases h19 : r 19 = 0
      · rw [if_pos h19, h19]
        by_cases hn1 : n ≤ 1
        · rw [if_pos (show nI n ≤ 1 from nI_le hn1 (by decide)), if_pos hn1]
        · rw [if_neg (by rw [show (1 : Int32) = nI 1 from rfl, nI_leI (by omega) (by omega)]; omega), if_neg hn1]
      · have e1 : r 19 = 1 := ((c3 h4).2).resolve_left h19
        rw [if_neg h19, e1, ite_self]
    · simp [rLw, rH, rDd, rEe, upd_s, upd_n, h15, h4]
  · by_cases h2 : r 10 = 2
    · have hl := b3 (by rw [h2]; decide)
      by_cases hn0 : n = 0
      · refine ⟨up2 σ (46 + d) 17 (r 17 + 1), upd (upd r 17 (r 17 + 1)) 20 0, s, fun K => ?_, ?_, (R0.put hd 17 _ (by decide) (by decide)).p20⟩
        · rw [pre, if_neg h4, if_pos h2, if_pos (by rw [hn0]; rfl), R0.g hd 17 (by decide) (by decide)]
        · simp [rLw, rH, rDd, rEe, upd_s, upd_n, h15, h2, bz, hn0]
      · have nz : ¬ nI n = 0 := by rw [i_eq, t_nI n (by omega), t_lit 0 (by decide)]; omega
        have R1 := R0.put hd 12 (r 12 + 1) (by decide) (by decide)
        have R2 := R1.put hd 11 (if r 11 = 5 then 5 else r 11 + 1) (by decide) (by decide)
        obtain ⟨e', f1, f2⟩ := fb_le e (by omega)
        have pre2 : f_X2_foundBusy d σ = if r 12 + 1 = 5 then (cl (f_X2_giveUp d (up2 (up2 σ (46 + d) 12 (r 12 + 1)) (46 + d) 11 (if r 11 = 5 then 5 else r 11 + 1))) fun r6 σ5 => some ((0 : Int32), σ5)) else some (1, up2 (up2 σ (46 + d) 12 (r 12 + 1)) (46 + d) 11 (if r 11 = 5 then 5 else r 11 + 1)) := by
          unfold f_X2_foundBusy
          rw [R0.g hd 12 (by decide) (by decide), vl_d, R1.g hd 11 (by decide) (by decide), upd_n _ _ (by decide), a2', fb_ok e (by omega), vl_d, vl_d, up2_c (by decide), up2_at, b2]
          by_cases hb : nI l + 1 = 5
          · rw [if_pos hb, if_neg (fun q => (lk_ok l (by omega)).mp q hb)]
          · rw [if_neg hb, if_pos ((lk_ok l (by omega)).mpr hb)]
        have bz1 : bz n = 1 := if_neg hn0
        by_cases hb : r 12 + 1 = 5
        · obtain ⟨σ', q1, q2⟩ := R2.up hd
          refine ⟨σ', _, s, fun K => ?_, ?_, q2.p20 (v := 0)⟩
          · rw [pre, if_neg h4, if_pos h2, if_neg nz]
            unfold f_X0_listenAndWait_88
            rw [r10, if_pos h2, pre2, if_pos hb, q1, cl_some, cl_some, if_pos rfl, vl_d, nI_1]
          · simp [rLw, rH, rDd, rEe, rGone, rBusy, upd_s, upd_n, h15, h2, bz1, hb]
        · obtain ⟨σ', q1, q2⟩ := R2.draw hd (e := e') (by omega) (by rw [upd_s, a2']; exact f2)
          refine ⟨σ', _, _, fun K => ?_, ?_, (q2.p20 (v := 1)).p20 (v := 0)⟩
          · rw [pre, if_neg h4, if_pos h2, if_neg nz]
            unfold f_X0_listenAndWait_88
            rw [r10, if_pos h2, pre2, if_neg hb, cl_some, if_neg (by decide), q1, cl_some, vl_d, nI_1]
          · simp [rLw, rH, rDd, rEe, rDraw, rBusy, upd_s, upd_n, h15, h2, bz1, hb]
    · by_cases h1 : r 10 = 1
      · obtain ⟨w, w1, w2⟩ := c1 h1
        refine ⟨up2 σ (46 + d) 16 (if r 16 ≤ 0 then r 16 else r 16 - 1), upd (upd r 16 (if r 16 ≤ 0 then r 16 else r 16 - 1)) 20 0, s, fun K => ?_, ?_, (R0.put hd 16 _ (by decide) (by decide)).p20⟩
        · rw [pre, if_neg h4, if_neg h2]
          unfold f_X0_listenAndWait_88 f_X2_waitLess
          rw [r10, if_neg h2, if_pos h1, R0.g hd 16 (by decide) (by decide), w2, wl_ok w (by omega), vl_d, vl_d, cl_some, vl_d, nI_1]
        · simp [rLw, rH, rDd, rEe, upd_s, upd_n, h15, h1, h20]
      · refine ⟨σ, upd r 20 0, s, fun K => ?_, ?_, R0.p20⟩
        · rw [pre, if_neg h4, if_neg h2]
          unfold f_X0_listenAndWait_88
          rw [r10, if_neg h2, if_neg h1, vl_d, nI_1]
        · simp [rLw, rH, rDd, rEe, upd_s, upd_n, h15, h4, h2, h1]
theorem c_ending {nd d : Nat} {x : Int32} {σ : St} {V : Wd} (hnd : nd ≤ 8) (h : cW nd σ V) (hr : dW (V.1 d)) (hd : d < nd) (h15 : V.1 d 15 = 1) : ∃ σ', (∀ K, b_X0_endFrames_13 K x 8 (nI d) σ = K (x + cFf (V.1 d), 8, nI (d + 1), σ')) ∧ cW nd σ' (wOp rFf d V) ∧ fcW nd σ σ' := by
  obtain ⟨a1, ⟨e, a2, a2'⟩, ⟨e3, a3, a3'⟩, a4, a5, ⟨l, b1, b2, b3⟩, ⟨y, a7, a7'⟩, c1, c2, c3⟩ := hr
  have R0 : cR nd σ σ V d (V.1 d) V.2 := h.R
  obtain ⟨r, er⟩ : ∃ r, r = V.1 d := ⟨_, rfl⟩
  obtain ⟨s, es⟩ : ∃ s, s = V.2 := ⟨_, rfl⟩
  rw [← er] at a1 a2' a3' a4 a5 b2 b3 a7' c1 c2 c3 h15 R0
  rw [← es] at R0
  rw [← er]
  have hp := n8_ok (show d < 8 by omega)
  have g8 : ix (nI d) 8 := ix_nI (by omega) (by decide)
  have r10 := R0.g hd 10 (by decide) (by decide)
  have R1 := R0.put hd 18 (r 18 - 1) (by decide) (by decide)
  suffices hh : ∃ σ' r' s', (∀ K, b_X0_endFrames_13 K x 8 (nI d) σ = K (x + cFf r, 8, nI (d + 1), σ')) ∧ rFf r s = (r', s') ∧ cR nd σ σ' V d r' s' by
    obtain ⟨σ', r', s', q1, q2, q3⟩ := hh
    exact ⟨σ', q1, q3.to (by rw [← er, ← es]; exact q2)⟩
  have pre : ∀ K, b_X0_endFrames_13 K x 8 (nI d) σ = if r 10 = 4 then (if 0 < r 18 - 1 then K (x, 8, nI (d + 1), up2 σ (46 + d) 18 (r 18 - 1)) else cl (f_X0_endFrame d (up2 σ (46 + d) 18 (r 18 - 1))) fun r12 σ11 => K (x + r12, 8, nI (d + 1), σ11)) else K (x, 8, nI (d + 1), σ) := by
    intro K
    unfold b_X0_endFrames_13
    rw [if_neg hp, gd_t g8, vl_d, nt_nI (show d < 2147483648 by omega), r10, R0.g hd 18 (by decide) (by decide), vl_d, up2_at]
    simp only [vl_d, nI_1]
  by_cases h4 : r 10 = 4
  · obtain ⟨⟨q, q1, q2, q3⟩, q4⟩ := c3 h4
    by_cases h0 : r 18 - 1 = 0
    · have n0 : ¬ 0 < r 18 - 1 := by rw [q3]; rw [q3] at h0; exact fun z => (tk_ok q (by omega) q1).mp z h0
      have z19 := R1.g hd 19 (by decide) (by decide)
      rw [upd_n _ _ (by decide)] at z19
      by_cases h19 : r 19 = 0
      · have R2 := R1.put hd 6 (r 6 + 1) (by decide) (by decide)
        obtain ⟨σ', w1, w2⟩ := R2.gone hd
        refine ⟨σ', _, s, fun K => ?_, ?_, w2⟩
        · rw [pre, if_pos h4, if_neg n0]
          unfold f_X0_endFrame f_X2_frameSent
          rw [z19, if_pos h19, R1.g hd 6 (by decide) (by decide), upd_n _ _ (by decide), vl_d, w1, cl_some, cl_some, cl_some, show cFf r = 1 from by simp [cFf, h15, h4, h0, h19]]
        · simp [rFf, h15, h4, h0, h19]
      · have R2 := R1.put hd 14 (r 14 + 1) (by decide) (by decide)
        have R3 := R2.put hd 13 (r 13 + 1) (by decide) (by decide)
        have ec : cFf r = 0 := by simp [cFf, h15, h4, h0, h19]
        have pre2 : f_X2_foundHurt d (up2 σ (46 + d) 18 (r 18 - 1)) = if r 13 + 1 = 4 then (cl (f_X2_giveUp d (up2 (up2 (up2 σ (46 + d) 18 (r 18 - 1)) (46 + d) 14 (r 14 + 1)) (46 + d) 13 (r 13 + 1))) fun r5 σ4 => some ((0 : Int32), σ4)) else some (1, up2 (up2 (up2 σ (46 + d) 18 (r 18 - 1)) (46 + d) 14 (r 14 + 1)) (46 + d) 13 (r 13 + 1)) := by
          unfold f_X2_foundHurt
          rw [R1.g hd 14 (by decide) (by decide), upd_n _ _ (by decide), vl_d, R2.g hd 13 (by decide) (by decide), upd_n _ _ (by decide), upd_n _ _ (by decide), vl_d, up2_at, a7']
          by_cases hb : nI y + 1 = 4
          · rw [if_pos hb, if_neg (fun q => (hu_ok y (by omega)).mp q hb)]
          · rw [if_neg hb, if_pos ((hu_ok y (by omega)).mpr hb)]
        by_cases hb : r 13 + 1 = 4
        · obtain ⟨σ', w1, w2⟩ := R3.up hd
          refine ⟨σ', _, s, fun K => ?_, ?_, w2⟩
          · rw [pre, if_pos h4, if_neg n0]
            unfold f_X0_endFrame
            rw [z19, if_neg h19, pre2, if_pos hb, w1, cl_some, cl_some, if_pos rfl, cl_some, ec]
          · simp [rFf, rHu, upd_s, upd_n, h15, h4, h0, h19, hb]
        · obtain ⟨σ1, σ', w1, w2, w3⟩ := R3.beg hd a3 (by rw [upd_n _ _ (by decide), upd_n _ _ (by decide), upd_n _ _ (by decide)]; exact a3')
          refine ⟨σ', _, _, fun K => ?_, ?_, w3⟩
          · rw [pre, if_pos h4, if_neg n0]
            unfold f_X0_endFrame
            rw [z19, if_neg h19, pre2, if_neg hb, cl_some, if_neg (by decide), w1, cl_some, w2, cl_some, cl_some, ec]
          · simp [rFf, rHu, upd_n, h15, h4, h0, h19, hb]
    · refine ⟨_, _, s, fun K => ?_, ?_, R1⟩
      · rw [pre, if_pos h4, if_pos (by rw [q3]; rw [q3] at h0; exact (tk_ok q (by omega) q1).mpr h0), show cFf r = 0 from by simp [cFf, h15, h4, h0], Int32.add_zero]
      · simp [rFf, h15, h4, h0]
  · refine ⟨σ, r, s, fun K => ?_, ?_, R0⟩
    · rw [pre, if_neg h4, show cFf r = 0 from by simp [cFf, h4], Int32.add_zero]
    · simp [rFf, h4]
theorem c_holding {nd d : Nat} {σ : St} {V : Wd} (hnd : nd ≤ 8) (h : cW nd σ V) (hd : d < nd) (h15 : V.1 d 15 = 1) : ∃ σ', (∀ K, b_X0_holdAll_10 K 8 (nI d) σ = K (8, nI (d + 1), σ')) ∧ cW nd σ' (wOp (fun r s => (rHold r, s)) d V) ∧ fcW nd σ σ' := by
  have R0 : cR nd σ σ V d (V.1 d) V.2 := h.R
  have hp := n8_ok (show d < 8 by omega)
  have g8 : ix (nI d) 8 := ix_nI (by omega) (by decide)
  have r10 := R0.g hd 10 (by decide) (by decide)
  have pre : ∀ K, b_X0_holdAll_10 K 8 (nI d) σ = if V.1 d 10 = 1 then K (8, nI (d + 1), up2 σ (46 + d) 10 3) else if V.1 d 10 = 2 then K (8, nI (d + 1), up2 σ (46 + d) 10 3) else K (8, nI (d + 1), σ) := by
    intro K
    unfold b_X0_holdAll_10
    rw [if_neg hp, gd_t g8, vl_d, nt_nI (show d < 2147483648 by omega), r10]
    simp only [vl_d, nI_1]
  have R1 := R0.put hd 10 3 (by decide) (by decide)
  by_cases h1 : V.1 d 10 = 1
  · exact ⟨_, fun K => by rw [pre, if_pos h1], R1.to (by simp [rHold, h15, h1])⟩
  · by_cases h2 : V.1 d 10 = 2
    · exact ⟨_, fun K => by rw [pre, if_neg h1, if_pos h2], R1.to (by simp [rHold, h15, h2])⟩
    · exact ⟨σ, fun K => by rw [pre, if_neg h1, if_neg h2], R0.to (by simp [rHold, h1, h2])⟩
/-! a device that rests or is held, and takes no part -/
theorem q_ne {x : Int32} (h : x = 0 ∨ x = 3) : ¬ x = 1 ∧ ¬ x = 2 ∧ ¬ x = 4 := by rcases h with e | e <;> rw [e] <;> decide
theorem q_listen {k : Nat} {σ : St} (hk : k < 8) (h10 : σ (46 + k) 10 = 0 ∨ σ (46 + k) 10 = 3) (K : Int32 × Int32 × St → Option (Unit × St)) : b_X0_listenAndWait_10 K 8 (nI k) σ = K (8, nI (k + 1), σ) := by
  obtain ⟨n1, n2, n4⟩ := q_ne h10
  unfold b_X0_listenAndWait_10
  rw [if_neg (n8_ok hk), gd_t (ix_nI hk (by decide)), vl_d, nt_nI (show k < 2147483648 by omega), if_neg n4, if_neg n2]
  unfold f_X0_listenAndWait_88
  rw [if_neg n2, if_neg n1, vl_d, nI_1]
theorem q_ending {k : Nat} {x : Int32} {σ : St} (hk : k < 8) (h10 : σ (46 + k) 10 = 0 ∨ σ (46 + k) 10 = 3) (K : Int32 × Int32 × Int32 × St → Option (Int32 × St)) : b_X0_endFrames_13 K x 8 (nI k) σ = K (x, 8, nI (k + 1), σ) := by
  obtain ⟨n1, n2, n4⟩ := q_ne h10
  unfold b_X0_endFrames_13
  rw [if_neg (n8_ok hk), gd_t (ix_nI hk (by decide)), vl_d, nt_nI (show k < 2147483648 by omega), if_neg n4, vl_d, nI_1]
theorem q_holding {k : Nat} {σ : St} (hk : k < 8) (h10 : σ (46 + k) 10 = 0 ∨ σ (46 + k) 10 = 3) (K : Int32 × Int32 × St → Option (Unit × St)) : b_X0_holdAll_10 K 8 (nI k) σ = K (8, nI (k + 1), σ) := by
  obtain ⟨n1, n2, n4⟩ := q_ne h10
  unfold b_X0_holdAll_10
  rw [if_neg (n8_ok hk), gd_t (ix_nI hk (by decide)), vl_d, nt_nI (show k < 2147483648 by omega), if_neg n1, if_neg n2, vl_d, nI_1]
