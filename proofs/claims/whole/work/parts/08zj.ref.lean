/-! the same, the reference's side -/
theorem mR.s55 {nd d : Nat} {τ0 τ : St} {V : Wd} {r : Rw} {s : Int32} (h : mR nd τ0 τ V d r s) (hd : d < nd) (v : Int32) : mR nd τ0 (up2 τ 55 d v) V d r s := by
  refine ⟨⟨fun d' hd' j j1 j2 => by rw [up2_r (by omega)]; exact h.1.1 d' hd' j j1 j2, by rw [up2_r (by decide)]; exact h.1.2⟩, h.2.tr ⟨fun a b c => up2_ne (by omega), fun j _ => by rw [up2_r (by decide)], fun a d' hd' _ => ?_⟩⟩
  rw [up2_g, if_neg (by omega)]
theorem mR.to {nd d : Nat} {τ τ' : St} {V : Wd} {F : Rw → Int32 → Rw × Int32} {r : Rw} {s : Int32} (h : mR nd τ τ' V d r s) (e : F (V.1 d) V.2 = (r, s)) : mW nd τ' (wOp F d V) ∧ fmW nd τ τ' := by
  rw [wOp_put, e]
  exact h
theorem mR.draw5 {nd d e : Nat} {τ0 τ : St} {V : Wd} {r : Rw} {s : Int32} (hnd : nd ≤ 8) (h : mR nd τ0 τ V d r s) (hd : d < nd) (he : e ≤ 5) (e11 : r 11 = nI e) : ∃ τ', f_X8_draws (nI d) τ = some ((), τ') ∧ mR nd τ0 τ' V d (rDraw r s).1 (rDraw r s).2 ∧ τ' 55 = τ 55 := by
  obtain ⟨τ', q1, q2⟩ := h.draw hnd hd he e11
  refine ⟨τ', q1, q2, ?_⟩
  have g8 : ix (nI d) 8 := ix_nI (by omega) (by decide)
  have r11 : up2 τ 0 22 (sNext (τ 0 22)) 46 d = nI e := by rw [up2_r (by decide)]; exact (h.g hd 11 (by decide) (by decide)).trans e11
  have q0 : f_X8_draws (nI d) τ = some ((), up2 (up2 (up2 τ 0 22 (sNext (τ 0 22))) 51 d (sWait (sNext (τ 0 22)) (nI e))) 45 d 1) := by
    unfold f_X8_draws
    rw [vl_d, show (((7919 : Int32) * τ 0 22) + (12345 : Int32)) - (((7919 : Int32) * τ 0 22) + (12345 : Int32)) / (65521 : Int32) * (65521 : Int32) = sNext (τ 0 22) from rfl, gd_t g8, nt_nI (by omega), r11, gd_t (sh1 e (by omega)), gd_t g8, up2_at, vl_d, gd_t g8, vl_d]
    rfl
  have e' := q1.symm.trans q0
  injection e' with e'
  injection e' with _ e'
  rw [e', up2_ne (by decide), up2_ne (by decide), up2_ne (by decide)]
theorem mR.gone {nd d : Nat} {τ0 τ : St} {V : Wd} {r : Rw} {s : Int32} (hnd : nd ≤ 8) (h : mR nd τ0 τ V d r s) (hd : d < nd) : ∃ τ', f_X8_goneFrame (nI d) τ = some ((), τ') ∧ mR nd τ0 τ' V d (rGone r) s ∧ τ' 55 = τ 55 := by
  have g8 : ix (nI d) 8 := ix_nI (by omega) (by decide)
  have h1 := h.put hd 4 (r 4 - 1) (by decide) (by decide)
  have h2 := h1.put hd 10 0 (by decide) (by decide)
  have h3 := h2.put hd 13 0 (by decide) (by decide)
  refine ⟨_, ?_, h3, by rw [up2_ne (by decide), up2_ne (by decide), up2_ne (by decide)]⟩
  unfold f_X8_goneFrame
  rw [gd_t g8, gd_t g8, nt_nI (by omega), show τ 39 d = r 4 from h.g hd 4 (by decide) (by decide), vl_d, gd_t g8, vl_d, gd_t g8, vl_d]
theorem mR.beg {nd d e : Nat} {τ0 τ : St} {V : Wd} {r : Rw} {s : Int32} (hnd : nd ≤ 8) (h : mR nd τ0 τ V d r s) (hd : d < nd) (he : e ≤ 3) (e3 : r 3 = nI e) : ∃ τ', f_X8_begins (nI d) τ = some ((), τ') ∧ mR nd τ0 τ' V d (rDraw (upd (upd r 12 0) 11 (r 3)) s).1 (rDraw (upd (upd r 12 0) 11 (r 3)) s).2 := by
  have g8 : ix (nI d) 8 := ix_nI (by omega) (by decide)
  have h1 := h.put hd 12 0 (by decide) (by decide)
  have h2 := h1.put hd 11 (r 3) (by decide) (by decide)
  obtain ⟨τ', q1, q2⟩ := h2.draw hnd hd (e := e) (by omega) (by rw [upd_s]; exact e3)
  refine ⟨τ', ?_, q2⟩
  unfold f_X8_begins
  rw [gd_t g8, vl_d, gd_t g8, gd_t g8, vl_d, nt_nI (by omega), show up2 τ 47 d 0 38 d = r 3 from by rw [up2_r (by decide)]; exact h.g hd 3 (by decide) (by decide)]
  rw [show f_X8_draws (nI d) (up2 (up2 τ 47 d 0) 46 d (r 3)) = some ((), τ') from q1, cl_some]
theorem f35 {nd k : Nat} {τ τk : St} (hnd : nd ≤ 8) (hk : k < nd) (h35 : τ 0 35 = nI nd) (m : fmW nd τ τk) : ¬ τk 0 35 ≤ nI k := by
  rw [m.2.1 35 (by decide), h35, nI_leI (by omega) (by omega)]
  omega
theorem f35e {nd : Nat} {τ τk : St} (hnd : nd ≤ 8) (h35 : τ 0 35 = nI nd) (m : fmW nd τ τk) : τk 0 35 ≤ nI nd := by
  rw [m.2.1 35 (by decide), h35]
  exact nI_le (Nat.le_refl _) (by omega)
/-- step D -/
theorem mW.D {nd : Nat} {b : Int32} {τ : St} {W : Wd} (hnd : nd ≤ 8) (h35 : τ 0 35 = nI nd) (h : mW nd τ W) (hI : ∀ d, d < nd → dW (W.1 d)) (h20 : ∀ d, W.1 d 20 = 0) : ∃ τ', f_X8_stepD b τ = some ((), τ') ∧ mW nd τ' (wF (wOp (rDd b)) W nd) ∧ fmW nd τ τ' ∧ ∀ d, d < nd → τ' 55 d = (wF (wOp (rDd b)) W nd).1 d 20 := by
  obtain ⟨r, hr, τ', rfl, q1, q2, q3⟩ := dev_loop (b := fun K a => b_X8_stepD_2 K a.1 a.2.1 a.2.2) hnd (fun x i τ => (b, i, τ)) (rDd b) (fun _ => 0) (fun k V τk => ∀ d, d < k → τk 55 d = V.1 d 20) (Q := fun r => ∃ τ', r = ((), τ') ∧ mW nd τ' (wF (wOp (rDd b)) W nd) ∧ fmW nd τ τ' ∧ ∀ d, d < nd → τ' 55 d = (wF (wOp (rDd b)) W nd).1 d 20) (x0 := 0) h (fun d hd => absurd hd (by omega))
    (fun k τk V x hk m1 m2 m3 m4 => by
      have g8 : ix (nI k) 8 := ix_nI (by omega) (by decide)
      have M0 := (m1.R (d := k)).s55 hk 0
      obtain ⟨a1, ⟨e, a2, a2'⟩, a3, a4, a5, ⟨l, b1, b2, b3⟩, a7, c1, c2, c3⟩ := hI k hk
      have z20 := h20 k
      rw [m2] at M0
      obtain ⟨r, er⟩ : ∃ r, r = W.1 k := ⟨_, rfl⟩
      obtain ⟨s, es⟩ : ∃ s, s = V.2 := ⟨_, rfl⟩
      rw [← er] at a1 a2' a4 a5 b2 b3 a7 c1 c2 c3 M0 z20
      rw [← es] at M0
      suffices hh : ∃ τ' r' s', (∀ K, b_X8_stepD_2 K b (nI k) τk = K (b, nI (k + 1), τ')) ∧ rDd b r s = (r', s') ∧ mR nd τk τ' V k r' s' ∧ τ' 55 = upd (τk 55) k (r' 20) by
        obtain ⟨τ', r', s', q1, q2, q3, q4⟩ := hh
        have eF : rDd b (V.1 k) V.2 = (r', s') := by rw [m2, ← er, ← es]; exact q2
        have q5 := q3.to eF
        refine ⟨τ', q1, q5.1, q5.2, fun d hd => ?_⟩
        rw [q4]
        by_cases ed : d = k
        · rw [ed, upd_s, wOp_row, eF]
        · rw [upd_n _ _ ed, wOp_ne _ _ ed]; exact m4 d (by omega)
      have e55 : up2 τk 55 k 0 55 = upd (τk 55) k 0 := up2_row _ _ _ _
      have z15 : up2 τk 55 k 0 50 k = r 15 := M0.g hk 15 (by decide) (by decide)
      have z10 : up2 τk 55 k 0 45 k = r 10 := M0.g hk 10 (by decide) (by decide)
      have z17 : up2 τk 55 k 0 52 k = r 17 := M0.g hk 17 (by decide) (by decide)
      have z12 : up2 τk 55 k 0 47 k = r 12 := M0.g hk 12 (by decide) (by decide)
      have M1 := M0.put hk 12 (r 12 + 1) (by decide) (by decide)
      have z11 : up2 (up2 τk 55 k 0) 47 k (r 12 + 1) 46 k = r 11 := (M1.g hk 11 (by decide) (by decide)).trans (upd_n _ _ (by decide))
      have pre : ∀ K, b_X8_stepD_2 K b (nI k) τk = if r 15 = 1 then (if r 10 = 2 then (if b = 0 then K (b, nI (k + 1), up2 (up2 τk 55 k 0) 52 k (r 17 + 1)) else f_X8_stepD_91 K b (nI k) (if r 11 = 5 then 5 else r 11 + 1) (nI k) (up2 (up2 τk 55 k 0) 47 k (r 12 + 1))) else K (b, nI (k + 1), up2 τk 55 k 0)) else K (b, nI (k + 1), up2 τk 55 k 0) := by
        intro K
        unfold b_X8_stepD_2
        rw [if_neg (f35 hnd hk h35 m3), gd_t g8, nt_nI (show k < 2147483648 by omega), vl_d, z15, z10, z17, z12]
        simp only [gd_t g8, vl_d, z11, nI_1]
        by_cases h11 : r 11 = 5
        · rw [if_pos h11, if_pos h11]
        · rw [if_neg h11, if_neg h11]
      by_cases h15 : r 15 = 1
      · by_cases h2 : r 10 = 2
        · by_cases hb : b = 0
          · refine ⟨_, upd r 17 (r 17 + 1), s, fun K => by rw [pre, if_pos h15, if_pos h2, if_pos hb], by simp [rDd, h15, h2, hb], M0.put hk 17 _ (by decide) (by decide), ?_⟩
            rw [up2_ne (by decide), e55, upd_n _ _ (by decide), z20]
          · have M2 := M1.put hk 11 (if r 11 = 5 then 5 else r 11 + 1) (by decide) (by decide)
            have y12 : up2 (up2 (up2 τk 55 k 0) 47 k (r 12 + 1)) 46 k (if r 11 = 5 then 5 else r 11 + 1) 47 k = r 12 + 1 := by rw [up2_r (by decide), up2_at]
            obtain ⟨e', f1, f2⟩ := fb_le e (by omega)
            by_cases h5 : r 12 + 1 = 5
            · have M3 := M2.put hk 7 (r 7 + 1) (by decide) (by decide)
              obtain ⟨τ', w1, w2, w3⟩ := M3.gone hnd hk
              refine ⟨τ', _, s, fun K => ?_, by simp [rDd, rBusy, h15, h2, hb, h5], w2, ?_⟩
              · rw [pre, if_pos h15, if_pos h2, if_neg hb]
                unfold f_X8_stepD_91
                rw [gd_t g8, nt_nI (show k < 2147483648 by omega), vl_d, gd_t g8, y12, if_pos h5, gd_t g8, gd_t g8, show up2 (up2 (up2 τk 55 k 0) 47 k (r 12 + 1)) 46 k (if r 11 = 5 then 5 else r 11 + 1) 42 k = r 7 from (M2.g hk 7 (by decide) (by decide)).trans (by rw [upd_n _ _ (by decide), upd_n _ _ (by decide)]), vl_d, w1, cl_some, vl_d, nI_1]
              · rw [w3, up2_ne (by decide), up2_ne (by decide), up2_ne (by decide), e55]
                simp [rGone, upd_n, z20]
            · obtain ⟨τ', w1, w2, w3⟩ := M2.draw5 hnd hk (e := e') (by omega) (by rw [upd_s, a2']; exact f2)
              refine ⟨up2 τ' 55 k 1, _, _, fun K => ?_, ?_, (w2.s55 hk 1).p20 (v := 1), ?_⟩
              · rw [pre, if_pos h15, if_pos h2, if_neg hb]
                unfold f_X8_stepD_91
                rw [gd_t g8, nt_nI (show k < 2147483648 by omega), vl_d, gd_t g8, y12, if_neg h5, w1, cl_some, gd_t g8, vl_d, vl_d, nI_1]
              · simp [rDd, rBusy, h15, h2, hb, h5]
              · rw [up2_row, w3, up2_ne (by decide), up2_ne (by decide), e55, upd_s]
                funext j
                by_cases ej : j = k
                · rw [ej, upd_s, upd_s]
                · rw [upd_n _ _ ej, upd_n _ _ ej, upd_n _ _ ej]
        · exact ⟨_, r, s, fun K => by rw [pre, if_pos h15, if_neg h2], by simp [rDd, h2], M0, by rw [e55, z20]⟩
      · exact ⟨_, r, s, fun K => by rw [pre, if_neg h15], by simp [rDd, h15], M0, by rw [e55, z20]⟩)
    (fun τ' V x eV m1 m2 m3 _ => by
      subst eV
      refine ⟨_, ⟨τ', rfl, m1, m2, m3⟩, fun K => ?_⟩
      show b_X8_stepD_2 K b (nI nd) τ' = _
      unfold b_X8_stepD_2
      rw [if_pos (f35e hnd h35 m2)])
  exact ⟨τ', hr, q1, q2, q3⟩
/-- step E -/
theorem mW.E {nd : Nat} {τ : St} {W : Wd} (hnd : nd ≤ 8) (h35 : τ 0 35 = nI nd) (h : mW nd τ W) (h20 : ∀ d, d < nd → τ 55 d = W.1 d 20) : ∃ τ', f_X8_stepE τ = some ((), τ') ∧ mW nd τ' (wF (wOp (fun r s => (rEe r, s))) W nd) ∧ fmW nd τ τ' := by
  obtain ⟨r, hr, τ', rfl, q1, q2⟩ := dev_loop (b := fun K a => b_X8_stepE_2 K a.1 a.2) hnd (fun x i τ => (i, τ)) (fun r s => (rEe r, s)) (fun _ => 0) (fun k V τk => τk 55 = τ 55) (Q := fun r => ∃ τ', r = ((), τ') ∧ mW nd τ' (wF (wOp (fun r s => (rEe r, s))) W nd) ∧ fmW nd τ τ') (x0 := 0) h rfl
    (fun k τk V x hk m1 m2 m3 m4 => by
      have g8 : ix (nI k) 8 := ix_nI (by omega) (by decide)
      have M0 := m1.R (d := k)
      rw [m2] at M0
      obtain ⟨r, er⟩ : ∃ r, r = W.1 k := ⟨_, rfl⟩
      obtain ⟨s, es⟩ : ∃ s, s = V.2 := ⟨_, rfl⟩
      rw [← er, ← es] at M0
      suffices hh : ∃ τ' r', (∀ K, b_X8_stepE_2 K (nI k) τk = K (nI (k + 1), τ')) ∧ rEe r = r' ∧ mR nd τk τ' V k r' s ∧ τ' 55 = τk 55 by
        obtain ⟨τ', r', q1, q2, q3, q4⟩ := hh
        have q5 := q3.to (F := fun r s => (rEe r, s)) (by show (rEe (V.1 k), V.2) = _; rw [m2, ← er, ← es, q2])
        exact ⟨τ', q1, q5.1, q5.2, q4.trans m4⟩
      have z15 : τk 50 k = r 15 := M0.g hk 15 (by decide) (by decide)
      have z10 : τk 45 k = r 10 := M0.g hk 10 (by decide) (by decide)
      have z16 : τk 51 k = r 16 := M0.g hk 16 (by decide) (by decide)
      have z20 : τk 55 k = r 20 := by rw [m4, er]; exact h20 k hk
      have pre : ∀ K, b_X8_stepE_2 K (nI k) τk = if r 15 = 1 then (if r 10 = 1 then (if r 20 = 0 then (if r 16 ≤ 0 then K (nI (k + 1), τk) else K (nI (k + 1), up2 τk 51 k (r 16 - 1))) else K (nI (k + 1), τk)) else K (nI (k + 1), τk)) else K (nI (k + 1), τk) := by
        intro K
        unfold b_X8_stepE_2
        rw [if_neg (f35 hnd hk h35 m3)]
        simp only [gd_t g8, nt_nI (show k < 2147483648 by omega), z15, z10, z16, z20, vl_d, nI_1]
      by_cases h15 : r 15 = 1
      · by_cases h1 : r 10 = 1
        · by_cases h0 : r 20 = 0
          · by_cases h6 : r 16 ≤ 0
            · exact ⟨τk, _, fun K => by rw [pre, if_pos h15, if_pos h1, if_pos h0, if_pos h6], by simp only [rEe, if_pos h15, if_pos h1, if_pos h0, if_pos h6, upd_self], M0.p20 (v := 0), rfl⟩
            · exact ⟨_, _, fun K => by rw [pre, if_pos h15, if_pos h1, if_pos h0, if_neg h6], by simp only [rEe, if_pos h15, if_pos h1, if_pos h0, if_neg h6], (M0.put hk 16 _ (by decide) (by decide)).p20 (v := 0), up2_ne (by decide)⟩
          · exact ⟨τk, _, fun K => by rw [pre, if_pos h15, if_pos h1, if_neg h0], by simp only [rEe, if_pos h15, if_pos h1, if_neg h0], M0.p20 (v := 0), rfl⟩
        · exact ⟨τk, _, fun K => by rw [pre, if_pos h15, if_neg h1], by simp only [rEe, if_pos h15, if_neg h1], M0.p20 (v := 0), rfl⟩
      · exact ⟨τk, _, fun K => by rw [pre, if_neg h15], by simp only [rEe, if_neg h15], M0, rfl⟩)
    (fun τ' V x eV m1 m2 m3 _ => by
      subst eV
      refine ⟨_, ⟨τ', rfl, m1, m2⟩, fun K => ?_⟩
      show b_X8_stepE_2 K (nI nd) τ' = _
      unfold b_X8_stepE_2
      rw [if_pos (f35e hnd h35 m2)])
  exact ⟨τ', hr, q1, q2⟩
/-- step F -/
theorem mW.F {nd : Nat} {τ : St} {W : Wd} (hnd : nd ≤ 8) (h35 : τ 0 35 = nI nd) (h : mW nd τ W) (hI : ∀ d, d < nd → dW (W.1 d)) : ∃ τ', f_X8_stepF τ = some ((List.range nd).foldl (fun x d => x + cFf (W.1 d)) 0, τ') ∧ mW nd τ' (wF (wOp rFf) W nd) ∧ fmW nd τ τ' := by
  obtain ⟨r, hr, τ', rfl, q1, q2⟩ := dev_loop (b := fun K a => b_X8_stepF_4 K a.1 a.2.1 a.2.2) hnd (fun x i τ => (x, i, τ)) rFf cFf (fun _ _ _ => True) (Q := fun r => ∃ τ', r = ((List.range nd).foldl (fun x d => x + cFf (W.1 d)) 0, τ') ∧ mW nd τ' (wF (wOp rFf) W nd) ∧ fmW nd τ τ') (x0 := 0) h trivial
    (fun k τk V x hk m1 m2 m3 m4 => by
      have g8 : ix (nI k) 8 := ix_nI (by omega) (by decide)
      have M0 := m1.R (d := k)
      obtain ⟨a1, a2, ⟨e3, a3, a3'⟩, a4, a5, a6, ⟨y, a7, a7'⟩, c1, c2, c3⟩ := hI k hk
      rw [m2] at M0
      obtain ⟨r, er⟩ : ∃ r, r = W.1 k := ⟨_, rfl⟩
      obtain ⟨s, es⟩ : ∃ s, s = V.2 := ⟨_, rfl⟩
      rw [← er] at a3' a7' c3 M0
      rw [← es] at M0
      rw [← er]
      suffices hh : ∃ τ' r' s', (∀ K, b_X8_stepF_4 K x (nI k) τk = K (x + cFf r, nI (k + 1), τ')) ∧ rFf r s = (r', s') ∧ mR nd τk τ' V k r' s' by
        obtain ⟨τ', r', s', q1, q2, q3⟩ := hh
        have q5 := q3.to (F := rFf) (by rw [m2, ← er, ← es]; exact q2)
        exact ⟨τ', q1, q5.1, q5.2, trivial⟩
      have z15 : τk 50 k = r 15 := M0.g hk 15 (by decide) (by decide)
      have z10 : τk 45 k = r 10 := M0.g hk 10 (by decide) (by decide)
      have z18 : τk 53 k = r 18 := M0.g hk 18 (by decide) (by decide)
      have M1 := M0.put hk 18 (r 18 - 1) (by decide) (by decide)
      have pre : ∀ K, b_X8_stepF_4 K x (nI k) τk = if r 15 = 1 then (if r 10 = 4 then (if r 18 - 1 = 0 then (cl (f_X8_ends (nI k) (up2 τk 53 k (r 18 - 1))) fun r15 σ14 => K (x + r15, nI (k + 1), σ14)) else K (x, nI (k + 1), up2 τk 53 k (r 18 - 1))) else K (x, nI (k + 1), τk)) else K (x, nI (k + 1), τk) := by
        intro K
        unfold b_X8_stepF_4
        rw [if_neg (f35 hnd hk h35 m3)]
        simp only [gd_t g8, nt_nI (show k < 2147483648 by omega), z15, z10, z18, vl_d, nI_1, up2_at]
      by_cases h15 : r 15 = 1
      · by_cases h4 : r 10 = 4
        · by_cases h0 : r 18 - 1 = 0
          · have y19 : up2 τk 53 k (r 18 - 1) 54 k = r 19 := (M1.g hk 19 (by decide) (by decide)).trans (upd_n _ _ (by decide))
            have y6 : up2 τk 53 k (r 18 - 1) 41 k = r 6 := (M1.g hk 6 (by decide) (by decide)).trans (upd_n _ _ (by decide))
            have y14 : up2 τk 53 k (r 18 - 1) 49 k = r 14 := (M1.g hk 14 (by decide) (by decide)).trans (upd_n _ _ (by decide))
            by_cases h19 : r 19 = 0
            · have M2 := M1.put hk 6 (r 6 + 1) (by decide) (by decide)
              obtain ⟨τ', w1, w2, _⟩ := M2.gone hnd hk
              refine ⟨τ', _, s, fun K => ?_, by simp only [rFf, if_pos h15, if_pos h4, if_pos h0, if_pos h19], w2⟩
              rw [pre, if_pos h15, if_pos h4, if_pos h0]
              unfold f_X8_ends
              rw [gd_t g8, nt_nI (show k < 2147483648 by omega), y19, if_pos h19, gd_t g8, gd_t g8, y6, vl_d, w1, cl_some, cl_some, show cFf r = 1 from by simp [cFf, h15, h4, h0, h19]]
            · have M2 := M1.put hk 14 (r 14 + 1) (by decide) (by decide)
              have M3 := M2.put hk 13 (r 13 + 1) (by decide) (by decide)
              have ec : cFf r = 0 := by simp [cFf, h15, h4, h0, h19]
              have y13 : up2 (up2 τk 53 k (r 18 - 1)) 49 k (r 14 + 1) 48 k = r 13 := (M2.g hk 13 (by decide) (by decide)).trans (by rw [upd_n _ _ (by decide), upd_n _ _ (by decide)])
              have y7 : up2 (up2 (up2 τk 53 k (r 18 - 1)) 49 k (r 14 + 1)) 48 k (r 13 + 1) 42 k = r 7 := (M3.g hk 7 (by decide) (by decide)).trans (by rw [upd_n _ _ (by decide), upd_n _ _ (by decide), upd_n _ _ (by decide)])
              have pre2 : f_X8_ends (nI k) (up2 τk 53 k (r 18 - 1)) = if r 13 + 1 = 4 then (cl (f_X8_goneFrame (nI k) (up2 (up2 (up2 (up2 τk 53 k (r 18 - 1)) 49 k (r 14 + 1)) 48 k (r 13 + 1)) 42 k (r 7 + 1))) fun r18 σ17 => some ((0 : Int32), σ17)) else (cl (f_X8_begins (nI k) (up2 (up2 (up2 τk 53 k (r 18 - 1)) 49 k (r 14 + 1)) 48 k (r 13 + 1))) fun r12 σ11 => some ((0 : Int32), σ11)) := by
                unfold f_X8_ends
                rw [gd_t g8, nt_nI (show k < 2147483648 by omega), y19, if_neg h19, gd_t g8, gd_t g8, y14, vl_d, gd_t g8, gd_t g8, y13, vl_d, gd_t g8, up2_at, gd_t g8, gd_t g8, y7, vl_d]
              by_cases hb : r 13 + 1 = 4
              · have M4 := M3.put hk 7 (r 7 + 1) (by decide) (by decide)
                obtain ⟨τ', w1, w2, _⟩ := M4.gone hnd hk
                refine ⟨τ', _, s, fun K => ?_, by simp only [rFf, rHu, if_pos h15, if_pos h4, if_pos h0, if_neg h19, if_pos hb], w2⟩
                rw [pre, if_pos h15, if_pos h4, if_pos h0, pre2, if_pos hb, w1, cl_some, cl_some, ec]
              · obtain ⟨τ', w1, w2⟩ := M3.beg hnd hk a3 (by rw [upd_n _ _ (by decide), upd_n _ _ (by decide), upd_n _ _ (by decide)]; exact a3')
                refine ⟨τ', _, _, fun K => ?_, ?_, w2⟩
                · rw [pre, if_pos h15, if_pos h4, if_pos h0, pre2, if_neg hb, w1, cl_some, cl_some, ec]
                · simp [rFf, rHu, upd_n, h15, h4, h0, h19, hb]
          · refine ⟨_, _, s, fun K => ?_, by simp only [rFf, if_pos h15, if_pos h4, if_neg h0], M1⟩
            rw [pre, if_pos h15, if_pos h4, if_neg h0, show cFf r = 0 from by simp [cFf, h0], Int32.add_zero]
        · refine ⟨τk, r, s, fun K => ?_, by simp only [rFf, if_pos h15, if_neg h4], M0⟩
          rw [pre, if_pos h15, if_neg h4, show cFf r = 0 from by simp [cFf, h4], Int32.add_zero]
      · refine ⟨τk, r, s, fun K => ?_, by simp only [rFf, if_neg h15], M0⟩
        rw [pre, if_neg h15, show cFf r = 0 from by simp [cFf, h15], Int32.add_zero])
    (fun τ' V x eV m1 m2 m3 ex => by
      subst eV
      refine ⟨_, ⟨τ', rfl, m1, m2⟩, fun K => ?_⟩
      show b_X8_stepF_4 K x (nI nd) τ' = _
      unfold b_X8_stepF_4
      rw [if_pos (f35e hnd h35 m2), ex])
  exact ⟨τ', hr, q1, q2⟩
