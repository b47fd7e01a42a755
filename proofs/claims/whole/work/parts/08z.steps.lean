/-! contention: one device's steps -/
def wBeg (d : Nat) (W : Wd) : Wd := wDraw d (wSet (wSet W d 12 0) d 11 (W.1 d 3))
def wA (t : Int32) (d : Nat) (W : Wd) : Wd := if W.1 d 15 = 1 then (if W.1 d 10 = 0 then (if W.1 d 4 ≤ 0 then W else wBeg d W) else if W.1 d 10 = 3 then (if t = 1 then wDraw d W else W) else W) else W
def wB (t K : Int32) (d : Nat) (W : Wd) : Wd := if W.1 d 15 = 1 then (if W.1 d 10 = 1 then (if W.1 d 16 = 0 then (if K < (t + W.1 d 2) + 2 then wSet (wSet W d 10 3) d 17 0 else wSet (wSet W d 10 2) d 17 0) else W) else W) else W
def wC (d : Nat) (W : Wd) : Wd := if W.1 d 15 = 1 then (if W.1 d 10 = 2 then (if W.1 d 17 = 2 then wSet (wSet (wSet W d 10 4) d 18 (W.1 d 2)) d 19 0 else W) else W) else W
def dW (r : Nat → Int32) : Prop :=
  (r 15 = 0 ∨ r 15 = 1) ∧ (∃ e, e ≤ 5 ∧ r 11 = nI e) ∧ (∃ e, e ≤ 3 ∧ r 3 = nI e) ∧ (∃ x, 1 ≤ x ∧ x ≤ 8 ∧ r 2 = nI x) ∧ (r 10 = 0 ∨ r 10 = 1 ∨ r 10 = 2 ∨ r 10 = 3 ∨ r 10 = 4) ∧ (∃ l, l ≤ 5 ∧ r 12 = nI l ∧ (r 10 ≠ 0 → l ≤ 4)) ∧ (∃ x, x ≤ 3 ∧ r 13 = nI x) ∧
  (r 10 = 1 → ∃ w, w ≤ 31 ∧ r 16 = nI w) ∧ (r 10 = 2 → ∃ f, f ≤ 2 ∧ r 17 = nI f) ∧ (r 10 = 4 → (∃ t, 1 ≤ t ∧ t ≤ 8 ∧ r 18 = nI t) ∧ (r 19 = 0 ∨ r 19 = 1))
def wI (nd : Nat) (W : Wd) : Prop := (∃ sd, sd ≤ 65520 ∧ W.2 = nI sd) ∧ ∀ d, d < nd → dW (W.1 d)
theorem wSet_row (W : Wd) (d j : Nat) (v : Int32) : (wSet W d j v).1 d = upd (W.1 d) j v := up2_row _ _ _ _
theorem wSet_ne (W : Wd) {d d' j : Nat} {v : Int32} (h : d' ≠ d) : (wSet W d j v).1 d' = W.1 d' := up2_ne h
theorem wDraw_row (W : Wd) (d : Nat) : (wDraw d W).1 d = upd (upd (W.1 d) 10 1) 16 (sWait (sNext W.2) (W.1 d 11)) := by
  show up2 (up2 W.1 d 10 1) d 16 (sWait (sNext W.2) (W.1 d 11)) d = _
  rw [up2_row, up2_row]
theorem wDraw_ne (W : Wd) {d d' : Nat} (h : d' ≠ d) : (wDraw d W).1 d' = W.1 d' := by
  show up2 (up2 W.1 d 10 1) d 16 (sWait (sNext W.2) (W.1 d 11)) d' = _
  rw [up2_ne h, up2_ne h]
theorem sNext_ok {sd : Nat} (h : sd ≤ 65520) : ∃ s, s ≤ 65520 ∧ sNext (nI sd) = nI s := by
  refine ⟨(7919 * sd + 12345) % 65521, by have := Nat.mod_lt (7919 * sd + 12345) (show 0 < 65521 by decide); omega, ?_⟩
  unfold sNext
  rw [show (7919 : Int32) = nI 7919 from rfl, show (12345 : Int32) = nI 12345 from rfl, show (65521 : Int32) = nI 65521 from rfl, pk_mul, nI_add, pk_rem (by omega) (by decide) (by decide)]
theorem sh1n : ∀ e, e < 6 → (1 : Int32) <<< (nI e &&& 31) = nI (2 ^ e) := by decide +kernel
theorem sWait_ok {s e : Nat} (hs : s ≤ 65520) (he : e ≤ 5) : ∃ w, w ≤ 31 ∧ sWait (nI s) (nI e) = nI w := by
  have hp := pow_le he
  have h1 := pow_le (show 0 ≤ e from Nat.zero_le _)
  have hm := Nat.mod_lt s (show 0 < 2 ^ e by omega)
  refine ⟨s % 2 ^ e, by omega, ?_⟩
  unfold sWait
  rw [sh1n e (by omega), pk_rem (by omega) (by omega) (by omega)]
theorem wDraw_I {nd d : Nat} {W : Wd} (hs : ∃ sd, sd ≤ 65520 ∧ W.2 = nI sd) (ho : ∀ d', d' < nd → d' ≠ d → dW (W.1 d')) (h1 : W.1 d 15 = 0 ∨ W.1 d 15 = 1) (h2 : ∃ e, e ≤ 5 ∧ W.1 d 11 = nI e) (h3 : ∃ e, e ≤ 3 ∧ W.1 d 3 = nI e) (h4 : ∃ x, 1 ≤ x ∧ x ≤ 8 ∧ W.1 d 2 = nI x) (h5 : ∃ l, l ≤ 4 ∧ W.1 d 12 = nI l) (h6 : ∃ x, x ≤ 3 ∧ W.1 d 13 = nI x) : wI nd (wDraw d W) := by
  obtain ⟨sd, s1, s2⟩ := hs
  obtain ⟨s, t1, t2⟩ := sNext_ok s1
  obtain ⟨e, e1, e2⟩ := h2
  obtain ⟨w, w1, w2⟩ := sWait_ok t1 e1
  refine ⟨⟨s, t1, by show sNext W.2 = _; rw [s2, t2]⟩, fun d' hd' => ?_⟩
  by_cases hd : d' = d
  · subst hd
    rw [wDraw_row, s2, t2, e2, w2]
    obtain ⟨l, l1, l2⟩ := h5
    exact ⟨h1, ⟨e, e1, e2⟩, h3, h4, Or.inr (Or.inl rfl), ⟨l, by omega, l2, fun _ => l1⟩, h6, fun _ => ⟨w, w1, rfl⟩, fun q => absurd (show (1 : Int32) = 2 from q) (by decide), fun q => absurd (show (1 : Int32) = 4 from q) (by decide)⟩
  · rw [wDraw_ne W hd]
    exact ho d' hd' hd
theorem wBeg_I {nd d : Nat} {W : Wd} (hI : wI nd W) (hd : d < nd) : wI nd (wBeg d W) := by
  obtain ⟨a1, a2, ⟨e, a3, a3'⟩, a4, a5, a6, a7, a8⟩ := hI.2 d hd
  unfold wBeg
  refine wDraw_I hI.1 (fun d' hd' hne => ?_) ?_ ?_ ?_ ?_ ?_ ?_
  · rw [wSet_ne _ hne, wSet_ne _ hne]; exact hI.2 d' hd'
  · rw [wSet_row, wSet_row]; exact a1
  · rw [wSet_row, wSet_row]; exact ⟨e, by omega, a3'⟩
  · rw [wSet_row, wSet_row]; exact ⟨e, a3, a3'⟩
  · rw [wSet_row, wSet_row]; exact a4
  · rw [wSet_row, wSet_row]; exact ⟨0, by decide, rfl⟩
  · rw [wSet_row, wSet_row]; exact a7
theorem wA_I {nd d : Nat} {t : Int32} {W : Wd} (hI : wI nd W) (hd : d < nd) : wI nd (wA t d W) := by
  obtain ⟨a1, a2, a3, a4, a5, ⟨l, b1, b2, b3⟩, a7, a8⟩ := hI.2 d hd
  unfold wA
  by_cases h15 : W.1 d 15 = 1
  · rw [if_pos h15]
    by_cases h0 : W.1 d 10 = 0
    · rw [if_pos h0]
      by_cases h4 : W.1 d 4 ≤ 0
      · rw [if_pos h4]; exact hI
      · rw [if_neg h4]; exact wBeg_I hI hd
    · rw [if_neg h0]
      by_cases h3 : W.1 d 10 = 3
      · rw [if_pos h3]
        by_cases ht : t = 1
        · rw [if_pos ht]
          exact wDraw_I hI.1 (fun d' hd' _ => hI.2 d' hd') a1 a2 a3 a4 ⟨l, b3 h0, b2⟩ a7
        · rw [if_neg ht]; exact hI
      · rw [if_neg h3]; exact hI
  · rw [if_neg h15]; exact hI
theorem mW.beg {nd d : Nat} {τ : St} {W : Wd} (hnd : nd ≤ 8) (h : mW nd τ W) (hI : wI nd W) (hd : d < nd) : ∃ τ', f_X8_begins (nI d) τ = some ((), τ') ∧ mW nd τ' (wBeg d W) ∧ fmW nd τ τ' := by
  have g8 : ix (nI d) 8 := ix_nI (by omega) (by decide)
  obtain ⟨e, a3, a3'⟩ := (hI.2 d hd).2.2.1
  have h1 := h.set (d := d) (j := 12) (v := 0) hd (by decide) (by decide)
  have h2 := h1.1.set (d := d) (j := 11) (v := W.1 d 3) hd (by decide) (by decide)
  obtain ⟨τ', q1, q2, q3⟩ := h2.1.draw hnd hd (e := e) (by omega) (by rw [wSet_row]; exact a3')
  refine ⟨τ', ?_, q2, h1.2.tr (h2.2.tr q3)⟩
  unfold f_X8_begins
  rw [gd_t g8, vl_d, gd_t g8, gd_t g8, vl_d, nt_nI (by omega), show up2 τ 47 d 0 38 d = W.1 d 3 from by rw [up2_r (by decide)]; exact h.1 d hd 3 (by decide) (by decide)]
  rw [show f_X8_draws (nI d) (up2 (up2 τ 47 d 0) 46 d (W.1 d 3)) = some ((), τ') from q1, cl_some]
theorem cW.beg {nd d : Nat} {σ : St} {W : Wd} (h : cW nd σ W) (hI : wI nd W) (hd : d < nd) : ∃ σ1 σ', f_X2_beginFrame d σ = some ((), σ1) ∧ f_X0_draw d σ1 = some ((), σ') ∧ cW nd σ' (wBeg d W) ∧ fcW nd σ σ' := by
  obtain ⟨e, a3, a3'⟩ := (hI.2 d hd).2.2.1
  have h1 := h.set (d := d) (j := 12) (v := 0) hd (by decide) (by decide)
  have h2 := h1.1.set (d := d) (j := 11) (v := W.1 d 3) hd (by decide) (by decide)
  obtain ⟨σ', q1, q2, q3⟩ := h2.1.draw hd (e := e) (by omega) (by rw [wSet_row]; exact a3')
  refine ⟨_, σ', ?_, q1, q2, h1.2.tr (h2.2.tr q3)⟩
  unfold f_X2_beginFrame
  rw [vl_d, vl_d, up2_c (show (3 : Nat) ≠ 12 by decide), h.1 d hd 3 (by decide) (by decide)]
/-- step A, the class's -/
theorem cW.A {nd d : Nat} {t : Int32} {σ : St} {W : Wd} (h : cW nd σ W) (hI : wI nd W) (hd : d < nd) (h15 : W.1 d 15 = 1) : ∃ σ', f_X0_begin d t σ = some ((), σ') ∧ cW nd σ' (wA t d W) ∧ fcW nd σ σ' := by
  have r10 := h.1 d hd 10 (by decide) (by decide)
  have r4 := h.1 d hd 4 (by decide) (by decide)
  obtain ⟨a1, ⟨e, a2, a2'⟩, a3, a4, a5, ⟨l, b1, b2, b3⟩, a7, a8⟩ := hI.2 d hd
  have r15 := h.1 d hd 15 (by decide) (by decide)
  unfold f_X0_begin wA
  rw [r15, if_neg (show ¬ W.1 d 15 = 0 by rw [h15]; decide), r10, r4, if_pos h15]
  by_cases h0 : W.1 d 10 = 0
  · rw [if_pos h0, if_pos h0]
    by_cases h4 : W.1 d 4 ≤ 0
    · rw [if_pos h4, if_pos h4, if_neg (by rw [h0]; decide)]
      exact ⟨σ, rfl, h, fcW.rf⟩
    · rw [if_neg h4, if_neg h4]
      obtain ⟨σ1, σ', q1, q2, q3, q4⟩ := h.beg hI hd
      rw [q1, cl_some, q2, cl_some]
      exact ⟨σ', rfl, q3, q4⟩
  · rw [if_neg h0, if_neg h0]
    by_cases h3 : W.1 d 10 = 3
    · rw [if_pos h3, if_pos h3]
      by_cases ht : t = 1
      · rw [if_pos ht, if_pos ht]
        obtain ⟨σ', q1, q2, q3⟩ := h.draw hd a2 a2'
        rw [q1, cl_some]
        exact ⟨σ', rfl, q2, q3⟩
      · rw [if_neg ht, if_neg ht]
        exact ⟨σ, rfl, h, fcW.rf⟩
    · rw [if_neg h3, if_neg h3]
      exact ⟨σ, rfl, h, fcW.rf⟩
theorem wF_I {nd : Nat} {f : Nat → Wd → Wd} (hf : ∀ d W, d < nd → wI nd W → wI nd (f d W)) {W : Wd} (hI : wI nd W) : ∀ k, k ≤ nd → wI nd (wF f W k) := by
  intro k
  induction k with
  | zero => exact fun _ => hI
  | succ k ih => exact fun hk => hf k _ (by omega) (ih (by omega))
/-- step A, the reference's, for all devices -/
theorem mW.A {nd : Nat} {t : Int32} {τ : St} {W : Wd} (hnd : nd ≤ 8) (h35 : τ 0 35 = nI nd) (h : mW nd τ W) (hI : wI nd W) : ∃ τ', f_X8_stepA t τ = some ((), τ') ∧ mW nd τ' (wF (wA t) W nd) ∧ fmW nd τ τ' := by
  obtain ⟨r, hr, τ', rfl, q1, q2⟩ := lp_FU (b := fun K a => b_X8_stepA_2 K a.1 a.2.1 a.2.2) (fun k a => ∃ τk, a = (t, nI k, τk) ∧ mW nd τk (wF (wA t) W k) ∧ fmW nd τ τk) (fun r => ∃ τ', r = ((), τ') ∧ mW nd τ' (wF (wA t) W nd) ∧ fmW nd τ τ') nd (by omega)
    (fun k a hk ha => by
      obtain ⟨τk, rfl, m1, m2⟩ := ha
      have g8 : ix (nI k) 8 := ix_nI (by omega) (by decide)
      have I1 := wF_I (fun d W hd hI => wA_I (t := t) hI hd) hI k (by omega)
      have e35 : τk 0 35 = nI nd := by rw [m2.2.1 35 (by decide)]; exact h35
      have n0 : ¬ nI nd ≤ nI k := by rw [nI_leI (by omega) (by omega)]; omega
      obtain ⟨V, eV⟩ : ∃ V, V = wF (wA t) W k := ⟨_, rfl⟩
      rw [← eV] at m1 I1
      have r15 : τk 50 k = V.1 k 15 := m1.1 k hk 15 (by decide) (by decide)
      have r10 : τk 45 k = V.1 k 10 := m1.1 k hk 10 (by decide) (by decide)
      have r4 : τk 39 k = V.1 k 4 := m1.1 k hk 4 (by decide) (by decide)
      obtain ⟨a1, ⟨e, a2, a2'⟩, a3, a4, a5, ⟨l, b1, b2, b3⟩, a7, a8⟩ := I1.2 k hk
      have key : ∃ τ', (∀ K, b_X8_stepA_2 K t (nI k) τk = K (t, nI (k + 1), τ')) ∧ mW nd τ' (wA t k V) ∧ fmW nd τk τ' := by
        unfold b_X8_stepA_2 f_X8_stepA_46 wA
        rw [e35]
        simp only [if_neg n0, gd_t g8, nt_nI (show k < 2147483648 by omega), r15, r10, r4, vl_d, nI_1]
        by_cases h15 : V.1 k 15 = 1
        · simp only [if_pos h15]
          by_cases h0 : V.1 k 10 = 0
          · simp only [if_pos h0]
            by_cases h4 : V.1 k 4 ≤ 0
            · simp only [if_pos h4, if_neg (show ¬ V.1 k 10 = 3 by rw [h0]; decide)]
              exact ⟨τk, fun K => rfl, m1, fmW.rf⟩
            · simp only [if_neg h4]
              obtain ⟨τ', q1, q2, q3⟩ := m1.beg hnd I1 hk
              exact ⟨τ', fun K => by rw [q1, cl_some], q2, q3⟩
          · simp only [if_neg h0]
            by_cases h3 : V.1 k 10 = 3
            · simp only [if_pos h3]
              by_cases ht : t = 1
              · simp only [if_pos ht]
                obtain ⟨τ', q1, q2, q3⟩ := m1.draw hnd hk a2 a2'
                exact ⟨τ', fun K => by rw [q1, cl_some], q2, q3⟩
              · simp only [if_neg ht]
                exact ⟨τk, fun K => rfl, m1, fmW.rf⟩
            · simp only [if_neg h3]
              exact ⟨τk, fun K => rfl, m1, fmW.rf⟩
        · simp only [if_neg h15]
          exact ⟨τk, fun K => rfl, m1, fmW.rf⟩
      obtain ⟨τ', k1, k2, k3⟩ := key
      exact Or.inl ⟨(t, nI (k + 1), τ'), ⟨τ', rfl, by show mW nd τ' (wA t k (wF (wA t) W k)); rw [← eV]; exact k2, m2.tr k3⟩, k1⟩)
    (fun a ha => by
      obtain ⟨τk, rfl, m1, m2⟩ := ha
      refine ⟨_, ⟨τk, rfl, m1, m2⟩, fun K => ?_⟩
      show b_X8_stepA_2 K t (nI nd) τk = _
      unfold b_X8_stepA_2
      rw [m2.2.1 35 (by decide), h35, if_pos (nI_le (Nat.le_refl _) (by omega))])
    (a := (t, 0, τ)) ⟨τ, rfl, h, fmW.rf⟩
  exact ⟨τ', hr, q1, q2⟩
