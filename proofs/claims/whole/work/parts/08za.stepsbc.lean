theorem wI_row {nd d : Nat} {W W' : Wd} (hI : wI nd W) (h2 : W'.2 = W.2) (ho : ∀ d', d' ≠ d → W'.1 d' = W.1 d') (hr : dW (W'.1 d)) : wI nd W' := by
  refine ⟨by rw [h2]; exact hI.1, fun d' hd' => ?_⟩
  by_cases e : d' = d
  · rw [e]; exact hr
  · rw [ho d' e]; exact hI.2 d' hd'
theorem wB_I {nd d : Nat} {t K : Int32} {W : Wd} (hI : wI nd W) (hd : d < nd) : wI nd (wB t K d W) := by
  obtain ⟨a1, a2, a3, a4, a5, ⟨l, b1, b2, b3⟩, a7, a8⟩ := hI.2 d hd
  unfold wB
  by_cases h15 : W.1 d 15 = 1
  · rw [if_pos h15]
    by_cases h1 : W.1 d 10 = 1
    · rw [if_pos h1]
      by_cases h16 : W.1 d 16 = 0
      · rw [if_pos h16]
        have hl : l ≤ 4 := b3 (by rw [h1]; decide)
        by_cases hK : K < (t + W.1 d 2) + 2
        · rw [if_pos hK]
          refine wI_row (d := d) hI rfl (fun d' hne => by rw [wSet_ne _ hne, wSet_ne _ hne]) ?_
          rw [wSet_row, wSet_row]
          exact ⟨a1, a2, a3, a4, Or.inr (Or.inr (Or.inr (Or.inl rfl))), ⟨l, b1, b2, fun _ => hl⟩, a7, fun q => absurd (show (3 : Int32) = 1 from q) (by decide), fun q => absurd (show (3 : Int32) = 2 from q) (by decide), fun q => absurd (show (3 : Int32) = 4 from q) (by decide)⟩
        · rw [if_neg hK]
          refine wI_row (d := d) hI rfl (fun d' hne => by rw [wSet_ne _ hne, wSet_ne _ hne]) ?_
          rw [wSet_row, wSet_row]
          exact ⟨a1, a2, a3, a4, Or.inr (Or.inr (Or.inl rfl)), ⟨l, b1, b2, fun _ => hl⟩, a7, fun q => absurd (show (2 : Int32) = 1 from q) (by decide), fun _ => ⟨0, by decide, rfl⟩, fun q => absurd (show (2 : Int32) = 4 from q) (by decide)⟩
      · rw [if_neg h16]; exact hI
    · rw [if_neg h1]; exact hI
  · rw [if_neg h15]; exact hI
theorem wC_I {nd d : Nat} {W : Wd} (hI : wI nd W) (hd : d < nd) : wI nd (wC d W) := by
  obtain ⟨a1, a2, a3, ⟨x, x1, x2, x3⟩, a5, ⟨l, b1, b2, b3⟩, a7, a8⟩ := hI.2 d hd
  unfold wC
  by_cases h15 : W.1 d 15 = 1
  · rw [if_pos h15]
    by_cases h2 : W.1 d 10 = 2
    · rw [if_pos h2]
      by_cases h17 : W.1 d 17 = 2
      · rw [if_pos h17]
        have hl : l ≤ 4 := b3 (by rw [h2]; decide)
        refine wI_row (d := d) hI rfl (fun d' hne => by rw [wSet_ne _ hne, wSet_ne _ hne, wSet_ne _ hne]) ?_
        rw [wSet_row, wSet_row, wSet_row]
        exact ⟨a1, a2, a3, ⟨x, x1, x2, x3⟩, Or.inr (Or.inr (Or.inr (Or.inr rfl))), ⟨l, b1, b2, fun _ => hl⟩, a7, fun q => absurd (show (4 : Int32) = 1 from q) (by decide), fun q => absurd (show (4 : Int32) = 2 from q) (by decide), fun _ => ⟨⟨x, x1, x2, x3⟩, Or.inl rfl⟩⟩
      · rw [if_neg h17]; exact hI
    · rw [if_neg h2]; exact hI
  · rw [if_neg h15]; exact hI
/-- steps B and C, the reference's, for all devices -/
theorem mW.C {nd : Nat} {τ : St} {W : Wd} (hnd : nd ≤ 8) (h35 : τ 0 35 = nI nd) (h : mW nd τ W) : ∃ τ', lp (fun K a => b_X8_stepsBC_79 K a.1 a.2) FU ((0 : Int32), τ) = some ((), τ') ∧ mW nd τ' (wF wC W nd) ∧ fmW nd τ τ' := by
  obtain ⟨r, hr, τ', rfl, q1, q2⟩ := lp_FU (b := fun K a => b_X8_stepsBC_79 K a.1 a.2) (fun k a => ∃ τk, a = (nI k, τk) ∧ mW nd τk (wF wC W k) ∧ fmW nd τ τk) (fun r => ∃ τ', r = ((), τ') ∧ mW nd τ' (wF wC W nd) ∧ fmW nd τ τ') nd (by omega)
    (fun k a hk ha => by
      obtain ⟨τk, rfl, m1, m2⟩ := ha
      have g8 : ix (nI k) 8 := ix_nI (by omega) (by decide)
      have e35 : τk 0 35 = nI nd := by rw [m2.2.1 35 (by decide)]; exact h35
      have n0 : ¬ nI nd ≤ nI k := by rw [nI_leI (by omega) (by omega)]; omega
      obtain ⟨V, eV⟩ : ∃ V, V = wF wC W k := ⟨_, rfl⟩
      rw [← eV] at m1
      have r15 : τk 50 k = V.1 k 15 := m1.1 k hk 15 (by decide) (by decide)
      have r10 : τk 45 k = V.1 k 10 := m1.1 k hk 10 (by decide) (by decide)
      have r17 : τk 52 k = V.1 k 17 := m1.1 k hk 17 (by decide) (by decide)
      have r2 : τk 37 k = V.1 k 2 := m1.1 k hk 2 (by decide) (by decide)
      have key : ∃ τ', (∀ K, b_X8_stepsBC_79 K (nI k) τk = K (nI (k + 1), τ')) ∧ mW nd τ' (wC k V) ∧ fmW nd τk τ' := by
        unfold b_X8_stepsBC_79 wC
        rw [e35]
        simp only [if_neg n0, gd_t g8, nt_nI (show k < 2147483648 by omega), r15, r10, r17, vl_d, nI_1]
        by_cases h15 : V.1 k 15 = 1
        · simp only [if_pos h15]
          by_cases h0 : V.1 k 10 = 2
          · simp only [if_pos h0]
            by_cases h17 : V.1 k 17 = 2
            · simp only [if_pos h17]
              have s1 := m1.set (d := k) (j := 10) (v := 4) hk (by decide) (by decide)
              have s2 := s1.1.set (d := k) (j := 18) (v := V.1 k 2) hk (by decide) (by decide)
              have s3 := s2.1.set (d := k) (j := 19) (v := 0) hk (by decide) (by decide)
              exact ⟨_, fun K => by rw [up2_r (show (37 : Nat) ≠ 45 by decide), r2], s3.1, s1.2.tr (s2.2.tr s3.2)⟩
            · simp only [if_neg h17]
              exact ⟨τk, fun K => rfl, m1, fmW.rf⟩
          · simp only [if_neg h0]
            exact ⟨τk, fun K => rfl, m1, fmW.rf⟩
        · simp only [if_neg h15]
          exact ⟨τk, fun K => rfl, m1, fmW.rf⟩
      obtain ⟨τ', k1, k2, k3⟩ := key
      exact Or.inl ⟨(nI (k + 1), τ'), ⟨τ', rfl, by show mW nd τ' (wC k (wF wC W k)); rw [← eV]; exact k2, m2.tr k3⟩, k1⟩)
    (fun a ha => by
      obtain ⟨τk, rfl, m1, m2⟩ := ha
      refine ⟨_, ⟨τk, rfl, m1, m2⟩, fun K => ?_⟩
      show b_X8_stepsBC_79 K (nI nd) τk = _
      unfold b_X8_stepsBC_79
      rw [m2.2.1 35 (by decide), h35, if_pos (nI_le (Nat.le_refl _) (by omega))])
    (a := (0, τ)) ⟨τ, rfl, h, fmW.rf⟩
  exact ⟨τ', hr, q1, q2⟩
theorem mW.BC {nd : Nat} {t T : Int32} {τ : St} {W : Wd} (hnd : nd ≤ 8) (h35 : τ 0 35 = nI nd) (h : mW nd τ W) : ∃ τ', f_X8_stepsBC t T τ = some ((), τ') ∧ mW nd τ' (wF wC (wF (wB t T) W nd) nd) ∧ fmW nd τ τ' := by
  obtain ⟨r, hr, τ', rfl, q1, q2⟩ := lp_FU (b := fun K a => b_X8_stepsBC_2 K a.1 a.2.1 a.2.2.1 a.2.2.2) (fun k a => ∃ τk, a = (t, T, nI k, τk) ∧ mW nd τk (wF (wB t T) W k) ∧ fmW nd τ τk) (fun r => ∃ τ', r = ((), τ') ∧ mW nd τ' (wF wC (wF (wB t T) W nd) nd) ∧ fmW nd τ τ') nd (by omega)
    (fun k a hk ha => by
      obtain ⟨τk, rfl, m1, m2⟩ := ha
      have g8 : ix (nI k) 8 := ix_nI (by omega) (by decide)
      have e35 : τk 0 35 = nI nd := by rw [m2.2.1 35 (by decide)]; exact h35
      have n0 : ¬ nI nd ≤ nI k := by rw [nI_leI (by omega) (by omega)]; omega
      obtain ⟨V, eV⟩ : ∃ V, V = wF (wB t T) W k := ⟨_, rfl⟩
      rw [← eV] at m1
      have r15 : τk 50 k = V.1 k 15 := m1.1 k hk 15 (by decide) (by decide)
      have r10 : τk 45 k = V.1 k 10 := m1.1 k hk 10 (by decide) (by decide)
      have r16 : τk 51 k = V.1 k 16 := m1.1 k hk 16 (by decide) (by decide)
      have r2 : τk 37 k = V.1 k 2 := m1.1 k hk 2 (by decide) (by decide)
      have key : ∃ τ', (∀ K, b_X8_stepsBC_2 K t T (nI k) τk = K (t, T, nI (k + 1), τ')) ∧ mW nd τ' (wB t T k V) ∧ fmW nd τk τ' := by
        have e0 : ∀ K, b_X8_stepsBC_2 K t T (nI k) τk = if V.1 k 15 = 1 then (if V.1 k 10 = 1 then (if V.1 k 16 = 0 then (if T < (t + V.1 k 2) + 2 then K (t, T, nI (k + 1), up2 (up2 τk 45 k 3) 52 k 0) else K (t, T, nI (k + 1), up2 (up2 τk 45 k 2) 52 k 0)) else K (t, T, nI (k + 1), τk)) else K (t, T, nI (k + 1), τk)) else K (t, T, nI (k + 1), τk) := by
          intro K
          unfold b_X8_stepsBC_2
          rw [e35, if_neg n0]
          simp only [gd_t g8, nt_nI (show k < 2147483648 by omega), r15, r10, r16, r2, vl_d, nI_1]
        unfold wB
        by_cases h15 : V.1 k 15 = 1
        · rw [if_pos h15]
          by_cases h0 : V.1 k 10 = 1
          · rw [if_pos h0]
            by_cases h16 : V.1 k 16 = 0
            · rw [if_pos h16]
              by_cases hT : T < (t + V.1 k 2) + 2
              · rw [if_pos hT]
                have s1 := m1.set (d := k) (j := 10) (v := 3) hk (by decide) (by decide)
                have s2 := s1.1.set (d := k) (j := 17) (v := 0) hk (by decide) (by decide)
                exact ⟨_, fun K => by rw [e0, if_pos h15, if_pos h0, if_pos h16, if_pos hT], s2.1, s1.2.tr s2.2⟩
              · rw [if_neg hT]
                have s1 := m1.set (d := k) (j := 10) (v := 2) hk (by decide) (by decide)
                have s2 := s1.1.set (d := k) (j := 17) (v := 0) hk (by decide) (by decide)
                exact ⟨_, fun K => by rw [e0, if_pos h15, if_pos h0, if_pos h16, if_neg hT], s2.1, s1.2.tr s2.2⟩
            · rw [if_neg h16]
              exact ⟨τk, fun K => by rw [e0, if_pos h15, if_pos h0, if_neg h16], m1, fmW.rf⟩
          · rw [if_neg h0]
            exact ⟨τk, fun K => by rw [e0, if_pos h15, if_neg h0], m1, fmW.rf⟩
        · rw [if_neg h15]
          exact ⟨τk, fun K => by rw [e0, if_neg h15], m1, fmW.rf⟩
      obtain ⟨τ', k1, k2, k3⟩ := key
      exact Or.inl ⟨(t, T, nI (k + 1), τ'), ⟨τ', rfl, by show mW nd τ' (wB t T k (wF (wB t T) W k)); rw [← eV]; exact k2, m2.tr k3⟩, k1⟩)
    (fun a ha => by
      obtain ⟨τk, rfl, m1, m2⟩ := ha
      have e35 : τk 0 35 = nI nd := by rw [m2.2.1 35 (by decide)]; exact h35
      obtain ⟨τ', c1, c2, c3⟩ := mW.C hnd e35 m1
      refine ⟨_, ⟨τ', rfl, c2, m2.tr c3⟩, fun K => ?_⟩
      show b_X8_stepsBC_2 K t T (nI nd) τk = _
      unfold b_X8_stepsBC_2
      rw [e35, if_pos (nI_le (Nat.le_refl _) (by omega))]
      exact c1)
    (a := (t, T, 0, τ)) ⟨τ, rfl, h, fmW.rf⟩
  exact ⟨τ', hr, q1, q2⟩
