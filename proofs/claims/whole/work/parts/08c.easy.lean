/-! the calls that need no loop -/
theorem LA_ne {σ : St} {k : Nat} (h : k ≠ 8 ∧ k ≠ 14) : LA σ ≠ k := by
  rcases LA_ok σ with e | e <;> rw [e] <;> omega
theorem LA2_ne {σ : St} {k : Nat} (h : k ≠ 10 ∧ k ≠ 16) : LA σ + 2 ≠ k := by
  rcases LA_ok σ with e | e <;> rw [e] <;> omega
theorem rG.seed {n nc nd B S le li : Nat} {σ τ : St} (h : rG n nc nd B S le li σ τ) {sd : Nat} (hs : sd ≤ 65520) : rG n nc nd B S le li (up2 σ 6 2 (nI sd)) (up2 τ 0 22 (nI sd)) := by
  obtain ⟨h1, h2, h3, h4, h5, h6, h7⟩ := h
  have e0 : up2 σ 6 2 (nI sd) 0 = σ 0 := up2_ne (by decide)
  have e : LA (up2 σ 6 2 (nI sd)) = LA σ := by unfold LA; rw [e0]
  refine ⟨h1, by rw [e0]; exact h2, by rw [e, up2_ne (LA_ne ⟨by decide, by decide⟩)]; exact h3, ?_, ?_, ?_, sd, hs, up2_at _ _ _ _, up2_at _ _ _ _⟩
  · unfold rM at h4 ⊢
    simp only [up2_c (show (16 : Nat) ≠ 22 by decide), up2_c (show (17 : Nat) ≠ 22 by decide), up2_c (show (18 : Nat) ≠ 22 by decide), up2_c (show (19 : Nat) ≠ 22 by decide), up2_c (show (20 : Nat) ≠ 22 by decide), up2_c (show (24 : Nat) ≠ 22 by decide), up2_c (show (35 : Nat) ≠ 22 by decide)]
    exact h4
  · rw [e0, up2_c (by decide)]; exact h5
  · rw [e0, up2_c (by decide)]; exact h6
theorem st_seed {n : Nat} {σ τ : St} (h : Rel n σ τ) (hn : n < 512) (a0 : Int32) : ∃ r σ' τ', f_X7_seed a0 σ = some (r, σ') ∧ f_X8_seed a0 τ = some (r, τ') ∧ Rel (n + 1) σ' τ' := by
  by_cases hv : 0 ≤ a0.toInt ∧ a0.toInt ≤ 65520
  · have ea : a0 = nI a0.toInt.toNat := nI_of_toInt (by omega)
    generalize hsd : a0.toInt.toNat = sd at ea
    have hs : sd ≤ 65520 := by omega
    subst ea
    refine ⟨σ 6 2, up2 σ 6 2 (nI sd), up2 τ 0 22 (nI sd), ?_, ?_, ?_⟩
    · unfold f_X7_seed
      rw [if_neg (nI_pos (by omega)), if_pos (by rw [i_lt, t_lit 65521 (by decide), t_nI sd (by omega)]; omega)]
      rfl
    · unfold f_X8_seed
      rw [in_t (by rw [t64 0 (by decide)]; omega) (by rw [t64 65520 (by decide)]; omega), cl_some, if_neg (by decide)]
      obtain ⟨_, _, _, _, _, _, _, ⟨_, _, _, _, _, _, x, _, hx, hy⟩, _⟩ := h
      rw [hx, ← hy]
      rfl
    · obtain ⟨nc, nd, B, S, le, li, ps, h1, h2, h3, h4, h5, h6, h7, h8, h9⟩ := rel_mono h
      have hN := h1.1
      exact ⟨nc, nd, B, S, le, li, ps, h1.seed hs, h2.cg hN.2.1 (up2_ne (by decide)) (up2_ne (LA2_ne ⟨by decide, by decide⟩)) (fun c hc => by rw [up2_ne (by omega)]) (up2_ne (by decide)), h3.cg (up2_ne (by decide)) (up2_ne (by decide)) (up2_c (by decide)) (up2_ne (by decide)), h4.cg (up2_ne (by decide)) (up2_ne (by decide)) (up2_c (by decide)) (up2_ne (by decide)), h5.cg hN.2.1 (fun c hc => up2_ne (by omega)) (up2_ne (by decide)) (up2_ne (by decide)) (up2_ne (by decide)) (up2_ne (by decide)), h6.cg (fun c hc => by rw [up2_ne (by omega)]) (fun c hc => by rw [up2_ne (by omega)]), h7.cg hN.2.1 (fun k h1 h2 => up2_ne (by omega)) (fun k h1 h2 => up2_ne (by omega)), h8.cg hN.2.1 (fun c hc => up2_ne (by omega)) (up2_ne (by decide)) (up2_ne (by decide)), h9.cg hN.2.2.2.1 (fun d hd => up2_ne (by omega)) (fun k h1 h2 => up2_ne (by omega))⟩
  · refine ⟨-1, σ, τ, ?_, ?_, rel_mono h⟩
    · unfold f_X7_seed
      by_cases h0 : a0 < 0
      · rw [if_pos h0]
      · rw [if_neg h0, if_neg (by rw [i_lt] at h0; rw [i_lt, t_lit 65521 (by decide)]; rw [t_lit 0 (by decide)] at h0; omega)]
    · unfold f_X8_seed
      rw [in_f (by rw [t64 0 (by decide), t64 65520 (by decide)]; omega), cl_some, if_pos rfl]
theorem cn2 : cn (1 + 1) = 200 := rfl
theorem cn5 : cn (4 + 1) = 3 := rfl
/-- letters and causes: a row's own calls -/
theorem app_1 {σ : St} {len : Nat} (h : σ 1 1 = nI len) (hl : len < 200) (x : Int32) : f_X6_append 1 x σ = some (1, up2 (up2 σ 2 len x) 1 1 (nI (len + 1))) := by
  unfold f_X6_append
  rw [h, cn2, if_pos (nI_lt hl (by decide)), gd_t (ix_nI hl (by decide)), vl_d, vl_d, nt_nI (by omega), show (1 + 1 : Nat) = 2 from rfl, up2_r (by decide), h, nI_1]
theorem app_1f {σ : St} (h : σ 1 1 = nI 200) (x : Int32) : f_X6_append 1 x σ = some (0, σ) := by
  unfold f_X6_append
  rw [h, cn2, if_neg (nI_nlt (Nat.le_refl _) (by decide))]
theorem app_4 {σ : St} {m : Nat} (h : σ 4 1 = nI m) (hl : m < 3) (x : Int32) : f_X6_append 4 x σ = some (1, up2 (up2 σ 5 m x) 4 1 (nI (m + 1))) := by
  unfold f_X6_append
  rw [h, cn5, if_pos (nI_lt hl (by decide)), gd_t (ix_nI hl (by decide)), vl_d, vl_d, nt_nI (by omega), show (4 + 1 : Nat) = 5 from rfl, up2_r (by decide), h, nI_1]
/-- rows 1, 2 (class) and 0 place 0, row 1 (reference) alone have changed -/
theorem rel_text {n : Nat} {σ τ σ' τ' : St} (h : Rel n σ τ) (es : ∀ k, k ≠ 1 → k ≠ 2 → σ' k = σ k) (et : ∀ k, k ≠ 0 → k ≠ 1 → τ' k = τ k) (e0 : ∀ j, j ≠ 0 → τ' 0 j = τ 0 j) (ht : rT σ' τ') : Rel (n + 1) σ' τ' := by
  obtain ⟨nc, nd, B, S, le, li, ps, h1, h2, h3, h4, h5, h6, h7, h8, h9⟩ := rel_mono h
  have hN := h1.1
  have la : LA σ ≠ 1 ∧ LA σ ≠ 2 ∧ LA σ + 2 ≠ 1 ∧ LA σ + 2 ≠ 2 := by rcases LA_ok σ with e | e <;> rw [e] <;> decide
  exact ⟨nc, nd, B, S, le, li, ps, h1.cg (es 0 (by decide) (by decide)) (by rw [es 6 (by decide) (by decide)]) (es _ la.1 la.2.1) (fun j h1 h2 => e0 j (by omega)), h2.cg hN.2.1 (es 0 (by decide) (by decide)) (es _ la.2.2.1 la.2.2.2) (fun c hc => by rw [es _ (by omega) (by omega)]) (et 26 (by decide) (by decide)), ht, h4.cg (es 4 (by decide) (by decide)) (es 5 (by decide) (by decide)) (e0 3 (by decide)) (et 4 (by decide) (by decide)), h5.cg hN.2.1 (fun c hc => es _ (by omega) (by omega)) (et 25 (by decide) (by decide)) (et 27 (by decide) (by decide)) (et 28 (by decide) (by decide)) (et 29 (by decide) (by decide)), h6.cg (fun c hc => by rw [es _ (by omega) (by omega)]) (fun c hc => by rw [es _ (by omega) (by omega)]), h7.cg hN.2.1 (fun k h1 h2 => es _ (by omega) (by omega)) (fun k h1 h2 => et _ (by omega) (by omega)), h8.cg hN.2.1 (fun c hc => es _ (by omega) (by omega)) (et 28 (by decide) (by decide)) (et 34 (by decide) (by decide)), h9.cg hN.2.2.2.1 (fun d hd => es _ (by omega) (by omega)) (fun k h1 h2 => et _ (by omega) (by omega))⟩
theorem st_write {n : Nat} {σ τ : St} (h : Rel n σ τ) (hn : n < 512) (a0 : Int32) : ∃ r σ' τ', f_X7_write a0 σ = some (r, σ') ∧ f_X8_write a0 τ = some (r, τ') ∧ Rel (n + 1) σ' τ' := by
  by_cases hv : 32 ≤ a0.toInt ∧ a0.toInt ≤ 126
  · obtain ⟨len, hlen, e1, e2, e3⟩ : rT σ τ := by obtain ⟨_, _, _, _, _, _, _, _, _, h, _⟩ := h; exact h
    have hc1 : ¬ a0 < 32 := by rw [i_lt, t_lit 32 (by decide)]; omega
    have hc2 : a0 ≤ 126 := by rw [i_le, t_lit 126 (by decide)]; omega
    have hm : f_X8_in a0.toInt64 32 126 τ = some (1, τ) := in_t (by rw [t64 32 (by decide)]; omega) (by rw [t64 126 (by decide)]; omega)
    by_cases hf : len = 200
    · subst hf
      refine ⟨-3, σ, τ, ?_, ?_, rel_mono h⟩
      · unfold f_X7_write
        rw [if_neg hc1, if_pos hc2, app_1f e1, cl_some, if_pos rfl]
      · unfold f_X8_write
        rw [hm, cl_some, if_neg (by decide), e2, if_pos (by decide)]
    · have hl : len < 200 := by omega
      refine ⟨nI (len + 1), up2 (up2 σ 2 len a0) 1 1 (nI (len + 1)), up2 (up2 τ 1 len a0) 0 0 (nI (len + 1)), ?_, ?_, ?_⟩
      · unfold f_X7_write
        rw [if_neg hc1, if_pos hc2, app_1 e1 hl, cl_some, if_neg (by decide), up2_at]
      · unfold f_X8_write
        rw [hm, cl_some, if_neg (by decide), e2, if_neg (by rw [i_eq, t_lit 200 (by decide), t_nI len (by omega)]; omega), gd_t (ix_nI hl (by decide)), vl_d, vl_d, nt_nI (by omega), up2_at, up2_r (show (0 : Nat) ≠ 1 by decide), e2, nI_1]
      · refine rel_text h (fun k h1 h2 => by rw [up2_ne h1, up2_ne h2]) (fun k h0 h1 => by rw [up2_ne h0, up2_ne h1]) (fun j hj => by rw [up2_c hj, up2_r (by decide)]) ⟨len + 1, by omega, up2_at _ _ _ _, up2_at _ _ _ _, fun j hj => ?_⟩
        rw [up2_r (show (2 : Nat) ≠ 1 by decide), up2_r (show (1 : Nat) ≠ 0 by decide), up2_g, up2_g]
        by_cases he : j = len
        · subst he; simp
        · rw [if_neg (by simp [he]), if_neg (by simp [he])]
          exact e3 j (by omega)
  · refine ⟨-1, σ, τ, ?_, ?_, rel_mono h⟩
    · unfold f_X7_write
      by_cases h0 : a0 < 32
      · rw [if_pos h0]
      · rw [if_neg h0, if_neg (by rw [i_lt, t_lit 32 (by decide)] at h0; rw [i_le, t_lit 126 (by decide)]; omega)]
    · unfold f_X8_write
      rw [in_f (by rw [t64 32 (by decide), t64 126 (by decide)]; omega), cl_some, if_pos rfl]
theorem st_wipe {n : Nat} {σ τ : St} (h : Rel n σ τ) (hn : n < 512) : ∃ r σ' τ', f_X7_wipe σ = some (r, σ') ∧ f_X8_wipe τ = some (r, τ') ∧ Rel (n + 1) σ' τ' := by
  obtain ⟨len, hlen, e1, e2, e3⟩ : rT σ τ := by obtain ⟨_, _, _, _, _, _, _, _, _, h, _⟩ := h; exact h
  refine ⟨nI len, up2 σ 1 1 0, up2 τ 0 0 0, ?_, ?_, ?_⟩
  · unfold f_X7_wipe f_X6_clear
    rw [e1]
    rfl
  · unfold f_X8_wipe
    rw [e2]
    rfl
  · exact rel_text h (fun k h1 h2 => up2_ne h1) (fun k h0 h1 => up2_ne h0) (fun j hj => up2_c hj) ⟨0, by omega, up2_at _ _ _ _, up2_at _ _ _ _, fun j hj => by omega⟩
theorem st_cause {n : Nat} {σ τ : St} (h : Rel n σ τ) (hn : n < 512) (a0 : Int32) : ∃ r σ' τ', f_X7_cause a0 σ = some (r, σ') ∧ f_X8_cause a0 τ = some (r, τ') ∧ Rel (n + 1) σ' τ' := by
  obtain ⟨cm, hcm, e1, e2, e3⟩ : rCa σ τ := by obtain ⟨_, _, _, _, _, _, _, _, _, _, h, _⟩ := h; exact h
  by_cases h0 : 0 ≤ a0
  · have h0' : ¬ a0 < 0 := by rw [i_lt]; rw [i_le] at h0; omega
    by_cases h1 : nI cm ≤ a0
    · refine ⟨-4, σ, τ, ?_, ?_, rel_mono h⟩
      · unfold f_X7_cause f_X6_at
        rw [if_pos h0, if_neg h0', e1, if_pos h1]
        rfl
      · unfold f_X8_cause
        rw [if_pos h0, e2, if_pos h1]
    · have h2 : 0 ≤ a0.toInt ∧ a0.toInt < cm := by
        rw [i_le, t_nI cm (by omega)] at h1
        rw [i_le, t_lit 0 (by decide)] at h0
        omega
      obtain ⟨d, hd, rfl⟩ := who h2
      refine ⟨σ 5 d, σ, τ, ?_, ?_, rel_mono h⟩
      · unfold f_X7_cause f_X6_at
        rw [if_pos h0, if_neg h0', e1, if_neg h1, cn5, if_neg (nI_ge (by omega) (by decide)), gd_t (ix_nI (by omega) (by decide)), nt_nI (by omega)]
        rfl
      · unfold f_X8_cause
        rw [if_pos h0, e2, if_neg h1, gd_t (ix_nI (by omega) (by decide)), nt_nI (by omega), e3 d hd]
  · refine ⟨-1, σ, τ, ?_, ?_, rel_mono h⟩
    · unfold f_X7_cause
      rw [if_neg h0]
    · unfold f_X8_cause
      rw [if_neg h0]
