/-! run -/
theorem RX.mono {b b' nc nd B S le li : Nat} {ps : Nat → List Pr} {σ τ : St} (hb : b ≤ b') (h : RX b nc nd B S le li ps σ τ) : RX b' nc nd B S le li ps σ τ := by
  obtain ⟨⟨h1, h2, h3, h4, ⟨N, hN, h5⟩, h6⟩, hS, hT, hCa, hCo, hr⟩ := h
  refine ⟨⟨h1, h2, h3, h4, ⟨N, Nat.le_trans hN hb, h5⟩, h6⟩, hS, hT, hCa, fun c hc => ?_, hr⟩
  obtain ⟨z0, z1, ⟨y, z2, z3⟩, z4⟩ := hCo c hc
  exact ⟨z0, z1, ⟨y, Nat.le_trans z2 hb, z3⟩, z4⟩
theorem st_run {n : Nat} {σ τ : St} (h : Rel n σ τ) (hn : n < 512) (a0 : Int32) : ∃ r σ' τ', f_X7_run a0 σ = some (r, σ') ∧ f_X8_run a0 τ = some (r, τ') ∧ Rel (n + 1) σ' τ' := by
  by_cases hr : 1 ≤ a0.toInt ∧ a0.toInt ≤ 20
  · obtain ⟨k0, ek0, k1, k2⟩ : ∃ k0 : Nat, a0 = nI k0 ∧ 1 ≤ k0 ∧ k0 ≤ 20 := ⟨a0.toInt.toNat, nI_of_toInt (by omega), by omega, by omega⟩
    obtain ⟨nc, nd, B, S, le, li, ps, hX⟩ := h
    have hX0 : RX (BT n) nc nd B S le li ps σ τ := hX
    obtain ⟨r1, r2, e1, e2, x, σ', τ', ps', rfl, rfl, hR⟩ := lp_two (b₁ := fun K a => b_X7_run_17 K a.1 a.2.1 a.2.2.1 a.2.2.2) (b₂ := fun K a => b_X8_run_18 K a.1 a.2.1 a.2.2.1 a.2.2.2)
      (fun i a1 a2 => ∃ acc σi τi psi, a1 = (nI k0, acc, nI i, σi) ∧ a2 = (nI k0, acc, nI i, τi) ∧ RX (BT n + 1536 * i) nc nd B S le li psi σi τi)
      (fun r1 r2 => ∃ x σ' τ' ps', r1 = (x, σ') ∧ r2 = (x, τ') ∧ RX (BT n + 1536 * k0) nc nd B S le li ps' σ' τ') k0 (by omega)
      (fun i a1 a2 hi hh => by
        obtain ⟨acc, σi, τi, psi, rfl, rfl, hR⟩ := hh
        have n1 : 1 ≤ nc := hR.1.1.1
        have n2 : nc ≤ 4 := hR.1.1.2.1
        have l5 : σi (LA σi) 5 = nI nc := hR.1.2.2.1.2.2.2.2.2.1
        have k24 : τi 0 24 = nI nc := hR.1.2.2.2.1.2.2.2.2.2.1
        have ecg : nxF (fun c => σi (22 + c) 3) (nc - 1) = nxF (fun c => τi 27 c) (nc - 1) := nxF_cg (nc - 1) (fun c hc => by
          obtain ⟨_, _, ⟨y, _, z3, z4⟩, _⟩ := hR.2.2.2.2.1 c (by omega)
          show σi (22 + c) 3 = τi 27 c
          rw [z3, z4])
        obtain ⟨c, ec⟩ : ∃ c, c = nxF (fun c => τi 27 c) (nc - 1) := ⟨_, rfl⟩
        have hc : c < nc := by
          have := nxF_le (fun c => τi 27 c) (nc - 1)
          omega
        obtain ⟨x, σ', τ', ps', q1, q2, q3⟩ := st_part hR hc
        have ni : ¬ nI k0 ≤ nI i := by rw [nI_leI (by omega) (by omega)]; omega
        refine Or.inl ⟨_, _, ⟨acc + x, σ', τ', ps', rfl, rfl, by rw [show BT n + 1536 * (i + 1) = BT n + 1536 * i + 1536 by omega]; exact q3⟩, fun K => ?_, fun K => ?_⟩
        · show b_X7_run_17 K (nI k0) acc (nI i) σi = _
          unfold b_X7_run_17
          rw [if_neg ni, c_next n1 n2 l5, ecg, ← ec, cl_some, co_c n2 l5 hc, cl_some, oc_some, gd_t (by omega), q1, cl_some, vl_d, vl_d, nI_1]
        · show b_X8_run_18 K (nI k0) acc (nI i) τi = _
          unfold b_X8_run_18
          rw [if_neg ni, m_next n1 n2 k24, ← ec, q2, cl_some, vl_d, vl_d, nI_1])
      (fun a1 a2 hh => by
        obtain ⟨acc, σi, τi, psi, rfl, rfl, hR⟩ := hh
        refine ⟨_, _, ⟨acc, σi, τi, psi, rfl, rfl, hR⟩, fun K => ?_, fun K => ?_⟩
        · show b_X7_run_17 K (nI k0) acc (nI k0) σi = _
          unfold b_X7_run_17
          rw [if_pos (nI_le (Nat.le_refl _) (by omega))]
        · show b_X8_run_18 K (nI k0) acc (nI k0) τi = _
          unfold b_X8_run_18
          rw [if_pos (nI_le (Nat.le_refl _) (by omega))])
      (a₁ := (nI k0, 0, 0, σ)) (a₂ := (nI k0, 0, 0, τ)) ⟨0, σ, τ, ps, rfl, rfl, hX0.mono (by omega)⟩
    have hF : RX (BT (n + 1)) nc nd B S le li ps' σ' τ' := hR.mono (by unfold BT; omega)
    refine ⟨x, σ', τ', ?_, ?_, nc, nd, B, S, le, li, ps', hF⟩
    · unfold f_X7_run
      rw [if_neg (by rw [i_lt, t_lit 1 (by decide)]; omega), if_pos (by rw [i_le, t_lit 20 (by decide)]; omega), ek0]
      exact e1
    · unfold f_X8_run
      rw [in_t (by rw [t64 1 (by decide)]; exact hr.1) (by rw [t64 20 (by decide)]; exact hr.2), cl_some, if_neg (by decide), ek0]
      exact e2
  · refine ⟨-1, σ, τ, ?_, ?_, rel_mono h⟩
    · unfold f_X7_run
      by_cases h1 : a0 < 1
      · rw [if_pos h1]
      · rw [if_neg h1, if_neg (by rw [i_lt, t_lit 1 (by decide)] at h1; rw [i_le, t_lit 20 (by decide)]; omega)]
    · unfold f_X8_run
      rw [in_f (by rw [t64 1 (by decide), t64 20 (by decide)]; exact hr), cl_some, if_pos rfl]
