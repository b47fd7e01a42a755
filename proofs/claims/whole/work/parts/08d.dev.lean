/-! calls about one device -/
/-- device rows alone have changed -/
theorem rel_dev {n nc nd B S le li : Nat} {ps : Nat → List Pr} {σ τ σ' τ' : St} (h : rG n nc nd B S le li σ τ ∧ rS nc B σ τ ∧ rT σ τ ∧ rCa σ τ ∧ rCo n nc σ τ ∧ rZ nc σ ∧ rP nc nd le ps σ τ ∧ rA nc S σ τ) (es : ∀ k, k < 46 → σ' k = σ k) (et : ∀ k, k < 36 → τ' k = τ k) (hd : rD nc nd σ' τ') : Rel n σ' τ' := by
  obtain ⟨h1, h2, h3, h4, h5, h6, h7, h8⟩ := h
  have hN := h1.1
  have la : LA σ < 46 ∧ LA σ + 2 < 46 := by rcases LA_ok σ with e | e <;> rw [e] <;> decide
  exact ⟨nc, nd, B, S, le, li, ps, h1.cg (es 0 (by decide)) (by rw [es 6 (by decide)]) (es _ la.1) (fun j h1 h2 => by rw [et 0 (by decide)]), h2.cg hN.2.1 (es 0 (by decide)) (es _ la.2) (fun c hc => by rw [es _ (by omega)]) (et 26 (by decide)), h3.cg (es 1 (by decide)) (es 2 (by decide)) (by rw [et 0 (by decide)]) (et 1 (by decide)), h4.cg (es 4 (by decide)) (es 5 (by decide)) (by rw [et 0 (by decide)]) (et 4 (by decide)), h5.cg hN.2.1 (fun c hc => es _ (by omega)) (et 25 (by decide)) (et 27 (by decide)) (et 28 (by decide)) (et 29 (by decide)), h6.cg (fun c hc => by rw [es _ (by omega)]) (fun c hc => by rw [es _ (by omega)]), h7.cg hN.2.1 (fun k h1 h2 => es _ (by omega)) (fun k h1 h2 => et _ (by omega)), h8.cg hN.2.1 (fun c hc => es _ (by omega)) (et 28 (by decide)) (et 34 (by decide)), hd⟩
/-- one number of one device has changed, on both sides alike -/
theorem rE.set {nd : Nat} {σ τ : St} (h : rE nd σ τ) {d j : Nat} (hdn : d < nd) (hj1 : 1 ≤ j) (v : Int32) : rE nd (up2 σ (46 + d) j v) (up2 τ (35 + j) d v) := by
  have key : ∀ d', ∀ i, 1 ≤ i → σ (46 + d') i = τ (35 + i) d' → up2 σ (46 + d) j v (46 + d') i = up2 τ (35 + j) d v (35 + i) d' := by
    intro d' i hi e
    rw [up2_g, up2_g]
    by_cases h1 : d' = d
    · subst h1
      by_cases h2 : i = j
      · subst h2; simp
      · rw [if_neg (by simp [h2]), if_neg (by omega)]; exact e
    · rw [if_neg (by omega), if_neg (by omega)]; exact e
  refine ⟨fun d' hd i h1 h2 => key d' i h1 (h.1 d' hd i h1 h2), fun d' hd i h1 h2 => key d' i (by omega) (h.2.1 d' hd i h1 h2), fun d' hd => ?_, fun d' h1 h2 => ?_⟩
  · rw [up2_g, if_neg (by omega)]
    exact h.2.2.1 d' hd
  · rw [up2_ne (by omega)]
    exact h.2.2.2 d' h1 h2
theorem mD_set (τ : St) {d j : Nat} (v : Int32) : mD (up2 τ (35 + j) d v) d = upd (mD τ d) j v := by
  funext i
  show up2 τ (35 + j) d v (35 + i) d = _
  rw [up2_g]
  by_cases h : i = j
  · subst h; simp [upd]
  · rw [if_neg (by omega)]; simp [upd, h]
theorem mD_ne (τ : St) {d d' j : Nat} (v : Int32) (h : d' ≠ d) : mD (up2 τ (35 + j) d v) d' = mD τ d' := by
  funext i
  show up2 τ (35 + j) d v (35 + i) d' = _
  rw [up2_g, if_neg (by omega)]
theorem rD.set {nc nd : Nat} {σ τ : St} (h : rD nc nd σ τ) {d j : Nat} (hdn : d < nd) (hj1 : 1 ≤ j) {v : Int32} (hv : dI nc (mD τ d) → dI nc (upd (mD τ d) j v)) : rD nc nd (up2 σ (46 + d) j v) (up2 τ (35 + j) d v) := by
  refine ⟨h.1.set hdn hj1 v, fun d' hd => ?_⟩
  by_cases e : d' = d
  · subst e
    rw [mD_set]
    exact hv (h.2 d' hd)
  · rw [mD_ne _ _ e]
    exact h.2 d' hd
theorem st_deafen {n : Nat} {σ τ : St} (h : Rel n σ τ) (hn : n < 512) (a0 a1 : Int32) : ∃ r σ' τ', f_X7_deafen a0 a1 σ = some (r, σ') ∧ f_X8_deafen a0 a1 τ = some (r, τ') ∧ Rel (n + 1) σ' τ' := by
  obtain ⟨nc, nd, B, S, le, li, ps, h1, h2, h3, h4, h5, h6, h7, h8, h9⟩ := rel_mono h
  obtain ⟨hN, hl, hL, hM, hrest⟩ := id h1
  have hnd := hN.2.2.2.1
  by_cases hq : 0 ≤ a0.toInt ∧ a0.toInt < nd
  · obtain ⟨d, hd, rfl⟩ := who hq
    have hc := dev_c hnd hL.2.2.2.2.2.2 hd
    have hm := dev_m hN.2.2.1 hnd hM.2.2.2.2.2.2 hd
    by_cases hv : 0 ≤ a1.toInt ∧ a1.toInt ≤ 9
    · refine ⟨σ (46 + d) 9, up2 σ (46 + d) 9 a1, up2 τ (35 + 9) d a1, ?_, ?_, ?_⟩
      · unfold f_X7_deafen
        rw [hc, cl_some, oc_some, gd_t (by omega), if_neg (by rw [i_lt, t_lit 0 (by decide)]; omega), if_pos (by rw [i_le, t_lit 9 (by decide)]; omega)]
        rfl
      · unfold f_X8_deafen
        rw [hm, cl_some, if_neg (by decide), in_t (by rw [t64 0 (by decide)]; omega) (by rw [t64 9 (by decide)]; omega), cl_some, if_neg (by decide), gd_t (ix_nI (by omega) (by decide)), vl_d, gd_t (ix_nI (by omega) (by decide)), vl_d, nt_nI (by omega), h9.1.1 d hd 9 (by decide) (by decide)]
      · refine rel_dev ⟨h1, h2, h3, h4, h5, h6, h7, h8⟩ (fun k hk => up2_ne (by omega)) (fun k hk => up2_ne (by omega)) (h9.set hd (by decide) (fun q => ?_))
        obtain ⟨q1, q2, q3, q4, q5, q6, q7, q8, q9, q10⟩ := q
        obtain ⟨x, hx, rfl⟩ : ∃ x, x ≤ 9 ∧ a1 = nI x := ⟨a1.toInt.toNat, by omega, nI_of_toInt (by omega)⟩
        exact ⟨q1, q2, q3, q4, q5, ⟨x, hx, rfl⟩, q7, q8, q9, q10⟩
    · refine ⟨-1, σ, τ, ?_, ?_, rel_mono h⟩
      · unfold f_X7_deafen
        rw [hc, cl_some, oc_some, gd_t (by omega)]
        by_cases h0 : a1 < 0
        · rw [if_pos h0]
        · rw [if_neg h0, if_neg (by rw [i_lt, t_lit 0 (by decide)] at h0; rw [i_le, t_lit 9 (by decide)]; omega)]
      · unfold f_X8_deafen
        rw [hm, cl_some, if_neg (by decide), in_f (by rw [t64 0 (by decide), t64 9 (by decide)]; omega), cl_some, if_pos rfl]
  · refine ⟨-1, σ, τ, ?_, ?_, rel_mono h⟩
    · unfold f_X7_deafen
      rw [dev_cn hnd hL.2.2.2.2.2.2 hq, cl_some, oc_none]
    · unfold f_X8_deafen
      rw [dev_mn hN.2.2.1 hnd hM.2.2.2.2.2.2 hq, cl_some, if_pos rfl]
theorem st_load {n : Nat} {σ τ : St} (h : Rel n σ τ) (hn : n < 512) (a0 a1 a2 : Int32) : ∃ r σ' τ', f_X7_load a0 a1 a2 σ = some (r, σ') ∧ f_X8_load a0 a1 a2 τ = some (r, τ') ∧ Rel (n + 1) σ' τ' := by
  obtain ⟨nc, nd, B, S, le, li, ps, h1, h2, h3, h4, h5, h6, h7, h8, h9⟩ := rel_mono h
  obtain ⟨hN, hl, hL, hM, hrest⟩ := id h1
  have hnd := hN.2.2.2.1
  by_cases hq : 0 ≤ a0.toInt ∧ a0.toInt < nd
  · obtain ⟨d, hd, rfl⟩ := who hq
    have hc := dev_c hnd hL.2.2.2.2.2.2 hd
    have hm := dev_m hN.2.2.1 hnd hM.2.2.2.2.2.2 hd
    have hi : ix (nI d) 8 := ix_nI (by omega) (by decide)
    have hnt : nt (nI d) = d := nt_nI (by omega)
    by_cases hv1 : 0 ≤ a1.toInt ∧ a1.toInt ≤ 1
    · have m1 : f_X8_in a1.toInt64 0 1 τ = some (1, τ) := in_t (by rw [t64 0 (by decide)]; omega) (by rw [t64 1 (by decide)]; omega)
      have n1 : ¬ a1 < 0 := by rw [i_lt, t_lit 0 (by decide)]; omega
      have n2 : ¬ (1 : Int32) < a1 := by rw [i_lt, t_lit 1 (by decide)]; omega
      by_cases hv2 : 0 ≤ a2.toInt ∧ a2.toInt ≤ 99
      · have m2 : f_X8_in a2.toInt64 0 99 τ = some (1, τ) := in_t (by rw [t64 0 (by decide)]; omega) (by rw [t64 99 (by decide)]; omega)
        have n3 : ¬ a2 < 0 := by rw [i_lt, t_lit 0 (by decide)]; omega
        have n4 : a2 ≤ 99 := by rw [i_le, t_lit 99 (by decide)]; omega
        by_cases hk : a1 = 0
        · have e4 : σ (46 + d) 4 = τ 39 d := h9.1.1 d hd 4 (by decide) (by decide)
          by_cases hf : a2 + τ 39 d ≤ 99
          · refine ⟨a2 + τ 39 d, up2 σ (46 + d) 4 (a2 + τ 39 d), up2 τ (35 + 4) d (a2 + τ 39 d), ?_, ?_, ?_⟩
            · unfold f_X7_load f_X7_load_51
              rw [hc, cl_some, oc_some, gd_t (by omega), if_neg n1, if_neg n2, if_neg n3, if_pos n4, if_pos hk, e4, vl_d, if_pos hf, if_pos hk]
              rfl
            · unfold f_X8_load f_X8_load_51 f_X8_load_85
              rw [hm, cl_some, if_neg (by decide), m1, cl_some, if_neg (by decide), m2, cl_some, if_neg (by decide), if_pos hk, gd_t hi, hnt, vl_d, Int32.add_comm (τ 39 d) a2, if_pos hf, if_pos hk, gd_t hi, vl_d, if_neg (by rw [hk]; decide), gd_t hi, gd_t hi, vl_d, up2_self]
            · refine rel_dev ⟨h1, h2, h3, h4, h5, h6, h7, h8⟩ (fun k hk => up2_ne (by omega)) (fun k hk => up2_ne (by omega)) (h9.set hd (by decide) (fun q => ?_))
              obtain ⟨q1, q2, q3, q4, q5, q6, q7, q8, q9, q10⟩ := q
              exact ⟨q1, q2, q3, q4, q5, q6, q7, q8, q9, q10⟩
          · refine ⟨-3, σ, τ, ?_, ?_, rel_mono h⟩
            · unfold f_X7_load f_X7_load_51
              rw [hc, cl_some, oc_some, gd_t (by omega), if_neg n1, if_neg n2, if_neg n3, if_pos n4, if_pos hk, e4, vl_d, if_neg hf]
            · unfold f_X8_load f_X8_load_51 f_X8_load_85
              rw [hm, cl_some, if_neg (by decide), m1, cl_some, if_neg (by decide), m2, cl_some, if_neg (by decide), if_pos hk, gd_t hi, hnt, vl_d, Int32.add_comm (τ 39 d) a2, if_neg hf]
        · have hk1 : a1 = 1 := by
            rw [i_eq, t_lit 0 (by decide)] at hk
            rw [i_eq, t_lit 1 (by decide)]
            omega
          have e5 : σ (46 + d) 5 = τ 40 d := h9.1.1 d hd 5 (by decide) (by decide)
          by_cases hf : a2 + τ 40 d ≤ 99
          · refine ⟨a2 + τ 40 d, up2 σ (46 + d) 5 (a2 + τ 40 d), up2 τ (35 + 5) d (a2 + τ 40 d), ?_, ?_, ?_⟩
            · unfold f_X7_load f_X7_load_51
              rw [hc, cl_some, oc_some, gd_t (by omega), if_neg n1, if_neg n2, if_neg n3, if_pos n4, if_neg hk, e5, vl_d, if_pos hf, if_neg hk]
              rfl
            · unfold f_X8_load f_X8_load_51 f_X8_load_85
              rw [hm, cl_some, if_neg (by decide), m1, cl_some, if_neg (by decide), m2, cl_some, if_neg (by decide), if_neg hk, gd_t hi, hnt, vl_d, Int32.add_comm (τ 40 d) a2, if_pos hf, if_neg hk, gd_t hi, gd_t hi, vl_d, if_pos hk1, gd_t hi, vl_d, up2_self]
            · refine rel_dev ⟨h1, h2, h3, h4, h5, h6, h7, h8⟩ (fun k hk => up2_ne (by omega)) (fun k hk => up2_ne (by omega)) (h9.set hd (by decide) (fun q => ?_))
              obtain ⟨q1, q2, q3, q4, q5, q6, q7, q8, q9, q10⟩ := q
              obtain ⟨x, hx, ex⟩ := q4
              have ex : τ 40 d = nI x := ex
              obtain ⟨y, hy, rfl⟩ : ∃ y, y ≤ 99 ∧ a2 = nI y := ⟨a2.toInt.toNat, by omega, nI_of_toInt (by omega)⟩
              rw [ex, nI_add, i_le, t_nI _ (by omega), t_lit 99 (by decide)] at hf
              refine ⟨q1, q2, q3, ⟨y + x, by omega, ?_⟩, q5, q6, q7, q8, q9, q10⟩
              show nI y + τ 40 d = _
              rw [ex, nI_add]
          · refine ⟨-3, σ, τ, ?_, ?_, rel_mono h⟩
            · unfold f_X7_load f_X7_load_51
              rw [hc, cl_some, oc_some, gd_t (by omega), if_neg n1, if_neg n2, if_neg n3, if_pos n4, if_neg hk, e5, vl_d, if_neg hf]
            · unfold f_X8_load f_X8_load_51 f_X8_load_85
              rw [hm, cl_some, if_neg (by decide), m1, cl_some, if_neg (by decide), m2, cl_some, if_neg (by decide), if_neg hk, gd_t hi, hnt, vl_d, Int32.add_comm (τ 40 d) a2, if_neg hf]
      · refine ⟨-1, σ, τ, ?_, ?_, rel_mono h⟩
        · unfold f_X7_load
          rw [hc, cl_some, oc_some, gd_t (by omega), if_neg n1, if_neg n2]
          by_cases h0 : a2 < 0
          · rw [if_pos h0]
          · rw [if_neg h0, if_neg (by rw [i_lt, t_lit 0 (by decide)] at h0; rw [i_le, t_lit 99 (by decide)]; omega)]
        · unfold f_X8_load
          rw [hm, cl_some, if_neg (by decide), m1, cl_some, if_neg (by decide), in_f (by rw [t64 0 (by decide), t64 99 (by decide)]; omega), cl_some, if_pos rfl]
    · refine ⟨-1, σ, τ, ?_, ?_, rel_mono h⟩
      · unfold f_X7_load
        rw [hc, cl_some, oc_some, gd_t (by omega)]
        by_cases h0 : a1 < 0
        · rw [if_pos h0]
        · rw [if_neg h0, if_pos (by rw [i_lt, t_lit 0 (by decide)] at h0; rw [i_lt, t_lit 1 (by decide)]; omega)]
      · unfold f_X8_load
        rw [hm, cl_some, if_neg (by decide), in_f (by rw [t64 0 (by decide), t64 1 (by decide)]; omega), cl_some, if_pos rfl]
  · refine ⟨-1, σ, τ, ?_, ?_, rel_mono h⟩
    · unfold f_X7_load
      rw [dev_cn hnd hL.2.2.2.2.2.2 hq, cl_some, oc_none]
    · unfold f_X8_load
      rw [dev_mn hN.2.2.1 hnd hM.2.2.2.2.2.2 hq, cl_some, if_pos rfl]
