/-! fault -/
theorem rd_all {o : Nat} {σ τ : St} (ho : o = 8 ∨ o = 14) (hT : rT σ τ) : ∃ r₁ r₂ τ0, f_X5_readInto o σ = some r₁ ∧ f_X8_readAll τ = some r₂ ∧ τ0 0 3 = 0 ∧ (∀ k, k ≠ 0 → (k < 10 ∨ 15 < k) → τ0 k = τ k) ∧ (∀ j, j = 0 ∨ (16 ≤ j ∧ j ≤ 55) → τ0 0 j = τ 0 j) ∧ RdQ o σ τ0 r₁ r₂ := by
  obtain ⟨σ1, eσ⟩ : ∃ σ1, σ1 = up2 (up2 (up2 (up2 (up2 (up2 σ o 4 4) o 6 0) o 5 0) (o + 1) 0 (-4)) (o + 2) 0 0) o 5 1 := ⟨_, rfl⟩
  obtain ⟨σ2, eσ2⟩ : ∃ σ2, σ2 = up2 (up2 σ1 3 1 0) 3 2 0 := ⟨_, rfl⟩
  obtain ⟨τ1, eτ⟩ : ∃ τ1, τ1 = up2 (up2 (up2 (up2 (up2 (up2 (up2 (up2 τ 0 5 (-1)) 0 6 0) 0 7 0) 0 8 4) 0 9 1) 10 0 (-4)) 11 0 0) 0 12 0 := ⟨_, rfl⟩
  obtain ⟨τ2, eτ2⟩ : ∃ τ2, τ2 = up2 (up2 τ1 0 2 0) 0 3 0 := ⟨_, rfl⟩
  have i4 : ix (0 : Int32) 4 := ix_nI (i := 0) (by decide) (by decide)
  have c1 : f_X3_clear o σ = some ((), σ1) := by
    unfold f_X3_clear f_X3_addCoordinator
    rw [vl_d, vl_d, vl_d, vl_d, up2_at, if_neg (by decide), if_neg (by decide), gd_t i4, vl_d, gd_t i4, vl_d, vl_d, cl_some, nt0, up2_r (by omega), up2_r (by omega), up2_at, eσ]
    rfl
  have m1 : f_X8_empty τ = some ((), τ1) := by
    unfold f_X8_empty
    rw [vl_d, vl_d, vl_d, vl_d, vl_d, gd_t i4, vl_d, gd_t i4, vl_d, vl_d, nt0, eτ]
  have fs : ∀ k, k ≠ 3 → (k < o ∨ o + 6 ≤ k) → σ2 k = σ k := fun k a b => by
    rw [eσ2, up2_ne a, up2_ne a, eσ, up2_ne (by omega), up2_ne (by omega), up2_ne (by omega), up2_ne (by omega), up2_ne (by omega), up2_ne (by omega)]
  have ft : ∀ k, k ≠ 0 → (k < 10 ∨ 15 < k) → τ2 k = τ k := fun k a b => by
    rw [eτ2, up2_ne a, up2_ne a, eτ, up2_ne a, up2_ne (by omega), up2_ne (by omega), up2_ne a, up2_ne a, up2_ne a, up2_ne a, up2_ne a]
  have ft0 : ∀ j, j = 0 ∨ (16 ≤ j ∧ j ≤ 55) → τ2 0 j = τ 0 j := fun j a => by
    rw [eτ2, up2_c (by omega), up2_c (by omega), eτ, up2_c (by omega), up2_r (by decide), up2_r (by decide), up2_c (by omega), up2_c (by omega), up2_c (by omega), up2_c (by omega), up2_c (by omega)]
  have hT2 : rT σ2 τ2 := hT.cg (fs 1 (by decide) (by omega)) (fs 2 (by decide) (by omega)) (ft0 0 (by decide)) (ft 1 (by decide) (by decide))
  have z : ∀ k, k ≠ 3 → σ2 k = σ1 k := fun k a => by rw [eσ2, up2_ne a, up2_ne a]
  have hY : ∀ B, RY o 1 0 B 4 σ2 τ2 := by
    intro B
    have pB := pow_le (show 0 ≤ B from Nat.zero_le _)
    refine ⟨⟨by decide, by decide, by decide, by decide, by decide⟩, ⟨?_, ?_⟩, ⟨?_, ?_⟩, ⟨?_, ?_⟩, fun c hc => ?_, fun c hc => ?_, fun d hd => by omega⟩
    · rw [z o (by omega), eσ, up2_c (by decide), up2_r (by omega), up2_r (by omega), up2_c (by decide), up2_c (by decide), up2_at]; rfl
    · rw [eτ2, up2_c (by decide), up2_c (by decide), eτ, up2_c (by decide), up2_r (by decide), up2_r (by decide), up2_c (by decide), up2_at]; rfl
    · rw [z o (by omega), eσ, up2_at]; rfl
    · rw [eτ2, up2_c (by decide), up2_c (by decide), eτ, up2_c (by decide), up2_r (by decide), up2_r (by decide), up2_at]; rfl
    · rw [z o (by omega), eσ, up2_c (by decide), up2_r (by omega), up2_r (by omega), up2_c (by decide), up2_at]; rfl
    · rw [eτ2, up2_c (by decide), up2_c (by decide), eτ, up2_at]; rfl
    · have : c = 0 := by omega
      subst this
      rw [z (o + 1) (by omega), eσ, up2_r (by omega), up2_r (by omega), up2_at, eτ2, up2_r (by decide), up2_r (by decide), eτ, up2_r (by decide), up2_r (by decide), up2_at]
    · have : c = 0 := by omega
      subst this
      refine ⟨0, by omega, ?_, ?_⟩
      · rw [z (o + 2) (by omega), eσ, up2_r (by omega), up2_at]; rfl
      · rw [eτ2, up2_r (by decide), up2_r (by decide), eτ, up2_r (by decide), up2_at]; rfl
  obtain ⟨r₁, r₂, e1, e2, r, σ', τ', q1, q2, q3, q4⟩ := rd_loop ho hT2 (by rw [eσ2, up2_c (by decide), up2_at]; rfl) (by rw [eτ2, up2_c (by decide), up2_at]; rfl) (by rw [eσ2, up2_at]) hY
  refine ⟨r₁, r₂, τ2, ?_, ?_, by rw [eτ2, up2_at], ft, ft0, r, σ', τ', q1, q2, fun k a b => (q3 k a b).trans (fs k a b), q4⟩
  · unfold f_X5_readInto
    rw [c1, cl_some, vl_d, vl_d, ← eσ2]
    exact e1
  · unfold f_X8_readAll
    rw [m1, cl_some, vl_d, vl_d, ← eτ2]
    exact e2
/-- what stays of the relation while a text is read -/
theorem rd_T {n nc nd B S le li o : Nat} {ps : Nat → List Pr} {σ τ σ' τ' : St} (h : TT n nc nd B S le li ps σ τ) (ho : o = 8 ∨ o = 14) (hne : o ≠ LA σ) (es : ∀ k, k ≠ 3 → k ≠ 4 → k ≠ 5 → (k < o ∨ o + 6 ≤ k) → σ' k = σ k) (et : ∀ k, k ≠ 0 → k ≠ 4 → (k < 10 ∨ 15 < k) → τ' k = τ k) (e0 : ∀ j, j = 0 ∨ (16 ≤ j ∧ j ≤ 55) → τ' 0 j = τ 0 j) (hc : rCa σ' τ') : TT n nc nd B S le li ps σ' τ' := by
  obtain ⟨h1, h2, h3, h4, h5, h6, h7, h8, h9⟩ := h
  have hN := h1.1
  have la := LA_ok σ
  have s : ∀ k, k = 0 ∨ k = 1 ∨ k = 2 ∨ k = 6 ∨ 20 ≤ k → σ' k = σ k := fun k a => es k (by omega) (by omega) (by omega) (by omega)
  have t : ∀ k, k = 1 ∨ 16 ≤ k → τ' k = τ k := fun k a => et k (by omega) (by omega) (by omega)
  exact ⟨h1.cg (s 0 (by decide)) (by rw [s 6 (by decide)]) (es _ (by omega) (by omega) (by omega) (by omega)) (fun j h1 h2 => e0 j (by omega)), h2.cg hN.2.1 (s 0 (by decide)) (es _ (by omega) (by omega) (by omega) (by omega)) (fun c hc => by rw [s _ (by omega)]) (t 26 (by decide)), h3.cg (s 1 (by decide)) (s 2 (by decide)) (e0 0 (by decide)) (t 1 (by decide)), hc, h5.cg hN.2.1 (fun c hc => s _ (by omega)) (t 25 (by decide)) (t 27 (by decide)) (t 28 (by decide)) (t 29 (by decide)), h6.cg (fun c hc => by rw [s _ (by omega)]) (fun c hc => by rw [s _ (by omega)]), h7.cg hN.2.1 (fun k h1 h2 => s _ (by omega)) (fun k h1 h2 => t _ (by omega)), h8.cg hN.2.1 (fun c hc => s _ (by omega)) (t 28 (by decide)) (t 34 (by decide)), h9.cg hN.2.2.2.1 (fun d hd => s _ (by omega)) (fun k h1 h2 => t _ (by omega))⟩
theorem app_k {σ : St} {m : Nat} (h : σ 4 1 = nI m) (hm : m < 3) (x : Int32) : f_X6_append 4 x σ = some (1, up2 (up2 σ 5 m x) 4 1 (nI (m + 1))) := app_4 h hm x
/-- what fault and lay find out, from a cleared row of causes -/
theorem fot {n nc nd B S le li o : Nat} {ps : Nat → List Pr} {σ τ : St} (h : TT n nc nd B S le li ps σ τ) (eo : o = lay (σ 0 7)) (hne : o ≠ LA σ) (h4 : σ 4 1 = 0) : ∃ r σ' τ', f_X7_faultOfText σ = some (r, σ') ∧ f_X8_readAll τ = some (r, τ') ∧ TT n nc nd B S le li ps σ' τ' ∧ σ' 0 = σ 0 ∧ (r = -4 → σ' 4 1 = 0 ∧ ∃ nc nd B li, RY o nc nd B li σ' τ' ∧ (nd = 0 ∨ ∃ S le, RO o B S le σ' τ')) := by
  have ho : o = 8 ∨ o = 14 := by rw [eo]; exact lay_ok _
  obtain ⟨r₁, r₂, τ0, e1, e2, z3, ft, ft0, r, σ', τ', rfl, rfl, q3, q4, q5, q6⟩ := rd_all ho h.2.2.1
  have k4 : σ' 4 1 = 0 := by rw [q3 4 (by decide) (by omega)]; exact h4
  have tt : ∀ k, k ≠ 0 → k ≠ 4 → (k < 10 ∨ 15 < k) → τ' k = τ k := fun k a b c => (q4 k a b c).trans (ft k a c)
  have tt0 : ∀ j, j = 0 ∨ (16 ≤ j ∧ j ≤ 55) → τ' 0 j = τ 0 j := fun j a => (q5 j a).trans (ft0 j a)
  unfold f_X7_faultOfText
  rw [← eo, e1, cl_some]
  rcases q6 with ⟨rfl, u1, u2⟩ | ⟨hr, w, w1, w2, w3, w4⟩
  · refine ⟨-4, σ', τ', by rw [if_pos rfl], e2, rd_T h ho hne (fun k a _ _ b => q3 k a b) tt tt0 ⟨0, by decide, k4, by rw [u1, z3]; rfl, fun j hj => by omega⟩, q3 0 (by decide) (by omega), fun _ => ⟨k4, u2⟩⟩
  · rw [if_neg hr, app_k (m := 0) (by rw [k4]; rfl) (by decide), cl_some]
    have a1 : up2 (up2 σ' 5 0 1) 4 1 (nI (0 + 1)) 3 2 = w := by rw [up2_r (by decide), up2_r (by decide)]; exact w1
    rw [a1, app_k (m := 1) (by rw [up2_at]) (by decide), cl_some]
    have a2 : up2 (up2 (up2 (up2 σ' 5 0 1) 4 1 (nI (0 + 1))) 5 1 w) 4 1 (nI (1 + 1)) 3 2 = w := by rw [up2_r (by decide), up2_r (by decide)]; exact a1
    rw [a2]
    rcases w4 with ⟨hw, t3, i, i1, i2⟩ | ⟨hw, t3⟩
    · have a3 : up2 (up2 (up2 (up2 σ' 5 0 1) 4 1 (nI (0 + 1))) 5 1 w) 4 1 (nI (1 + 1)) 3 3 = nI i := by rw [up2_r (by decide), up2_r (by decide), up2_r (by decide), up2_r (by decide)]; exact i1
      rw [if_pos hw, a3, app_k (m := 2) (by rw [up2_at]) (by decide), cl_some]
      refine ⟨r, _, τ', rfl, e2, rd_T h ho hne (fun k a b c d => ?_) tt tt0 ⟨3, by decide, by rw [up2_at], t3, fun j hj => ?_⟩, ?_, fun e => absurd e hr⟩
      · rw [up2_ne b, up2_ne c, up2_ne b, up2_ne c, up2_ne b, up2_ne c]; exact q3 k a d
      · have : j = 0 ∨ j = 1 ∨ j = 2 := by omega
        rcases this with rfl | rfl | rfl
        · rw [up2_r (by decide), up2_c (by decide), up2_r (by decide), up2_c (by decide), up2_r (by decide), up2_at, w2]
        · rw [up2_r (by decide), up2_c (by decide), up2_r (by decide), up2_at, w3]
        · rw [up2_r (by decide), up2_at, i2, show (20 : Int32) = nI 20 from rfl, nI_add]
      · rw [up2_ne (by decide), up2_ne (by decide), up2_ne (by decide), up2_ne (by decide), up2_ne (by decide), up2_ne (by decide)]; exact q3 0 (by decide) (by omega)
    · rw [if_neg hw]
      refine ⟨r, _, τ', rfl, e2, rd_T h ho hne (fun k a b c d => ?_) tt tt0 ⟨2, by decide, by rw [up2_at], t3, fun j hj => ?_⟩, ?_, fun e => absurd e hr⟩
      · rw [up2_ne b, up2_ne c, up2_ne b, up2_ne c]; exact q3 k a d
      · have : j = 0 ∨ j = 1 := by omega
        rcases this with rfl | rfl
        · rw [up2_r (by decide), up2_c (by decide), up2_r (by decide), up2_at, w2]
        · rw [up2_r (by decide), up2_at, w3]
      · rw [up2_ne (by decide), up2_ne (by decide), up2_ne (by decide), up2_ne (by decide)]; exact q3 0 (by decide) (by omega)
theorem la_ne {n nc nd B S le li : Nat} {σ τ : St} (h : rG n nc nd B S le li σ τ) : lay (σ 0 7) ≠ LA σ := by
  rcases h.2.1 with ⟨a, b⟩ | ⟨a, b⟩
  · unfold LA; rw [a, b]; decide
  · unfold LA; rw [a, b]; decide
theorem readAll_3 (τ : St) : f_X8_readAll (up2 τ 0 3 0) = f_X8_readAll τ := by
  have i4 : ix (0 : Int32) 4 := ix_nI (i := 0) (by decide) (by decide)
  unfold f_X8_readAll f_X8_empty
  simp only [vl_d, gd_t i4, cl_some]
  congr 1
  funext a b
  by_cases h : a = 0 ∧ b = 3
  · rw [up2_g, if_pos h, up2_g, if_pos h]
  · simp only [up2_g, if_neg h]
theorem st_fault {n : Nat} {σ τ : St} (h : Rel n σ τ) (hn : n < 512) : ∃ r σ' τ', f_X7_fault σ = some (r, σ') ∧ f_X8_fault τ = some (r, τ') ∧ Rel (n + 1) σ' τ' := by
  obtain ⟨nc, nd, B, S, le, li, ps, hT⟩ := rel_mono h
  have g := ca_0 hT
  obtain ⟨r, σ', τ', e1, e2, e3, -⟩ := fot g rfl (la_ne g.1) (up2_at _ _ _ _)
  rw [readAll_3] at e2
  refine ⟨r, σ', τ', ?_, ?_, e3.rel⟩
  · unfold f_X7_fault f_X6_clear
    rw [vl_d, cl_some, e1, cl_some]
  · unfold f_X8_fault
    rw [e2, cl_some]
