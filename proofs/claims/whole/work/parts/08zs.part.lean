/-! a whole active part, on both sides -/
theorem pU.mp {nc : Nat} {ps ps' : Nat → List Pr} (h : pU nc ps) (e : ∀ c, c < nc → (ps' c).map pk2 = (ps c).map pk2) : pU nc ps' := by
  have hm : ∀ m : List Pr, m.map (fun q => q.1) = (m.map pk2).map Prod.fst := by
    intro m
    rw [List.map_map]
    rfl
  have hq : ∀ c, c < nc → ∀ q ∈ ps' c, ∃ q0 ∈ ps c, q0.1 = q.1 := by
    intro c hc q hq
    have h1 : pk2 q ∈ (ps c).map pk2 := by rw [← e c hc]; exact List.mem_map_of_mem hq
    obtain ⟨q', hq', e'⟩ := List.mem_map.mp h1
    exact ⟨q', hq', congrArg (fun z : Nat × Nat => z.1) e'⟩
  refine ⟨fun c hc => ?_, fun c c' hc hc' hne q hq1 q' hq2 => ?_⟩
  · rw [hm, e c hc, ← hm]
    exact h.1 c hc
  · obtain ⟨q0, z1, z2⟩ := hq c hc q hq1
    obtain ⟨q0', z3, z4⟩ := hq c' hc' q' hq2
    rw [← z2, ← z4]
    exact h.2 c c' hc hc' hne q0 z1 q0' z3
theorem st_part {b nc nd B S le li c : Nat} {ps : Nat → List Pr} {σ τ : St} (h : RX b nc nd B S le li ps σ τ) (hc : c < nc) : ∃ x σ' τ' ps', f_X7_activePart c (nI c) σ = some (x, σ') ∧ f_X8_part (nI c) τ = some (x, τ') ∧ RX (b + 1536) nc nd B S le li ps' σ' τ' := by
  obtain ⟨σ15, hcl, cw, pc, FC, FD, FE, air⟩ := c_half h hc
  suffices hh : ∃ r, f_X8_part (nI c) τ = some r ∧ ∃ σ' ps', f_X7_activePart c (nI c) σ = some (r.1, σ') ∧ RX (b + 1536) nc nd B S le li ps' σ' r.2 by
    obtain ⟨⟨x, τ'⟩, h1, σ', ps', h2, h3⟩ := hh
    exact ⟨x, σ', τ', ps', h2, h1, h3⟩
  refine m_half h hc (fun τ3 m1 m2 m3 m4 m5 m6 m7 m8 => ?_)
  obtain ⟨⟨hN, g2, gL, gM, ⟨N, N1, N2, N3⟩, g6, sd, s1, s2, s3⟩, hS, hT, hCa, hCo, hZ, hP, hA, hD⟩ := h
  obtain ⟨n1, n2, n3, n4, n5, n6, n7, n8, n9, n10, n11⟩ := hN
  obtain ⟨l0, l1, l2, l3, l4, l5, l6⟩ := gL
  obtain ⟨k16, k17, k18, k19, k20, k24, k35⟩ := gM
  obtain ⟨p1, p2, p3⟩ := hP.1 c hc
  obtain ⟨t1, t2, t3, t4⟩ := TP_ok (li := li) n8 n6 p3
  obtain ⟨w1, w2⟩ := pow3 S n6
  obtain ⟨w3, w4⟩ := pow5 B n5
  have c4 : c < 4 := by omega
  have IL := lP_I (li := li) p3
  have hLA := LA_ok σ
  have L15 : LA σ15 = LA σ := by unfold LA; rw [FC 0 (by omega) (by omega) (by omega) (by omega) (by omega) (by omega) (by omega) (by omega)]
  have La15 : σ15 (LA σ15) = σ (LA σ) := by rw [L15]; exact FC _ (by omega) (by omega) (by omega) (by omega) (by omega) (by omega) (by omega) (by omega)
  have IT := tW_I (nd := nd) (W := W1 nd c τ) (show TP S li (ps c) ≤ 384 by omega) (W1_I n2 hc s1 s3 hD.2) (TP S li (ps c) - 1) (by omega)
  rw [show TP S li (ps c) - 1 + 1 = TP S li (ps c) by omega] at IT
  have WR : ∀ d, d < nd → (Wp nd c S li (ps c) τ).1 d = rHold ((tW nd (nI (TP S li (ps c))) (W1 nd c τ) (TP S li (ps c) - 1)).1 d) := fun d hd => (wF_sl rHold _ nd).2 d hd
  have DI : ∀ d, d < nd → dI nc ((Wp nd c S li (ps c) τ).1 d) := by
    intro d hd
    rw [WR d hd]
    refine end_dI (IT.1.2 d hd) (IT.2 d hd) (fun j hj => tW_k nd _ _ hj _ d) ?_
    rw [W1_row hd]
    exact hr_dI n2 hc (hD.2 d hd)
  obtain ⟨x, σ18, τ4, V, L, u1, u2, u3, u4, u5, u6, u7, u8, u9, u10, u11⟩ := cm_uses (sl := 3 * 2 ^ S) (act := 48 * 2 ^ S) (le := le) n4 n8 c4 (by omega) (by omega) t3 (by rw [La15]; exact l2) (by rw [La15]; exact l6) (by rw [m4 18 (by decide)]; exact k18) cw m1 pc m2 IL (fun d hd => by rw [FD d hd]; exact hD.1.2.2.1 d (by omega)) (fun t ht => by rw [air t ht, m8 t ht]) (fun d hd => (DI d hd).2.1) (fun d hd => by rw [WR d hd, rHold_k _ k15]; exact (IT.1.2 d hd).1) (fun d hd => (DI d hd).2.2.2.1)
  have F18 : ∀ a, a ≠ 6 → a ≠ 7 → a ≠ 26 + c → a ≠ 30 + c → a ≠ 34 + c → a ≠ 38 + c → a ≠ 42 + c → (a < 46 ∨ 54 ≤ a) → σ18 a = σ a := fun a h1 h2 h3 h4 h5 h6 h7 h8 => by rw [u10.1 a h6 h7 (by omega)]; exact FC a h1 h2 h3 h4 h5 h6 h7 h8
  have G18 : ∀ j, j ≠ 22 → τ4 0 j = τ 0 j := fun j hj => by rw [u11.1 0 (by decide) (by decide) (by decide) (by decide)]; exact m4 j hj
  have H18 : ∀ a, a ≠ 0 → a ≠ 34 → (a < 30 ∨ 33 < a) → (a < 36 ∨ 55 < a) → τ4 a = τ a := fun a h0 h1 h2 h3 => by rw [u11.1 a (by omega) h1 (by omega) (by omega)]; exact m3 a h0 h1 h2 h3
  obtain ⟨q0, q1, ⟨xb, q2, q3, q4⟩, q5⟩ := hCo c hc
  have r22 : σ18 (22 + c) = σ (22 + c) := F18 _ (by omega) (by omega) (by omega) (by omega) (by omega) (by omega) (by omega) (by omega)
  have r0 : σ18 0 = σ 0 := F18 _ (by omega) (by omega) (by omega) (by omega) (by omega) (by omega) (by omega) (by omega)
  have rL : σ18 (LA σ) = σ (LA σ) := F18 _ (by omega) (by omega) (by omega) (by omega) (by omega) (by omega) (by omega) (by omega)
  have t27 : τ4 27 = τ 27 := H18 27 (by decide) (by decide) (by omega) (by omega)
  have t28 : τ4 28 = τ 28 := H18 28 (by decide) (by decide) (by omega) (by omega)
  obtain ⟨σ', eσ⟩ : ∃ σ', σ' = up2 (up2 (up2 (up2 σ18 0 8 (nI (xb + 48 * 2 ^ S))) (22 + c) 3 (nI (xb + 48 * 2 ^ B))) (22 + c) 4 (σ (22 + c) 4 + 1)) 0 9 (σ 0 9 + 1) := ⟨_, rfl⟩
  obtain ⟨τ', eτ⟩ : ∃ τ', τ' = up2 (up2 (up2 (up2 τ4 0 21 (nI (xb + 48 * 2 ^ S))) 27 c (nI (xb + 48 * 2 ^ B))) 28 c (τ 28 c + 1)) 0 23 (τ 0 23 + 1) := ⟨_, rfl⟩
  have Cs : f_X7_activePart c (nI c) σ = some (cP nd c S li (ps c) τ + x, σ') := by
    rw [hcl, u1, cl_some, vl_d]
    have e1 : σ18 (22 + c) 3 + σ18 (lay (σ18 0 6)) 1 = nI (xb + 48 * 2 ^ S) := by rw [r22, r0, show lay (σ 0 6) = LA σ from rfl, rL, q3, l1, nI_add]
    rw [e1, vl_d]
    have e2 : up2 σ18 0 8 (nI (xb + 48 * 2 ^ S)) (22 + c) 3 + up2 σ18 0 8 (nI (xb + 48 * 2 ^ S)) (lay (up2 σ18 0 8 (nI (xb + 48 * 2 ^ S)) 0 6)) 0 = nI (xb + 48 * 2 ^ B) := by
      rw [up2_r (by omega), up2_c (by decide), r0, show lay (σ 0 6) = LA σ from rfl, up2_r (by omega), rL, r22, q3, l0, nI_add]
    rw [e2, vl_d, up2_c (show (4 : Nat) ≠ 3 by decide), up2_r (show 22 + c ≠ 0 by omega), r22, vl_d, up2_r (show 0 ≠ 22 + c by omega), up2_r (show 0 ≠ 22 + c by omega), up2_c (show (9 : Nat) ≠ 8 by decide), r0, vl_d, eσ]
  have Ms : ∀ K, b_X8_part_116 K (nI c) (cP nd c S li (ps c) τ) (nI nd) τ3 = some (cP nd c S li (ps c) τ + x, τ') := by
    intro K
    have g4 : ix (nI c) 4 := ix_nI c4 (by decide)
    unfold b_X8_part_116
    rw [m4 35 (by decide), k35, if_pos (nI_le (Nat.le_refl _) (by omega)), u2, cl_some, vl_d, gd_t g4, nt_nI (show c < 2147483648 by omega)]
    have e1 : τ4 27 c + τ4 0 17 = nI (xb + 48 * 2 ^ S) := by rw [t27, G18 17 (by decide), q4, k17, nI_add]
    rw [e1, vl_d, gd_t g4, gd_t g4]
    have e2 : up2 τ4 0 21 (nI (xb + 48 * 2 ^ S)) 27 c + up2 τ4 0 21 (nI (xb + 48 * 2 ^ S)) 0 16 = nI (xb + 48 * 2 ^ B) := by rw [up2_r (by decide), up2_c (by decide), t27, G18 16 (by decide), q4, k16, nI_add]
    rw [e2, vl_d, gd_t g4, gd_t g4, up2_r (show (28 : Nat) ≠ 27 by decide), up2_r (show (28 : Nat) ≠ 0 by decide), t28, vl_d, up2_r (show (0 : Nat) ≠ 28 by decide), up2_r (show (0 : Nat) ≠ 27 by decide), up2_c (show (23 : Nat) ≠ 21 by decide), G18 23 (by decide), vl_d, eτ]
  refine ⟨(cP nd c S li (ps c) τ + x, τ'), ⟨σ', fun i => if i = c then L else ps i, Cs, ?_⟩, Ms⟩
  show RX (b + 1536) nc nd B S le li (fun i => if i = c then L else ps i) σ' τ'
  have A0 : ∀ j, j ≠ 8 → j ≠ 9 → σ' 0 j = σ 0 j := fun j h8 h9 => by rw [eσ, up2_c h9, up2_r (by omega), up2_r (by omega), up2_c h8, r0]
  have A22 : ∀ j, j ≠ 3 → j ≠ 4 → σ' (22 + c) j = σ (22 + c) j := fun j h3 h4 => by rw [eσ, up2_r (by omega), up2_c h4, up2_c h3, up2_r (by omega), r22]
  have Aa : ∀ a, a ≠ 0 → a ≠ 22 + c → σ' a = σ18 a := fun a h0 h1 => by rw [eσ, up2_ne h0, up2_ne h1, up2_ne h1, up2_ne h0]
  have Ab : ∀ a, a ≠ 0 → a ≠ 22 + c → a ≠ 6 → a ≠ 7 → a ≠ 26 + c → a ≠ 30 + c → a ≠ 34 + c → a ≠ 38 + c → a ≠ 42 + c → (a < 46 ∨ 54 ≤ a) → σ' a = σ a := fun a h0 h9 h1 h2 h3 h4 h5 h6 h7 h8 => by rw [Aa a h0 h9]; exact F18 a h1 h2 h3 h4 h5 h6 h7 h8
  have B0 : ∀ j, j ≠ 21 → j ≠ 22 → j ≠ 23 → τ' 0 j = τ 0 j := fun j h1 h2 h3 => by rw [eτ, up2_c h3, up2_r (by decide), up2_r (by decide), up2_c h1]; exact G18 j h2
  have Ba : ∀ a, a ≠ 0 → a ≠ 27 → a ≠ 28 → τ' a = τ4 a := fun a h0 h1 h2 => by rw [eτ, up2_ne h0, up2_ne h2, up2_ne h1, up2_ne h0]
  have Bb : ∀ a, a ≠ 0 → a ≠ 27 → a ≠ 28 → a ≠ 34 → (a < 30 ∨ 33 < a) → (a < 36 ∨ 55 < a) → τ' a = τ a := fun a h0 h1 h2 h3 h4 h5 => by rw [Ba a h0 h1 h2]; exact H18 a h0 h3 h4 h5
  have eLA : LA σ' = LA σ := by unfold LA; rw [A0 6 (by decide) (by decide)]
  have cV : ∀ d, d < nd → ∀ j, 1 ≤ j → j ≤ 19 → σ' (46 + d) j = V.1 d j := fun d hd j j1 j2 => by rw [Aa _ (by omega) (by omega)]; exact u3.1 d hd j j1 j2
  have mV : ∀ d, d < nd → ∀ j, 1 ≤ j → j ≤ 19 → τ' (35 + j) d = V.1 d j := fun d hd j j1 j2 => by rw [Ba _ (by omega) (by omega) (by omega)]; exact u4.1 d hd j j1 j2
  obtain ⟨sd', sd1, sd2⟩ := IT.1.1
  have eV2 : V.2 = nI sd' := by rw [u9.1, ← sd2]; exact (wF_sl rHold _ nd).1
  refine ⟨⟨⟨n1, n2, n3, n4, n5, n6, n7, n8, n9, n10, n11⟩, ?_, ?_, ?_, ⟨xb + 48 * 2 ^ S, by omega, ?_, ?_⟩, ?_, sd', sd1, ?_, ?_⟩, ?_, ?_, ?_, ?_, ?_, ?_, ?_, ?_⟩
  · rw [A0 6 (by decide) (by decide), A0 7 (by decide) (by decide)]; exact g2
  · rw [eLA, Ab (LA σ) (by omega) (by omega) (by omega) (by omega) (by omega) (by omega) (by omega) (by omega) (by omega) (by omega)]
    exact ⟨l0, l1, l2, l3, l4, l5, l6⟩
  · unfold rM
    rw [B0 16 (by decide) (by decide) (by decide), B0 17 (by decide) (by decide) (by decide), B0 18 (by decide) (by decide) (by decide), B0 19 (by decide) (by decide) (by decide), B0 20 (by decide) (by decide) (by decide), B0 24 (by decide) (by decide) (by decide), B0 35 (by decide) (by decide) (by decide)]
    exact ⟨k16, k17, k18, k19, k20, k24, k35⟩
  · rw [eσ, up2_c (by decide), up2_r (by omega), up2_r (by omega), up2_at]
  · rw [eτ, up2_c (by decide), up2_r (by decide), up2_r (by decide), up2_at]
  · rw [eσ, eτ, up2_at, up2_at, g6]
  · rw [Aa 6 (by decide) (by omega), u3.2, eV2]
  · rw [eτ, up2_c (by decide), up2_r (by decide), up2_r (by decide), up2_c (by decide), u4.2, eV2]
  · intro i hi
    obtain ⟨s, z1, z2, z3, z4⟩ := hS i hi
    refine ⟨s, z1, ?_, ?_, ?_⟩
    · rw [eLA, Ab (LA σ + 2) (by omega) (by omega) (by omega) (by omega) (by omega) (by omega) (by omega) (by omega) (by omega) (by omega)]; exact z2
    · by_cases e : i = c
      · rw [e, A22 1 (by decide) (by decide), ← e]; exact z3
      · rw [Ab (22 + i) (by omega) (by omega) (by omega) (by omega) (by omega) (by omega) (by omega) (by omega) (by omega) (by omega)]; exact z3
    · rw [Bb 26 (by decide) (by decide) (by decide) (by decide) (by omega) (by omega)]; exact z4
  · exact hT.cg (Ab 1 (by omega) (by omega) (by omega) (by omega) (by omega) (by omega) (by omega) (by omega) (by omega) (by omega)) (Ab 2 (by omega) (by omega) (by omega) (by omega) (by omega) (by omega) (by omega) (by omega) (by omega) (by omega)) (B0 0 (by decide) (by decide) (by decide)) (Bb 1 (by decide) (by decide) (by decide) (by decide) (by omega) (by omega))
  · exact hCa.cg (Ab 4 (by omega) (by omega) (by omega) (by omega) (by omega) (by omega) (by omega) (by omega) (by omega) (by omega)) (Ab 5 (by omega) (by omega) (by omega) (by omega) (by omega) (by omega) (by omega) (by omega) (by omega) (by omega)) (B0 3 (by decide) (by decide) (by decide)) (Bb 4 (by decide) (by decide) (by decide) (by decide) (by omega) (by omega))
  · intro i hi
    rw [Bb 25 (by decide) (by decide) (by decide) (by decide) (by omega) (by omega), Bb 29 (by decide) (by decide) (by decide) (by decide) (by omega) (by omega)]
    by_cases e : i = c
    · subst e
      refine ⟨by rw [A22 0 (by decide) (by decide)]; exact q0, by rw [A22 2 (by decide) (by decide)]; exact q1, ⟨xb + 48 * 2 ^ B, by omega, ?_, ?_⟩, ?_⟩
      · rw [eσ, up2_r (by omega), up2_c (by decide), up2_at]
      · rw [eτ, up2_r (by decide), up2_r (by decide), up2_at]
      · rw [eσ, eτ, up2_r (by omega), up2_at, up2_r (by decide), up2_at, q5]
    · obtain ⟨z0, z1, ⟨y, z2, z3, z4⟩, z5⟩ := hCo i hi
      rw [Ab (22 + i) (by omega) (by omega) (by omega) (by omega) (by omega) (by omega) (by omega) (by omega) (by omega) (by omega)]
      refine ⟨z0, z1, ⟨y, by omega, z3, ?_⟩, ?_⟩
      · rw [eτ, up2_r (by decide), up2_r (by decide), up2_c e, up2_r (by decide), t27]; exact z4
      · rw [eτ, up2_r (by decide), up2_c e, up2_r (by decide), up2_r (by decide), t28]; exact z5
  · intro i h1 h2
    obtain ⟨z1, z2⟩ := hZ i h1 h2
    rw [Ab (22 + i) (by omega) (by omega) (by omega) (by omega) (by omega) (by omega) (by omega) (by omega) (by omega) (by omega), Ab (26 + i) (by omega) (by omega) (by omega) (by omega) (by omega) (by omega) (by omega) (by omega) (by omega) (by omega)]
    exact ⟨z1, z2⟩
  · refine ⟨fun i hi => ?_, ?_⟩
    · show pC (if i = c then L else ps i) i σ' ∧ pM (if i = c then L else ps i) i τ' ∧ pI nd le (if i = c then L else ps i)
      by_cases e : i = c
      · subst e
        rw [if_pos rfl]
        exact ⟨u5.cg (by rw [Aa _ (by omega) (by omega)]) (Aa _ (by omega) (by omega)) (Aa _ (by omega) (by omega)) (Aa _ (by omega) (by omega)), u6.cg (Ba 30 (by decide) (by decide) (by decide)) (Ba 31 (by decide) (by decide) (by decide)) (Ba 32 (by decide) (by decide) (by decide)) (Ba 33 (by decide) (by decide) (by decide)), IL.mp u7⟩
      · rw [if_neg e]
        obtain ⟨z1, z2, z3⟩ := hP.1 i hi
        refine ⟨z1.cg ?_ ?_ ?_ ?_, ?_, z3⟩
        · rw [Ab (26 + i) (by omega) (by omega) (by omega) (by omega) (by omega) (by omega) (by omega) (by omega) (by omega) (by omega)]
        · exact Ab (30 + i) (by omega) (by omega) (by omega) (by omega) (by omega) (by omega) (by omega) (by omega) (by omega) (by omega)
        · exact Ab (34 + i) (by omega) (by omega) (by omega) (by omega) (by omega) (by omega) (by omega) (by omega) (by omega) (by omega)
        · exact Ab (38 + i) (by omega) (by omega) (by omega) (by omega) (by omega) (by omega) (by omega) (by omega) (by omega) (by omega)
        · have z4 := (m5 (ps i) i e z3.1 z2).u z3.1 e u11
          exact z4.cg (Ba 30 (by decide) (by decide) (by decide)) (Ba 31 (by decide) (by decide) (by decide)) (Ba 32 (by decide) (by decide) (by decide)) (Ba 33 (by decide) (by decide) (by decide))
    · have hu1 : pU nc (fun i => if i = c then lP li (ps c) else ps i) := hP.2.sub (fun i hi => by
        show List.Sublist (if i = c then lP li (ps c) else ps i) (ps i)
        by_cases e : i = c
        · rw [if_pos e, e]; exact List.filter_sublist
        · rw [if_neg e]; exact List.Sublist.refl _)
      refine hu1.mp (fun i hi => ?_)
      show (if i = c then L else ps i).map pk2 = (if i = c then lP li (ps c) else ps i).map pk2
      by_cases e : i = c
      · rw [if_pos e, if_pos e]; exact u7
      · rw [if_neg e, if_neg e]
  · intro i hi hn t ht
    rw [Ba 34 (by decide) (by decide) (by decide)]
    by_cases e : i = c
    · rw [e, Aa _ (by omega) (by omega)]; exact u8 t ht
    · rw [Ab (42 + i) (by omega) (by omega) (by omega) (by omega) (by omega) (by omega) (by omega) (by omega) (by omega) (by omega), u11.2.2.2 _ (by omega), m6 _ (by omega)]
      refine hA i hi ?_ t ht
      rw [eτ, up2_r (by decide), up2_c e, up2_r (by decide), up2_r (by decide), t28] at hn
      exact hn
  · have E18 : ∀ d, nd ≤ d → d < 8 → ∀ j, j ≠ 15 → σ' (46 + d) j = σ (46 + d) j := fun d h1 h2 j hj => by
      rw [Aa _ (by omega) (by omega), u10.1 _ (by omega) (by omega) (by omega)]
      exact FE d h1 h2 j hj
    refine ⟨⟨fun d hd j j1 j2 => ?_, fun d hd j j1 j2 => ?_, fun d hd => ?_, fun d h1 h2 => ?_⟩, fun d hd => ?_⟩
    · rw [cV d hd j j1 (by omega), mV d hd j j1 (by omega)]
    · by_cases e : d < nd
      · rw [cV d e j (by omega) j2, mV d e j (by omega) j2]
      · rw [E18 d (by omega) hd j (by omega), Ba _ (by omega) (by omega) (by omega), u11.1 _ (by omega) (by omega) (by omega) (by omega), m7 _ d (by omega) (by omega) (by omega)]
        exact hD.1.2.1 d hd j j1 j2
    · rw [← hD.1.2.2.1 d hd]
      by_cases e : d < nd
      · rw [Aa _ (by omega) (by omega), u10.2 d e 0 (Or.inl rfl), FD d e]
      · rw [E18 d (by omega) hd 0 (by decide)]
    · rw [E18 d h1 h2 1 (by decide), E18 d h1 h2 10 (by decide)]
      exact hD.1.2.2.2 d h1 h2
    · have v := u9.2 d hd
      have q := (DI d hd).u v.1 v.2
      exact q.cg (fun j j1 j2 => mV d hd j j1 (by omega))
