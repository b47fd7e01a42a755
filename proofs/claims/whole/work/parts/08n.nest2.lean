theorem dI.nc {nc nc' : Nat} {r : Nat → Int32} (h : dI nc r) (hn : nc ≤ nc') : dI nc' r := by
  obtain ⟨q1, q⟩ := h
  refine ⟨?_, q⟩
  rcases q1 with e | ⟨c, hc, e⟩
  · exact Or.inl e
  · exact Or.inr ⟨c, by omega, e⟩
/-- one more coordinator -/
theorem nest_rel {n nc nd B S le li x p fb : Nat} {ps : Nat → List Pr} {σ τ σ' τ' : St} (hT : TT n nc nd B S le li ps σ τ) (h4 : nc < 4) (hx : x < 48 * 2 ^ B) (hfb : fb ≤ BT (n + 1))
    (es : ∀ k, k ≠ 4 → k ≠ LA σ → k ≠ LA σ + 1 → k ≠ LA σ + 2 → k ≠ 22 + nc → k ≠ 26 + nc → σ' k = σ k) (e4 : σ' 4 1 = 0) (eL5 : σ' (LA σ) 5 = nI (nc + 1)) (eL : ∀ j, j ≠ 5 → σ' (LA σ) j = σ (LA σ) j)
    (eS : σ' (LA σ + 2) nc = nI x) (eSn : ∀ j, j ≠ nc → σ' (LA σ + 2) j = σ (LA σ + 2) j) (c0 : σ' (22 + nc) 0 = nI p) (c1 : σ' (22 + nc) 1 = nI x) (c2 : σ' (22 + nc) 2 = 0) (c3 : σ' (22 + nc) 3 = nI fb) (c4 : σ' (22 + nc) 4 = 0) (cp : σ' (26 + nc) 3 = 0)
    (t0 : ∀ j, j ≠ 3 → j ≠ 24 → τ' 0 j = τ 0 j) (t3 : τ' 0 3 = 0) (t24 : τ' 0 24 = nI (nc + 1)) (t25 : τ' 25 nc = nI p) (t26 : τ' 26 nc = nI x) (t27 : τ' 27 nc = nI fb) (t28 : τ' 28 nc = 0) (t29 : τ' 29 nc = 0) (t30 : τ' 30 nc = 0)
    (tn : ∀ k j, 25 ≤ k → k ≤ 30 → j ≠ nc → τ' k j = τ k j) (tr : ∀ k, k ≠ 0 → (k < 25 ∨ 30 < k) → τ' k = τ k) : Rel (n + 1) σ' τ' := by
  obtain ⟨h1, h2, h3, hca, h5, h6, h7, h8, h9⟩ := hT
  obtain ⟨hN, hl, hL, hM, ⟨Nw, n0, n1, n2⟩, w1, sd, s0, s1, s2⟩ := h1
  have hnd := hN.2.2.2.1
  have la : LA σ = 8 ∨ LA σ = 14 := LA_ok σ
  have e0 : σ' 0 = σ 0 := es 0 (by decide) (by omega) (by omega) (by omega) (by omega) (by omega)
  have eLA : LA σ' = LA σ := by unfold LA; rw [e0]
  refine ⟨nc + 1, nd, B, S, le, li, fun c => if c = nc then [] else ps c, ⟨?_, by rw [e0]; exact hl, ?_, ?_, ⟨Nw, Nat.le_trans n0 (BT_mono n), by rw [e0]; exact n1, by rw [t0 21 (by decide) (by decide)]; exact n2⟩, by rw [e0, t0 23 (by decide) (by decide)]; exact w1, sd, s0, by rw [es 6 (by decide) (by omega) (by omega) (by omega) (by omega) (by omega)]; exact s1, by rw [t0 22 (by decide) (by decide)]; exact s2⟩, ?_, ?_, ?_, ?_, ?_, ?_, ?_, ?_⟩
  · exact ⟨by omega, by omega, hN.2.2⟩
  · rw [eLA]
    unfold rL at hL ⊢
    rw [eL 0 (by decide), eL 1 (by decide), eL 2 (by decide), eL 3 (by decide), eL 4 (by decide), eL 6 (by decide), eL5]
    exact ⟨hL.1, hL.2.1, hL.2.2.1, hL.2.2.2.1, hL.2.2.2.2.1, rfl, hL.2.2.2.2.2.2⟩
  · unfold rM at hM ⊢
    rw [t0 16 (by decide) (by decide), t0 17 (by decide) (by decide), t0 18 (by decide) (by decide), t0 19 (by decide) (by decide), t0 20 (by decide) (by decide), t0 35 (by decide) (by decide), t24]
    exact ⟨hM.1, hM.2.1, hM.2.2.1, hM.2.2.2.1, hM.2.2.2.2.1, rfl, hM.2.2.2.2.2.2⟩
  · intro c hc
    rw [eLA]
    by_cases e : c = nc
    · subst e
      exact ⟨x, hx, eS, c1, t26⟩
    · rw [eSn c e, es (22 + c) (by omega) (by omega) (by omega) (by omega) (by omega) (by omega), tn 26 c (by decide) (by decide) e]
      exact h2 c (by omega)
  · exact h3.cg (es 1 (by decide) (by omega) (by omega) (by omega) (by omega) (by omega)) (es 2 (by decide) (by omega) (by omega) (by omega) (by omega) (by omega)) (t0 0 (by decide) (by decide)) (tr 1 (by decide) (by decide))
  · exact ⟨0, by decide, e4, t3, fun j hj => by omega⟩
  · intro c hc
    by_cases e : c = nc
    · subst e
      rw [c0, c2, c3, c4, t25, t27, t28, t29]
      exact ⟨rfl, ⟨0, by decide, rfl, rfl⟩, ⟨fb, hfb, rfl, rfl⟩, rfl⟩
    · obtain ⟨u1, u2, ⟨y, v1, v2⟩, u3⟩ := h5 c (by omega)
      rw [es (22 + c) (by omega) (by omega) (by omega) (by omega) (by omega) (by omega), tn 25 c (by decide) (by decide) e, tn 27 c (by decide) (by decide) e, tn 28 c (by decide) (by decide) e, tn 29 c (by decide) (by decide) e]
      exact ⟨u1, u2, ⟨y, Nat.le_trans v1 (BT_mono n), v2⟩, u3⟩
  · intro c u v
    rw [es (22 + c) (by omega) (by omega) (by omega) (by omega) (by omega) (by omega), es (26 + c) (by omega) (by omega) (by omega) (by omega) (by omega) (by omega)]
    exact h6 c (by omega) v
  · refine ⟨fun c hc => ?_, fun c hc => ?_, fun c c' hc hc' hne q hq q' hq' => ?_⟩
    · show pC (if c = nc then [] else ps c) c σ' ∧ pM (if c = nc then [] else ps c) c τ' ∧ pI nd le (if c = nc then [] else ps c)
      by_cases e : c = nc
      · subst e
        rw [if_pos rfl]
        refine ⟨⟨cp, fun i q hq => by simp at hq⟩, ⟨t30, fun i q hq => by simp at hq⟩, by simp, fun q hq => by simp at hq, ?_⟩
        have := hN.2.2.2.2.2.2.2.2.1
        show 0 + le ≤ 16
        omega
      · rw [if_neg e]
        obtain ⟨u1, u2, u3⟩ := h7.1 c (by omega)
        have r : ∀ k, 26 ≤ k → k < 42 → k ≠ 26 + nc → σ' k = σ k := fun k a b d => es k (by omega) (by omega) (by omega) (by omega) (by omega) d
        refine ⟨u1.cg (by rw [r _ (by omega) (by omega) (by omega)]) (r _ (by omega) (by omega) (by omega)) (r _ (by omega) (by omega) (by omega)) (r _ (by omega) (by omega) (by omega)), ?_, u3⟩
        unfold pM at u2 ⊢
        rw [tn 30 c (by decide) (by decide) e, tr 31 (by decide) (by decide), tr 32 (by decide) (by decide), tr 33 (by decide) (by decide)]
        exact u2
    · show ((if c = nc then [] else ps c).map (fun q => q.1)).Nodup
      by_cases e : c = nc
      · rw [if_pos e]; simp
      · rw [if_neg e]; exact h7.2.1 c (by omega)
    · have k : q ∈ (if c = nc then [] else ps c) := hq
      have k' : q' ∈ (if c' = nc then [] else ps c') := hq'
      by_cases e : c = nc
      · rw [if_pos e] at k; simp at k
      · by_cases e' : c' = nc
        · rw [if_pos e'] at k'; simp at k'
        · rw [if_neg e] at k
          rw [if_neg e'] at k'
          exact h7.2.2 c c' (by omega) (by omega) hne q k q' k'
  · intro c hc hne t ht
    by_cases e : c = nc
    · subst e
      exact absurd t28 hne
    · rw [tn 28 c (by decide) (by decide) e] at hne
      rw [es (42 + c) (by omega) (by omega) (by omega) (by omega) (by omega) (by omega), tr 34 (by decide) (by decide)]
      exact h8 c (by omega) hne t ht
  · have q := h9.cg hnd (fun d hd => es _ (by omega) (by omega) (by omega) (by omega) (by omega) (by omega)) (fun k u v => tr k (by omega) (by omega)) (σ' := σ') (τ' := τ')
    exact ⟨q.1, fun d hd => (q.2 d hd).nc (by omega)⟩
theorem st_nest {n : Nat} {σ τ : St} (h : Rel n σ τ) (hn : n < 512) (a0 a1 : Int32) : ∃ r σ' τ', f_X7_nest a0 a1 σ = some (r, σ') ∧ f_X8_nest a0 a1 τ = some (r, τ') ∧ Rel (n + 1) σ' τ' := by
  obtain ⟨nc, nd, B, S, le, li, ps, hT⟩ := h
  obtain ⟨h1, h2, h3, h4, h5, h6, h7, h8, h9⟩ := id hT
  obtain ⟨g1, g2, g3, g4, g5, g6, g7, g8, g9⟩ := ca_0 hT
  obtain ⟨hN, hl, hL, hM, ⟨N, n0, n1, n2⟩, hrest⟩ := id h1
  have gL := g1.2.2.1
  have hnd := hN.2.2.2.1
  have hnc := hN.2.1
  have r1 : ∀ x, Rel (n + 1) (up2 (up2 (up2 σ 4 1 0) 5 0 x) 4 1 (nI 1)) (up2 (up2 (up2 τ 0 3 1) 4 0 x) 4 1 0) := fun x => rel_mono (ca_1 hT x).rel
  obtain ⟨b, eb⟩ : ∃ b, b = 48 * 2 ^ B := ⟨_, rfl⟩
  obtain ⟨a, ea⟩ : ∃ a, a = 48 * 2 ^ S := ⟨_, rfl⟩
  have hB : b ≤ 1536 := by have := pow_le (show B ≤ 5 from hN.2.2.2.2.1); omega
  have hB1 : 48 ≤ b := by have := pow_le (show 0 ≤ B from Nat.zero_le _); omega
  have hS1 : 48 ≤ a := by have := pow_le (show 0 ≤ S from Nat.zero_le _); omega
  have hSB : a ≤ b := by have := pow_le (show S ≤ B from hN.2.2.2.2.2.2.1); omega
  have hNb : N < 1000000000 := by unfold BT at n0; omega
  have gb : up2 σ 4 1 0 (LA (up2 σ 4 1 0)) 0 = nI b := by rw [eb]; exact gL.1
  have ga : up2 σ 4 1 0 (LA (up2 σ 4 1 0)) 1 = nI a := by rw [ea]; exact gL.2.1
  have g5' : up2 σ 4 1 0 (LA (up2 σ 4 1 0)) 5 = nI nc := gL.2.2.2.2.2.1
  have mb : τ 0 16 = nI b := by rw [eb]; exact hM.1
  have ma : τ 0 17 = nI a := by rw [ea]; exact hM.2.1
  have m5 : τ 0 24 = nI nc := hM.2.2.2.2.2.1
  have la : LA σ = 8 ∨ LA σ = 14 := LA_ok σ
  have eLA : LA (up2 σ 4 1 0) = LA σ := by unfold LA; rw [up2_r (by decide)]
  by_cases hq : 0 ≤ a0.toInt ∧ a0.toInt < nc
  · obtain ⟨p, hp, rfl⟩ := who hq
    have hp4 : p < 4 := Nat.lt_of_lt_of_le hp hnc
    have gc0 := co_c hnc g5' hp
    have gm0 := co_m hN.1 hnc m5 hp
    by_cases hv : 0 ≤ a1.toInt ∧ a1.toInt < (b : Int)
    · obtain ⟨y, hy, rfl⟩ := who hv
      have m1 : f_X8_in (nI y).toInt64 0 (((τ 0 16) - (1 : Int32)).toInt64) τ = some (1, τ) := in_t (by rw [t64 0 (by decide)]; omega) (by rw [mb, sub1 (by omega) (by omega), t_nI y (by omega)]; omega)
      have k1 : ¬ nI y < 0 := nI_pos (by omega)
      have k2 : nI y < nI b := nI_lt hy (by omega)
      by_cases hfull : nc = 4
      · refine ⟨-3, _, _, ?_, ?_, r1 14⟩
        · unfold f_X7_nest f_X6_clear
          rw [vl_d, cl_some, gc0, cl_some, oc_some, gd_t hp4, if_neg k1, gb, if_pos k2, g5', if_neg (by rw [hfull]; decide), app_a, cl_some]
        · unfold f_X8_nest
          rw [gm0, cl_some, if_neg (by decide), m1, cl_some, if_neg (by decide), m5, if_pos (by rw [hfull]; rfl), ref_a, cl_some]
      · have hlt4 : nc < 4 := by omega
        have k3 : nI nc < 4 := by rw [i_lt, t_lit 4 (by decide), t_nI nc (by omega)]; omega
        have k4 : ¬ nI nc = 4 := by rw [i_eq, t_lit 4 (by decide), t_nI nc (by omega)]; omega
        obtain ⟨s, hs, s1, s2, s3⟩ := h2 p hp
        rw [← eb] at hs
        obtain ⟨f, hf⟩ : ∃ f : Nat → Nat, ∀ i, i < nc → f i < b ∧ σ (LA σ + 2) i = nI (f i) ∧ τ 26 i = nI (f i) := by
          refine ⟨fun i => nt (τ 26 i), fun i hi => ?_⟩
          obtain ⟨s, hs, s1, _, s3⟩ := h2 i hi
          rw [← eb] at hs
          show nt (τ 26 i) < b ∧ σ (LA σ + 2) i = nI (nt (τ 26 i)) ∧ τ 26 i = nI (nt (τ 26 i))
          rw [s3, nt_nI (by omega)]
          exact ⟨hs, s1, rfl⟩
        obtain ⟨x, ex⟩ : ∃ x, x = (s + y) % b := ⟨_, rfl⟩
        have hx : x < b := by rw [ex]; exact Nat.mod_lt _ (by omega)
        have exx : (if nI (s + y) < nI b then nI (s + y) else nI (s + y) - nI b) = nI x := by
          by_cases z : s + y < b
          · rw [if_pos (nI_lt z (by omega)), ex, Nat.mod_eq_of_lt z]
          · rw [if_neg (by rw [nI_ltI (by omega) (by omega)]; exact z), nI_m _ _ (by omega), ex, show s + y = (s + y - b) + b by omega, Nat.add_mod_right, Nat.mod_eq_of_lt (by omega), Nat.add_sub_cancel]
        have sb : f_X3_startBehind (LA (up2 σ 4 1 0)) (nI p) (nI y) (up2 σ 4 1 0) = some (nI x, up2 σ 4 1 0) := by
          unfold f_X3_startBehind f_X3_startAt
          have e2 : up2 σ 4 1 0 (LA (up2 σ 4 1 0) + 2) p = nI s := by rw [eLA, up2_ne (by omega)]; exact s1
          rw [if_neg (nI_pos (by omega)), g5', if_neg (by rw [nI_leI (by omega) (by omega)]; omega), if_neg (by rw [nI_leI (by omega) (by omega)]; omega), gd_t (ix_nI hp4 (by decide)), nt_nI (by omega), e2, cl_some, vl_d, nI_add, gb, ← exx]
          by_cases z : nI (s + y) < nI b
          · rw [if_pos z, if_pos z]
          · rw [if_neg z, if_neg z]
        obtain ⟨r, c1, c2⟩ := c_clash (o := LA (up2 σ 4 1 0)) (σ := up2 σ 4 1 0) (f := f) hnc hB hSB hx g5' gb ga (fun i hi => ⟨(hf i hi).1, by rw [eLA, up2_ne (by omega)]; exact (hf i hi).2.1⟩)
        obtain ⟨r', d1, d2⟩ := m_meets (p := 26) (τ := τ) (f := f) rfl hnc hB (by omega) hSB (by omega) hx (fun i hi => ⟨(hf i hi).1, (hf i hi).2.2⟩)
        have er := fC_one c2 d2
        subst er
        have nb : ¬ nI b = 0 := by rw [i_eq, t_nI b (by omega), t_lit 0 (by decide)]; omega
        have em : nI s + nI y - (nI s + nI y) / nI b * nI b = nI x := by rw [nI_add, pk_rem (by omega) (by omega) (by omega), ex]
        by_cases hno : r = -4
        · obtain ⟨fb, efb⟩ : ∃ fb, fb = fB N x b := ⟨_, rfl⟩
          obtain ⟨m, hm, w1, w2⟩ := m_fb hNb hx hB
          have hfbB : fb ≤ BT (n + 1) := by
            have := fB_le (N := N) (x := x) (b := b) (by omega)
            unfold BT at n0 ⊢
            omega
          obtain ⟨L, eL⟩ : ∃ L, L = LA σ := ⟨_, rfl⟩
          obtain ⟨σ2, eσ2⟩ : ∃ σ2, σ2 = up2 (up2 (up2 (up2 σ 4 1 0) (L + 1) nc (nI p)) (L + 2) nc (nI x)) L 5 (nI (nc + 1)) := ⟨_, rfl⟩
          have e20 : σ2 0 = σ 0 := by rw [eσ2, up2_ne (by omega), up2_ne (by omega), up2_ne (by omega), up2_ne (by omega)]
          have eLA2 : LA σ2 = L := by rw [eL]; unfold LA; rw [e20]
          have a1' : f_X3_addCoordinator (LA (up2 σ 4 1 0)) (nI p) (nI x) (up2 σ 4 1 0) = some ((), σ2) := by
            unfold f_X3_addCoordinator
            rw [vl_d, g5', if_neg (nI_pos (by omega)), if_neg (by rw [i_le, t_lit 4 (by decide), t_nI nc (by omega)]; omega), gd_t (ix_nI hlt4 (by decide)), vl_d, gd_t (ix_nI hlt4 (by decide)), vl_d, vl_d, nt_nI (by omega), up2_r (show LA (up2 σ 4 1 0) ≠ LA (up2 σ 4 1 0) + 2 by omega), up2_r (show LA (up2 σ 4 1 0) ≠ LA (up2 σ 4 1 0) + 1 by omega), g5', nI_1, eLA, eσ2, eL]
          have c25 : σ2 (LA σ2) 5 = nI (nc + 1) := by rw [eLA2, eσ2, up2_at]
          have c20 : σ2 (LA σ2) 0 = nI b := by rw [eLA2, eσ2, up2_c (by decide), up2_r (by omega), up2_r (by omega), ← eLA.trans eL.symm]; exact gb
          have cc := co_c (nc := nc + 1) (by omega) c25 (show nc < nc + 1 by omega)
          have fbc := c_fb (o := LA σ2) (σ := σ2) hNb hx hB c20
          have n8 : σ2 0 8 = nI N := by rw [e20]; exact n1
          obtain ⟨τ2, eτ2⟩ : ∃ τ2, τ2 = up2 (up2 (up2 (up2 (up2 (up2 τ 0 3 0) 25 nc (nI p)) 26 nc (nI x)) 28 nc 0) 30 nc 0) 29 nc 0 := ⟨_, rfl⟩
          have t20 : τ2 0 = up2 τ 0 3 0 0 := by rw [eτ2, up2_ne (by decide), up2_ne (by decide), up2_ne (by decide), up2_ne (by decide), up2_ne (by decide)]
          have t2a : ∀ j, j ≠ 3 → τ2 0 j = τ 0 j := fun j hj => by rw [t20, up2_c hj]
          have nz : nI N + nI b - nI m = nI (N + b - m) := by rw [nI_add, nI_m _ _ (by omega)]
          refine ⟨nI nc, up2 (up2 (up2 (up2 (up2 (up2 σ2 (22 + nc) 0 (nI p)) (22 + nc) 1 (nI x)) (22 + nc) 3 (nI fb)) (22 + nc) 2 0) (22 + nc) 4 0) (26 + nc) 3 0, up2 (up2 τ2 27 nc (nI fb)) 0 24 (nI (nc + 1)), ?_, ?_, nest_rel (x := x) (p := p) (fb := fb) hT hlt4 (by rw [← eb]; exact hx) hfbB ?_ ?_ ?_ ?_ ?_ ?_ ?_ ?_ ?_ ?_ ?_ ?_ ?_ ?_ ?_ ?_ ?_ ?_ ?_ ?_ ?_ ?_ ?_⟩
          · unfold f_X7_nest f_X6_clear
            rw [vl_d, cl_some, gc0, cl_some, oc_some, gd_t hp4, if_neg k1, gb, if_pos k2, g5', if_pos k3, sb, cl_some, c1, cl_some, if_pos hno, vl_d, g5', a1', cl_some, cc, cl_some, oc_some, gd_t hlt4, n8, fbc, cl_some, efb]
            unfold f_X1_layAt f_X4_clear
            rw [vl_d, vl_d, vl_d, vl_d, vl_d, vl_d, cl_some, cl_some]
          · unfold f_X8_nest
            rw [gm0, cl_some, if_neg (by decide), m1, cl_some, if_neg (by decide), m5, if_neg k4, gd_t (ix_nI hp4 (by decide)), mb, gd_t nb, vl_d, nt_nI (show p < 2147483648 by omega), s3, em, ma, d1, cl_some, if_pos hno, vl_d, vl_d, up2_c (show (24 : Nat) ≠ 3 by decide), m5]
            unfold f_X8_coordBegins
            rw [gd_t (ix_nI hlt4 (by decide)), vl_d, gd_t (ix_nI hlt4 (by decide)), vl_d, gd_t (ix_nI hlt4 (by decide)), vl_d, gd_t (ix_nI hlt4 (by decide)), vl_d, gd_t (ix_nI hlt4 (by decide)), vl_d, cl_some, nt_nI (show nc < 2147483648 by omega), ← eτ2, t2a 16 (by decide), mb, gd_t nb, vl_d, t2a 21 (by decide), n2]
            have key : f_X8_nest_157 (nI nc) (nI m) τ2 = some (nI nc, up2 (up2 τ2 27 nc (nI fb)) 0 24 (nI (nc + 1))) := by
              unfold f_X8_nest_157
              rw [t2a 16 (by decide), mb, t2a 21 (by decide), n2]
              by_cases hm0 : m = 0
              · rw [if_pos (by rw [hm0]; rfl), gd_t (ix_nI hlt4 (by decide)), vl_d, vl_d, nt_nI (by omega), up2_r (show (0 : Nat) ≠ 27 by decide), t2a 24 (by decide), m5, nI_1, efb, w2, if_pos hm0]
              · rw [if_neg (by rw [i_eq, t_nI m (by omega), t_lit 0 (by decide)]; omega), gd_t (ix_nI hlt4 (by decide)), vl_d, vl_d, nt_nI (by omega), up2_r (show (0 : Nat) ≠ 27 by decide), t2a 24 (by decide), m5, nI_1, efb, w2, if_neg hm0, nz]
            have w1' : (if 0 ≤ ((nI N - nI x) - (nI N - nI x) / nI b * nI b) then ((nI N - nI x) - (nI N - nI x) / nI b * nI b) else ((nI N - nI x) - (nI N - nI x) / nI b * nI b) + nI b) = nI m := w1
            by_cases hpos : 0 ≤ ((nI N - nI x) - (nI N - nI x) / nI b * nI b)
            · rw [if_pos hpos] at w1'
              rw [if_pos hpos, w1']
              exact key
            · rw [if_neg hpos] at w1'
              rw [if_neg hpos, w1']
              exact key
          · intro k u1 u2 u3 u4 u5 u6
            rw [up2_ne u6, up2_ne u5, up2_ne u5, up2_ne u5, up2_ne u5, up2_ne u5, eσ2, up2_ne (by rw [eL]; exact u2), up2_ne (by rw [eL]; exact u4), up2_ne (by rw [eL]; exact u3), up2_ne u1]
          · rw [up2_r (by omega), up2_r (by omega), up2_r (by omega), up2_r (by omega), up2_r (by omega), up2_r (by omega), eσ2, up2_r (by omega), up2_r (by omega), up2_r (by omega), up2_at]
          · rw [← eL, up2_r (by omega), up2_r (by omega), up2_r (by omega), up2_r (by omega), up2_r (by omega), up2_r (by omega), eσ2, up2_at]
          · intro j hj
            rw [← eL, up2_r (by omega), up2_r (by omega), up2_r (by omega), up2_r (by omega), up2_r (by omega), up2_r (by omega), eσ2, up2_c hj, up2_r (by omega), up2_r (by omega), up2_r (by omega)]
          · rw [← eL, up2_r (by omega), up2_r (by omega), up2_r (by omega), up2_r (by omega), up2_r (by omega), up2_r (by omega), eσ2, up2_r (by omega), up2_at]
          · intro j hj
            rw [← eL, up2_r (by omega), up2_r (by omega), up2_r (by omega), up2_r (by omega), up2_r (by omega), up2_r (by omega), eσ2, up2_r (by omega), up2_c hj, up2_r (by omega), up2_r (by omega)]
          · rw [up2_r (by omega), up2_c (by decide), up2_c (by decide), up2_c (by decide), up2_c (by decide), up2_at]
          · rw [up2_r (by omega), up2_c (by decide), up2_c (by decide), up2_c (by decide), up2_at]
          · rw [up2_r (by omega), up2_c (by decide), up2_at]
          · rw [up2_r (by omega), up2_c (by decide), up2_c (by decide), up2_at]
          · rw [up2_r (by omega), up2_at]
          · rw [up2_at]
          · intro j u1 u2
            rw [up2_c u2, up2_r (by decide), t2a j u1]
          · rw [up2_c (by decide), up2_r (by decide), t20, up2_at]
          · rw [up2_at]
          · rw [up2_r (by decide), up2_r (by decide), eτ2, up2_r (by decide), up2_r (by decide), up2_r (by decide), up2_r (by decide), up2_at]
          · rw [up2_r (by decide), up2_r (by decide), eτ2, up2_r (by decide), up2_r (by decide), up2_r (by decide), up2_at]
          · rw [up2_r (by decide), up2_at]
          · rw [up2_r (by decide), up2_r (by decide), eτ2, up2_r (by decide), up2_r (by decide), up2_at]
          · rw [up2_r (by decide), up2_r (by decide), eτ2, up2_at]
          · rw [up2_r (by decide), up2_r (by decide), eτ2, up2_r (by decide), up2_at]
          · intro k j u1 u2 u3
            rw [up2_r (by omega), up2_g, if_neg (fun q => u3 q.2), eτ2, up2_g, if_neg (fun q => u3 q.2), up2_g, if_neg (fun q => u3 q.2), up2_g, if_neg (fun q => u3 q.2), up2_g, if_neg (fun q => u3 q.2), up2_g, if_neg (fun q => u3 q.2), up2_r (by omega)]
          · intro k u1 u2
            rw [up2_ne u1, up2_ne (by omega), eτ2, up2_ne (by omega), up2_ne (by omega), up2_ne (by omega), up2_ne (by omega), up2_ne (by omega), up2_ne u1]
        · obtain ⟨i, hi, ei⟩ : ∃ i, i < nc ∧ r = nI i := by
            rcases c2 with ⟨q, _⟩ | ⟨k, q1, q2, _⟩
            · exact absurd q hno
            · exact ⟨k, q1, q2⟩
          subst ei
          refine ⟨-2, _, _, ?_, ?_, rel_mono (ca_2 hT 13 (nI (20 + i))).rel⟩
          · unfold f_X7_nest f_X6_clear
            rw [vl_d, cl_some, gc0, cl_some, oc_some, gd_t hp4, if_neg k1, gb, if_pos k2, g5', if_pos k3, sb, cl_some, c1, cl_some, if_neg hno, app_a, cl_some, show (20 : Int32) = nI 20 from rfl, nI_add, app_b, cl_some]
          · unfold f_X8_nest
            rw [gm0, cl_some, if_neg (by decide), m1, cl_some, if_neg (by decide), m5, if_neg k4, gd_t (ix_nI hp4 (by decide)), mb, gd_t nb, vl_d, nt_nI (show p < 2147483648 by omega), s3, em, ma, d1, cl_some, if_neg hno, show (20 : Int32) = nI 20 from rfl, nI_add, ref_b _ _ _ _ (by rw [Ne, i_eq, t_nI _ (by omega), t_lit 0 (by decide)]; omega), cl_some]
    · refine ⟨-1, _, _, ?_, ?_, r1 18⟩
      · unfold f_X7_nest f_X6_clear
        rw [vl_d, cl_some, gc0, cl_some, oc_some, gd_t hp4]
        by_cases h0 : a1 < 0
        · rw [if_pos h0, app_a, cl_some]
        · rw [if_neg h0, gb, if_neg (by rw [i_lt, t_lit 0 (by decide)] at h0; rw [i_lt, t_nI b (by omega)]; omega), app_a, cl_some]
      · unfold f_X8_nest
        rw [gm0, cl_some, if_neg (by decide), in_f (by rw [mb, sub1 (by omega) (by omega), t64 0 (by decide)]; omega), cl_some, if_pos rfl, ref_a, cl_some]
  · refine ⟨-1, _, _, ?_, ?_, r1 18⟩
    · unfold f_X7_nest f_X6_clear
      rw [vl_d, cl_some, co_cn hnc g5' hq, cl_some, oc_none, app_a, cl_some]
    · unfold f_X8_nest
      rw [co_mn hN.1 hnc m5 hq, cl_some, if_pos rfl, ref_a, cl_some]
