/-! join -/
theorem cl_join {d c : Nat} {qs : Nat → List Pr} {σ : St} (hd : d < 8) (hc : c < 4) (hp : ∀ c, c < 4 → pC (qs c) c σ) (hq : ∀ c, c < 4 → ok7 (qs c)) : ∃ σk, cI d (nI c) qs σ 4 σk ∧ lp (fun K a => b_X7_join_47 d c K a.1 a.2.1 a.2.2.1 a.2.2.2) FU (nI d, nI c, (0 : Int32), σ) = some (σ (46 + d) 1, up2 (up2 (up2 σk (22 + c) 2 (σ (22 + c) 2 ||| bB d)) (46 + d) 1 (nI c)) (46 + d) 8 0) := by
  obtain ⟨r, hr, σ', q, rfl⟩ := lp_FU (b := fun K a => b_X7_join_47 d c K a.1 a.2.1 a.2.2.1 a.2.2.2)
    (fun k a => ∃ σk, a = (nI d, nI c, nI k, σk) ∧ cI d (nI c) qs σ k σk)
    (fun r => ∃ σk, cI d (nI c) qs σ 4 σk ∧ r = (σ (46 + d) 1, up2 (up2 (up2 σk (22 + c) 2 (σ (22 + c) 2 ||| bB d)) (46 + d) 1 (nI c)) (46 + d) 8 0)) 4 (by omega)
    (fun k a hk ha => by
      obtain ⟨σk, rfl, hI⟩ := ha
      by_cases e : nI k = nI c
      · refine Or.inl ⟨(nI d, nI c, nI (k + 1), σk), ⟨σk, rfl, cI_skip e hI⟩, fun K => ?_⟩
        show b_X7_join_47 d c K (nI d) (nI c) (nI k) σk = _
        unfold b_X7_join_47
        rw [if_neg (by rw [i_le, t_lit 4 (by decide), t_nI k (by omega)]; omega), if_pos e, vl_d, nI_1]
      · obtain ⟨σ', s1, s2⟩ := cI_step hd hq hk e hI
        refine Or.inl ⟨(nI d, nI c, nI (k + 1), σ'), ⟨σ', rfl, s2⟩, fun K => ?_⟩
        show b_X7_join_47 d c K (nI d) (nI c) (nI k) σk = _
        unfold b_X7_join_47
        rw [if_neg (by rw [i_le, t_lit 4 (by decide), t_nI k (by omega)]; omega), if_neg e, gd_t (ix_nI hk (by decide)), vl_d, nt_nI (by omega), s1, cl_some, vl_d, nI_1])
    (fun a ha => by
      obtain ⟨σk, rfl, hI⟩ := ha
      refine ⟨_, ⟨σk, hI, rfl⟩, fun K => ?_⟩
      show b_X7_join_47 d c K (nI d) (nI c) (nI 4) σk = _
      unfold b_X7_join_47 f_X1_enlist
      rw [if_pos (by decide), vl_d, cl_some, vl_d]
      have e1 : σk (22 + c) 2 = σ (22 + c) 2 := by rw [hI.2.2.1 c hc, if_neg (fun q => q.2 rfl)]
      rw [e1, up2_r (show 46 + d ≠ 22 + c by omega), hI.1 (46 + d) (by omega)]
      rfl)
    (a := (nI d, nI c, 0, σ)) ⟨σ, rfl, cI_0 hp⟩
  exact ⟨σ', q, hr⟩
theorem ml_join {nc d c : Nat} {τ : St} {x : Int32} (hnc : nc ≤ 4) (hd : d < 8) (hc : c < nc) (h0 : τ 0 24 = nI nc) : ∃ τk, gI d τ nc τk ∧ lp (fun K a => b_X8_join_61 K a.1 a.2.1 a.2.2.1 a.2.2.2.1 a.2.2.2.2) FU (nI d, nI c, x, (0 : Int32), τ) = some (x, up2 (up2 (up2 τk 29 c (τ 29 c &&& (bB d ^^^ (-1 : Int32)) ||| bB d)) 36 d (nI c)) 43 d 0) := by
  obtain ⟨r, hr, τ', q, rfl⟩ := lp_FU (b := fun K a => b_X8_join_61 K a.1 a.2.1 a.2.2.1 a.2.2.2.1 a.2.2.2.2)
    (fun k a => ∃ τk, a = (nI d, nI c, x, nI k, τk) ∧ gI d τ k τk)
    (fun r => ∃ τk, gI d τ nc τk ∧ r = (x, up2 (up2 (up2 τk 29 c (τ 29 c &&& (bB d ^^^ (-1 : Int32)) ||| bB d)) 36 d (nI c)) 43 d 0)) nc (by omega)
    (fun k a hk ha => by
      obtain ⟨τk, rfl, hI⟩ := ha
      refine Or.inl ⟨(nI d, nI c, x, nI (k + 1), _), ⟨_, rfl, gI_step hI⟩, fun K => ?_⟩
      show b_X8_join_61 K (nI d) (nI c) x (nI k) τk = _
      unfold b_X8_join_61
      rw [hI.1 0 (by decide), h0, if_neg (by rw [nI_leI (by omega) (by omega)]; omega), gd_t (ix_nI (by omega) (by decide)), gd_t (ix_nI (by omega) (by decide)), vl_d, vl_d, nt_nI (by omega), nI_1])
    (fun a ha => by
      obtain ⟨τk, rfl, hI⟩ := ha
      refine ⟨_, ⟨τk, hI, rfl⟩, fun K => ?_⟩
      show b_X8_join_61 K (nI d) (nI c) x (nI nc) τk = _
      unfold b_X8_join_61
      rw [hI.1 0 (by decide), h0, if_pos (nI_le (Nat.le_refl _) (by omega)), gd_t (ix_nI (by omega) (by decide)), gd_t (ix_nI (by omega) (by decide)), vl_d, gd_t (ix_nI hd (by decide)), vl_d, gd_t (ix_nI hd (by decide)), vl_d, nt_nI (show c < 2147483648 by omega), nt_nI (show d < 2147483648 by omega), hI.2 c, if_pos hc])
    (a := (nI d, nI c, x, 0, τ)) ⟨τ, rfl, fun _ _ => rfl, fun c => by rw [if_neg (by omega)]⟩
  exact ⟨τ', q, hr⟩
theorem st_join {n : Nat} {σ τ : St} (h : Rel n σ τ) (hn : n < 512) (a0 a1 : Int32) : ∃ r σ' τ', f_X7_join a0 a1 σ = some (r, σ') ∧ f_X8_join a0 a1 τ = some (r, τ') ∧ Rel (n + 1) σ' τ' := by
  obtain ⟨nc, nd, B, S, le, li, ps, h1, h2, h3, h4, h5, h6, h7, h8, h9⟩ := rel_mono h
  obtain ⟨hN, hl, hL, hM, hrest⟩ := id h1
  have hnd := hN.2.2.2.1
  have hnc := hN.2.1
  by_cases hq : 0 ≤ a0.toInt ∧ a0.toInt < nd
  · obtain ⟨d, hd, rfl⟩ := who hq
    have hd8 : d < 8 := Nat.lt_of_lt_of_le hd hnd
    have eh : σ (46 + d) 1 = τ 36 d := h9.1.1 d hd 1 (by decide) (by decide)
    by_cases hq2 : 0 ≤ a1.toInt ∧ a1.toInt < nc
    · obtain ⟨c, hc, rfl⟩ := who hq2
      have hc4 : c < 4 := Nat.lt_of_lt_of_le hc hnc
      obtain ⟨m, hm, lm1, lm2⟩ := (h5 c hc).2.1
      have main : ∃ r σ' τ' τ1 r1, lp (fun K a => b_X7_join_47 d c K a.1 a.2.1 a.2.2.1 a.2.2.2) FU (nI d, nI c, (0 : Int32), σ) = some (r, σ') ∧ f_X8_goesFrom (nI d) (nI c) τ = some (r1, τ1) ∧ lp (fun K a => b_X8_join_61 K a.1 a.2.1 a.2.2.1 a.2.2.2.1 a.2.2.2.2) FU (nI d, nI c, τ 36 d, (0 : Int32), τ1) = some (r, τ') ∧ Rel (n + 1) σ' τ' := by
        obtain ⟨qs, k1, k2, k3⟩ := qs_of hnc hnd h7 h6
        have hok : ∀ c, c < nc → ok7 (ps c) := fun c hc => by have := (k3 c (by omega)).2; rw [k1 c hc] at this; exact this
        obtain ⟨σk, c2, c1⟩ := cl_join (c := c) hd8 hc4 (fun c hc => (k3 c hc).1) (fun c hc => (k3 c hc).2)
        obtain ⟨r1, τ1, g1, g2, -⟩ := m_goes (ps := ps) (τ := τ) hnc hd8 hM.2.2.2.2.2.1 (fun c hc => ⟨(h7.1 c hc).2.1, hok c hc⟩) (nI c)
        obtain ⟨τk, m2, m1⟩ := ml_join (d := d) (c := c) (τ := τ1) (x := τ 36 d) hnc hd8 hc (by rw [g2.1 0 (by decide)]; exact hM.2.2.2.2.2.1)
        refine ⟨σ (46 + d) 1, _, _, τ1, r1, c1, g1, by rw [eh]; exact m1, ?_⟩
        have eo : bOff m d ||| bB d = bOn m d := bt5 m hm d hd8
        have e29 : τ1 29 c &&& (bB d ^^^ (-1 : Int32)) ||| bB d = bOn m d := by rw [g2.1 29 (by decide), lm2]; exact eo
        rw [e29, lm1]
        refine rel_pr (qs := fun c' => if nI c' = nI c then ps c' else pR (ps c') d) ⟨h1, h2, h3, h4, h5, h8⟩ (fun k hk => ?_) (fun c' hc' j hj => ?_) (fun k hk => ?_) (fun c' hc' => ?_) (fun c' a b => ?_) ⟨fun c' hc' => ?_, ?_⟩ ?_
        · rw [up2_ne (by omega), up2_ne (by omega), up2_ne (by omega)]
          exact c2.1 k (by omega)
        · rw [up2_ne (by omega), up2_ne (by omega), up2_g, if_neg (fun q => hj q.2)]
          exact c2.2.1 c' hc' j hj
        · rw [up2_ne (by omega), up2_ne (by omega), up2_ne (by omega), m2.1 k (by omega)]
          exact g2.1 k (by omega)
        · rw [up2_ne (show 22 + c' ≠ 46 + d by omega), up2_ne (show 22 + c' ≠ 46 + d by omega), up2_ne (show 29 ≠ 43 by decide), up2_ne (show 29 ≠ 36 by decide)]
          by_cases e : c' = c
          · subst e
            rw [up2_at, up2_at]
            exact ⟨_, (bt4 m hm d hd8).2, (bt4 m hm d hd8).1, (bt4 m hm d hd8).1⟩
          · obtain ⟨m', hm', e1, e2⟩ := (h5 c' hc').2.1
            have hb := bt3 m' hm' d hd8
            rw [up2_ne (show 22 + c' ≠ 22 + c by omega), up2_c e]
            refine ⟨_, hb.2, ?_, ?_⟩
            · rw [c2.2.2.1 c' (by omega), if_pos ⟨by omega, by rw [Ne, nI_eq (by omega) (by omega)]; exact e⟩, e1]
              exact hb.1
            · rw [m2.2 c', if_pos hc', g2.1 29 (by decide), e2]
              exact hb.1
        · have hne : c' ≠ c := by omega
          have hn2 : nI c' ≠ nI c := by rw [Ne, nI_eq (by omega) (by omega)]; exact hne
          have p := c2.2.2.2 c' b
          rw [if_pos ⟨b, hn2⟩, k2 c' a, pR_nil] at p
          rw [up2_ne (show 22 + c' ≠ 46 + d by omega), up2_ne (show 22 + c' ≠ 46 + d by omega), up2_ne (show 22 + c' ≠ 22 + c by omega), up2_ne (show 26 + c' ≠ 46 + d by omega), up2_ne (show 26 + c' ≠ 46 + d by omega), up2_ne (show 26 + c' ≠ 22 + c by omega)]
          refine ⟨?_, p.1⟩
          rw [c2.2.2.1 c' b, if_pos ⟨b, hn2⟩, (h6 c' a b).1]
          exact bt6 d hd8
        · have f1 : ∀ k, 26 ≤ k → k < 42 → up2 (up2 (up2 σk (22 + c) 2 (nI m ||| bB d)) (46 + d) 1 (nI c)) (46 + d) 8 0 k = σk k := fun k h1 h2 => by rw [up2_ne (by omega), up2_ne (by omega), up2_ne (by omega)]
          have f2 : ∀ k, 30 ≤ k → k ≤ 33 → up2 (up2 (up2 τk 29 c (bOn m d)) 36 d (nI c)) 43 d 0 k = τ1 k := fun k h1 h2 => by rw [up2_ne (by omega), up2_ne (by omega), up2_ne (by omega)]; exact m2.1 k (by omega)
          have p := (c2.2.2.2 c' (by omega)).cg (by rw [f1 _ (by omega) (by omega)]) (f1 (30 + c') (by omega) (by omega)) (f1 (34 + c') (by omega) (by omega)) (f1 (38 + c') (by omega) (by omega))
          have p' := (g2.2 c' hc').cg (f2 30 (by decide) (by decide)) (f2 31 (by decide) (by decide)) (f2 32 (by decide) (by decide)) (f2 33 (by decide) (by decide))
          by_cases e : nI c' = nI c
          · rw [if_neg (fun q => q.2 e)] at p p'
            rw [k1 c' hc'] at p
            show pC (if nI c' = nI c then ps c' else pR (ps c') d) c' _ ∧ pM (if nI c' = nI c then ps c' else pR (ps c') d) c' _ ∧ pI nd le (if nI c' = nI c then ps c' else pR (ps c') d)
            rw [if_pos e]
            exact ⟨p, p', (h7.1 c' hc').2.2⟩
          · rw [if_pos ⟨by omega, e⟩] at p p'
            rw [k1 c' hc'] at p
            show pC (if nI c' = nI c then ps c' else pR (ps c') d) c' _ ∧ pM (if nI c' = nI c then ps c' else pR (ps c') d) c' _ ∧ pI nd le (if nI c' = nI c then ps c' else pR (ps c') d)
            rw [if_neg e]
            exact ⟨p, p', (h7.1 c' hc').2.2.sub (pR_sub _ _)⟩
        · refine h7.2.sub (fun c' hc' => ?_)
          show List.Sublist (if nI c' = nI c then ps c' else pR (ps c') d) _
          split
          · exact List.Sublist.refl _
          · exact pR_sub _ _
        · refine rD.home ?_ hd hc
          exact h9.cg hnd (fun d' hd' => by rw [up2_ne (by omega)]; exact c2.1 _ (by omega)) (fun k h1 h2 => by rw [up2_ne (by omega), m2.1 k (by omega)]; exact g2.1 k (by omega))
      have ec : f_X7_join (nI d) (nI c) σ = if σ (46 + d) 1 = nI c then (if bit (nI m) d = 0 then lp (fun K a => b_X7_join_47 d c K a.1 a.2.1 a.2.2.1 a.2.2.2) FU (nI d, nI c, (0 : Int32), σ) else some (-2, σ)) else lp (fun K a => b_X7_join_47 d c K a.1 a.2.1 a.2.2.1 a.2.2.2) FU (nI d, nI c, (0 : Int32), σ) := by
        unfold f_X7_join
        rw [dev_c hnd hL.2.2.2.2.2.2 hd, cl_some, oc_some, gd_t hd8, co_c hnc hL.2.2.2.2.2.1 hc, cl_some, oc_some, gd_t hc4, c_lists hm hd8 lm1, cl_some]
      obtain ⟨r, σ', τ', τ1, r1, q1, q2, q3, q4⟩ := main
      by_cases hh : τ 36 d = nI c
      · rcases bt2 m hm d hd8 with e | e
        · refine ⟨r, σ', τ', ?_, ?_, q4⟩
          · rw [ec, if_pos (eh.trans hh), show bit (nI m) d = 0 from e, if_pos rfl]
            exact q1
          · unfold f_X8_join
            rw [dev_m hN.2.2.1 hnd hM.2.2.2.2.2.2 hd, cl_some, if_neg (by decide), co_m hN.1 hnc hM.2.2.2.2.2.1 hc, cl_some, if_neg (by decide), gd_t (ix_nI hd8 (by decide)), nt_nI (show d < 2147483648 by omega), if_pos hh, gd_t (ix_nI hc4 (by decide)), nt_nI (show c < 2147483648 by omega), lm2, m_has hm hd8, cl_some, show bit (nI m) d = 0 from e, if_pos rfl, gd_t (ix_nI hd8 (by decide)), vl_d, q2, cl_some]
            exact q3
        · refine ⟨-2, σ, τ, ?_, ?_, rel_mono h⟩
          · rw [ec, if_pos (eh.trans hh), show bit (nI m) d = 1 from e, if_neg (by decide)]
          · unfold f_X8_join
            rw [dev_m hN.2.2.1 hnd hM.2.2.2.2.2.2 hd, cl_some, if_neg (by decide), co_m hN.1 hnc hM.2.2.2.2.2.1 hc, cl_some, if_neg (by decide), gd_t (ix_nI hd8 (by decide)), nt_nI (show d < 2147483648 by omega), if_pos hh, gd_t (ix_nI hc4 (by decide)), nt_nI (show c < 2147483648 by omega), lm2, m_has hm hd8, cl_some, show bit (nI m) d = 1 from e, if_neg (by decide)]
      · refine ⟨r, σ', τ', ?_, ?_, q4⟩
        · rw [ec, if_neg (by rw [eh]; exact hh)]
          exact q1
        · unfold f_X8_join
          rw [dev_m hN.2.2.1 hnd hM.2.2.2.2.2.2 hd, cl_some, if_neg (by decide), co_m hN.1 hnc hM.2.2.2.2.2.1 hc, cl_some, if_neg (by decide), gd_t (ix_nI hd8 (by decide)), nt_nI (show d < 2147483648 by omega), if_neg hh, gd_t (ix_nI hd8 (by decide)), vl_d, q2, cl_some]
          exact q3
    · refine ⟨-1, σ, τ, ?_, ?_, rel_mono h⟩
      · unfold f_X7_join
        rw [dev_c hnd hL.2.2.2.2.2.2 hd, cl_some, oc_some, gd_t hd8, co_cn hnc hL.2.2.2.2.2.1 hq2, cl_some, oc_none]
      · unfold f_X8_join
        rw [dev_m hN.2.2.1 hnd hM.2.2.2.2.2.2 hd, cl_some, if_neg (by decide), co_mn hN.1 hnc hM.2.2.2.2.2.1 hq2, cl_some, if_pos rfl]
  · refine ⟨-1, σ, τ, ?_, ?_, rel_mono h⟩
    · unfold f_X7_join
      rw [dev_cn hnd hL.2.2.2.2.2.2 hq, cl_some, oc_none]
      by_cases hq2 : 0 ≤ a1.toInt ∧ a1.toInt < nc
      · obtain ⟨c, hc, rfl⟩ := who hq2
        rw [co_c hnc hL.2.2.2.2.2.1 hc, cl_some, oc_some, gd_t (by omega)]
      · rw [co_cn hnc hL.2.2.2.2.2.1 hq2, cl_some, oc_none]
    · unfold f_X8_join
      rw [dev_mn hN.2.2.1 hnd hM.2.2.2.2.2.2 hq, cl_some, if_pos rfl]
