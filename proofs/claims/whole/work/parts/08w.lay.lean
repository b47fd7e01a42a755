/-! lay -/
/-- the relation without its text -/
def TX (n nc nd B S le li : Nat) (ps : Nat → List Pr) (σ τ : St) : Prop := rG n nc nd B S le li σ τ ∧ rS nc B σ τ ∧ rCa σ τ ∧ rCo n nc σ τ ∧ rZ nc σ ∧ rP nc nd le ps σ τ ∧ rA nc S σ τ ∧ rD nc nd σ τ
theorem begin_tt {n o nc nd B S le li : Nat} {σ τ : St} (eo : o = lay (σ 0 7)) (hnd1 : 1 ≤ nd) (hY : RY o nc nd B li σ τ) (hO : RO o B S le σ τ) (hca : rCa σ τ) (hcode : (σ 0 6 = 0 ∧ σ 0 7 = 1) ∨ (σ 0 6 = 1 ∧ σ 0 7 = 0)) (hE : ∀ d, d < 8 → ∀ j, 16 ≤ j → j ≤ 19 → σ (46 + d) j = τ (35 + j) d) (hE0 : ∀ d, d < 8 → σ (46 + d) 0 = nI d) : ∃ σ' τ', f_X7_takeLayout σ = some ((), σ') ∧ f_X8_begin τ = some ((), τ') ∧ TX n nc nd B S le li (fun _ => []) σ' τ' ∧ (σ' 1 = σ 1 ∧ σ' 2 = σ 2 ∧ τ' 0 0 = τ 0 0 ∧ τ' 1 = τ 1) ∧ σ' (LA σ') 6 = nI nd ∧ τ' 0 35 = nI nd := by
  have ho : o = 8 ∨ o = 14 := by rw [eo]; exact lay_ok _
  obtain ⟨y1, y2, y3, y4, y5, y6, y7⟩ := id hY
  obtain ⟨oN, o0, o1, o2, o3, t5, t6, t7⟩ := id hO
  obtain ⟨hm, ehm⟩ : ∃ hm : Nat → Nat, ∀ d, d < nd → hm d < nc ∧ σ (o + 3) d = nI (hm d) ∧ τ 13 d = nI (hm d) := by
    refine ⟨fun d => nt (τ 13 d), fun d hd => ?_⟩
    obtain ⟨h, x, e, q1, _, _, _, q2, _⟩ := y7 d hd
    show nt (τ 13 d) < nc ∧ σ (o + 3) d = nI (nt (τ 13 d)) ∧ τ 13 d = nI (nt (τ 13 d))
    rw [q2.2, nt_nI (by omega)]
    exact ⟨q1, q2.1, rfl⟩
  obtain ⟨σ2, σc, σd, e2, lc, ld, ct⟩ := c_take (hm := hm) eo y1.2.1 y1.2.2.1 y3.1 y4.1 (fun d hd => ⟨(ehm d hd).1, (ehm d hd).2.1⟩)
  obtain ⟨τ', mb, mM, m21, m22, m23, m0, mr, mc, md⟩ := m_begin (hm := hm) y1.2.1 y1.2.2.1 oN.1 oN.2.1 t5 t6 t7 y2.2 y3.2 y4.2 (fun d hd => ⟨(ehm d hd).1, (ehm d hd).2.2⟩)
  obtain ⟨σ', eσ⟩ : ∃ σ', σ' = up2 (up2 (up2 σd 6 2 1) 0 8 0) 0 9 0 := ⟨_, rfl⟩
  have s1 : ∀ a, a ≠ 0 → a ≠ 6 → σ' a = σd a := fun a h1 h2 => by rw [eσ, up2_ne h1, up2_ne h1, up2_ne h2]
  have s0 : ∀ j, j ≠ 8 → j ≠ 9 → σ' 0 j = σ2 0 j := fun j h1 h2 => by rw [eσ, up2_c h2, up2_c h1, up2_r (by decide), ld.1 0 (by decide), lc.1 0 (by decide)]
  have s2 : ∀ a, a ≠ 0 → σ2 a = σ a := fun a h => by rw [e2, up2_ne h, up2_ne h]
  have sl : ∀ a, a ≠ 0 → a ≠ 6 → a < 22 → σ' a = σ a := fun a h1 h2 h3 => by rw [s1 a h1 h2, ld.1 a (by omega), lc.1 a (by omega), s2 a h1]
  have eLA : LA σ' = o := by
    unfold LA
    rw [s0 6 (by decide) (by decide), e2, up2_c (by decide), up2_at]
    exact layC_ok ho
  have e06 : σ' 0 6 = layC o := by rw [s0 6 (by decide) (by decide), e2, up2_c (by decide), up2_at]
  have e07 : σ' 0 7 = layC (LA σ) := by rw [s0 7 (by decide) (by decide), e2, up2_at]
  have cC : ∀ c, c < 4 → ∀ j, j ≠ 2 → σ' (22 + c) j = σc (22 + c) j := fun c hc j hj => by rw [s1 _ (by omega) (by omega)]; exact ld.2.1 c hc j hj
  have cL : ∀ c, c < 4 → σ' (22 + c) 2 = lsF hm c nd := fun c hc => by rw [s1 _ (by omega) (by omega), ld.2.2.1 c hc, show min 8 nd = nd by omega]
  have cP : ∀ c, c < 4 → σ' (26 + c) 3 = 0 := fun c hc => by rw [s1 _ (by omega) (by omega), ld.1 _ (by omega)]; exact (lc.2 c hc).2.2.2.2.2
  refine ⟨σ', τ', by rw [ct, eσ], mb, ⟨⟨⟨y1.1, y1.2.1, hnd1, y1.2.2.1, oN.1, oN.2.1, oN.2.2.1, oN.2.2.2.1, oN.2.2.2.2, y1.2.2.2.1, y1.2.2.2.2⟩, ?_, ?_, mM, ⟨0, Nat.zero_le _, ?_, m21⟩, ?_, 1, by decide, ?_, m22⟩, ?_, ?_, ?_, ?_, ?_, ?_, ?_⟩, ⟨sl 1 (by decide) (by decide) (by decide), sl 2 (by decide) (by decide) (by decide), m0 0 (by decide), mr 1 (by decide) (by decide)⟩, ?_, mM.2.2.2.2.2.2⟩
  · rw [e06, e07]
    rcases hcode with ⟨a, b⟩ | ⟨a, b⟩
    · right
      rw [eo, b]
      unfold LA
      rw [a]
      decide
    · left
      rw [eo, b]
      unfold LA
      rw [a]
      decide
  · rw [eLA, sl o (by omega) (by omega) (by omega)]
    exact ⟨o0, o1, o2, o3, y2.1, y3.1, y4.1⟩
  · rw [eσ, up2_c (by decide), up2_at]; rfl
  · rw [eσ, up2_at, m23]
  · rw [eσ, up2_r (by decide), up2_r (by decide), up2_at]; rfl
  · intro c hc
    have hc4 : c < 4 := by omega
    obtain ⟨s, q1, q2, q3⟩ := y6 c hc
    refine ⟨s, q1, ?_, ?_, ?_⟩
    · rw [eLA, sl (o + 2) (by omega) (by omega) (by omega)]; exact q2
    · rw [cC c hc4 1 (by decide), (lc.2 c hc4).2.1, if_pos hc, s2 (o + 2) (by omega)]; exact q2
    · rw [(mc c hc4).2.1]; exact q3
  · exact hca.cg (sl 4 (by decide) (by decide) (by decide)) (sl 5 (by decide) (by decide) (by decide)) (m0 3 (by decide)) (mr 4 (by decide) (by decide))
  · intro c hc
    have hc4 : c < 4 := by omega
    obtain ⟨s, q1, q2, q3⟩ := y6 c hc
    obtain ⟨u1, u2, u3, u4, u5, u6⟩ := mc c hc4
    obtain ⟨v1, v2, v3, v4, v5, v6⟩ := lc.2 c hc4
    rw [cC c hc4 0 (by decide), cC c hc4 3 (by decide), cC c hc4 4 (by decide), cL c hc4, u1, u3, u4, u5, v1, v4, v5, if_pos hc, if_pos hc, s2 (o + 1) (by omega), s2 (o + 2) (by omega)]
    obtain ⟨m, hm', em⟩ := lsF_ok hm c nd y1.2.2.1
    refine ⟨y5 c hc, ⟨m, hm', em, em⟩, ⟨s, ?_, q2, q3⟩, rfl⟩
    have := pow_le oN.1
    unfold BT
    omega
  · intro c hc hc4
    refine ⟨?_, cP c hc4⟩
    rw [cL c hc4]
    exact lsF_0 hm c nd (fun d hd => by have := (ehm d hd).1; omega)
  · refine ⟨fun c hc => ⟨⟨cP c (by omega), fun i q hq => by simp at hq⟩, ⟨(mc c (by omega)).2.2.2.2.2, fun i q hq => by simp at hq⟩, by simp, fun q hq => by simp at hq, ?_⟩, fun c hc => by simp, fun c c' _ _ _ q hq => by simp at hq⟩
    show 0 + le ≤ 16
    have := oN.2.2.2.2
    omega
  · intro c hc hne
    exact absurd (mc c (by omega)).2.2.2.1 hne
  · have hd0 : ∀ a, 46 ≤ a → σc a = σ a := fun a h => by rw [lc.1 a (by omega), s2 a (by omega)]
    have hdl : ∀ a, a ≠ 0 → a < 22 → σc a = σ a := fun a h h' => by rw [lc.1 a (by omega), s2 a h]
    have hrow : ∀ d, d < nd → ∀ j, 1 ≤ j → j ≤ 14 → σ' (46 + d) j = τ' (35 + j) d := by
      intro d hd j j1 j2
      obtain ⟨h, x, e, _, _, _, _, q1, q2, q3⟩ := y7 d hd
      rw [s1 _ (by omega) (by omega), ld.2.2.2.2.1 d (by omega) hd j j1 j2, md d (by omega) j j1 j2, hdl (o + 3) (by omega) (by omega), hdl (o + 4) (by omega) (by omega), hdl (o + 5) (by omega) (by omega), q1.1, q1.2, q2.1, q2.2, q3.1, q3.2]
    refine ⟨⟨hrow, fun d hd j j1 j2 => ?_, fun d hd => ?_, fun d h1 h2 => ?_⟩, fun d hd => ?_⟩
    · rw [s1 _ (by omega) (by omega), ld.2.2.2.1 d hd j (by omega), hd0 _ (by omega), mr (35 + j) (by omega) (by omega)]
      exact hE d hd j j1 j2
    · rw [s1 _ (by omega) (by omega), ld.2.2.2.1 d hd 0 (by omega), hd0 _ (by omega)]
      exact hE0 d hd
    · rw [s1 _ (by omega) (by omega)]
      exact ld.2.2.2.2.2 d h2 h1
    · obtain ⟨h, x, e, a1, a2, a3, a4, q1, q2, q3⟩ := y7 d hd
      have k : ∀ j, 1 ≤ j → j ≤ 14 → mD τ' d j = dv (nI h) (nI x) (nI e) j := fun j j1 j2 => by
        show τ' (35 + j) d = _
        rw [md d (by omega) j j1 j2, q1.2, q2.2, q3.2]
      unfold dI
      rw [k 1 (by decide) (by decide), k 2 (by decide) (by decide), k 3 (by decide) (by decide), k 5 (by decide) (by decide), k 8 (by decide) (by decide), k 9 (by decide) (by decide), k 10 (by decide) (by decide), k 11 (by decide) (by decide), k 12 (by decide) (by decide), k 13 (by decide) (by decide)]
      exact ⟨Or.inr ⟨h, a1, rfl⟩, ⟨x, a2, a3, rfl⟩, ⟨e, a4, rfl⟩, ⟨0, by decide, rfl⟩, ⟨0, by decide, rfl, fun _ => by decide⟩, ⟨0, by decide, rfl⟩, Or.inl rfl, ⟨e, by omega, rfl⟩, ⟨0, by decide, rfl, fun _ => by decide⟩, ⟨0, by decide, rfl⟩⟩
  · rw [eLA, sl o (by omega) (by omega) (by omega)]
    exact y4.1
theorem begin_rel {n o nc nd B S le li : Nat} {σ τ : St} (eo : o = lay (σ 0 7)) (hnd1 : 1 ≤ nd) (hY : RY o nc nd B li σ τ) (hO : RO o B S le σ τ) (hT : rT σ τ) (hca : rCa σ τ) (hcode : (σ 0 6 = 0 ∧ σ 0 7 = 1) ∨ (σ 0 6 = 1 ∧ σ 0 7 = 0)) (hE : ∀ d, d < 8 → ∀ j, 16 ≤ j → j ≤ 19 → σ (46 + d) j = τ (35 + j) d) (hE0 : ∀ d, d < 8 → σ (46 + d) 0 = nI d) : ∃ σ' τ', f_X7_takeLayout σ = some ((), σ') ∧ f_X8_begin τ = some ((), τ') ∧ Rel n σ' τ' ∧ σ' (LA σ') 6 = nI nd ∧ τ' 0 35 = nI nd := by
  obtain ⟨σ', τ', f1, f2, ⟨g1, g2, g3⟩, ⟨r1, r2, r3, r4⟩, f4⟩ := begin_tt (n := n) eo hnd1 hY hO hca hcode hE hE0
  exact ⟨σ', τ', f1, f2, ⟨nc, nd, B, S, le, li, fun _ => [], g1, g2, hT.cg r1 r2 r3 r4, g3⟩, f4⟩
theorem st_lay {n : Nat} {σ τ : St} (h : Rel n σ τ) (hn : n < 512) : ∃ r σ' τ', f_X7_lay σ = some (r, σ') ∧ f_X8_lay τ = some (r, τ') ∧ Rel (n + 1) σ' τ' := by
  obtain ⟨nc, nd, B, S, le, li, ps, hT⟩ := rel_mono h
  have g := ca_0 hT
  obtain ⟨r, σ1, τ1, e1, e2, e3, e4, e5⟩ := fot g rfl (la_ne g.1) (up2_at _ _ _ _)
  rw [readAll_3] at e2
  unfold f_X7_lay f_X6_clear f_X8_lay
  rw [vl_d, cl_some, e1, cl_some, e2, cl_some]
  by_cases hr : r = -4
  · obtain ⟨k4, nc', nd', B', li', hY, hO⟩ := e5 hr
    have eo : lay (up2 σ 4 1 0 0 7) = lay (σ1 0 7) := by rw [e4]
    rw [eo] at hY hO
    have n6 : σ1 (lay (σ1 0 7)) 6 = nI nd' := hY.2.2.2.1.1
    have n12 : τ1 0 12 = nI nd' := hY.2.2.2.1.2
    rw [if_pos hr, if_pos hr, n6, n12]
    by_cases h0 : nd' = 0
    · rw [if_pos (by rw [h0]; rfl), if_pos (by rw [h0]; rfl)]
      have cs : up2 σ1 4 1 0 = σ1 := by rw [← k4, up2_self]
      have ap := app_a σ1 2
      rw [cs] at ap
      rw [ap, cl_some, ref_a, cl_some]
      have c1 := ca_1 e3 2
      rw [cs] at c1
      exact ⟨-2, _, _, rfl, rfl, c1.rel⟩
    · have z : ¬ nI nd' = 0 := by have := hY.1.2.2.1; rw [i_eq, t_nI nd' (by omega), t_lit 0 (by decide)]; omega
      obtain ⟨S', le', hO'⟩ := hO.resolve_left h0
      obtain ⟨σ', τ', f1, f2, f3, f4, f5⟩ := begin_rel (n := n + 1) rfl (by omega) hY hO' e3.2.2.1 e3.2.2.2.1 e3.1.2.1 e3.2.2.2.2.2.2.2.2.1.2.1 e3.2.2.2.2.2.2.2.2.1.2.2.1
      rw [if_neg z, if_neg z, f1, f2, cl_some, cl_some, show σ' (lay (σ' 0 6)) 6 = nI nd' from f4, f5]
      exact ⟨_, _, _, rfl, rfl, f3⟩
  · rw [if_neg hr, if_neg hr]
    exact ⟨-2, _, _, rfl, rfl, e3.rel⟩
