/-! drop, release, join, scan -/
abbrev bit (x : Int32) (d : Nat) : Int32 := (x >>> (nI d &&& 31)) &&& 1
theorem c_lists {c d m : Nat} {σ : St} (hm : m < 256) (hd : d < 8) (h : σ (22 + c) 2 = nI m) : f_X1_lists c (nI d) σ = some (bit (nI m) d, σ) := by
  unfold f_X1_lists
  rw [h]
  by_cases b : nI m &&& bB d = 0
  · rw [if_pos b, show bit (nI m) d = 0 from (bt1 m hm d hd).mp b]
  · rw [if_neg b]
    rcases bt2 m hm d hd with e | e
    · exact absurd ((bt1 m hm d hd).mpr e) b
    · rw [show bit (nI m) d = 1 from e]
theorem m_has {d m : Nat} {τ : St} (hm : m < 256) (hd : d < 8) : f_X8_has (nI m) (nI d) τ = some (bit (nI m) d, τ) := by
  unfold f_X8_has
  rcases bt2 m hm d hd with e | e
  · rw [show bit (nI m) d = 0 from e, e, if_neg (by decide)]
  · rw [show bit (nI m) d = 1 from e, e, if_pos rfl]
theorem pR_nil (d : Nat) : pR [] d = [] := rfl
theorem pN_none {l : List Pr} {d : Nat} (h : pN l d = none) : pR l d = l ∧ pX l d = -4 := by
  unfold pN at h
  unfold pR pX
  cases hf : l.findIdx? (fun q => q.1 == d) with
  | none => exact ⟨rfl, rfl⟩
  | some i => rw [hf] at h; cases h
theorem pN_mem {l : List Pr} {d x : Nat} (h : pN l d = some x) : (∃ q ∈ l, q.1 = d ∧ q.2.1 = x) ∧ ∃ i, i < l.length ∧ pX l d = nI i := by
  unfold pN at h
  unfold pX
  cases hf : l.findIdx? (fun q => q.1 == d) with
  | none => rw [hf] at h; cases h
  | some i =>
    rw [hf] at h
    obtain ⟨hi, h1, -⟩ := List.findIdx?_eq_some_iff_getElem.mp hf
    refine ⟨⟨l[i], List.getElem_mem hi, by simpa using h1, ?_⟩, i, hi, rfl⟩
    have h' : some ((l[i]?.map (fun q => q.2.1)).getD 0) = some x := h
    rw [List.getElem?_eq_getElem hi] at h'
    exact Option.some.inj h'
theorem neg4 {k : Nat} (h : k < 2147483648) : nI k ≠ -4 := by rw [Ne, i_eq, t_m4, t_nI k h]; omega
def gI (d : Nat) (τ : St) (k : Nat) (τk : St) : Prop := (∀ a, a ≠ 29 → τk a = τ a) ∧ ∀ c, τk 29 c = if c < k then τ 29 c &&& (bB d ^^^ (-1 : Int32)) else τ 29 c
theorem gI_step {d k : Nat} {τ τk : St} (h : gI d τ k τk) : gI d τ (k + 1) (up2 τk 29 k (τk 29 k &&& (bB d ^^^ (-1 : Int32)))) := by
  refine ⟨fun a ha => by rw [up2_ne ha]; exact h.1 a ha, fun c => ?_⟩
  by_cases e : c = k
  · subst e
    rw [up2_at, if_pos (by omega), h.2 c, if_neg (by omega)]
  · rw [up2_c e, h.2 c, if_cg (P := c < k + 1) (Q := c < k) ⟨by omega, by omega⟩]
theorem cl_drop {d : Nat} {qs : Nat → List Pr} {σ : St} (hd : d < 8) (hl : ∀ c, c < 4 → ∃ m, m < 256 ∧ σ (22 + c) 2 = nI m) (hp : ∀ c, c < 4 → pC (qs c) c σ) (hq : ∀ c, c < 4 → ok7 (qs c)) : ∃ σ', lp (fun K a => b_X7_drop_14 K a.1 a.2.1 a.2.2.1 a.2.2.2) FU (nI d, (0 : Int32), (0 : Int32), σ) = some (cD (fun c => σ (22 + c) 2) d 4, σ') ∧ cI d (-4) qs σ 4 σ' := by
  obtain ⟨r, hr, σ', rfl, q⟩ := lp_FU (b := fun K a => b_X7_drop_14 K a.1 a.2.1 a.2.2.1 a.2.2.2)
    (fun k a => ∃ σk, a = (nI d, cD (fun c => σ (22 + c) 2) d k, nI k, σk) ∧ cI d (-4) qs σ k σk)
    (fun r => ∃ σ', r = (cD (fun c => σ (22 + c) 2) d 4, σ') ∧ cI d (-4) qs σ 4 σ') 4 (by omega)
    (fun k a hk ha => by
      obtain ⟨σk, rfl, hI⟩ := ha
      obtain ⟨m, hm, em⟩ := hl k hk
      have e2 : σk (22 + k) 2 = nI m := by rw [hI.2.2.1 k hk, if_neg (by omega)]; exact em
      obtain ⟨σ', s1, s2⟩ := cI_step hd hq hk (neg4 (by omega)) hI
      refine Or.inl ⟨(nI d, cD (fun c => σ (22 + c) 2) d (k + 1), nI (k + 1), σ'), ⟨σ', rfl, s2⟩, fun K => ?_⟩
      show b_X7_drop_14 K (nI d) (cD (fun c => σ (22 + c) 2) d k) (nI k) σk = K (nI d, cD (fun c => σ (22 + c) 2) d k + bit (σ (22 + k) 2) d, nI (k + 1), σ')
      unfold b_X7_drop_14
      rw [if_neg (by rw [i_le, t_lit 4 (by decide), t_nI k (by omega)]; omega), gd_t (ix_nI hk (by decide)), vl_d, nt_nI (by omega), c_lists hm hd e2, cl_some, em]
      rcases bt2 m hm d hd with e | e
      · rw [show bit (nI m) d = 0 from e, if_pos rfl, gd_t (ix_nI hk (by decide)), vl_d, s1, cl_some, vl_d, nI_1, Int32.add_zero]
      · rw [show bit (nI m) d = 1 from e, if_neg (by decide), vl_d, gd_t (ix_nI hk (by decide)), vl_d, s1, cl_some, vl_d, nI_1])
    (fun a ha => by
      obtain ⟨σk, rfl, hI⟩ := ha
      refine ⟨_, ⟨σk, rfl, hI⟩, fun K => ?_⟩
      show b_X7_drop_14 K (nI d) (cD (fun c => σ (22 + c) 2) d 4) (nI 4) σk = _
      unfold b_X7_drop_14
      rw [if_pos (by decide)])
    (a := (nI d, 0, 0, σ)) ⟨σ, rfl, cI_0 hp⟩
  exact ⟨σ', hr, q⟩
theorem ml_drop {nc d : Nat} {ps : Nat → List Pr} {τ : St} (hnc : nc ≤ 4) (hd : d < 8) (h0 : τ 0 24 = nI nc) (hp : ∀ c, c < nc → pM (ps c) c τ ∧ ok7 (ps c)) : ∃ τn τ', lp (fun K a => b_X8_drop_14 K a.1 a.2.1 a.2.2.1 a.2.2.2) FU (nI d, (0 : Int32), (0 : Int32), τ) = some (cD (fun c => τ 29 c) d nc, τ') ∧ gI d τ nc τn ∧ mI nc d (-4) ps τn nc τ' := by
  obtain ⟨r, hr, τn, τ', rfl, q⟩ := lp_FU (b := fun K a => b_X8_drop_14 K a.1 a.2.1 a.2.2.1 a.2.2.2)
    (fun k a => ∃ τk, a = (nI d, cD (fun c => τ 29 c) d k, nI k, τk) ∧ gI d τ k τk)
    (fun r => ∃ τn τ', r = (cD (fun c => τ 29 c) d nc, τ') ∧ gI d τ nc τn ∧ mI nc d (-4) ps τn nc τ') nc (by omega)
    (fun k a hk ha => by
      obtain ⟨τk, rfl, hI⟩ := ha
      refine Or.inl ⟨(nI d, cD (fun c => τ 29 c) d (k + 1), nI (k + 1), _), ⟨_, rfl, gI_step hI⟩, fun K => ?_⟩
      show b_X8_drop_14 K (nI d) (cD (fun c => τ 29 c) d k) (nI k) τk = K (nI d, cD (fun c => τ 29 c) d k + bit (τ 29 k) d, nI (k + 1), _)
      unfold b_X8_drop_14
      rw [hI.1 0 (by decide), h0, if_neg (by rw [nI_leI (by omega) (by omega)]; omega), gd_t (ix_nI (by omega) (by decide)), vl_d, gd_t (ix_nI (by omega) (by decide)), gd_t (ix_nI (by omega) (by decide)), vl_d, vl_d, nt_nI (by omega), nI_1]
      rw [show τk 29 k = τ 29 k from by rw [hI.2 k, if_neg (by omega)]])
    (fun a ha => by
      obtain ⟨τk, rfl, hI⟩ := ha
      obtain ⟨r, τ', g1, g2, -⟩ := m_goes (ps := ps) hnc hd (by rw [hI.1 0 (by decide)]; exact h0) (fun c hc => ⟨(hp c hc).1.cg (hI.1 30 (by decide)) (hI.1 31 (by decide)) (hI.1 32 (by decide)) (hI.1 33 (by decide)), (hp c hc).2⟩) (-4)
      refine ⟨_, ⟨τk, τ', rfl, hI, g2⟩, fun K => ?_⟩
      show b_X8_drop_14 K (nI d) (cD (fun c => τ 29 c) d nc) (nI nc) τk = _
      unfold b_X8_drop_14
      rw [hI.1 0 (by decide), h0, if_pos (nI_le (Nat.le_refl _) (by omega)), g1, cl_some])
    (a := (nI d, 0, 0, τ)) ⟨τ, rfl, fun _ _ => rfl, fun c => by rw [if_neg (by omega)]⟩
  exact ⟨τn, τ', hr, q⟩
theorem st_drop {n : Nat} {σ τ : St} (h : Rel n σ τ) (hn : n < 512) (a0 : Int32) : ∃ r σ' τ', f_X7_drop a0 σ = some (r, σ') ∧ f_X8_drop a0 τ = some (r, τ') ∧ Rel (n + 1) σ' τ' := by
  obtain ⟨nc, nd, B, S, le, li, ps, h1, h2, h3, h4, h5, h6, h7, h8, h9⟩ := rel_mono h
  obtain ⟨hN, hl, hL, hM, hrest⟩ := id h1
  have hnd := hN.2.2.2.1
  have hnc := hN.2.1
  by_cases hq : 0 ≤ a0.toInt ∧ a0.toInt < nd
  · obtain ⟨d, hd, rfl⟩ := who hq
    have hd8 : d < 8 := Nat.lt_of_lt_of_le hd hnd
    obtain ⟨qs, k1, k2, k3⟩ := qs_of hnc hnd h7 h6
    obtain ⟨σ', c1, c2⟩ := cl_drop hd8 (fun c hc => ls_of h5 h6 hc) (fun c hc => (k3 c hc).1) (fun c hc => (k3 c hc).2)
    obtain ⟨τn, τ', m1, m2, m3⟩ := ml_drop (ps := ps) (τ := τ) hnc hd8 hM.2.2.2.2.2.1 (fun c hc => ⟨(h7.1 c hc).2.1, by have := (k3 c (by omega)).2; rw [k1 c hc] at this; exact this⟩)
    have e : cD (fun c => σ (22 + c) 2) d 4 = cD (fun c => τ 29 c) d nc := by
      rw [cD_z (nc := nc) hd8 (fun c h1 h2 => (h6 c h1 h2).1) 4 hnc (by decide)]
      exact cD_cg (fun c hc => by obtain ⟨m, _, e1, e2⟩ := (h5 c hc).2.1; exact e1.trans e2.symm)
    refine ⟨cD (fun c => σ (22 + c) 2) d 4, σ', τ', ?_, ?_, rel_pr (qs := fun c => pR (qs c) d) ⟨h1, h2, h3, h4, h5, h8⟩ (fun k hk => c2.1 k (by omega)) c2.2.1 (fun k hk => ?_) (fun c hc => ?_) (fun c hc hc4 => ?_) ⟨fun c hc => ?_, ?_⟩ ?_⟩
    · unfold f_X7_drop
      rw [dev_c hnd hL.2.2.2.2.2.2 hd, cl_some, oc_some, gd_t hd8]
      exact c1
    · unfold f_X8_drop
      rw [dev_m hN.2.2.1 hnd hM.2.2.2.2.2.2 hd, cl_some, if_neg (by decide), e]
      exact m1
    · rw [m3.1 k (by omega), m2.1 k (by omega)]
    · obtain ⟨m, hm, e1, e2⟩ := (h5 c hc).2.1
      have hb := bt3 m hm d hd8
      refine ⟨_, hb.2, ?_, ?_⟩
      · rw [c2.2.2.1 c (by omega), if_pos ⟨by omega, neg4 (by omega)⟩, e1]
        exact hb.1
      · rw [m3.1 29 (by decide), m2.2 c, if_pos hc, e2]
        exact hb.1
    · have p := c2.2.2.2 c hc4
      rw [if_pos ⟨hc4, neg4 (by omega)⟩, k2 c hc, pR_nil] at p
      refine ⟨?_, p.1⟩
      rw [c2.2.2.1 c hc4, if_pos ⟨hc4, neg4 (by omega)⟩, (h6 c hc hc4).1]
      exact bt6 d hd8
    · have p := c2.2.2.2 c (by omega)
      have p' := m3.2 c hc
      rw [if_pos ⟨by omega, neg4 (by omega)⟩] at p p'
      refine ⟨p, ?_, ?_⟩
      · show pM (pR (qs c) d) c τ'
        rw [k1 c hc]
        exact p'
      · show pI nd le (pR (qs c) d)
        rw [k1 c hc]
        exact (h7.1 c hc).2.2.sub (pR_sub _ _)
    · exact h7.2.sub (fun c hc => by show List.Sublist (pR (qs c) d) _; rw [k1 c hc]; exact pR_sub _ _)
    · exact h9.cg hnd (fun d hd => c2.1 _ (by omega)) (fun k h1 h2 => by rw [m3.1 k (by omega), m2.1 k (by omega)])
  · refine ⟨-1, σ, τ, ?_, ?_, rel_mono h⟩
    · unfold f_X7_drop
      rw [dev_cn hnd hL.2.2.2.2.2.2 hq, cl_some, oc_none]
    · unfold f_X8_drop
      rw [dev_mn hN.2.2.1 hnd hM.2.2.2.2.2.2 hq, cl_some, if_pos rfl]
theorem c_promiser {d : Nat} {qs : Nat → List Pr} {σ : St} (hd : d < 8) (hp : ∀ c, c < 4 → pC (qs c) c σ) (hq : ∀ c, c < 4 → ok7 (qs c)) : ∃ r, f_X7_promiserOf (nI d) σ = some (r, σ) ∧ ((r = none ∧ ∀ c, c < 4 → pN (qs c) d = none) ∨ ∃ c x, c < 4 ∧ r = some c ∧ pN (qs c) d = some x) := by
  obtain ⟨r, hr, r', rfl, q⟩ := lp_FU (b := fun K a => b_X7_promiserOf_2 K a.1 a.2.1 a.2.2)
    (fun k a => a = (nI d, nI k, σ) ∧ ∀ c, c < k → pN (qs c) d = none)
    (fun r => ∃ r', r = (r', σ) ∧ ((r' = none ∧ ∀ c, c < 4 → pN (qs c) d = none) ∨ ∃ c x, c < 4 ∧ r' = some c ∧ pN (qs c) d = some x)) 4 (by omega)
    (fun k a hk ha => by
      obtain ⟨rfl, hI⟩ := ha
      have e0 := c_place (hp k hk) (hq k hk).1 hd (hq k hk).2
      cases hf : pN (qs k) d with
      | none =>
        refine Or.inl ⟨(nI d, nI (k + 1), σ), ⟨rfl, fun c hc => ?_⟩, fun K => ?_⟩
        · by_cases e : c = k
          · rw [e]; exact hf
          · exact hI c (by omega)
        · show b_X7_promiserOf_2 K (nI d) (nI k) σ = _
          unfold b_X7_promiserOf_2
          rw [if_neg (by rw [i_le, t_lit 4 (by decide), t_nI k (by omega)]; omega), gd_t (ix_nI hk (by decide)), vl_d, nt_nI (by omega), e0, cl_some, (pN_none hf).2, if_pos rfl, vl_d, nI_1]
      | some x =>
        obtain ⟨-, i, hi, ei⟩ := pN_mem hf
        have := (hq k hk).1
        refine Or.inr ⟨(some k, σ), ⟨some k, rfl, Or.inr ⟨k, x, hk, rfl, hf⟩⟩, fun K => ?_⟩
        show b_X7_promiserOf_2 K (nI d) (nI k) σ = _
        unfold b_X7_promiserOf_2
        rw [if_neg (by rw [i_le, t_lit 4 (by decide), t_nI k (by omega)]; omega), gd_t (ix_nI hk (by decide)), vl_d, nt_nI (by omega), e0, cl_some, ei, if_neg (neg4 (by omega)), gd_t (ix_nI hk (by decide)), vl_d])
    (fun a ha => by
      obtain ⟨rfl, hI⟩ := ha
      refine ⟨_, ⟨none, rfl, Or.inl ⟨rfl, hI⟩⟩, fun K => ?_⟩
      show b_X7_promiserOf_2 K (nI d) (nI 4) σ = _
      unfold b_X7_promiserOf_2
      rw [if_pos (by decide)])
    (a := (nI d, 0, σ)) ⟨rfl, fun c hc => by omega⟩
  exact ⟨r', hr, q⟩
theorem pU_one {nc d : Nat} {ps : Nat → List Pr} (h : pU nc ps) {c c' x x' : Nat} (hc : c < nc) (hc' : c' < nc) (e : pN (ps c) d = some x) (e' : pN (ps c') d = some x') : c = c' := by
  by_cases hne : c = c'
  · exact hne
  · obtain ⟨⟨q, hq, h1, _⟩, _⟩ := pN_mem e
    obtain ⟨⟨q', hq', h1', _⟩, _⟩ := pN_mem e'
    exact absurd (h1.trans h1'.symm) (h.2 c c' hc hc' hne q hq q' hq')
theorem st_release {n : Nat} {σ τ : St} (h : Rel n σ τ) (hn : n < 512) (a0 : Int32) : ∃ r σ' τ', f_X7_release a0 σ = some (r, σ') ∧ f_X8_release a0 τ = some (r, τ') ∧ Rel (n + 1) σ' τ' := by
  obtain ⟨nc, nd, B, S, le, li, ps, h1, h2, h3, h4, h5, h6, h7, h8, h9⟩ := rel_mono h
  obtain ⟨hN, hl, hL, hM, hrest⟩ := id h1
  have hnd := hN.2.2.2.1
  have hnc := hN.2.1
  by_cases hq : 0 ≤ a0.toInt ∧ a0.toInt < nd
  · obtain ⟨d, hd, rfl⟩ := who hq
    have hd8 : d < 8 := Nat.lt_of_lt_of_le hd hnd
    obtain ⟨qs, k1, k2, k3⟩ := qs_of hnc hnd h7 h6
    have hok : ∀ c, c < nc → ok7 (ps c) := fun c hc => by have := (k3 c (by omega)).2; rw [k1 c hc] at this; exact this
    obtain ⟨r0, p1, p2⟩ := c_promiser hd8 (fun c hc => (k3 c hc).1) (fun c hc => (k3 c hc).2)
    obtain ⟨r, τ', g1, g2, g3⟩ := m_goes (ps := ps) (τ := τ) hnc hd8 hM.2.2.2.2.2.1 (fun c hc => ⟨(h7.1 c hc).2.1, hok c hc⟩) (-4)
    have main : ∀ σ', (∀ a, a < 26 ∨ 42 ≤ a → σ' a = σ a) → (∀ c, nc ≤ c → c < 4 → σ' (26 + c) 3 = 0) → (∀ c, c < nc → pC (pR (ps c) d) c σ') → Rel (n + 1) σ' τ' := by
      intro σ' s1 s2 s3
      refine rel_pr (qs := fun c => pR (ps c) d) ⟨h1, h2, h3, h4, h5, h8⟩ (fun k hk => s1 k (by omega)) (fun c hc j hj => by rw [s1 _ (by omega)]) (fun k hk => g2.1 k (by omega)) (fun c hc => ?_) (fun c hc hc4 => ⟨?_, s2 c hc hc4⟩) ⟨fun c hc => ⟨s3 c hc, ?_, (h7.1 c hc).2.2.sub (pR_sub _ _)⟩, h7.2.sub (fun c hc => pR_sub _ _)⟩ ?_
      · rw [s1 _ (by omega), g2.1 29 (by decide)]
        exact (h5 c hc).2.1
      · rw [s1 _ (by omega)]
        exact (h6 c hc hc4).1
      · have p' := g2.2 c hc
        rw [if_pos ⟨by omega, neg4 (by omega)⟩] at p'
        exact p'
      · exact h9.cg hnd (fun d hd => s1 _ (by omega)) (fun k h1 h2 => g2.1 k (by omega))
    rcases p2 with ⟨rfl, p3⟩ | ⟨c, x, hc4, rfl, p3⟩
    · have hr : r = -4 := by
        rcases g3 with ⟨a, _⟩ | ⟨c, x, a, _, b, _⟩
        · exact a
        · have := p3 c (by omega)
          rw [k1 c a, b] at this
          cases this
      refine ⟨-2, σ, τ', ?_, ?_, main σ (fun _ _ => rfl) (fun c a b => (h6 c a b).2) (fun c hc => ?_)⟩
      · unfold f_X7_release
        rw [dev_c hnd hL.2.2.2.2.2.2 hd, cl_some, oc_some, gd_t hd8, p1, cl_some, oc_none]
      · unfold f_X8_release
        rw [dev_m hN.2.2.1 hnd hM.2.2.2.2.2.2 hd, cl_some, if_neg (by decide), g1, cl_some, if_pos hr]
      · have := p3 c (by omega)
        rw [k1 c hc] at this
        rw [(pN_none this).1]
        exact (h7.1 c hc).1
    · have hc : c < nc := by
        apply Nat.lt_of_not_le
        intro a
        rw [k2 c a] at p3
        cases p3
      rw [k1 c hc] at p3
      have hx : x ≤ 15 := by
        obtain ⟨⟨q, a, _, b⟩, _⟩ := pN_mem p3
        have := ((h7.1 c hc).2.2.2.1 q a).2.2
        omega
      have hr : r = nI x := by
        rcases g3 with ⟨_, a⟩ | ⟨c', x', a, _, b, e⟩
        · have := a c hc (neg4 (by omega))
          rw [p3] at this
          cases this
        · have := pU_one h7.2 hc a p3 b
          subst this
          rw [p3] at b
          cases b
          exact e
      obtain ⟨σ', e1, e2, e3⟩ := c_remOf (h7.1 c hc).1 (hok c hc).1 hd8 (hok c hc).2
      refine ⟨nI x, σ', τ', ?_, ?_, main σ' (fun a ha => e3 a (by omega) (by omega) (by omega) (by omega)) (fun c' a b => ?_) (fun c' hc' => ?_)⟩
      · unfold f_X7_release
        rw [dev_c hnd hL.2.2.2.2.2.2 hd, cl_some, oc_some, gd_t hd8, p1, cl_some, oc_some, gd_t hc4, e1, cl_some, p3]
      · unfold f_X8_release
        rw [dev_m hN.2.2.1 hnd hM.2.2.2.2.2.2 hd, cl_some, if_neg (by decide), g1, cl_some, hr, if_neg (neg4 (by omega))]
      · rw [e3 _ (by omega) (by omega) (by omega) (by omega)]
        exact (h6 c' a b).2
      · by_cases e : c' = c
        · rw [e]; exact e2
        · have hno : pN (ps c') d = none := by
            cases hf : pN (ps c') d with
            | none => rfl
            | some y => exact absurd (pU_one h7.2 hc' hc hf p3) e
          rw [(pN_none hno).1]
          exact (h7.1 c' hc').1.fr (by omega) hc4 e3 e
  · refine ⟨-1, σ, τ, ?_, ?_, rel_mono h⟩
    · unfold f_X7_release
      rw [dev_cn hnd hL.2.2.2.2.2.2 hq, cl_some, oc_none]
    · unfold f_X8_release
      rw [dev_mn hN.2.2.1 hnd hM.2.2.2.2.2.2 hq, cl_some, if_pos rfl]
theorem rD.set2 {nc nd : Nat} {σ τ : St} (h : rD nc nd σ τ) {d j j' : Nat} (hdn : d < nd) (hj : 1 ≤ j) (hj' : 1 ≤ j') {v v' : Int32} (hv : dI nc (mD τ d) → dI nc (upd (upd (mD τ d) j v) j' v')) : rD nc nd (up2 (up2 σ (46 + d) j v) (46 + d) j' v') (up2 (up2 τ (35 + j) d v) (35 + j') d v') := by
  refine ⟨(h.1.set hdn hj v).set hdn hj' v', fun d' hd => ?_⟩
  by_cases e : d' = d
  · subst e
    rw [mD_set, mD_set]
    exact hv (h.2 d' hd)
  · rw [mD_ne _ _ e, mD_ne _ _ e]
    exact h.2 d' hd
theorem rD.home {nc nd : Nat} {σ τ : St} (h : rD nc nd σ τ) {d c : Nat} (hdn : d < nd) (hc : c < nc) : rD nc nd (up2 (up2 σ (46 + d) 1 (nI c)) (46 + d) 8 0) (up2 (up2 τ 36 d (nI c)) 43 d 0) := by
  refine h.set2 (j := 1) (j' := 8) hdn (by decide) (by decide) (fun q => ?_)
  obtain ⟨q1, q2, q3, q4, q5, q6, q7, q8, q9, q10⟩ := q
  exact ⟨Or.inr ⟨c, hc, rfl⟩, q2, q3, q4, ⟨0, by decide, rfl, fun _ => by decide⟩, q6, q7, q8, q9, q10⟩
/-- the first list that holds a device -/
def fL (f : Nat → Int32) (d k : Nat) (r : Option Nat) : Prop := (r = none ∧ ∀ c, c < k → bit (f c) d = 0) ∨ ∃ c, r = some c ∧ c < k ∧ bit (f c) d = 1 ∧ ∀ c', c' < c → bit (f c') d = 0
theorem cl_scan {d : Nat} {σ : St} (hd : d < 8) (hl : ∀ c, c < 4 → ∃ m, m < 256 ∧ σ (22 + c) 2 = nI m) : ∃ r, fL (fun c => σ (22 + c) 2) d 4 r ∧ lp (fun K a => b_X7_scan_24 d K a.1 a.2.1 a.2.2) FU (nI d, (0 : Int32), σ) = some (match r with | none => (-4, σ) | some c => (nI c, up2 (up2 σ (46 + d) 1 (nI c)) (46 + d) 8 0)) := by
  obtain ⟨r, hr, r', q, rfl⟩ := lp_FU (b := fun K a => b_X7_scan_24 d K a.1 a.2.1 a.2.2)
    (fun k a => a = (nI d, nI k, σ) ∧ ∀ c, c < k → bit (σ (22 + c) 2) d = 0)
    (fun r => ∃ r', fL (fun c => σ (22 + c) 2) d 4 r' ∧ r = (match r' with | none => (-4, σ) | some c => (nI c, up2 (up2 σ (46 + d) 1 (nI c)) (46 + d) 8 0))) 4 (by omega)
    (fun k a hk ha => by
      obtain ⟨rfl, hI⟩ := ha
      obtain ⟨m, hm, em⟩ := hl k hk
      have el := c_lists hm hd em
      rcases bt2 m hm d hd with e | e
      · refine Or.inl ⟨(nI d, nI (k + 1), σ), ⟨rfl, fun c hc => ?_⟩, fun K => ?_⟩
        · by_cases hck : c = k
          · subst hck; rw [em]; exact e
          · exact hI c (by omega)
        · show b_X7_scan_24 d K (nI d) (nI k) σ = _
          unfold b_X7_scan_24
          rw [if_neg (by rw [i_le, t_lit 4 (by decide), t_nI k (by omega)]; omega), gd_t (ix_nI hk (by decide)), vl_d, nt_nI (by omega), el, cl_some, show bit (nI m) d = 0 from e, if_pos rfl, vl_d, nI_1]
      · refine Or.inr ⟨_, ⟨some k, Or.inr ⟨k, rfl, hk, by show bit (σ (22 + k) 2) d = 1; rw [em]; exact e, hI⟩, rfl⟩, fun K => ?_⟩
        show b_X7_scan_24 d K (nI d) (nI k) σ = _
        unfold b_X7_scan_24
        rw [if_neg (by rw [i_le, t_lit 4 (by decide), t_nI k (by omega)]; omega), gd_t (ix_nI hk (by decide)), vl_d, nt_nI (by omega), el, cl_some, show bit (nI m) d = 1 from e, if_neg (by decide)]
        rfl)
    (fun a ha => by
      obtain ⟨rfl, hI⟩ := ha
      refine ⟨_, ⟨none, Or.inl ⟨rfl, hI⟩, rfl⟩, fun K => ?_⟩
      show b_X7_scan_24 d K (nI d) (nI 4) σ = _
      unfold b_X7_scan_24
      rw [if_pos (by decide)])
    (a := (nI d, 0, σ)) ⟨rfl, fun c hc => by omega⟩
  exact ⟨r', q, hr⟩
theorem ml_scan {nc d : Nat} {τ : St} (hnc : nc ≤ 4) (hd : d < 8) (h0 : τ 0 24 = nI nc) (hl : ∀ c, c < nc → ∃ m, m < 256 ∧ τ 29 c = nI m) : ∃ r, fL (fun c => τ 29 c) d nc r ∧ lp (fun K a => b_X8_scan_26 K a.1 a.2.1 a.2.2) FU (nI d, (0 : Int32), τ) = some (match r with | none => (-4, τ) | some c => (nI c, up2 (up2 τ 36 d (nI c)) 43 d 0)) := by
  obtain ⟨r, hr, r', q, rfl⟩ := lp_FU (b := fun K a => b_X8_scan_26 K a.1 a.2.1 a.2.2)
    (fun k a => a = (nI d, nI k, τ) ∧ ∀ c, c < k → bit (τ 29 c) d = 0)
    (fun r => ∃ r', fL (fun c => τ 29 c) d nc r' ∧ r = (match r' with | none => (-4, τ) | some c => (nI c, up2 (up2 τ 36 d (nI c)) 43 d 0))) nc (by omega)
    (fun k a hk ha => by
      obtain ⟨rfl, hI⟩ := ha
      obtain ⟨m, hm, em⟩ := hl k hk
      rcases bt2 m hm d hd with e | e
      · refine Or.inl ⟨(nI d, nI (k + 1), τ), ⟨rfl, fun c hc => ?_⟩, fun K => ?_⟩
        · by_cases hck : c = k
          · subst hck; rw [em]; exact e
          · exact hI c (by omega)
        · show b_X8_scan_26 K (nI d) (nI k) τ = _
          unfold b_X8_scan_26
          rw [h0, if_neg (by rw [nI_leI (by omega) (by omega)]; omega), gd_t (ix_nI (by omega) (by decide)), nt_nI (by omega), em, m_has hm hd, cl_some, show bit (nI m) d = 0 from e, if_pos rfl, vl_d, nI_1]
      · refine Or.inr ⟨_, ⟨some k, Or.inr ⟨k, rfl, hk, by show bit (τ 29 k) d = 1; rw [em]; exact e, hI⟩, rfl⟩, fun K => ?_⟩
        show b_X8_scan_26 K (nI d) (nI k) τ = _
        unfold b_X8_scan_26
        rw [h0, if_neg (by rw [nI_leI (by omega) (by omega)]; omega), gd_t (ix_nI (by omega) (by decide)), nt_nI (by omega), em, m_has hm hd, cl_some, show bit (nI m) d = 1 from e, if_neg (by decide), gd_t (ix_nI hd (by decide)), vl_d, gd_t (ix_nI hd (by decide)), vl_d, nt_nI (by omega)])
    (fun a ha => by
      obtain ⟨rfl, hI⟩ := ha
      refine ⟨_, ⟨none, Or.inl ⟨rfl, hI⟩, rfl⟩, fun K => ?_⟩
      show b_X8_scan_26 K (nI d) (nI nc) τ = _
      unfold b_X8_scan_26
      rw [h0, if_pos (nI_le (Nat.le_refl _) (by omega))])
    (a := (nI d, 0, τ)) ⟨rfl, fun c hc => by omega⟩
  exact ⟨r', q, hr⟩
theorem st_scan {n : Nat} {σ τ : St} (h : Rel n σ τ) (hn : n < 512) (a0 : Int32) : ∃ r σ' τ', f_X7_scan a0 σ = some (r, σ') ∧ f_X8_scan a0 τ = some (r, τ') ∧ Rel (n + 1) σ' τ' := by
  obtain ⟨nc, nd, B, S, le, li, ps, h1, h2, h3, h4, h5, h6, h7, h8, h9⟩ := rel_mono h
  obtain ⟨hN, hl, hL, hM, hrest⟩ := id h1
  have hnd := hN.2.2.2.1
  have hnc := hN.2.1
  by_cases hq : 0 ≤ a0.toInt ∧ a0.toInt < nd
  · obtain ⟨d, hd, rfl⟩ := who hq
    have hd8 : d < 8 := Nat.lt_of_lt_of_le hd hnd
    have eh : σ (46 + d) 1 = τ 36 d := h9.1.1 d hd 1 (by decide) (by decide)
    by_cases ho : τ 36 d = -4
    · obtain ⟨r, c1, c2⟩ := cl_scan hd8 (fun c hc => ls_of h5 h6 hc)
      obtain ⟨r', m1, m2⟩ := ml_scan (τ := τ) hnc hd8 hM.2.2.2.2.2.1 (fun c hc => by obtain ⟨m, a, _, b⟩ := (h5 c hc).2.1; exact ⟨m, a, b⟩)
      have el : ∀ c, c < nc → σ (22 + c) 2 = τ 29 c := fun c hc => by obtain ⟨m, _, e1, e2⟩ := (h5 c hc).2.1; exact e1.trans e2.symm
      have er : r = r' ∧ ∀ c, r = some c → c < nc := by
        have z0 : bit 0 d = 0 := (bt1 0 (by decide) d hd8).mp (bt7 d hd8)
        rcases c1 with ⟨rfl, a⟩ | ⟨c, rfl, a1, a2, a3⟩
        · refine ⟨?_, fun c hc => by cases hc⟩
          rcases m1 with ⟨rfl, b⟩ | ⟨c', rfl, b1, b2, b3⟩
          · rfl
          · have := a c' (by omega)
            rw [show (fun c => σ (22 + c) 2) c' = τ 29 c' from el c' b1, show bit (τ 29 c') d = 1 from b2] at this
            exact absurd this (by decide)
        · have hcn : c < nc := by
            apply Nat.lt_of_not_le
            intro x
            rw [show (fun c => σ (22 + c) 2) c = 0 from (h6 c x a1).1, z0] at a2
            exact absurd a2 (by decide)
          refine ⟨?_, fun c' hc' => by cases hc'; exact hcn⟩
          rcases m1 with ⟨rfl, b⟩ | ⟨c', rfl, b1, b2, b3⟩
          · have := b c hcn
            rw [show (fun c => τ 29 c) c = σ (22 + c) 2 from (el c hcn).symm, show bit (σ (22 + c) 2) d = 1 from a2] at this
            exact absurd this (by decide)
          · rcases Nat.lt_trichotomy c c' with x | x | x
            · have := b3 c x
              rw [show (fun c => τ 29 c) c = σ (22 + c) 2 from (el c hcn).symm, show bit (σ (22 + c) 2) d = 1 from a2] at this
              exact absurd this (by decide)
            · rw [x]
            · have := a3 c' x
              rw [show (fun c => σ (22 + c) 2) c' = τ 29 c' from el c' b1, show bit (τ 29 c') d = 1 from b2] at this
              exact absurd this (by decide)
      obtain ⟨rfl, hcn⟩ := er
      have ec : f_X7_scan (nI d) σ = lp (fun K a => b_X7_scan_24 d K a.1 a.2.1 a.2.2) FU (nI d, (0 : Int32), σ) := by
        unfold f_X7_scan f_X2_isOrphan
        rw [dev_c hnd hL.2.2.2.2.2.2 hd, cl_some, oc_some, gd_t hd8, if_pos (eh.trans ho), cl_some, if_neg (by decide)]
      have em : f_X8_scan (nI d) τ = lp (fun K a => b_X8_scan_26 K a.1 a.2.1 a.2.2) FU (nI d, (0 : Int32), τ) := by
        unfold f_X8_scan
        rw [dev_m hN.2.2.1 hnd hM.2.2.2.2.2.2 hd, cl_some, if_neg (by decide), gd_t (ix_nI hd8 (by decide)), nt_nI (by omega), if_pos ho]
      cases r with
      | none => exact ⟨-4, σ, τ, ec.trans c2, em.trans m2, rel_mono h⟩
      | some c => exact ⟨nI c, _, _, ec.trans c2, em.trans m2, rel_dev ⟨h1, h2, h3, h4, h5, h6, h7, h8⟩ (fun k hk => by rw [up2_ne (by omega), up2_ne (by omega)]) (fun k hk => by rw [up2_ne (by omega), up2_ne (by omega)]) (h9.home hd (hcn c rfl))⟩
    · refine ⟨-2, σ, τ, ?_, ?_, rel_mono h⟩
      · unfold f_X7_scan f_X2_isOrphan
        rw [dev_c hnd hL.2.2.2.2.2.2 hd, cl_some, oc_some, gd_t hd8, if_neg (by rw [eh]; exact ho), cl_some, if_pos rfl]
      · unfold f_X8_scan
        rw [dev_m hN.2.2.1 hnd hM.2.2.2.2.2.2 hd, cl_some, if_neg (by decide), gd_t (ix_nI hd8 (by decide)), nt_nI (by omega), if_neg ho]
  · refine ⟨-1, σ, τ, ?_, ?_, rel_mono h⟩
    · unfold f_X7_scan
      rw [dev_cn hnd hL.2.2.2.2.2.2 hq, cl_some, oc_none]
    · unfold f_X8_scan
      rw [dev_mn hN.2.2.1 hnd hM.2.2.2.2.2.2 hq, cl_some, if_pos rfl]
