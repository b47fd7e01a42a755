/-! an active part up to the promised slots: each side's half -/
def W0 (τ : St) : Wd := (fun d j => τ (35 + j) d, τ 0 22)
def W1 (nd c : Nat) (τ : St) : Wd := wF (wOp (fun r s => (rHr (nI c) r, s))) (W0 τ) nd
def lP (li : Nat) (l : List Pr) : List Pr := l.filter (kpP (nI li))
def TP (S li : Nat) (l : List Pr) : Nat := (16 - pS (lP li l)) * (3 * 2 ^ S)
def Wp (nd c S li : Nat) (l : List Pr) (τ : St) : Wd := wF (wOp (fun r s => (rHold r, s))) (tW nd (nI (TP S li l)) (W1 nd c τ) (TP S li l - 1)) nd
def cP (nd c S li : Nat) (l : List Pr) (τ : St) : Int32 := tC nd (nI (TP S li l)) (W1 nd c τ) (TP S li l - 1)
def aP (nd c S li : Nat) (l : List Pr) (τ : St) (t : Nat) : Int32 := if t = 0 then 1 else if t < TP S li l then tA nd (nI (TP S li l)) (W1 nd c τ) (t - 1) else 0
theorem lP_I {nd le li : Nat} {l : List Pr} (h : pI nd le l) : pI nd le (lP li l) := h.sub (List.filter_sublist)
theorem TP_ok {nd le S li : Nat} {l : List Pr} (hle : 1 ≤ le) (hS : S ≤ 3) (h : pI nd le l) : 1 ≤ TP S li l ∧ TP S li l ≤ 48 * 2 ^ S ∧ 48 * 2 ^ S ≤ 384 ∧ pS (lP li l) ≤ 16 := by
  have h1 := (lP_I (li := li) h).2.2
  obtain ⟨p1, p2⟩ := pow3 S hS
  have u : TP S li l ≤ 16 * (3 * 2 ^ S) := Nat.mul_le_mul_right _ (by omega)
  have v : 1 * (3 * 2 ^ S) ≤ TP S li l := Nat.mul_le_mul_right _ (by omega)
  omega
theorem W1_row {nd c : Nat} {τ : St} {d : Nat} (hd : d < nd) : (W1 nd c τ).1 d = rHr (nI c) (mD τ d) := (wF_sl (rHr (nI c)) (W0 τ) nd).2 d hd
theorem W1_I {nc nd c T sd : Nat} {τ : St} (hnc : nc ≤ 4) (hc : c < nc) (hs : sd ≤ 65520) (h22 : τ 0 22 = nI sd) (h : ∀ d, d < nd → dI nc (mD τ d)) : tI nd 1 T (W1 nd c τ) := by
  have key : ∀ d, d < nd → dW ((W1 nd c τ).1 d) ∧ dJ 1 T ((W1 nd c τ).1 d) := by
    intro d hd
    rw [W1_row hd]
    exact dI_W (hr_dI hnc hc (h d hd)) (hr15 _ _)
  exact ⟨⟨⟨sd, hs, (wF_sl (rHr (nI c)) (W0 τ) nd).1.trans h22⟩, fun d hd => (key d hd).1⟩, fun d hd => (key d hd).2⟩
theorem m_half {b nc nd B S le li c : Nat} {ps : Nat → List Pr} {σ τ : St} {Q : Int32 × St → Prop} (h : RX b nc nd B S le li ps σ τ) (hc : c < nc)
    (hend : ∀ τ3, mW nd τ3 (Wp nd c S li (ps c) τ) → pM (lP li (ps c)) c τ3 → (∀ a, a ≠ 0 → a ≠ 34 → (a < 30 ∨ 33 < a) → (a < 36 ∨ 55 < a) → τ3 a = τ a) → (∀ j, j ≠ 22 → τ3 0 j = τ 0 j) → (∀ L i, i ≠ c → L.length ≤ 7 → pM L i τ → pM L i τ3) → (∀ j, (j < 384 * c ∨ 384 * c + 384 ≤ j) → τ3 34 j = τ 34 j) → (∀ a d, nd ≤ d → 36 ≤ a → a ≤ 54 → τ3 a d = τ a d) → (∀ t, t < 48 * 2 ^ S → τ3 34 (384 * c + t) = aP nd c S li (ps c) τ t) → ∃ r, Q r ∧ ∀ K, b_X8_part_116 K (nI c) (cP nd c S li (ps c) τ) (nI nd) τ3 = some r) :
    ∃ r, f_X8_part (nI c) τ = some r ∧ Q r := by
  obtain ⟨⟨⟨n1, n2, n3, n4, n5, n6, n7, n8, n9, n10, n11⟩, g2, g3, ⟨k16, k17, k18, k19, k20, k24, k35⟩, g5, g6, sd, s1, s2, s3⟩, hS, hT, hCa, hCo, hZ, hP, hA, hD⟩ := h
  obtain ⟨p1, p2, p3⟩ := hP.1 c hc
  obtain ⟨t1, t2, t3, t4⟩ := TP_ok (li := li) n8 n6 p3
  have c4 : c < 4 := by omega
  have IL := lP_I (li := li) p3
  refine m_airQ c4 t3 k17 (fun τ1 a1 a2 a3 => ?_)
  have pm1 : pM (ps c) c τ1 := p2.cg (a2 30 (by decide)) (a2 31 (by decide)) (a2 32 (by decide)) (a2 33 (by decide))
  obtain ⟨r0, hr0, τ2, τ2', rfl, b1, b2, b3, b4⟩ := m_idle (Q := fun r => ∃ τ2 τ2', r = ((), τ2') ∧ pM (lP li (ps c)) c τ2 ∧ frM c τ1 τ2 ∧ mW nd τ2' (W1 nd c τ) ∧ fmW nd τ2 τ2') (life := nI li) pm1 c4 p3.1 (by rw [a2 0 (by decide)]; exact k20) (fun τ2 b1 b2 => by
    have f : ∀ a x, a < 30 ∨ 34 ≤ a → τ2 a x = τ1 a x := fun a x ha => b2 a x (by omega) (by omega)
    have m0 : mW nd τ2 (W0 τ) := ⟨fun d hd j j1 j2 => by rw [f (35 + j) d (by omega), a2 (35 + j) (by omega)]; rfl, by rw [f 0 22 (by omega), a2 0 (by decide)]; rfl⟩
    obtain ⟨τ2', q1, q2, q3⟩ := m_hear (c := c) n4 (by rw [f 0 35 (by omega), a2 0 (by decide)]; exact k35) m0 (fun d hd => hr_ok n2 hc (hD.2 d hd))
    exact ⟨_, q1, τ2, τ2', rfl, b1, b2, q2, q3⟩)
  have f : ∀ a x, a < 30 ∨ 34 ≤ a → τ2 a x = τ1 a x := fun a x ha => b2 a x (by omega) (by omega)
  have z0 : ∀ j, j ≠ 22 → τ2' 0 j = τ 0 j := fun j hj => by rw [b4.2.1 j hj, f 0 j (by omega), a2 0 (by decide)]
  have pm2 : pM (lP li (ps c)) c τ2' := b1.cg (b4.1 30 (by decide) (by omega)) (b4.1 31 (by decide) (by omega)) (b4.1 32 (by decide) (by omega)) (b4.1 33 (by decide) (by omega))
  have e8 : nI (16 - pS (lP li (ps c))) * τ2' 0 18 = nI (TP S li (ps c)) := by
    rw [z0 18 (by decide), k18, pk_mul]
    rfl
  obtain ⟨r, hr, hq⟩ := m_play (Q := Q) (c := c) n4 c4 t1 (by omega) (by rw [z0 35 (by decide)]; exact k35) b3 (W1_I n2 hc s1 s3 hD.2) (fun τ3 m1 m2 m3 m4 => by
    have r34 : τ2' 34 = τ1 34 := by rw [b4.a34]; funext j; exact f 34 j (by omega)
    refine hend τ3 m1 ?_ (fun a h0 h34 h30 h36 => ?_) (fun j hj => ?_) (fun L i hi hl hp => ?_) (fun j hj => ?_) (fun a d hd h1 h2 => ?_) (fun t ht => ?_)
    · exact pm2.cg (m2.1 30 (by decide) (by decide) (by omega)) (m2.1 31 (by decide) (by decide) (by omega)) (m2.1 32 (by decide) (by decide) (by omega)) (m2.1 33 (by decide) (by decide) (by omega))
    · rw [m2.1 a h0 h34 h36, b4.1 a h0 h36]
      funext x
      rw [f a x (by omega), a2 a h34]
    · rw [m2.2.1 j hj, z0 j hj]
    · have q1 : pM L i τ1 := hp.cg (a2 30 (by decide)) (a2 31 (by decide)) (a2 32 (by decide)) (a2 33 (by decide))
      have q2 := q1.fr hl b2 hi
      have q3 : pM L i τ2' := q2.cg (b4.1 30 (by decide) (by omega)) (b4.1 31 (by decide) (by omega)) (b4.1 32 (by decide) (by omega)) (b4.1 33 (by decide) (by omega))
      exact q3.cg (m2.1 30 (by decide) (by decide) (by omega)) (m2.1 31 (by decide) (by decide) (by omega)) (m2.1 32 (by decide) (by decide) (by omega)) (m2.1 33 (by decide) (by decide) (by omega))
    · rw [m4 j (by omega), r34, a3 j hj]
    · rw [m2.2.2 a d hd (by omega) (by omega), b4.2.2 a d hd (by omega), f a d (by omega), a2 a (by omega)]
    · unfold aP
      by_cases h0 : t = 0
      · rw [if_pos h0, h0, m4 _ (by omega), r34, a1 0 (by omega), if_pos rfl]
      · rw [if_neg h0]
        by_cases h1 : t < TP S li (ps c)
        · rw [if_pos h1]; exact m3 t (by omega) h1
        · rw [if_neg h1, m4 _ (by omega), r34, a1 t ht, if_neg h0])
  refine ⟨r, hq, fun K => ?_⟩
  unfold b_X8_part_2
  rw [a2 0 (by decide), k17, if_pos (nI_le (Nat.le_refl _) (by omega)), hr0, cl_some, m_shared pm2 c4 IL.1 t4, cl_some, e8, vl_d]
  exact hr
theorem c_half {b nc nd B S le li c : Nat} {ps : Nat → List Pr} {σ τ : St} (h : RX b nc nd B S le li ps σ τ) (hc : c < nc) :
    ∃ σ15, f_X7_activePart c (nI c) σ = (cl (f_X7_keepPromises c σ15) fun r19 σ18 =>
      vl (cP nd c S li (ps c) τ + r19) fun x21 =>
      vl (up2 σ18 0 8 ((σ18 (22 + c) 3) + (σ18 (lay (σ18 0 6)) 1))) fun σ22 =>
      vl (up2 σ22 (22 + c) 3 ((σ22 (22 + c) 3) + (σ22 (lay (σ22 0 6)) 0))) fun σ23 =>
      vl (up2 σ23 (22 + c) 4 ((σ23 (22 + c) 4) + (1 : Int32))) fun σ24 =>
      vl (up2 σ24 0 9 ((σ24 0 9) + (1 : Int32))) fun σ25 =>
      some (x21, σ25)) ∧ cW nd σ15 (Wp nd c S li (ps c) τ) ∧ pC (lP li (ps c)) c σ15 ∧ (∀ a, a ≠ 6 → a ≠ 7 → a ≠ 26 + c → a ≠ 30 + c → a ≠ 34 + c → a ≠ 38 + c → a ≠ 42 + c → (a < 46 ∨ 54 ≤ a) → σ15 a = σ a) ∧ (∀ d, d < nd → σ15 (46 + d) 0 = σ (46 + d) 0) ∧ (∀ d, nd ≤ d → d < 8 → ∀ j, j ≠ 15 → σ15 (46 + d) j = σ (46 + d) j) ∧ ∀ t, t < 48 * 2 ^ S → σ15 (42 + c) t = aP nd c S li (ps c) τ t := by
  obtain ⟨⟨⟨n1, n2, n3, n4, n5, n6, n7, n8, n9, n10, n11⟩, g2, ⟨l0, l1, l2, l3, l4, l5, l6⟩, g4, g5, g6, sd, s1, s2, s3⟩, hS, hT, hCa, hCo, hZ, hP, hA, hD⟩ := h
  obtain ⟨p1, p2, p3⟩ := hP.1 c hc
  obtain ⟨t1, t2, t3, t4⟩ := TP_ok (li := li) n8 n6 p3
  have c4 : c < 4 := by omega
  have IL := lP_I (li := li) p3
  have hLA := LA_ok σ
  obtain ⟨σ1, a1, a2, a3⟩ := c_fill (σ := σ) c4
  obtain ⟨σ5, e5⟩ : ∃ σ5, σ5 = up2 σ1 (42 + c) 0 1 := ⟨_, rfl⟩
  have f5 : ∀ a, a ≠ 42 + c → σ5 a = σ a := fun a ha => by rw [e5, up2_ne ha]; exact a3 a ha
  have y5 : σ5 (lay (σ5 0 6)) = σ (LA σ) := by
    rw [f5 0 (by omega)]
    exact f5 (LA σ) (by omega)
  have pc5 : pC (ps c) c σ5 := p1.cg (by rw [f5 _ (by omega)]) (f5 _ (by omega)) (f5 _ (by omega)) (f5 _ (by omega))
  obtain ⟨σ6, b1, b2, b3⟩ := c_idle pc5 p3.1 (nI li)
  have f6 : ∀ a, a ≠ 42 + c → a ≠ 26 + c → a ≠ 30 + c → a ≠ 34 + c → a ≠ 38 + c → σ6 a = σ a := fun a h1 h2 h3 h4 h5 => by rw [b3 a h2 h3 h4 h5]; exact f5 a h1
  obtain ⟨Wc, eWc⟩ : ∃ Wc : Wd, Wc = (fun d j => if j = 15 then σ6 (46 + d) 15 else τ (35 + j) d, τ 0 22) := ⟨_, rfl⟩
  have rc : ∀ d j, j ≠ 15 → Wc.1 d j = mD τ d j := fun d j hj => by rw [eWc]; exact if_neg hj
  have cw6 : cW nd σ6 Wc := ⟨fun d hd j j1 j2 => by
    by_cases j15 : j = 15
    · rw [j15, eWc]; rfl
    · rw [rc d j j15, f6 _ (by omega) (by omega) (by omega) (by omega) (by omega)]
      by_cases j14 : j ≤ 14
      · exact hD.1.1 d hd j j1 j14
      · exact hD.1.2.1 d (by omega) j (by omega) j2, by rw [f6 _ (by omega) (by omega) (by omega) (by omega) (by omega), s2, eWc]; exact s3.symm⟩
  have hOc : ∀ d, d < nd → hOk c (Wc.1 d) := fun d hd => by
    have q := hr_ok n2 hc (hD.2 d hd)
    unfold hOk at q ⊢
    rw [rc d 9 (by decide), rc d 1 (by decide), rc d 8 (by decide)]
    exact q
  have o6 : ∀ d, nd ≤ d → d < 8 → ∀ j, σ6 (46 + d) j = σ (46 + d) j := fun d h1 h2 j => by rw [f6 _ (by omega) (by omega) (by omega) (by omega) (by omega)]
  obtain ⟨σ9, d1, d2c, d3, d4⟩ := c_hear (c := c) n4 c4 cw6 hOc (fun d h1 h2 => by rw [o6 d h1 h2]; exact (hD.1.2.2.2 d h1 h2).1)
  have d2 : cW nd σ9 (W1 nd c τ) := ⟨fun d hd j j1 j2 => by
    rw [d2c.1 d hd j j1 j2, (wF_sl (rHr (nI c)) Wc nd).2 d hd, W1_row hd, rHr_15 (rc d)], by
    rw [d2c.2, (wF_sl (rHr (nI c)) Wc nd).1, eWc]
    exact (wF_sl (rHr (nI c)) (W0 τ) nd).1.symm⟩
  have hqW : qW nd (W1 nd c τ) := fun d hd _ => by
    rw [W1_row hd, rHr_10]
    exact (hD.2 d hd).2.2.2.2.2.2.1
  have hqS : qS nd σ9 := fun d h1 h2 => ⟨by rw [d3.2.2 d h1 h2 10 (by decide), o6 d h1 h2]; exact (hD.1.2.2.2 d h1 h2).2, d4 d h1 h2⟩
  have f9 : ∀ a, a ≠ 6 → a ≠ 7 → a ≠ 42 + c → a ≠ 26 + c → a ≠ 30 + c → a ≠ 34 + c → a ≠ 38 + c → (a < 46 ∨ 54 ≤ a) → σ9 a = σ a := fun a h6 h7 h1 h2 h3 h4 h5 ho => by rw [d3.1 a ho]; exact f6 a h1 h2 h3 h4 h5
  have y9 : σ9 (lay (σ9 0 6)) 2 = nI (3 * 2 ^ S) := by
    rw [f9 0 (by omega) (by omega) (by omega) (by omega) (by omega) (by omega) (by omega) (by omega), show lay (σ 0 6) = LA σ from rfl, f9 (LA σ) (by omega) (by omega) (by omega) (by omega) (by omega) (by omega) (by omega) (by omega)]
    exact l2
  have pc9 : pC (lP li (ps c)) c σ9 := b2.cg (by rw [d3.1 _ (by omega)]) (d3.1 _ (by omega)) (d3.1 _ (by omega)) (d3.1 _ (by omega))
  have eT : nI (16 - pS (lP li (ps c))) * σ9 (lay (σ9 0 6)) 2 = nI (TP S li (ps c)) := by
    rw [y9, pk_mul]
    rfl
  have air9 : ∀ t, t < 384 → σ9 (42 + c) t = if t = 0 then 1 else 0 := by
    intro t ht
    rw [d3.1 _ (by omega), b3 _ (by omega) (by omega) (by omega) (by omega), e5]
    by_cases h0 : t = 0
    · rw [if_pos h0, h0, up2_at]
    · rw [if_neg h0, up2_c h0]; exact a2 t ht
  obtain ⟨σ15, g1, g2', g3', g4', g5'⟩ := c_play (c := c) (T := TP S li (ps c)) n4 c4 t1 (by omega) d2 (W1_I n2 hc s1 s3 hD.2) (fun d hd => by rw [d3.2.1 d hd 0 (Or.inl rfl), f6 _ (by omega) (by omega) (by omega) (by omega) (by omega)]; exact hD.1.2.2.1 d (by omega)) hqW hqS (fun t h1 h2 => by rw [air9 t (by omega), if_neg (by omega)])
  refine ⟨σ15, ?_, g2', ?_, fun a h6 h7 h2 h3 h4 h5 h1 ho => ?_, fun d hd => ?_, fun d e1 e2 j hj => ?_, fun t ht => ?_⟩
  · unfold f_X7_activePart
    rw [a1, cl_some, gd_t (by decide), vl_d, show nt (0 : Int32) = 0 from rfl, ← e5, y5, l4, b1, cl_some, d1, cl_some, c_shared pc9 IL.1 t4, cl_some, eT, g1, cl_some]
    rfl
  · exact pc9.cg (by rw [g3'.1 _ (by omega) (by omega) (by omega)]) (g3'.1 _ (by omega) (by omega) (by omega)) (g3'.1 _ (by omega) (by omega) (by omega)) (g3'.1 _ (by omega) (by omega) (by omega))
  · rw [g3'.1 a h6 h1 (by omega)]; exact f9 a h6 h7 h1 h2 h3 h4 h5 ho
  · rw [g3'.2.2 d hd 0 (Or.inl rfl), d3.2.1 d hd 0 (Or.inl rfl), f6 _ (by omega) (by omega) (by omega) (by omega) (by omega)]
  · rw [g3'.1 _ (by omega) (by omega) (by omega), d3.2.2 d e1 e2 j hj, o6 d e1 e2]
  · unfold aP
    by_cases h0 : t = 0
    · rw [if_pos h0, h0, g5' 0 (Or.inl rfl), air9 0 (by decide), if_pos rfl]
    · rw [if_neg h0]
      by_cases h1 : t < TP S li (ps c)
      · rw [if_pos h1]; exact g4' t (by omega) h1
      · rw [if_neg h1, g5' t (by omega), air9 t (by omega), if_neg h0]
