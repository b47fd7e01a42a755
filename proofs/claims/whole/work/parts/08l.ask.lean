/-! ask -/
def TT (n nc nd B S le li : Nat) (ps : Nat → List Pr) (σ τ : St) : Prop := rG n nc nd B S le li σ τ ∧ rS nc B σ τ ∧ rT σ τ ∧ rCa σ τ ∧ rCo n nc σ τ ∧ rZ nc σ ∧ rP nc nd le ps σ τ ∧ rA nc S σ τ ∧ rD nc nd σ τ
/-- causes alone have changed -/
theorem ca_T {n nc nd B S le li : Nat} {ps : Nat → List Pr} {σ τ σ' τ' : St} (h : TT n nc nd B S le li ps σ τ) (es : ∀ k, k ≠ 4 → k ≠ 5 → σ' k = σ k) (et : ∀ k, k ≠ 0 → k ≠ 4 → τ' k = τ k) (e0 : ∀ j, j ≠ 3 → τ' 0 j = τ 0 j) (hc : rCa σ' τ') : TT n nc nd B S le li ps σ' τ' := by
  obtain ⟨h1, h2, h3, h4, h5, h6, h7, h8, h9⟩ := h
  have hN := h1.1
  have la : LA σ ≠ 4 ∧ LA σ ≠ 5 ∧ LA σ + 2 ≠ 4 ∧ LA σ + 2 ≠ 5 := by rcases LA_ok σ with e | e <;> rw [e] <;> decide
  exact ⟨h1.cg (es 0 (by decide) (by decide)) (by rw [es 6 (by decide) (by decide)]) (es _ la.1 la.2.1) (fun j h1 h2 => e0 j (by omega)), h2.cg hN.2.1 (es 0 (by decide) (by decide)) (es _ la.2.2.1 la.2.2.2) (fun c hc => by rw [es _ (by omega) (by omega)]) (et 26 (by decide) (by decide)), h3.cg (es 1 (by decide) (by decide)) (es 2 (by decide) (by decide)) (e0 0 (by decide)) (et 1 (by decide) (by decide)), hc, h5.cg hN.2.1 (fun c hc => es _ (by omega) (by omega)) (et 25 (by decide) (by decide)) (et 27 (by decide) (by decide)) (et 28 (by decide) (by decide)) (et 29 (by decide) (by decide)), h6.cg (fun c hc => by rw [es _ (by omega) (by omega)]) (fun c hc => by rw [es _ (by omega) (by omega)]), h7.cg hN.2.1 (fun k h1 h2 => es _ (by omega) (by omega)) (fun k h1 h2 => et _ (by omega) (by omega)), h8.cg hN.2.1 (fun c hc => es _ (by omega) (by omega)) (et 28 (by decide) (by decide)) (et 34 (by decide) (by decide)), h9.cg hN.2.2.2.1 (fun d hd => es _ (by omega) (by omega)) (fun k h1 h2 => et _ (by omega) (by omega))⟩
theorem TT.rel {n nc nd B S le li : Nat} {ps : Nat → List Pr} {σ τ : St} (h : TT n nc nd B S le li ps σ τ) : Rel n σ τ := ⟨nc, nd, B, S, le, li, ps, h⟩
theorem ca_0 {n nc nd B S le li : Nat} {ps : Nat → List Pr} {σ τ : St} (h : TT n nc nd B S le li ps σ τ) : TT n nc nd B S le li ps (up2 σ 4 1 0) (up2 τ 0 3 0) :=
  ca_T h (fun k a b => up2_ne a) (fun k a b => up2_ne a) (fun j a => up2_c a) ⟨0, by decide, by rw [up2_at]; rfl, by rw [up2_at]; rfl, fun j hj => by omega⟩
theorem ca_1 {n nc nd B S le li : Nat} {ps : Nat → List Pr} {σ τ : St} (h : TT n nc nd B S le li ps σ τ) (x : Int32) : TT n nc nd B S le li ps (up2 (up2 (up2 σ 4 1 0) 5 0 x) 4 1 (nI 1)) (up2 (up2 (up2 τ 0 3 1) 4 0 x) 4 1 0) :=
  ca_T h (fun k a b => by rw [up2_ne a, up2_ne b, up2_ne a]) (fun k a b => by rw [up2_ne b, up2_ne b, up2_ne a]) (fun j a => by rw [up2_r (by decide), up2_r (by decide), up2_c a]) ⟨1, by decide, by rw [up2_at], by rw [up2_r (by decide), up2_r (by decide), up2_at]; rfl, fun j hj => by
    have : j = 0 := by omega
    subst this
    rw [up2_r (by decide), up2_at, up2_c (by decide), up2_at]⟩
theorem ca_2 {n nc nd B S le li : Nat} {ps : Nat → List Pr} {σ τ : St} (h : TT n nc nd B S le li ps σ τ) (x y : Int32) : TT n nc nd B S le li ps (up2 (up2 (up2 (up2 (up2 σ 4 1 0) 5 0 x) 4 1 (nI 1)) 5 1 y) 4 1 (nI 2)) (up2 (up2 (up2 τ 0 3 2) 4 0 x) 4 1 y) :=
  ca_T h (fun k a b => by rw [up2_ne a, up2_ne b, up2_ne a, up2_ne b, up2_ne a]) (fun k a b => by rw [up2_ne b, up2_ne b, up2_ne a]) (fun j a => by rw [up2_r (by decide), up2_r (by decide), up2_c a]) ⟨2, by decide, by rw [up2_at], by rw [up2_r (by decide), up2_r (by decide), up2_at]; rfl, fun j hj => by
    have : j = 0 ∨ j = 1 := by omega
    rcases this with rfl | rfl
    · rw [up2_r (by decide), up2_c (by decide), up2_r (by decide), up2_at, up2_c (by decide), up2_at]
    · rw [up2_r (by decide), up2_at, up2_at]⟩
theorem app_a (σ : St) (x : Int32) : f_X6_append 4 x (up2 σ 4 1 0) = some (1, up2 (up2 (up2 σ 4 1 0) 5 0 x) 4 1 (nI 1)) := app_4 (m := 0) (by rw [up2_at]; rfl) (by decide) x
theorem app_b (σ : St) (x y : Int32) : f_X6_append 4 y (up2 (up2 (up2 σ 4 1 0) 5 0 x) 4 1 (nI 1)) = some (1, up2 (up2 (up2 (up2 (up2 σ 4 1 0) 5 0 x) 4 1 (nI 1)) 5 1 y) 4 1 (nI 2)) := app_4 (m := 1) (by rw [up2_at]) (by decide) y
theorem ix0 : ix (0 : Int32) 3 := ix_nI (i := 0) (by decide) (by decide)
theorem ix1 : ix (1 : Int32) 3 := ix_nI (i := 1) (by decide) (by decide)
theorem nt0 : nt (0 : Int32) = 0 := nt_nI (n := 0) (by decide)
theorem nt1 : nt (1 : Int32) = 1 := nt_nI (n := 1) (by decide)
theorem ref_a (τ : St) (r x : Int32) : f_X8_refuses r x 0 τ = some (r, up2 (up2 (up2 τ 0 3 1) 4 0 x) 4 1 0) := by
  unfold f_X8_refuses
  rw [if_pos rfl, vl_d, gd_t ix0, vl_d, gd_t ix1, vl_d, nt0, nt1]
theorem ref_b (τ : St) (r x y : Int32) (hy : y ≠ 0) : f_X8_refuses r x y τ = some (r, up2 (up2 (up2 τ 0 3 2) 4 0 x) 4 1 y) := by
  unfold f_X8_refuses
  rw [if_neg hy, vl_d, gd_t ix0, vl_d, gd_t ix1, vl_d, nt0, nt1]
theorem m_hasP {nc d : Nat} {ps : Nat → List Pr} {τ : St} (hnc : nc ≤ 4) (hd : d < 8) (h0 : τ 0 24 = nI nc) (hp : ∀ c, c < nc → pM (ps c) c τ ∧ ok7 (ps c)) : ∃ r, f_X8_hasPromise (nI d) τ = some (r, τ) ∧ ((r = 0 ∧ ∀ c, c < nc → pN (ps c) d = none) ∨ (r = 1 ∧ ∃ c x, c < nc ∧ pN (ps c) d = some x)) := by
  obtain ⟨r, hr, r', rfl, q⟩ := lp_FU (b := fun K a => b_X8_hasPromise_4 K a.1 a.2.1 a.2.2.1 a.2.2.2)
    (fun k a => ∃ r, a = (nI d, r, nI k, τ) ∧ ((r = 0 ∧ ∀ c, c < k → pN (ps c) d = none) ∨ (r = 1 ∧ ∃ c x, c < k ∧ pN (ps c) d = some x)))
    (fun a => ∃ r, a = (r, τ) ∧ ((r = 0 ∧ ∀ c, c < nc → pN (ps c) d = none) ∨ (r = 1 ∧ ∃ c x, c < nc ∧ pN (ps c) d = some x))) nc (by omega)
    (fun k a hk ha => by
      obtain ⟨r, rfl, hg⟩ := ha
      have o0 := (hp k hk).2
      have e0 := m_place (hp k hk).1 (by omega) o0.1 hd o0.2
      have n0 : ¬ (nI nc ≤ nI k) := by rw [nI_leI (by omega) (by omega)]; omega
      rcases hg with ⟨rfl, g⟩ | ⟨rfl, c, x, g1, g2⟩
      · cases hf : pN (ps k) d with
        | none =>
          refine Or.inl ⟨(nI d, 0, nI (k + 1), τ), ⟨0, rfl, Or.inl ⟨rfl, fun c hc => ?_⟩⟩, fun K => ?_⟩
          · by_cases e : c = k
            · rw [e]; exact hf
            · exact g c (by omega)
          · show b_X8_hasPromise_4 K (nI d) 0 (nI k) τ = _
            unfold b_X8_hasPromise_4
            rw [h0, if_neg n0, if_pos rfl, e0, cl_some, (pN_none hf).2, if_pos rfl, vl_d, nI_1]
        | some x =>
          obtain ⟨-, i, hi, ei⟩ := pN_mem hf
          have := o0.1
          refine Or.inl ⟨(nI d, 1, nI (k + 1), τ), ⟨1, rfl, Or.inr ⟨rfl, k, x, by omega, hf⟩⟩, fun K => ?_⟩
          show b_X8_hasPromise_4 K (nI d) 0 (nI k) τ = _
          unfold b_X8_hasPromise_4
          rw [h0, if_neg n0, if_pos rfl, e0, cl_some, ei, if_neg (neg4 (by omega)), vl_d, nI_1]
      · refine Or.inl ⟨(nI d, 1, nI (k + 1), τ), ⟨1, rfl, Or.inr ⟨rfl, c, x, by omega, g2⟩⟩, fun K => ?_⟩
        show b_X8_hasPromise_4 K (nI d) 1 (nI k) τ = _
        unfold b_X8_hasPromise_4
        rw [h0, if_neg n0, if_neg (by decide), vl_d, nI_1])
    (fun a ha => by
      obtain ⟨r, rfl, hg⟩ := ha
      refine ⟨_, ⟨r, rfl, hg⟩, fun K => ?_⟩
      show b_X8_hasPromise_4 K (nI d) r (nI nc) τ = _
      unfold b_X8_hasPromise_4
      rw [h0, if_pos (nI_le (Nat.le_refl _) (by omega)), gd_t]
      rcases hg with ⟨e, _⟩ | ⟨e, _⟩
      · exact Or.inl e
      · exact Or.inr e)
    (a := (nI d, 0, 0, τ)) ⟨0, rfl, Or.inl ⟨rfl, fun c hc => by omega⟩⟩
  exact ⟨r', hr, q⟩
theorem c_add {l : List Pr} {c d y : Nat} {σ : St} (h : pC l c σ) (hl : l.length < 7) : ∃ σ', f_X4_add c (nI d) (nI y) σ = some ((), σ') ∧ pC (l ++ [(d, y, 0)]) c σ' ∧ frC c σ σ' := by
  refine ⟨up2 (up2 (up2 (up2 σ (30 + c) l.length (nI d)) (34 + c) l.length (nI y)) (38 + c) l.length 0) (26 + c) 3 (nI (l.length + 1)), ?_, ⟨?_, fun i q hq => ?_⟩, fun a h1 h2 h3 h4 => ?_⟩
  · unfold f_X4_add
    rw [h.1, if_neg (by rw [i_le, t_lit 7 (by decide), t_nI _ (by omega)]; omega), gd_t (ix_nI hl (by decide)), vl_d, nt_nI (by omega), up2_r (show 26 + c ≠ 30 + c by omega), h.1, gd_t (ix_nI hl (by decide)), vl_d, nt_nI (by omega), up2_r (show 26 + c ≠ 34 + c by omega), up2_r (show 26 + c ≠ 30 + c by omega), h.1, gd_t (ix_nI hl (by decide)), vl_d, vl_d, nt_nI (by omega), up2_r (show 26 + c ≠ 38 + c by omega), up2_r (show 26 + c ≠ 34 + c by omega), up2_r (show 26 + c ≠ 30 + c by omega), h.1, nI_1]
  · rw [up2_at]; simp
  · have hi := (List.getElem?_eq_some_iff.mp hq).1
    rw [List.length_append, List.length_singleton] at hi
    rw [up2_r (show 30 + c ≠ 26 + c by omega), up2_r (show 30 + c ≠ 38 + c by omega), up2_r (show 30 + c ≠ 34 + c by omega), up2_r (show 34 + c ≠ 26 + c by omega), up2_r (show 34 + c ≠ 38 + c by omega), up2_r (show 38 + c ≠ 26 + c by omega)]
    by_cases e : i = l.length
    · subst e
      rw [List.getElem?_concat_length] at hq
      cases hq
      rw [up2_at, up2_at, up2_at]
      exact ⟨rfl, rfl, rfl⟩
    · rw [List.getElem?_append_left (by omega)] at hq
      rw [up2_c e, up2_c e, up2_c e, up2_r (show 34 + c ≠ 30 + c by omega), up2_r (show 38 + c ≠ 34 + c by omega), up2_r (show 38 + c ≠ 30 + c by omega)]
      exact h.2 i q hq
  · rw [up2_ne h1, up2_ne h4, up2_ne h3, up2_ne h2]
theorem pS_snoc (l : List Pr) (q : Pr) : pS (l ++ [q]) = pS l + q.2.1 := by unfold pS; simp
abbrev mA (τ : St) (c len : Nat) (d y : Nat) : St := up2 (up2 (up2 (up2 τ 31 (7 * c + len) (nI d)) 32 (7 * c + len) (nI y)) 33 (7 * c + len) 0) 30 c (nI (len + 1))
theorem m_add {l : List Pr} {c d y : Nat} {τ : St} (h : pM l c τ) (hl : l.length < 7) : pM (l ++ [(d, y, 0)]) c (mA τ c l.length d y) ∧ frM c τ (mA τ c l.length d y) := by
  unfold mA
  refine ⟨⟨by rw [up2_at]; simp, fun i q hq => ?_⟩, fun a b h1 h2 => ?_⟩
  · have hi := (List.getElem?_eq_some_iff.mp hq).1
    rw [List.length_append, List.length_singleton] at hi
    rw [up2_r (show 31 ≠ 30 by decide), up2_r (show 31 ≠ 33 by decide), up2_r (show 31 ≠ 32 by decide), up2_r (show 32 ≠ 30 by decide), up2_r (show 32 ≠ 33 by decide), up2_r (show 33 ≠ 30 by decide)]
    by_cases e : i = l.length
    · subst e
      rw [List.getElem?_concat_length] at hq
      cases hq
      rw [up2_at, up2_at, up2_at]
      exact ⟨rfl, rfl, rfl⟩
    · rw [List.getElem?_append_left (by omega)] at hq
      rw [up2_c (by omega), up2_c (by omega), up2_c (by omega), up2_r (show 32 ≠ 31 by decide), up2_r (show 33 ≠ 32 by decide), up2_r (show 33 ≠ 31 by decide)]
      exact h.2 i q hq
  · rw [up2_g, if_neg (fun q => h1 q.1 q.2), up2_g, if_neg (fun q => by have := h2 (by omega) (by omega); omega), up2_g, if_neg (fun q => by have := h2 (by omega) (by omega); omega), up2_g, if_neg (fun q => by have := h2 (by omega) (by omega); omega)]
theorem mA_ne {τ : St} {c len d y k : Nat} (h : k < 30 ∨ 33 < k) : mA τ c len d y k = τ k := by
  unfold mA
  rw [up2_ne (by omega), up2_ne (by omega), up2_ne (by omega), up2_ne (by omega)]
theorem mA_30 {τ : St} {c len d y : Nat} : mA τ c len d y 30 c = nI (len + 1) := up2_at _ _ _ _
theorem nN_not {l : List Pr} {d : Nat} (h : pN l d = none) : ∀ q ∈ l, q.1 ≠ d := by
  rcases pX_cases l d with ⟨_, a⟩ | ⟨i, q, a, b, c, e⟩
  · exact a
  · have hi := (List.getElem?_eq_some_iff.mp a).1
    unfold pN at h
    cases hf : l.findIdx? (fun q => q.1 == d) with
    | none => have := List.findIdx?_eq_none_iff.mp hf; exact fun q hq => by simpa using this q hq
    | some j => rw [hf] at h; cases h
theorem st_ask {n : Nat} {σ τ : St} (h : Rel n σ τ) (hn : n < 512) (a0 a1 : Int32) : ∃ r σ' τ', f_X7_ask a0 a1 σ = some (r, σ') ∧ f_X8_ask a0 a1 τ = some (r, τ') ∧ Rel (n + 1) σ' τ' := by
  obtain ⟨nc, nd, B, S, le, li, ps, hT⟩ := rel_mono h
  obtain ⟨h1, h2, h3, h4, h5, h6, h7, h8, h9⟩ := id hT
  obtain ⟨g1, g2, g3, g4, g5, g6, g7, g8, g9⟩ := ca_0 hT
  obtain ⟨hN, hl, hL, hM, hrest⟩ := id h1
  have gL := g1.2.2.1
  have hnd := hN.2.2.2.1
  have hnc := hN.2.1
  by_cases hq : 0 ≤ a0.toInt ∧ a0.toInt < nd
  · obtain ⟨d, hd, rfl⟩ := who hq
    have hd8 : d < 8 := Nat.lt_of_lt_of_le hd hnd
    have gd0 := dev_c hnd gL.2.2.2.2.2.2 hd
    have gm0 := dev_m hN.2.2.1 hnd hM.2.2.2.2.2.2 hd
    by_cases hv : 1 ≤ a1.toInt ∧ a1.toInt ≤ 15
    · obtain ⟨y, hy, rfl⟩ : ∃ y, y < 16 ∧ a1 = nI y := ⟨a1.toInt.toNat, by omega, nI_of_toInt (by omega)⟩
      rw [t_nI y (by omega)] at hv
      have m1 : f_X8_in (nI y).toInt64 1 15 τ = some (1, τ) := in_t (by rw [t64 1 (by decide), t_nI y (by omega)]; omega) (by rw [t64 15 (by decide), t_nI y (by omega)]; omega)
      have n1 : ¬ nI y < 1 := by rw [i_lt, t_lit 1 (by decide), t_nI y (by omega)]; omega
      have n2 : nI y < 16 := by rw [i_lt, t_lit 16 (by decide), t_nI y (by omega)]; omega
      have eh : up2 σ 4 1 0 (46 + d) 1 = τ 36 d := by rw [up2_ne (by omega)]; exact h9.1.1 d hd 1 (by decide) (by decide)
      have r15 : ∀ x : Prop, x → Rel (n + 1) (up2 (up2 (up2 σ 4 1 0) 5 0 15) 4 1 (nI 1)) (up2 (up2 (up2 τ 0 3 1) 4 0 15) 4 1 0) := fun _ _ => (ca_1 hT 15).rel
      rcases (h9.2 d hd).1 with ho | ⟨c, hc, ho⟩
      · have ho' : τ 36 d = -4 := ho
        refine ⟨-2, _, _, ?_, ?_, (ca_1 hT 15).rel⟩
        · unfold f_X7_ask f_X6_clear
          rw [vl_d, cl_some, gd0, cl_some, oc_some, gd_t hd8, if_neg n1, if_pos n2, eh, ho', co_cn hnc gL.2.2.2.2.2.1 (by rw [t_m4]; omega), cl_some, oc_none, app_a, cl_some]
        · unfold f_X8_ask
          rw [gm0, cl_some, if_neg (by decide), m1, cl_some, if_neg (by decide), gd_t (ix_nI hd8 (by decide)), vl_d, nt_nI (show d < 2147483648 by omega), if_pos ho', ref_a, cl_some]
      · have ho' : τ 36 d = nI c := ho
        have hc4 : c < 4 := Nat.lt_of_lt_of_le hc hnc
        obtain ⟨m, hm, lm1, lm2⟩ := (h5 c hc).2.1
        have lm1' : up2 σ 4 1 0 (22 + c) 2 = nI m := by rw [up2_ne (by omega)]; exact lm1
        rcases bt2 m hm d hd8 with eb | eb
        · refine ⟨-2, _, _, ?_, ?_, (ca_1 hT 15).rel⟩
          · unfold f_X7_ask f_X6_clear
            rw [vl_d, cl_some, gd0, cl_some, oc_some, gd_t hd8, if_neg n1, if_pos n2, eh, ho', co_c hnc gL.2.2.2.2.2.1 hc, cl_some, oc_some, gd_t hc4, c_lists hm hd8 lm1', cl_some, show bit (nI m) d = 0 from eb, if_pos rfl, app_a, cl_some]
          · unfold f_X8_ask
            rw [gm0, cl_some, if_neg (by decide), m1, cl_some, if_neg (by decide), gd_t (ix_nI hd8 (by decide)), vl_d, nt_nI (show d < 2147483648 by omega), ho', if_neg (neg4 (by omega)), gd_t (ix_nI hc4 (by decide)), nt_nI (show c < 2147483648 by omega), lm2, m_has hm hd8, cl_some, show bit (nI m) d = 0 from eb, if_pos rfl, ref_a, cl_some]
        · obtain ⟨qs, k1, k2, k3⟩ := qs_of hnc hnd g7 g6
          have hok : ∀ c, c < nc → ok7 (ps c) := fun c hc => by have := (k3 c (by omega)).2; rw [k1 c hc] at this; exact this
          obtain ⟨r0, p1, p2⟩ := c_promiser hd8 (fun c hc => (k3 c hc).1) (fun c hc => (k3 c hc).2)
          obtain ⟨r, q1, q2⟩ := m_hasP (ps := ps) (τ := τ) hnc hd8 hM.2.2.2.2.2.1 (fun c hc => ⟨(h7.1 c hc).2.1, hok c hc⟩)
          rcases q2 with ⟨rfl, q3⟩ | ⟨rfl, c', x, hc', q3⟩
          · have er : r0 = none := by
              rcases p2 with ⟨a, _⟩ | ⟨c', x, a, _, b⟩
              · exact a
              · by_cases hcn : c' < nc
                · rw [k1 c' hcn, q3 c' hcn] at b; cases b
                · rw [k2 c' (by omega)] at b; cases b
            subst er
            obtain ⟨pc, -, -⟩ := g7.1 c hc
            obtain ⟨-, pm, pi⟩ := h7.1 c hc
            have hs : pS (ps c) ≤ 16 := by have := pi.2.2; omega
            have hle1 : 1 ≤ le := hN.2.2.2.2.2.2.2.1
            have hle9 : le ≤ 9 := hN.2.2.2.2.2.2.2.2.1
            by_cases h7' : (ps c).length = 7
            · refine ⟨-3, _, _, ?_, ?_, (ca_1 hT 16).rel⟩
              · unfold f_X7_ask f_X6_clear
                rw [vl_d, cl_some, gd0, cl_some, oc_some, gd_t hd8, if_neg n1, if_pos n2, eh, ho', co_c hnc gL.2.2.2.2.2.1 hc, cl_some, oc_some, gd_t hc4, c_lists hm hd8 lm1', cl_some, show bit (nI m) d = 1 from eb, if_neg (by decide), p1, cl_some, oc_none, pc.1, if_neg (by rw [h7']; decide), app_a, cl_some]
              · unfold f_X8_ask
                rw [gm0, cl_some, if_neg (by decide), m1, cl_some, if_neg (by decide), gd_t (ix_nI hd8 (by decide)), vl_d, nt_nI (show d < 2147483648 by omega), ho', if_neg (neg4 (by omega)), gd_t (ix_nI hc4 (by decide)), nt_nI (show c < 2147483648 by omega), lm2, m_has hm hd8, cl_some, show bit (nI m) d = 1 from eb, if_neg (by decide), q1, cl_some, if_pos rfl, gd_t (ix_nI hc4 (by decide)), pm.1, if_pos (by rw [h7']; rfl), ref_a, cl_some]
            · have hl7 : (ps c).length < 7 := by have := pi.1; omega
              have hlt : nI (ps c).length < 7 := by rw [i_lt, t_lit 7 (by decide), t_nI _ (by omega)]; omega
              have hne : ¬ nI (ps c).length = 7 := by rw [i_eq, t_lit 7 (by decide), t_nI _ (by omega)]; omega
              have sh := c_shared pc pi.1 hs
              have sm := m_shared pm hc4 pi.1 hs
              by_cases hfit : le + y ≤ 16 - pS (ps c)
              · have ex : nI (16 - pS (ps c)) - nI y = nI (16 - pS (ps c) - y) := nI_m _ _ (by omega)
                have hge : nI le ≤ nI (16 - pS (ps c) - y) := nI_le (by omega) (by omega)
                obtain ⟨σ', a1, a2, a3⟩ := c_add (d := d) (y := y) pc hl7
                have b0 := (g7.1 c hc).2.1
                obtain ⟨b1, b2⟩ := m_add (d := d) (y := y) b0 hl7
                have hS' : pS (ps c ++ [(d, y, 0)]) = pS (ps c) + y := pS_snoc _ _
                refine ⟨nI (16 - pS (ps c) - y), σ', mA (up2 τ 0 3 0) c (ps c).length d y, ?_, ?_, ?_⟩
                · unfold f_X7_ask f_X6_clear
                  rw [vl_d, cl_some, gd0, cl_some, oc_some, gd_t hd8, if_neg n1, if_pos n2, eh, ho', co_c hnc gL.2.2.2.2.2.1 hc, cl_some, oc_some, gd_t hc4, c_lists hm hd8 lm1', cl_some, show bit (nI m) d = 1 from eb, if_neg (by decide), p1, cl_some, oc_none, pc.1, if_pos hlt, sh, cl_some, vl_d, ex, gL.2.2.2.1, if_pos hge, a1, cl_some]
                · have fs := m_first b1 hc4 (by rw [List.length_append, List.length_singleton]; omega) (by omega) (i := (ps c).length) (by rw [List.length_append, List.length_singleton]; omega)
                  rw [List.take_of_length_le (by rw [List.length_append, List.length_singleton]; omega), hS'] at fs
                  unfold f_X8_ask
                  rw [gm0, cl_some, if_neg (by decide), m1, cl_some, if_neg (by decide), gd_t (ix_nI hd8 (by decide)), vl_d, nt_nI (show d < 2147483648 by omega), ho', if_neg (neg4 (by omega)), gd_t (ix_nI hc4 (by decide)), nt_nI (show c < 2147483648 by omega), lm2, m_has hm hd8, cl_some, show bit (nI m) d = 1 from eb, if_neg (by decide), q1, cl_some, if_pos rfl, gd_t (ix_nI hc4 (by decide)), pm.1, if_neg hne, sm, cl_some, vl_d, ex, hM.2.2.2.1, if_pos hge, vl_d, gd_t (ix_nI hc4 (by decide)), vl_d, b0.1, m7, gd_t (ix_nI (show 7 * c + (ps c).length < 28 by omega) (by decide)), vl_d, gd_t (ix_nI (show 7 * c + (ps c).length < 28 by omega) (by decide)), vl_d, gd_t (ix_nI (show 7 * c + (ps c).length < 28 by omega) (by decide)), vl_d, gd_t (ix_nI hc4 (by decide)), gd_t (ix_nI hc4 (by decide)), vl_d, gd_t (ix_nI hc4 (by decide)), nt_nI (show 7 * c + (ps c).length < 2147483648 by omega)]
                  have z : up2 (up2 (up2 (up2 τ 0 3 0) 31 (7 * c + (ps c).length) (nI d)) 32 (7 * c + (ps c).length) (nI y)) 33 (7 * c + (ps c).length) 0 30 c = nI (ps c).length := by
                    rw [up2_r (show 30 ≠ 33 by decide), up2_r (show 30 ≠ 32 by decide), up2_r (show 30 ≠ 31 by decide)]
                    exact b0.1
                  rw [z, nI_1, up2_at, show (1 : Int32) = nI 1 from rfl, nI_m _ _ (show 1 ≤ (ps c).length + 1 by omega), show (ps c).length + 1 - 1 = (ps c).length by omega, fs, cl_some, show 16 - (pS (ps c) + y) = 16 - pS (ps c) - y by omega]
                · refine rel_pr (qs := fun i => if i = c then ps c ++ [(d, y, 0)] else ps i) ⟨g1, g2, g3, g4, g5, g8⟩ (fun k hk => a3 k (by omega) (by omega) (by omega) (by omega)) (fun i hi j hj => by rw [a3 _ (by omega) (by omega) (by omega) (by omega)]) (fun k hk => mA_ne (by omega)) (fun i hi => ?_) (fun i u v => ?_) ⟨fun i hi => ?_, ?_⟩ ?_
                  · rw [a3 _ (by omega) (by omega) (by omega) (by omega), mA_ne (by decide)]
                    exact (g5 i hi).2.1
                  · rw [a3 (22 + i) (by omega) (by omega) (by omega) (by omega), a3 (26 + i) (by omega) (by omega) (by omega) (by omega)]
                    exact g6 i u v
                  · show pC (if i = c then ps c ++ [(d, y, 0)] else ps i) i _ ∧ pM (if i = c then ps c ++ [(d, y, 0)] else ps i) i _ ∧ pI nd le (if i = c then ps c ++ [(d, y, 0)] else ps i)
                    by_cases e : i = c
                    · subst e
                      rw [if_pos rfl]
                      refine ⟨a2, b1, by rw [List.length_append, List.length_singleton]; omega, fun q hq => ?_, by omega⟩
                      rcases List.mem_append.mp hq with hq | hq
                      · exact pi.2.1 q hq
                      · rw [List.mem_singleton] at hq
                        subst hq
                        exact ⟨hd, by show 1 ≤ y; omega, by show y ≤ 15; omega⟩
                    · rw [if_neg e]
                      obtain ⟨u1, u2, u3⟩ := g7.1 i hi
                      exact ⟨u1.fr (by omega) hc4 a3 e, u2.fr u3.1 b2 e, u3⟩
                  · have hnot : ∀ i, i < nc → ∀ q ∈ ps i, q.1 ≠ d := fun i hi => nN_not (q3 i hi)
                    refine ⟨fun i hi => ?_, fun i j hi hj hij q hq q' hq' => ?_⟩
                    · show ((if i = c then ps c ++ [(d, y, 0)] else ps i).map (fun q => q.1)).Nodup
                      by_cases e : i = c
                      · rw [if_pos e, List.map_append]
                        rw [List.nodup_append]
                        refine ⟨h7.2.1 c hc, by simp, fun a ha b hb => ?_⟩
                        simp only [List.map_cons, List.map_nil, List.mem_singleton] at hb
                        subst hb
                        obtain ⟨q, hq, rfl⟩ := List.mem_map.mp ha
                        exact hnot c hc q hq
                      · rw [if_neg e]
                        exact h7.2.1 i hi
                    · have hq0 : q ∈ (if i = c then ps c ++ [(d, y, 0)] else ps i) := hq
                      have hq0' : q' ∈ (if j = c then ps c ++ [(d, y, 0)] else ps j) := hq'
                      by_cases e : i = c
                      · rw [if_pos e] at hq0
                        rw [if_neg (by omega)] at hq0'
                        rcases List.mem_append.mp hq0 with u | u
                        · exact h7.2.2 c j hc hj (by omega) q u q' hq0'
                        · rw [List.mem_singleton] at u
                          subst u
                          exact fun z => hnot j hj q' hq0' z.symm
                      · rw [if_neg e] at hq0
                        by_cases e' : j = c
                        · rw [if_pos e'] at hq0'
                          rcases List.mem_append.mp hq0' with u | u
                          · exact h7.2.2 i c hi hc e q hq0 q' u
                          · rw [List.mem_singleton] at u
                            subst u
                            exact hnot i hi q hq0
                        · rw [if_neg e'] at hq0'
                          exact h7.2.2 i j hi hj hij q hq0 q' hq0'
                  · exact g9.cg hnd (fun i hi => a3 _ (by omega) (by omega) (by omega) (by omega)) (fun k u v => mA_ne (by omega))
              · have ev : (nI (16 - pS (ps c)) - nI y).toInt = ((16 - pS (ps c) : Nat) : Int) - y := by
                  rw [Int32.toInt_sub, t_nI _ (by omega), t_nI _ (by omega)]
                  exact Int.bmod_eq_of_le (by omega) (by omega)
                have hge : ¬ nI le ≤ nI (16 - pS (ps c)) - nI y := by rw [i_le, ev, t_nI _ (by omega)]; omega
                have e30 : ∃ z : Nat, z ≤ 16 ∧ (if (0 : Int32) < nI (16 - pS (ps c)) - nI y then nI (16 - pS (ps c)) - nI y else (0 : Int32)) = nI z ∧ (if (0 : Int32) ≤ nI (16 - pS (ps c)) - nI y then nI (16 - pS (ps c)) - nI y = nI z else z = 0) := by
                  by_cases hz : y < 16 - pS (ps c)
                  · refine ⟨16 - pS (ps c) - y, by omega, ?_, ?_⟩
                    · rw [if_pos (by rw [i_lt, ev, t_lit 0 (by decide)]; omega), nI_m _ _ (by omega)]
                    · rw [if_pos (by rw [i_le, ev, t_lit 0 (by decide)]; omega), nI_m _ _ (by omega)]
                  · refine ⟨0, by omega, ?_, ?_⟩
                    · rw [if_neg (by rw [i_lt, ev, t_lit 0 (by decide)]; omega)]; rfl
                    · by_cases h0 : y = 16 - pS (ps c)
                      · rw [if_pos (by rw [i_le, ev, t_lit 0 (by decide)]; omega), i_eq, ev, t_nI 0 (by decide)]; omega
                      · rw [if_neg (by rw [i_le, ev, t_lit 0 (by decide)]; omega)]
                obtain ⟨z, hz, z1, z2⟩ := e30
                refine ⟨-3, _, _, ?_, ?_, (ca_2 hT 17 (nI (30 + z))).rel⟩
                · unfold f_X7_ask f_X6_clear
                  rw [vl_d, cl_some, gd0, cl_some, oc_some, gd_t hd8, if_neg n1, if_pos n2, eh, ho', co_c hnc gL.2.2.2.2.2.1 hc, cl_some, oc_some, gd_t hc4, c_lists hm hd8 lm1', cl_some, show bit (nI m) d = 1 from eb, if_neg (by decide), p1, cl_some, oc_none, pc.1, if_pos hlt, sh, cl_some, vl_d, gL.2.2.2.1, if_neg hge, app_a, cl_some, vl_d, z1, show (30 : Int32) = nI 30 from rfl, nI_add, app_b, cl_some]
                · unfold f_X8_ask
                  rw [gm0, cl_some, if_neg (by decide), m1, cl_some, if_neg (by decide), gd_t (ix_nI hd8 (by decide)), vl_d, nt_nI (show d < 2147483648 by omega), ho', if_neg (neg4 (by omega)), gd_t (ix_nI hc4 (by decide)), nt_nI (show c < 2147483648 by omega), lm2, m_has hm hd8, cl_some, show bit (nI m) d = 1 from eb, if_neg (by decide), q1, cl_some, if_pos rfl, gd_t (ix_nI hc4 (by decide)), pm.1, if_neg hne, sm, cl_some, vl_d, hM.2.2.2.1, if_neg hge]
                  have nz : nI (30 + z) ≠ 0 := by rw [Ne, i_eq, t_nI _ (by omega), t_lit 0 (by decide)]; omega
                  by_cases h0 : (0 : Int32) ≤ nI (16 - pS (ps c)) - nI y
                  · rw [if_pos h0] at z2
                    rw [if_pos h0, z2, show (30 : Int32) = nI 30 from rfl, nI_add, ref_b _ _ _ _ nz, cl_some]
                  · rw [if_neg h0] at z2
                    subst z2
                    rw [if_neg h0, show (30 : Int32) = nI (30 + 0) from rfl, ref_b _ _ _ _ nz, cl_some]
          · have er : ∃ c1, c1 < 4 ∧ r0 = some c1 := by
              rcases p2 with ⟨_, a⟩ | ⟨c1, x1, a, b, _⟩
              · have := a c' (by omega)
                rw [k1 c' hc', q3] at this
                cases this
              · exact ⟨c1, a, b⟩
            obtain ⟨c1, hc1, rfl⟩ := er
            refine ⟨-2, _, _, ?_, ?_, (ca_1 hT 15).rel⟩
            · unfold f_X7_ask f_X6_clear
              rw [vl_d, cl_some, gd0, cl_some, oc_some, gd_t hd8, if_neg n1, if_pos n2, eh, ho', co_c hnc gL.2.2.2.2.2.1 hc, cl_some, oc_some, gd_t hc4, c_lists hm hd8 lm1', cl_some, show bit (nI m) d = 1 from eb, if_neg (by decide), p1, cl_some, oc_some, gd_t hc1, app_a, cl_some]
            · unfold f_X8_ask
              rw [gm0, cl_some, if_neg (by decide), m1, cl_some, if_neg (by decide), gd_t (ix_nI hd8 (by decide)), vl_d, nt_nI (show d < 2147483648 by omega), ho', if_neg (neg4 (by omega)), gd_t (ix_nI hc4 (by decide)), nt_nI (show c < 2147483648 by omega), lm2, m_has hm hd8, cl_some, show bit (nI m) d = 1 from eb, if_neg (by decide), q1, cl_some, if_neg (by decide), ref_a, cl_some]
    · refine ⟨-1, _, _, ?_, ?_, (ca_1 hT 18).rel⟩
      · unfold f_X7_ask f_X6_clear
        rw [vl_d, cl_some, gd0, cl_some, oc_some, gd_t hd8]
        by_cases h0 : a1 < 1
        · rw [if_pos h0, app_a, cl_some]
        · rw [if_neg h0, if_neg (by rw [i_lt, t_lit 1 (by decide)] at h0; rw [i_lt, t_lit 16 (by decide)]; omega), app_a, cl_some]
      · unfold f_X8_ask
        rw [gm0, cl_some, if_neg (by decide), in_f (by rw [t64 1 (by decide), t64 15 (by decide)]; omega), cl_some, if_pos rfl, ref_a, cl_some]
  · refine ⟨-1, _, _, ?_, ?_, (ca_1 hT 18).rel⟩
    · unfold f_X7_ask f_X6_clear
      rw [vl_d, cl_some, dev_cn hnd gL.2.2.2.2.2.2 hq, cl_some, oc_none, app_a, cl_some]
    · unfold f_X8_ask
      rw [dev_mn hN.2.2.1 hnd hM.2.2.2.2.2.2 hq, cl_some, if_pos rfl, ref_a, cl_some]
