/-! reading a text: the whole of it -/
theorem bad10 {o : Nat} {σ τ : St} {p : Nat} (h57 : τ 0 57 = 0) : ∃ σ' τ', (vl (up2 (cu σ p 0) 3 2 (10 : Int32)) fun σ32 => some ((), σ32)) = some ((), σ') ∧ (vl (up2 (mu τ p 0) 0 56 (10 : Int32)) fun σ37 => f_X8_item_107 σ37) = some ((), τ') ∧ (Okk o p σ' τ' ∨ Bad σ' τ') ∧ FrR o σ τ σ' τ' := by
  rw [vl_d, vl_d, cu_s2, mu_s2, end_m (by decide)]
  exact ⟨_, _, rfl, rfl, Or.inr (bad_cur (Or.inl rfl) h57), FrR.rf.cur _ _ _ _⟩
theorem it_any {o nc nd li p : Nat} {σ τ : St} (ho : o = 8 ∨ o = 14) (hT : rT σ τ) (x first : Int32) (h57 : τ 0 57 = 0) (hp : p ≤ 200) (hf : (first = 1 ∧ ∀ B, RY o nc nd B li σ τ) ∨ (first = 0 ∧ ∃ B S le, RY o nc nd B li σ τ ∧ RO o B S le σ τ)) : ∃ σ' τ', (if x = (111 : Int32) then f_X5_readItem_47 o x (1 : Int32) first (cu σ p 0) else f_X5_readItem_47 o x (0 : Int32) first (cu σ p 0)) = some ((), σ') ∧ f_X8_item x first (mu τ p 0) = some ((), τ') ∧ (Okk o p σ' τ' ∨ Bad σ' τ') ∧ FrR o σ τ σ' τ' := by
  unfold f_X8_item
  rcases hf with ⟨rfl, hY⟩ | ⟨rfl, B, S, le, hY, hO⟩
  · by_cases hx : x = 111
    · rw [if_pos hx, if_pos hx]
      unfold f_X5_readItem_47 f_X8_item_12
      rw [if_pos rfl, if_pos rfl, if_pos hx, if_pos hx]
      obtain ⟨σ', τ', e1, e2, e3, e4⟩ := it_orders ho hT hY h57 hp
      exact ⟨σ', τ', by rw [e1, cl_some], e2, e3, e4⟩
    · rw [if_neg hx, if_neg hx]
      unfold f_X5_readItem_47 f_X8_item_12
      rw [if_neg (by decide), if_neg (by decide)]
      exact bad10 h57
  · by_cases hx : x = 111
    · rw [if_pos hx, if_pos hx]
      unfold f_X5_readItem_47 f_X8_item_12
      rw [if_neg (by decide), if_neg (by decide)]
      exact bad10 h57
    · rw [if_neg hx, if_neg hx]
      obtain ⟨y1, y2, y3, y4, y5, y6, y7⟩ := id hY
      have k5 : cu σ p 0 o 5 = nI nc := by rw [cu_r (by omega)]; exact y3.1
      have k6 : cu σ p 0 o 6 = nI nd := by rw [cu_r (by omega)]; exact y4.1
      have m9 : mu τ p 0 0 9 = nI nc := by rw [mu_c (by decide) (by decide)]; exact y3.2
      have m12 : mu τ p 0 0 12 = nI nd := by rw [mu_c (by decide) (by decide)]; exact y4.2
      unfold f_X5_readItem_47 f_X8_item_12
      rw [if_pos rfl, if_pos rfl, if_neg hx, if_neg hx, k5, m9, m12]
      unfold f_X5_readItem_95 f_X8_item_80
      rw [k6]
      by_cases h99 : x = 99
      · have a1 : ¬ x = 100 := by rw [h99]; decide
        have a2 : ¬ x = 108 := by rw [h99]; decide
        rw [if_pos h99, if_pos h99]
        by_cases hfull : nc = 4
        · rw [if_pos (show (4 : Int32) ≤ nI nc by rw [hfull]; decide), if_pos (show (4 : Int32) ≤ nI nc by rw [hfull]; decide), if_neg a1, if_neg a1, if_neg a2, if_neg a2]
          exact bad10 h57
        · have n4 : ¬ (4 : Int32) ≤ nI nc := by rw [i_le, t_lit 4 (by decide), t_nI nc (by omega)]; omega
          rw [if_neg n4, if_neg n4]
          obtain ⟨σ', τ', e1, e2, e3, e4⟩ := it_coord ho hT hY hO (by omega) h57 hp
          exact ⟨σ', τ', by rw [e1, cl_some], e2, e3, e4⟩
      · rw [if_neg h99, if_neg h99]
        by_cases h100 : x = 100
        · have a2 : ¬ x = 108 := by rw [h100]; decide
          rw [if_pos h100, if_pos h100]
          by_cases hfull : nd = 8
          · rw [if_pos (show (8 : Int32) ≤ nI nd by rw [hfull]; decide), if_pos (show (8 : Int32) ≤ nI nd by rw [hfull]; decide), if_neg a2, if_neg a2]
            exact bad10 h57
          · have n8 : ¬ (8 : Int32) ≤ nI nd := by rw [i_le, t_lit 8 (by decide), t_nI nd (by omega)]; omega
            rw [if_neg n8, if_neg n8]
            obtain ⟨σ', τ', e1, e2, e3, e4⟩ := it_device ho hT hY hO (by omega) h57 hp
            exact ⟨σ', τ', by rw [e1, cl_some], e2, e3, e4⟩
        · rw [if_neg h100, if_neg h100]
          by_cases h108 : x = 108
          · rw [if_pos h108, if_pos h108]
            obtain ⟨σ', τ', e1, e2, e3, e4⟩ := it_life ho hT hY hO h57 hp
            exact ⟨σ', τ', by rw [e1, cl_some], e2, e3, e4⟩
          · rw [if_neg h108, if_neg h108]
            exact bad10 h57
theorem cu_self {σ : St} {pl : Nat} {w : Int32} (h1 : σ 3 1 = nI pl) (h2 : σ 3 2 = w) : cu σ pl w = σ := by
  unfold cu
  rw [← h1, up2_self, ← h2, up2_self]
/-- where a text is read to the end, or what is wrong with it -/
def RdQ (o : Nat) (σ τ : St) (r₁ r₂ : Int32 × St) : Prop := ∃ r σ' τ', r₁ = (r, σ') ∧ r₂ = (r, τ') ∧ (∀ k, k ≠ 3 → (k < o ∨ o + 6 ≤ k) → σ' k = σ k) ∧ (∀ k, k ≠ 0 → k ≠ 4 → (k < 10 ∨ 15 < k) → τ' k = τ k) ∧ (∀ j, j = 0 ∨ (16 ≤ j ∧ j ≤ 55) → τ' 0 j = τ 0 j) ∧
  ((r = -4 ∧ τ' 0 3 = τ 0 3 ∧ ∃ nc nd B li, RY o nc nd B li σ' τ' ∧ (nd = 0 ∨ ∃ S le, RO o B S le σ' τ')) ∨
   (r ≠ -4 ∧ ∃ w, σ' 3 2 = w ∧ τ' 4 0 = 1 ∧ τ' 4 1 = w ∧ ((w = 13 ∧ τ' 0 3 = nI 3 ∧ ∃ i, σ' 3 3 = nI i ∧ τ' 4 2 = nI (20 + i)) ∨ (w ≠ 13 ∧ τ' 0 3 = nI 2))))
theorem ref_t {τ : St} {pl w c s0 : Int32} : f_X8_refusesText_10 pl w c s0 τ = some (pl, up2 (up2 (up2 (up2 τ 0 3 s0) 4 0 1) 4 1 w) 4 2 c) := by
  unfold f_X8_refusesText_10
  rw [vl_d, gd_t ix0, vl_d, gd_t ix1, vl_d, gd_t (show ix (2 : Int32) 3 from ix_nI (i := 2) (by decide) (by decide)), vl_d, nt0, nt1, show nt (2 : Int32) = 2 from nt_nI (n := 2) (by decide)]
def RdI (o : Nat) (σ τ : St) (i : Nat) (a₁ : Int32 × St) (τk : St) : Prop := ∃ σk pl, a₁ = (nI i, σk) ∧ σk 3 1 = nI pl ∧ τk 0 2 = nI pl ∧ σk 3 2 = 0 ∧ i ≤ pl ∧ pl ≤ 200 ∧ FrR o σ τ σk τk ∧ τk 0 3 = τ 0 3 ∧ ((pl = 0 ∧ ∀ B, RY o 1 0 B 4 σk τk) ∨ (0 < pl ∧ ∃ nc nd B S le li, RY o nc nd B li σk τk ∧ RO o B S le σk τk))
theorem at_c {σ : St} {pl len : Nat} (h : σ 1 1 = nI len) (hl : len ≤ 200) (hp : pl < len) : f_X6_at 1 (nI pl) σ = some (σ 2 pl, σ) := by
  unfold f_X6_at
  rw [h, if_neg (nI_pos (by omega)), cn2, if_neg (by rw [nI_leI (by omega) (by omega)]; omega), if_neg (by rw [nI_leI (by omega) (by omega)]; omega), gd_t (ix_nI (by omega) (by decide)), nt_nI (by omega)]
theorem at_m {τ : St} {pl len : Nat} (h : τ 0 0 = nI len) (hl : len ≤ 200) (hp : pl < len) : f_X8_letterAt (nI pl) τ = some (τ 1 pl, τ) := by
  unfold f_X8_letterAt
  rw [h, if_neg (by rw [nI_leI (by omega) (by omega)]; omega), gd_t (ix_nI (by omega) (by decide)), nt_nI (by omega)]
theorem RY.t57 {o nc nd B li : Nat} {σ τ : St} (h : RY o nc nd B li σ τ) : RY o nc nd B li σ (up2 τ 0 57 0) := by
  unfold RY at h ⊢
  rw [up2_c (by decide), up2_c (by decide), up2_c (by decide), up2_ne (by decide), up2_ne (by decide), up2_ne (by decide), up2_ne (by decide), up2_ne (by decide)]
  exact h
theorem RO.t57 {o B S le : Nat} {σ τ : St} (h : RO o B S le σ τ) : RO o B S le σ (up2 τ 0 57 0) := by
  unfold RO at h ⊢
  rw [up2_c (by decide), up2_c (by decide), up2_c (by decide)]
  exact h
theorem rd_end {o : Nat} {σ τ : St} {i : Nat} {a₁ : Int32 × St} {τk : St} (h : RdI o σ τ i a₁ τk) : RdQ o σ τ (-4, a₁.2) (-4, τk) := by
  obtain ⟨σk, pl, rfl, h1, h2, h3, h4, h5, h6, h7, h8⟩ := h
  refine ⟨-4, σk, τk, rfl, rfl, h6.1, fun k a b c => h6.2.1 k a c, fun j a => h6.2.2 j (by omega), Or.inl ⟨rfl, h7, ?_⟩⟩
  rcases h8 with ⟨_, hY⟩ | ⟨_, nc, nd, B, S, le, li, hY, hO⟩
  · exact ⟨1, 0, 0, 4, hY 0, Or.inl rfl⟩
  · exact ⟨nc, nd, B, li, hY, Or.inr ⟨S, le, hO⟩⟩
theorem rd_loop {o : Nat} {σ τ : St} (ho : o = 8 ∨ o = 14) (hT : rT σ τ) (z1 : σ 3 1 = nI 0) (z2 : τ 0 2 = nI 0) (z3 : σ 3 2 = 0) (zY : ∀ B, RY o 1 0 B 4 σ τ) : ∃ r₁ r₂, lp (fun K a => b_X5_readInto_16 o K a.1 a.2) FU ((0 : Int32), σ) = some r₁ ∧ lp (fun K a => b_X8_readAll_14 K a) FU τ = some r₂ ∧ RdQ o σ τ r₁ r₂ := by
  refine lp_two (b₁ := fun K a => b_X5_readInto_16 o K a.1 a.2) (b₂ := fun K a => b_X8_readAll_14 K a) (RdI o σ τ) (RdQ o σ τ) 200 (by decide) (fun i a₁ τk hi hI => ?_) (fun a₁ τk hI => ?_) ⟨σ, 0, rfl, z1, z2, z3, Nat.le_refl _, by decide, FrR.rf, rfl, Or.inl ⟨rfl, zY⟩⟩
  · have hend := rd_end hI
    obtain ⟨σk, pl, rfl, h1, h2, h3, h4, h5, h6, h7, h8⟩ := hI
    have hTk := h6.T ho hT
    obtain ⟨len, l0, l1, l2, l3⟩ := id hTk
    have n200 : ¬ (200 : Int32) ≤ nI i := by rw [i_le, t_lit 200 (by decide), t_nI i (by omega)]; omega
    by_cases hlen : len ≤ pl
    · refine Or.inr ⟨_, _, hend, fun K => ?_, fun K => ?_⟩
      · show b_X5_readInto_16 o K (nI i) σk = _
        unfold b_X5_readInto_16
        rw [if_neg n200, l1, h1, if_pos (nI_le hlen (by omega))]
      · show b_X8_readAll_14 K τk = _
        unfold b_X8_readAll_14
        rw [l2, h2, if_pos (nI_le hlen (by omega))]
    · have hpl : pl < len := by omega
      have nle : ¬ nI len ≤ nI pl := by rw [nI_leI (by omega) (by omega)]; omega
      have fr1 : FrR o σk τk σk (up2 τk 0 57 0) := ⟨fun _ _ _ => rfl, fun k a b => up2_ne a, fun j a => up2_c (by omega)⟩
      have hT1 : rT σk (up2 τk 0 57 0) := fr1.T ho hTk
      have hfirst : ∃ nc nd li, ((if pl = 0 then (1 : Int32) else 0) = 1 ∧ ∀ B, RY o nc nd B li σk (up2 τk 0 57 0)) ∨ ((if pl = 0 then (1 : Int32) else 0) = 0 ∧ ∃ B S le, RY o nc nd B li σk (up2 τk 0 57 0) ∧ RO o B S le σk (up2 τk 0 57 0)) := by
        rcases h8 with ⟨e, hY⟩ | ⟨e, nc, nd, B, S, le, li, hY, hO⟩
        · exact ⟨1, 0, 4, Or.inl ⟨if_pos e, fun B => (hY B).t57⟩⟩
        · exact ⟨nc, nd, li, Or.inr ⟨if_neg (by omega), B, S, le, hY.t57, hO.t57⟩⟩
      obtain ⟨nc, nd, li, hf⟩ := hfirst
      obtain ⟨σ', τ', e1, e2, e3, e4⟩ := it_any (p := pl + 1) ho hT1 (σk 2 pl) (if pl = 0 then (1 : Int32) else 0) (up2_at _ _ _ _) (by omega) hf
      have ecu : up2 σk 3 1 (nI pl + 1) = cu σk (pl + 1) 0 := by
        rw [nI_1]
        unfold cu
        rw [up2_cm _ _ _ (Or.inr (by decide)), show up2 σk 3 2 0 = σk from by rw [← h3, up2_self]]
      have c0 : f_X5_readItem o σk = some ((), σ') := by
        unfold f_X5_readItem
        rw [h1, at_c l1 l0 hpl, cl_some, h1]
        have c1 : ∀ f, f_X5_readItem_24 o (σk 2 pl) f σk = if (σk 2 pl) = (111 : Int32) then f_X5_readItem_47 o (σk 2 pl) (1 : Int32) f (cu σk (pl + 1) 0) else f_X5_readItem_47 o (σk 2 pl) (0 : Int32) f (cu σk (pl + 1) 0) := fun f => by
          unfold f_X5_readItem_24
          rw [vl_d, h1, ecu]
        by_cases hz : pl = 0
        · rw [if_pos hz] at e1
          rw [if_pos (by rw [hz]; rfl), c1, e1]
        · rw [if_neg hz] at e1
          rw [if_neg (by rw [i_eq, t_nI pl (by omega), t_lit 0 (by decide)]; omega), c1, e1]
      have emu : up2 (up2 (up2 τk 0 2 (nI pl + 1)) 0 56 0) 0 57 0 = mu (up2 τk 0 57 0) (pl + 1) 0 := by
        rw [nI_1, ← mu_cm (Or.inr (by decide))]
        rfl
      have m0 : ∀ K, b_X8_readAll_14 K τk = cl (some ((), τ')) fun r23 σ22 => if (σ22 0 56) = 0 then K σ22 else cl (f_X8_refusesText (nI pl) (σ22 0 56) (σ22 0 57) σ22) fun r27 σ26 => some (r27, σ26) := by
        intro K
        unfold b_X8_readAll_14
        rw [l2, h2, if_neg nle, vl_d, vl_d, vl_d, vl_d, emu]
        have l2' : mu (up2 τk 0 57 0) (pl + 1) 0 0 0 = nI len := by rw [mu_c (by decide) (by decide), up2_c (by decide)]; exact l2
        rw [at_m l2' l0 hpl, cl_some, show mu (up2 τk 0 57 0) (pl + 1) 0 1 pl = σk 2 pl from by rw [mu_r (by decide), up2_r (by decide), l3 pl hpl]]
        by_cases hz : pl = 0
        · rw [if_pos hz] at e2
          rw [if_pos (by rw [hz]; rfl), e2]
        · rw [if_neg hz] at e2
          rw [if_neg (by rw [i_eq, t_nI pl (by omega), t_lit 0 (by decide)]; omega), e2]
      have fr2 := h6.tr (fr1.tr e4)
      have t3 : τ' 0 3 = τ 0 3 := fr2.2.2 3 (by decide)
      have cb : ∀ K, b_X5_readInto_16 o K (nI i) σk = if (σ' 3 2) = 0 then (vl (nI i + (1 : Int32)) fun x13 => K (x13, σ')) else some (nI pl, σ') := by
        intro K
        unfold b_X5_readInto_16
        rw [if_neg n200, l1, h1, if_neg nle, vl_d, c0, cl_some]
      rcases e3 with ⟨nc', nd', B', S', le', li', p', o1, o2, o3, o4, o5, o6, o7, o8⟩ | ⟨w, hw, w1, w2, w3⟩
      · refine Or.inl ⟨(nI (i + 1), σ'), τ', ⟨σ', p', rfl, o3, o4, o5, by omega, o8, fr2, t3, Or.inr ⟨by omega, nc', nd', B', S', le', li', o1, o2⟩⟩, fun K => ?_, fun K => ?_⟩
        · show b_X5_readInto_16 o K (nI i) σk = _
          rw [cb, if_pos o5, vl_d, nI_1]
        · show b_X8_readAll_14 K τk = _
          rw [m0, cl_some, if_pos o6]
      · have fs := fr2.1
        refine Or.inr ⟨(nI pl, σ'), (nI pl, up2 (up2 (up2 (up2 τ' 0 3 (if w = 13 then 3 else 2)) 4 0 1) 4 1 w) 4 2 (τ' 0 57)), ⟨nI pl, σ', _, rfl, rfl, fs, fun k a b c => ?_, fun j a => ?_, Or.inr ⟨neg4 (by omega), w, w1, ?_, ?_, ?_⟩⟩, fun K => ?_, fun K => ?_⟩
        · rw [up2_ne b, up2_ne b, up2_ne b, up2_ne a]
          exact fr2.2.1 k a c
        · rw [up2_r (by decide), up2_r (by decide), up2_r (by decide), up2_c (by omega)]
          exact fr2.2.2 j (by omega)
        · rw [up2_c (by decide), up2_c (by decide), up2_at]
        · rw [up2_c (by decide), up2_at]
        · rw [up2_r (by decide), up2_r (by decide), up2_r (by decide), up2_at]
          rcases w3 with ⟨e, i', _, q1, q2⟩ | ⟨e, _⟩
          · exact Or.inl ⟨e, by rw [if_pos e]; rfl, i', q1, by rw [up2_at, q2]⟩
          · exact Or.inr ⟨e, by rw [if_neg e]; rfl⟩
        · show b_X5_readInto_16 o K (nI i) σk = _
          rw [cb, if_neg (by rw [w1]; exact hw)]
        · show b_X8_readAll_14 K τk = _
          rw [m0, cl_some, if_neg (by rw [w2]; exact hw), w2]
          unfold f_X8_refusesText
          rcases w3 with ⟨e, i', hi', q1, q2⟩ | ⟨e, q2⟩
          · rw [if_neg (by rw [q2, i_eq, t_nI _ (by omega), t_lit 0 (by decide)]; omega), ref_t, cl_some, if_pos e]
          · rw [if_pos q2, ref_t, cl_some, if_neg e]
  · have hend := rd_end hI
    obtain ⟨σk, pl, rfl, h1, h2, h3, h4, h5, h6, h7, h8⟩ := hI
    obtain ⟨len, l0, l1, l2, l3⟩ := h6.T ho hT
    refine ⟨_, _, hend, fun K => ?_, fun K => ?_⟩
    · show b_X5_readInto_16 o K (nI 200) σk = _
      unfold b_X5_readInto_16
      rw [if_pos (by decide)]
    · show b_X8_readAll_14 K τk = _
      unfold b_X8_readAll_14
      rw [l2, h2, if_pos (nI_le (by omega) (by omega))]
