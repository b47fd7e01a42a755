theorem sb_any {o : Nat} {σ : St} (v1 v2 : Int32) : ∃ x, f_X3_startBehind o v1 v2 σ = some (x, σ) := by
  have h : ∃ x, f_X3_startAt o v1 σ = some (x, σ) := by
    unfold f_X3_startAt
    by_cases h0 : v1 < 0
    · exact ⟨0, by rw [if_pos h0]⟩
    · rw [if_neg h0]
      by_cases h1 : σ o 5 ≤ v1
      · exact ⟨0, by rw [if_pos h1]⟩
      · rw [if_neg h1]
        rcases pk_ix v1 (n := 4) (by decide) with h | h | ⟨j, hj, rfl⟩
        · exact absurd h h0
        · exact ⟨0, by rw [if_pos h]⟩
        · exact ⟨_, by rw [if_neg (by rw [nI_leI (by omega) (by omega)]; omega), gd_t (ix_nI hj (by decide))]⟩
  obtain ⟨x, hx⟩ := h
  unfold f_X3_startBehind
  rw [hx, cl_some, vl_d]
  by_cases h : x + v2 < σ o 0
  · exact ⟨_, by rw [if_pos h]⟩
  · exact ⟨_, by rw [if_neg h]⟩
theorem it_coord {o nc nd B S le li pl : Nat} {σ τ : St} (ho : o = 8 ∨ o = 14) (hT : rT σ τ) (hY : RY o nc nd B li σ τ) (hO : RO o B S le σ τ) (hnc : nc < 4) (h57 : τ 0 57 = 0) (hpl : pl ≤ 200) : ∃ σ' τ', f_X5_readCoordinator o (cu σ pl 0) = some ((), σ') ∧ (cl (f_X8_coordItem (mu τ pl 0)) fun _ σ34 => f_X8_item_107 σ34) = some ((), τ') ∧ (Okk o pl σ' τ' ∨ Bad σ' τ') ∧ FrR o σ τ σ' τ' := by
  obtain ⟨y1, y2, y3, y4, y5, y6, y7⟩ := id hY
  obtain ⟨oN, o0, o1, o2, o3, t5, t6, t7⟩ := id hO
  obtain ⟨b, eb⟩ : ∃ b, b = 48 * 2 ^ B := ⟨_, rfl⟩
  obtain ⟨a, ea⟩ : ∃ a, a = 48 * 2 ^ S := ⟨_, rfl⟩
  have hB : b ≤ 1536 := by have := pow_le (show B ≤ 5 from oN.1); omega
  have hB1 : 48 ≤ b := by have := pow_le (show 0 ≤ B from Nat.zero_le _); omega
  have hS1 : 48 ≤ a := by have := pow_le (show 0 ≤ S from Nat.zero_le _); omega
  have hSB : a ≤ b := by have := pow_le (show S ≤ B from oN.2.2.1); omega
  have k5 : ∀ p (w : Int32), cu σ p w o 5 = nI nc := fun p w => by rw [cu_r (by omega)]; exact y3.1
  have k0 : ∀ p (w : Int32), cu σ p w o 0 = nI b := fun p w => by rw [cu_r (by omega), eb]; exact o0
  have k1' : ∀ p (w : Int32), cu σ p w o 1 = nI a := fun p w => by rw [cu_r (by omega), ea]; exact o1
  have m9 : ∀ p (w : Int32), mu τ p w 0 9 = nI nc := fun p w => by rw [mu_c (by decide) (by decide)]; exact y3.2
  have mB : ∀ p (w : Int32), f_X8_beatOf (mu τ p w 0 5) (mu τ p w) = some (nI b, mu τ p w) := fun p w => by
    unfold f_X8_beatOf
    rw [mu_c (by decide) (by decide), t5, sh48 B (by omega), eb]
  have mS : ∀ p (w : Int32), f_X8_beatOf (mu τ p w 0 6) (mu τ p w) = some (nI a, mu τ p w) := fun p w => by
    unfold f_X8_beatOf
    rw [mu_c (by decide) (by decide), t6, sh48 S (by omega), ea]
  have enc : nI nc - 1 = nI (nc - 1) := by rw [show (1 : Int32) = nI 1 from rfl, nI_m _ _ y1.1]
  have eb1 : nI b - 1 = nI (b - 1) := by rw [show (1 : Int32) = nI 1 from rfl, nI_m _ _ (by omega)]
  obtain ⟨v1, p1, w1, c1, m1, a1, a2, a3⟩ := num hT (pl := pl) (k := 1) (by omega) (by decide) 0 (nI (nc - 1))
  have c1' : f_X5_readNumber 1 0 (nI (nc - 1)) (cu σ pl 0) = some (v1, cu σ p1 w1) := c1
  have m1' : f_X8_number 1 0 (nI (nc - 1)) (mu τ pl 0) = some (v1, mu τ p1 w1) := m1
  unfold f_X5_readCoordinator f_X8_coordItem
  rw [k5, m9, enc, c1', m1', cl_some, cl_some, k0, eb1, mB, cl_some, mu_2]
  rcases a3 with ⟨rfl, k1, k2⟩ | hw
  · obtain ⟨p, -, hp, rfl⟩ := nat_of (a := 0) (b := nc - 1) (by rw [t_lit 0 (by decide)] at k1; exact k1) (by rw [t_nI _ (by omega)] at k2; exact k2)
    obtain ⟨v2, p2, w2, c2, m2, b1, b2, b3⟩ := num hT (pl := p1) (k := 4) (by omega) (by decide) 0 (nI (b - 1))
    have c2' : f_X5_readNumber 4 0 (nI (b - 1)) (cu σ p1 0) = some (v2, cu σ p2 w2) := c2
    have m2' : f_X8_number 4 0 (nI (b - 1)) (mu τ p1 0) = some (v2, mu τ p2 w2) := m2
    rw [if_pos rfl, eb1, c2', m2', cl_some, cl_some]
    rcases b3 with ⟨rfl, k1'', k2''⟩ | hw
    · obtain ⟨y, -, hy, rfl⟩ := nat_of (a := 0) (b := b - 1) (by rw [t_lit 0 (by decide)] at k1''; exact k1'') (by rw [t_nI _ (by omega)] at k2''; exact k2'')
      obtain ⟨s, hs, s1, s2⟩ := y6 p (by omega)
      rw [← eb] at hs
      obtain ⟨f, hf⟩ : ∃ f : Nat → Nat, ∀ i, i < nc → f i < b ∧ σ (o + 2) i = nI (f i) ∧ τ 11 i = nI (f i) := by
        refine ⟨fun i => nt (τ 11 i), fun i hi => ?_⟩
        obtain ⟨s, hs, s1, s3⟩ := y6 i hi
        rw [← eb] at hs
        show nt (τ 11 i) < b ∧ σ (o + 2) i = nI (nt (τ 11 i)) ∧ τ 11 i = nI (nt (τ 11 i))
        rw [s3, nt_nI (by omega)]
        exact ⟨hs, s1, rfl⟩
      obtain ⟨x, ex⟩ : ∃ x, x = (s + y) % b := ⟨_, rfl⟩
      have hx : x < b := by rw [ex]; exact Nat.mod_lt _ (by omega)
      have exx : (if nI (s + y) < nI b then nI (s + y) else nI (s + y) - nI b) = nI x := by
        by_cases z : s + y < b
        · rw [if_pos (nI_lt z (by omega)), ex, Nat.mod_eq_of_lt z]
        · rw [if_neg (by rw [nI_ltI (by omega) (by omega)]; exact z), nI_m _ _ (by omega), ex, show s + y = (s + y - b) + b by omega, Nat.add_mod_right, Nat.mod_eq_of_lt (by omega), Nat.add_sub_cancel]
      have sb : f_X3_startBehind o (nI p) (nI y) (cu σ p2 0) = some (nI x, cu σ p2 0) := by
        unfold f_X3_startBehind f_X3_startAt
        have e2 : cu σ p2 0 (o + 2) p = nI s := by rw [cu_r (by omega)]; exact s1
        rw [if_neg (nI_pos (by omega)), k5, if_neg (by rw [nI_leI (by omega) (by omega)]; omega), if_neg (by rw [nI_leI (by omega) (by omega)]; omega), gd_t (ix_nI (show p < 4 by omega) (by decide)), nt_nI (by omega), e2, cl_some, vl_d, nI_add, k0, ← exx]
        by_cases z : nI (s + y) < nI b
        · rw [if_pos z, if_pos z]
        · rw [if_neg z, if_neg z]
      obtain ⟨r, z1, z2⟩ := c_clash (o := o) (σ := cu σ p2 0) (f := f) (by omega) hB hSB hx (k5 _ _) (k0 _ _) (k1' _ _) (fun i hi => ⟨(hf i hi).1, by rw [cu_r (by omega)]; exact (hf i hi).2.1⟩)
      obtain ⟨r', d1, d2⟩ := m_meets (p := 11) (τ := mu τ p2 0) (f := f) rfl (by omega) hB (by omega) hSB (by omega) hx (fun i hi => ⟨(hf i hi).1, by rw [mu_r (by decide)]; exact (hf i hi).2.2⟩)
      have er := fC_one z2 d2
      subst er
      have nb : ¬ nI b = 0 := by rw [i_eq, t_nI b (by omega), t_lit 0 (by decide)]; omega
      have em : nI s + nI y - (nI s + nI y) / nI b * nI b = nI x := by rw [nI_add, pk_rem (by omega) (by omega) (by omega), ex]
      have e11 : mu τ p2 0 11 p = nI s := by rw [mu_r (by decide)]; exact s2
      unfold f_X8_coordItem_41
      rw [sb, cl_some, cu_2, if_pos rfl, z1, cl_some, vl_d, up2_at, mu_2, if_pos rfl, gd_t (ix_nI (show p < 4 by omega) (by decide)), gd_t nb, vl_d, nt_nI (show p < 2147483648 by omega), e11, em, vl_d (nI x), mS, cl_some, m9, d1, cl_some]
      by_cases hno : r = -4
      · obtain ⟨τ1, eτ⟩ : ∃ τ1, τ1 = up2 (up2 (up2 τ 10 nc (nI p)) 11 nc (nI x)) 0 9 (nI (nc + 1)) := ⟨_, rfl⟩
        have ci : f_X8_coordIs (nI p) (nI x) (mu τ p2 0) = some ((), mu τ1 p2 0) := by
          unfold f_X8_coordIs
          rw [m9, gd_t (ix_nI hnc (by decide)), vl_d, nt_nI (by omega), up2_r (by decide), m9, gd_t (ix_nI hnc (by decide)), vl_d, vl_d, nt_nI (by omega), up2_r (by decide), up2_r (by decide), m9, nI_1, mu_cm (Or.inl (by decide)), mu_cm (Or.inl (by decide)), mu_cm (Or.inr (by decide)), eτ]
        have fr : ∀ v, FrR o σ τ (up2 σ 3 3 v) τ1 := by
          refine fun v => ⟨fun k a b => up2_ne a, fun k a b => ?_, fun j a => ?_⟩
          · rw [eτ, up2_ne a, up2_ne (by omega), up2_ne (by omega)]
          · rw [eτ, up2_c (by omega), up2_r (by decide), up2_r (by decide)]
        have z57 : τ1 0 57 = 0 := by rw [eτ, up2_c (by decide), up2_r (by decide), up2_r (by decide)]; exact h57
        obtain ⟨w, e1, e2, e3⟩ := end_0 (σ := up2 σ 3 3 r) (τ := τ1) ((fr r).T ho hT) (pl := p2) (by omega)
        rw [if_pos hno, if_pos hno, ci, cl_some, cl_some, cu_cm (Or.inr (by decide)), cu_s2, e1, e2, cl_some, cu_2]
        rcases e3 with ⟨rfl, e3⟩ | rfl
        · refine ⟨cu (up2 (up2 (up2 (up2 σ 3 3 r) (o + 1) nc (nI p)) (o + 2) nc (nI x)) o 5 (nI (nc + 1))) (p2 + 1) 0, _, ?_, rfl, Or.inl ⟨nc + 1, nd, B, S, le, li, p2 + 1, RY.cur ho ?_ _ _ _ _, RO.cur ho ?_ _ _ _ _, cu_1, mu_1, cu_2, mu_2, by omega, by omega⟩, ?_⟩
          · unfold f_X3_addCoordinator
            have h5 : cu (up2 σ 3 3 r) (p2 + 1) 0 o 5 = nI nc := by rw [cu_r (by omega), up2_ne (by omega)]; exact y3.1
            rw [if_pos rfl, vl_d, h5, if_neg (nI_pos (by omega)), if_neg (by rw [i_le, t_lit 4 (by decide), t_nI nc (by omega)]; omega), gd_t (ix_nI hnc (by decide)), vl_d, gd_t (ix_nI hnc (by decide)), vl_d, vl_d, cl_some, nt_nI (by omega), up2_r (by omega), up2_r (by omega), h5, nI_1, cu_cm (Or.inl (by omega)), cu_cm (Or.inl (by omega)), cu_cm (Or.inl (by omega))]
          · rw [eτ]
            refine ⟨⟨by omega, by omega, y1.2.2⟩, ?_, ⟨up2_at _ _ _ _, up2_at _ _ _ _⟩, ?_, fun c hc => ?_, fun c hc => ?_, fun d hd => ?_⟩
            · rw [up2_c (by decide), up2_r (by omega), up2_r (by omega), up2_r (by omega), up2_c (by decide), up2_r (by decide), up2_r (by decide)]; exact y2
            · rw [up2_c (by decide), up2_r (by omega), up2_r (by omega), up2_r (by omega), up2_c (by decide), up2_r (by decide), up2_r (by decide)]; exact y4
            · rw [up2_r (show o + 1 ≠ o by omega), up2_r (show o + 1 ≠ o + 2 by omega), up2_r (show 10 ≠ 0 by decide), up2_r (show 10 ≠ 11 by decide)]
              by_cases e : c = nc
              · subst e; rw [up2_at, up2_at]
              · rw [up2_c e, up2_c e, up2_r (by omega)]; exact y5 c (by omega)
            · rw [up2_r (show o + 2 ≠ o by omega), up2_r (show 11 ≠ 0 by decide)]
              by_cases e : c = nc
              · subst e; rw [up2_at, up2_at]; exact ⟨x, by rw [← eb]; exact hx, rfl, rfl⟩
              · rw [up2_c e, up2_c e, up2_r (show o + 2 ≠ o + 1 by omega), up2_r (show o + 2 ≠ 3 by omega), up2_r (show 11 ≠ 10 by decide)]; exact y6 c (by omega)
            · have r0 : ∀ k, o + 3 ≤ k → up2 (up2 (up2 (up2 σ 3 3 r) (o + 1) nc (nI p)) (o + 2) nc (nI x)) o 5 (nI (nc + 1)) k = σ k := fun k a => by rw [up2_ne (by omega), up2_ne (by omega), up2_ne (by omega), up2_ne (by omega)]
              have r1 : ∀ k, 12 ≤ k → up2 (up2 (up2 τ 10 nc (nI p)) 11 nc (nI x)) 0 9 (nI (nc + 1)) k = τ k := fun k a => by rw [up2_ne (by omega), up2_ne (by omega), up2_ne (by omega)]
              rw [r0 _ (by omega), r0 _ (by omega), r0 _ (by omega), r1 13 (by decide), r1 14 (by decide), r1 15 (by decide)]
              obtain ⟨h, xx, e, q1, q⟩ := y7 d hd
              exact ⟨h, xx, e, by omega, q⟩
          · unfold RO at hO ⊢
            rw [eτ, up2_c (by decide), up2_c (by decide), up2_c (by decide), up2_c (by decide), up2_c (by decide), up2_c (by decide), up2_c (by decide)]
            rw [up2_ne (show o ≠ o + 2 by omega), up2_ne (show o ≠ o + 1 by omega), up2_ne (show o ≠ 3 by omega), up2_ne (show 0 ≠ 11 by decide), up2_ne (show 0 ≠ 10 by decide)]
            exact hO
          · refine FrR.cur ⟨fun k a b => ?_, (fr r).2⟩ _ _ _ _
            rw [up2_ne (by omega), up2_ne (by omega), up2_ne (by omega), up2_ne (by omega)]
        · exact ⟨_, _, by rw [if_neg (by decide)], rfl, Or.inr (bad_cur (by decide) z57), (fr r).cur _ _ _ _⟩
      · obtain ⟨i, hi, ei⟩ : ∃ i, i < nc ∧ r = nI i := by
          rcases z2 with ⟨q, _⟩ | ⟨k, q1, q2, _⟩
          · exact absurd q hno
          · exact ⟨k, q1, q2⟩
        subst ei
        have n13 : (13 : Int32) ≠ 0 := by decide
        rw [if_neg hno, if_neg hno, vl_d, vl_d, vl_d, cl_some, cu_cm (Or.inr (by decide)), cu_s2, mu_s2, mu_cm (Or.inr (by decide)), end_c n13, end_m n13, cl_some, cu_2]
        refine ⟨_, _, by rw [if_neg n13], rfl, Or.inr ⟨13, n13, cu_2, mu_2, Or.inl ⟨rfl, i, by omega, ?_, ?_⟩⟩, ?_⟩
        · rw [cu_c (by decide) (by decide), up2_at]
        · rw [mu_c (by decide) (by decide), up2_at, show (20 : Int32) = nI 20 from rfl, nI_add]
        · exact FrR.cur ⟨fun k a b => up2_ne a, fun k a b => up2_ne a, fun j a => up2_c (by omega)⟩ _ _ _ _
    · obtain ⟨x, hx⟩ := sb_any (o := o) (σ := cu σ p2 w2) (nI p) v2
      unfold f_X8_coordItem_41
      rw [hx, cl_some, cu_2, if_neg (w_ne hw), mu_2, if_neg (w_ne hw), cl_some, end_c (w_ne hw), end_m (w_ne hw), cl_some, cu_2]
      exact ⟨_, _, by rw [if_neg (w_ne hw)], rfl, Or.inr (bad_cur (Or.inr hw) h57), FrR.rf.cur _ _ _ _⟩
  · have s2 : f_X5_readNumber 4 0 (nI (b - 1)) (cu σ p1 w1) = some (0, cu σ p1 w1) := num_s (k := 4) (by decide) (by decide) (w_ne hw) 0 _
    obtain ⟨x, hx⟩ := sb_any (o := o) (σ := cu σ p1 w1) v1 0
    unfold f_X8_coordItem_41
    rw [if_neg (w_ne hw), s2, cl_some, hx, cl_some, cu_2, if_neg (w_ne hw), mu_2, if_neg (w_ne hw), cl_some, end_c (w_ne hw), end_m (w_ne hw), cl_some, cu_2]
    exact ⟨_, _, by rw [if_neg (w_ne hw)], rfl, Or.inr (bad_cur (Or.inr hw) h57), FrR.rf.cur _ _ _ _⟩
