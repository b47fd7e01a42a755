theorem it_orders {o nc nd li pl : Nat} {σ τ : St} (ho : o = 8 ∨ o = 14) (hT : rT σ τ) (hY : ∀ B, RY o nc nd B li σ τ) (h57 : τ 0 57 = 0) (hpl : pl ≤ 200) : ∃ σ' τ', f_X5_readOrders o (cu σ pl 0) = some ((), σ') ∧ (cl (f_X8_ordersItem (mu τ pl 0)) fun _ σ34 => f_X8_item_107 σ34) = some ((), τ') ∧ (Okk o pl σ' τ' ∨ Bad σ' τ') ∧ FrR o σ τ σ' τ' := by
  obtain ⟨v1, p1, w1, c1, m1, a1, a2, a3⟩ := num hT (pl := pl) (k := 1) (by omega) (by decide) 0 5
  have c1' : f_X5_readNumber 1 0 5 (cu σ pl 0) = some (v1, cu σ p1 w1) := c1
  have m1' : f_X8_number 1 0 5 (mu τ pl 0) = some (v1, mu τ p1 w1) := m1
  have fr : ∀ u v w, FrR o σ τ σ (up2 (up2 (up2 τ 0 5 u) 0 6 v) 0 7 w) := fun u v w => ⟨fun _ _ _ => rfl, fun k a b => by rw [up2_ne a, up2_ne a, up2_ne a], fun j a => by rw [up2_c (by omega), up2_c (by omega), up2_c (by omega)]⟩
  have z57 : ∀ u v w, up2 (up2 (up2 τ 0 5 u) 0 6 v) 0 7 w 0 57 = 0 := fun u v w => by rw [up2_c (by decide), up2_c (by decide), up2_c (by decide)]; exact h57
  have ms : ∀ u v w p (x : Int32), up2 (up2 (up2 (mu τ p x) 0 5 u) 0 6 v) 0 7 w = mu (up2 (up2 (up2 τ 0 5 u) 0 6 v) 0 7 w) p x := fun u v w p x => by rw [mu_cm (Or.inr (by decide)), mu_cm (Or.inr (by decide)), mu_cm (Or.inr (by decide))]
  unfold f_X5_readOrders f_X8_ordersItem
  rw [c1', m1', cl_some, cl_some, vl_d, mu_2]
  rcases a3 with ⟨rfl, k1, k2⟩ | hw
  · obtain ⟨B, -, hB, rfl⟩ := nat_of (a := 0) (b := 5) (by rw [t_lit 0 (by decide)] at k1; exact k1) (by rw [t_lit 5 (by decide)] at k2; exact k2)
    obtain ⟨M, hM⟩ : ∃ M : Nat, M = min B 3 := ⟨_, rfl⟩
    have em : (if nI B < (3 : Int32) then nI B else (3 : Int32)) = nI M := by
      by_cases h : B < 3
      · rw [if_pos (by rw [i_lt, t_lit 3 (by decide), t_nI B (by omega)]; omega), hM, Nat.min_eq_left (by omega)]
      · rw [if_neg (by rw [i_lt, t_lit 3 (by decide), t_nI B (by omega)]; omega), hM, Nat.min_eq_right (by omega)]; rfl
    have hM3 : M ≤ 3 ∧ M ≤ B := by rw [hM]; exact ⟨Nat.min_le_right _ _, Nat.min_le_left _ _⟩
    obtain ⟨v2, p2, w2, c2, m2, b1, b2, b3⟩ := num hT (pl := p1) (k := 1) (by omega) (by decide) 0 (nI M)
    have c2' : f_X5_readNumber 1 0 (nI M) (cu σ p1 0) = some (v2, cu σ p2 w2) := c2
    have m2' : f_X8_number 1 0 (nI M) (mu τ p1 0) = some (v2, mu τ p2 w2) := m2
    have em2 : (if (3 : Int32) ≤ nI B then cl (f_X8_number (1 : Int32) (0 : Int32) (3 : Int32) (mu τ p1 0)) fun r17 σ16 => f_X8_ordersItem_35 (nI B) r17 σ16 else cl (f_X8_number (1 : Int32) (0 : Int32) (nI B) (mu τ p1 0)) fun r20 σ19 => f_X8_ordersItem_35 (nI B) r20 σ19) = f_X8_ordersItem_35 (nI B) v2 (mu τ p2 w2) := by
      by_cases h : B < 3
      · rw [if_neg (by rw [i_le, t_lit 3 (by decide), t_nI B (by omega)]; omega), show nI B = nI M from by rw [hM, Nat.min_eq_left (by omega)], m2', cl_some]
      · rw [if_pos (by rw [i_le, t_lit 3 (by decide), t_nI B (by omega)]; omega), show (3 : Int32) = nI M from by rw [hM, Nat.min_eq_right (by omega)]; rfl, m2', cl_some]
    rw [if_pos rfl, em2, em, c2', cl_some]
    rcases b3 with ⟨rfl, k1', k2'⟩ | hw
    · obtain ⟨S, -, hS, rfl⟩ := nat_of (a := 0) (b := M) (by rw [t_lit 0 (by decide)] at k1'; exact k1') (by rw [t_nI M (by omega)] at k2'; exact k2')
      obtain ⟨v3, p3, w3, c3, m3, d1, d2, d3⟩ := num hT (pl := p2) (k := 1) (by omega) (by decide) 1 9
      have c3' : f_X5_readNumber 1 1 9 (cu σ p2 0) = some (v3, cu σ p3 w3) := c3
      have m3' : f_X8_number 1 1 9 (mu τ p2 0) = some (v3, mu τ p3 w3) := m3
      unfold f_X8_ordersItem_35
      rw [mu_2, if_pos rfl, c3', m3', cl_some, cl_some, vl_d, vl_d, vl_d, cl_some, ms]
      rcases d3 with ⟨rfl, k1'', k2''⟩ | hw
      · obtain ⟨le, l1, l2, rfl⟩ := nat_of (a := 1) (b := 9) (by rw [t_lit 1 (by decide)] at k1''; exact k1'') (by rw [t_lit 9 (by decide)] at k2''; exact k2'')
        obtain ⟨w, e1, e2, e3⟩ := end_0 (σ := σ) (τ := up2 (up2 (up2 τ 0 5 (nI B)) 0 6 (nI S)) 0 7 (nI le)) ((fr _ _ _).T ho hT) (pl := p3) (by omega)
        rw [e1, e2, cl_some, cu_2]
        rcases e3 with ⟨rfl, e3⟩ | rfl
        · refine ⟨cu (up2 (up2 (up2 (up2 σ o 0 (nI (48 * 2 ^ B))) o 1 (nI (48 * 2 ^ S))) o 2 (nI (3 * 2 ^ S))) o 3 (nI le)) (p3 + 1) 0, _, ?_, rfl, Or.inl ⟨nc, nd, B, S, le, li, p3 + 1, RY.cur ho ?_ _ _ _ _, RO.cur ho ?_ _ _ _ _, cu_1, mu_1, cu_2, mu_2, by omega, by omega⟩, ?_⟩
          · unfold f_X3_setOrders
            rw [if_pos rfl, vl_d, vl_d, vl_d, vl_d, cl_some, sh48 B (by omega), sh48 S (by omega), sh3 S (by omega), cu_cm (Or.inl (by omega)), cu_cm (Or.inl (by omega)), cu_cm (Or.inl (by omega)), cu_cm (Or.inl (by omega))]
          · obtain ⟨y1, y2, y3, y4, y5, y6, y7⟩ := hY B
            refine ⟨y1, ?_, ?_, ?_, ?_, ?_, ?_⟩
            · rw [up2_c (by decide), up2_c (by decide), up2_c (by decide), up2_c (by decide), up2_c (by decide), up2_c (by decide), up2_c (by decide)]; exact y2
            · rw [up2_c (by decide), up2_c (by decide), up2_c (by decide), up2_c (by decide), up2_c (by decide), up2_c (by decide), up2_c (by decide)]; exact y3
            · rw [up2_c (by decide), up2_c (by decide), up2_c (by decide), up2_c (by decide), up2_c (by decide), up2_c (by decide), up2_c (by decide)]; exact y4
            · rw [up2_ne (show o + 1 ≠ o by omega), up2_ne (show o + 1 ≠ o by omega), up2_ne (show o + 1 ≠ o by omega), up2_ne (show o + 1 ≠ o by omega), up2_ne (by decide), up2_ne (by decide), up2_ne (by decide)]; exact y5
            · rw [up2_ne (show o + 2 ≠ o by omega), up2_ne (show o + 2 ≠ o by omega), up2_ne (show o + 2 ≠ o by omega), up2_ne (show o + 2 ≠ o by omega), up2_ne (by decide), up2_ne (by decide), up2_ne (by decide)]; exact y6
            · have r : ∀ k, k ≠ o → up2 (up2 (up2 (up2 σ o 0 (nI (48 * 2 ^ B))) o 1 (nI (48 * 2 ^ S))) o 2 (nI (3 * 2 ^ S))) o 3 (nI le) k = σ k := fun k a => by rw [up2_ne a, up2_ne a, up2_ne a, up2_ne a]
              have r' : ∀ k, k ≠ 0 → up2 (up2 (up2 τ 0 5 (nI B)) 0 6 (nI S)) 0 7 (nI le) k = τ k := fun k a => by rw [up2_ne a, up2_ne a, up2_ne a]
              rw [r _ (by omega), r _ (by omega), r _ (by omega), r' _ (by decide), r' _ (by decide), r' _ (by decide)]
              exact y7
          · refine ⟨⟨hB, by omega, by omega, l1, l2⟩, ?_, ?_, ?_, ?_, ?_, ?_, ?_⟩
            · rw [up2_c (by decide), up2_c (by decide), up2_c (by decide), up2_at]
            · rw [up2_c (by decide), up2_c (by decide), up2_at]
            · rw [up2_c (by decide), up2_at]
            · rw [up2_at]
            · rw [up2_c (by decide), up2_c (by decide), up2_at]
            · rw [up2_c (by decide), up2_at]
            · rw [up2_at]
          · refine FrR.cur ⟨fun k a b => ?_, (fr _ _ _).2⟩ _ _ _ _
            rw [up2_ne (by omega), up2_ne (by omega), up2_ne (by omega), up2_ne (by omega)]
        · exact ⟨_, _, by rw [if_neg (by decide)], rfl, Or.inr (bad_cur (by decide) (z57 _ _ _)), (fr _ _ _).cur _ _ _ _⟩
      · rw [end_c (w_ne hw), end_m (w_ne hw), cl_some, cu_2]
        exact ⟨_, _, by rw [if_neg (w_ne hw)], rfl, Or.inr (bad_cur (Or.inr hw) (z57 _ _ _)), (fr _ _ _).cur _ _ _ _⟩
    · have s3 : f_X5_readNumber 1 1 9 (cu σ p2 w2) = some (0, cu σ p2 w2) := num_s (k := 1) (by decide) (by decide) (w_ne hw) 1 9
      unfold f_X8_ordersItem_35
      rw [mu_2, if_neg (w_ne hw), s3, cl_some, vl_d, vl_d, vl_d, cl_some, ms, end_c (w_ne hw), end_m (w_ne hw), cl_some, cu_2]
      exact ⟨_, _, by rw [if_neg (w_ne hw)], rfl, Or.inr (bad_cur (Or.inr hw) (z57 _ _ _)), (fr _ _ _).cur _ _ _ _⟩
  · have s2 : ∀ x, f_X5_readNumber 1 0 x (cu σ p1 w1) = some (0, cu σ p1 w1) := fun x => num_s (k := 1) (by decide) (by decide) (w_ne hw) 0 x
    have s3 : f_X5_readNumber 1 1 9 (cu σ p1 w1) = some (0, cu σ p1 w1) := num_s (k := 1) (by decide) (by decide) (w_ne hw) 1 9
    unfold f_X8_ordersItem_35
    rw [if_neg (w_ne hw), mu_2, if_neg (w_ne hw), s2, cl_some, s3, cl_some, vl_d, vl_d, vl_d, cl_some, ms, end_c (w_ne hw), end_m (w_ne hw), cl_some, cu_2]
    exact ⟨_, _, by rw [if_neg (w_ne hw)], rfl, Or.inr (bad_cur (Or.inr hw) (z57 _ _ _)), (fr _ _ _).cur _ _ _ _⟩
theorem it_device {o nc nd B S le li pl : Nat} {σ τ : St} (ho : o = 8 ∨ o = 14) (hT : rT σ τ) (hY : RY o nc nd B li σ τ) (hO : RO o B S le σ τ) (hnd : nd < 8) (h57 : τ 0 57 = 0) (hpl : pl ≤ 200) : ∃ σ' τ', f_X5_readDevice o (cu σ pl 0) = some ((), σ') ∧ (cl (f_X8_deviceItem (mu τ pl 0)) fun _ σ34 => f_X8_item_107 σ34) = some ((), τ') ∧ (Okk o pl σ' τ' ∨ Bad σ' τ') ∧ FrR o σ τ σ' τ' := by
  obtain ⟨y1, y2, y3, y4, y5, y6, y7⟩ := id hY
  have h5 : cu σ pl 0 o 5 = nI nc := by rw [cu_r (by omega)]; exact y3.1
  have h9 : mu τ pl 0 0 9 = nI nc := by rw [mu_c (by decide) (by decide)]; exact y3.2
  have enc : nI nc - 1 = nI (nc - 1) := by rw [show (1 : Int32) = nI 1 from rfl, nI_m _ _ y1.1]
  obtain ⟨v1, p1, w1, c1, m1, a1, a2, a3⟩ := num hT (pl := pl) (k := 1) (by omega) (by decide) 0 (nI (nc - 1))
  have c1' : f_X5_readNumber 1 0 (nI (nc - 1)) (cu σ pl 0) = some (v1, cu σ p1 w1) := c1
  have m1' : f_X8_number 1 0 (nI (nc - 1)) (mu τ pl 0) = some (v1, mu τ p1 w1) := m1
  unfold f_X5_readDevice f_X8_deviceItem
  rw [h5, h9, enc, c1', m1', cl_some, cl_some, mu_2]
  rcases a3 with ⟨rfl, k1, k2⟩ | hw
  · obtain ⟨h, -, hh, rfl⟩ := nat_of (a := 0) (b := nc - 1) (by rw [t_lit 0 (by decide)] at k1; exact k1) (by rw [t_nI _ (by omega)] at k2; exact k2)
    obtain ⟨v2, p2, w2, c2, m2, b1, b2, b3⟩ := num hT (pl := p1) (k := 1) (by omega) (by decide) 1 8
    have c2' : f_X5_readNumber 1 1 8 (cu σ p1 0) = some (v2, cu σ p2 w2) := c2
    have m2' : f_X8_number 1 1 8 (mu τ p1 0) = some (v2, mu τ p2 w2) := m2
    rw [if_pos rfl, c2', m2', cl_some, cl_some]
    rcases b3 with ⟨rfl, k1', k2'⟩ | hw
    · obtain ⟨x, x1, x2, rfl⟩ := nat_of (a := 1) (b := 8) (by rw [t_lit 1 (by decide)] at k1'; exact k1') (by rw [t_lit 8 (by decide)] at k2'; exact k2')
      obtain ⟨v3, p3, w3, c3, m3, d1, d2, d3⟩ := num hT (pl := p2) (k := 1) (by omega) (by decide) 0 3
      have c3' : f_X5_readNumber 1 0 3 (cu σ p2 0) = some (v3, cu σ p3 w3) := c3
      have m3' : f_X8_number 1 0 3 (mu τ p2 0) = some (v3, mu τ p3 w3) := m3
      unfold f_X8_deviceItem_32
      rw [mu_2, if_pos rfl, c3', m3', cl_some, cl_some, mu_2]
      rcases d3 with ⟨rfl, k1'', k2''⟩ | hw
      · obtain ⟨e, -, e2, rfl⟩ := nat_of (a := 0) (b := 3) (by rw [t_lit 0 (by decide)] at k1''; exact k1'') (by rw [t_lit 3 (by decide)] at k2''; exact k2'')
        obtain ⟨τ1, eτ⟩ : ∃ τ1, τ1 = up2 (up2 (up2 (up2 τ 13 nd (nI h)) 14 nd (nI x)) 15 nd (nI e)) 0 12 (nI (nd + 1)) := ⟨_, rfl⟩
        have m12 : ∀ p (w : Int32), mu τ p w 0 12 = nI nd := fun p w => by rw [mu_c (by decide) (by decide)]; exact y4.2
        have di : f_X8_deviceIs (nI h) (nI x) (nI e) (mu τ p3 0) = some ((), mu τ1 p3 0) := by
          unfold f_X8_deviceIs
          rw [m12, gd_t (ix_nI hnd (by decide)), vl_d, nt_nI (by omega), up2_r (by decide), m12, gd_t (ix_nI hnd (by decide)), vl_d, nt_nI (by omega), up2_r (by decide), up2_r (by decide), m12, gd_t (ix_nI hnd (by decide)), vl_d, vl_d, nt_nI (by omega), up2_r (by decide), up2_r (by decide), up2_r (by decide), m12, nI_1, mu_cm (Or.inl (by decide)), mu_cm (Or.inl (by decide)), mu_cm (Or.inl (by decide)), mu_cm (Or.inr (by decide)), eτ]
        have fr : FrR o σ τ σ τ1 := by
          refine ⟨fun _ _ _ => rfl, fun k a b => ?_, fun j a => ?_⟩
          · rw [eτ, up2_ne a, up2_ne (by omega), up2_ne (by omega), up2_ne (by omega)]
          · rw [eτ, up2_c (by omega), up2_r (by decide), up2_r (by decide), up2_r (by decide)]
        have z57 : τ1 0 57 = 0 := by rw [eτ, up2_c (by decide), up2_r (by decide), up2_r (by decide), up2_r (by decide)]; exact h57
        obtain ⟨w, e1, e2', e3⟩ := end_0 (σ := σ) (τ := τ1) (fr.T ho hT) (pl := p3) (by omega)
        rw [if_pos rfl, di, cl_some, cl_some, e1, e2', cl_some, cu_2]
        rcases e3 with ⟨rfl, e3⟩ | rfl
        · refine ⟨cu (up2 (up2 (up2 (up2 σ (o + 3) nd (nI h)) (o + 4) nd (nI x)) (o + 5) nd (nI e)) o 6 (nI (nd + 1))) (p3 + 1) 0, _, ?_, rfl, Or.inl ⟨nc, nd + 1, B, S, le, li, p3 + 1, RY.cur ho ?_ _ _ _ _, RO.cur ho ?_ _ _ _ _, cu_1, mu_1, cu_2, mu_2, by omega, by omega⟩, ?_⟩
          · unfold f_X3_addDevice
            have h6 : cu σ (p3 + 1) 0 o 6 = nI nd := by rw [cu_r (by omega)]; exact y4.1
            rw [if_pos rfl, vl_d, h6, if_neg (nI_pos (by omega)), if_neg (by rw [i_le, t_lit 8 (by decide), t_nI nd (by omega)]; omega), gd_t (ix_nI hnd (by decide)), vl_d, gd_t (ix_nI hnd (by decide)), vl_d, gd_t (ix_nI hnd (by decide)), vl_d, vl_d, cl_some, nt_nI (by omega), up2_r (by omega), up2_r (by omega), up2_r (by omega), h6, nI_1, cu_cm (Or.inl (by omega)), cu_cm (Or.inl (by omega)), cu_cm (Or.inl (by omega)), cu_cm (Or.inl (by omega))]
          · rw [eτ]
            refine ⟨⟨y1.1, y1.2.1, by omega, y1.2.2.2⟩, ?_, ?_, ⟨up2_at _ _ _ _, up2_at _ _ _ _⟩, ?_, ?_, fun d hd => ?_⟩
            · rw [up2_c (by decide), up2_r (by omega), up2_r (by omega), up2_r (by omega), up2_c (by decide), up2_r (by decide), up2_r (by decide), up2_r (by decide)]; exact y2
            · rw [up2_c (by decide), up2_r (by omega), up2_r (by omega), up2_r (by omega), up2_c (by decide), up2_r (by decide), up2_r (by decide), up2_r (by decide)]; exact y3
            · rw [up2_ne (show o + 1 ≠ o by omega), up2_ne (show o + 1 ≠ o + 5 by omega), up2_ne (show o + 1 ≠ o + 4 by omega), up2_ne (show o + 1 ≠ o + 3 by omega), up2_ne (by decide), up2_ne (by decide), up2_ne (by decide), up2_ne (by decide)]; exact y5
            · rw [up2_ne (show o + 2 ≠ o by omega), up2_ne (show o + 2 ≠ o + 5 by omega), up2_ne (show o + 2 ≠ o + 4 by omega), up2_ne (show o + 2 ≠ o + 3 by omega), up2_ne (by decide), up2_ne (by decide), up2_ne (by decide), up2_ne (by decide)]; exact y6
            · rw [up2_r (show o + 3 ≠ o by omega), up2_r (show o + 3 ≠ o + 5 by omega), up2_r (show o + 3 ≠ o + 4 by omega), up2_r (show o + 4 ≠ o by omega), up2_r (show o + 4 ≠ o + 5 by omega), up2_r (show o + 5 ≠ o by omega), up2_r (show 13 ≠ 0 by decide), up2_r (show 13 ≠ 15 by decide), up2_r (show 13 ≠ 14 by decide), up2_r (show 14 ≠ 0 by decide), up2_r (show 14 ≠ 15 by decide), up2_r (show 15 ≠ 0 by decide)]
              by_cases ed : d = nd
              · subst ed
                exact ⟨h, x, e, by omega, x1, x2, e2, ⟨up2_at _ _ _ _, up2_at _ _ _ _⟩, ⟨up2_at _ _ _ _, up2_at _ _ _ _⟩, ⟨up2_at _ _ _ _, up2_at _ _ _ _⟩⟩
              · rw [up2_c ed, up2_c ed, up2_c ed, up2_c ed, up2_c ed, up2_c ed, up2_r (show o + 4 ≠ o + 3 by omega), up2_r (show o + 5 ≠ o + 4 by omega), up2_r (show o + 5 ≠ o + 3 by omega), up2_r (show 14 ≠ 13 by decide), up2_r (show 15 ≠ 14 by decide), up2_r (show 15 ≠ 13 by decide)]
                exact y7 d (by omega)
          · unfold RO at hO ⊢
            rw [eτ, up2_c (by decide), up2_c (by decide), up2_c (by decide), up2_c (by decide), up2_c (by decide), up2_c (by decide), up2_c (by decide)]
            rw [up2_ne (show o ≠ o + 5 by omega), up2_ne (show o ≠ o + 4 by omega), up2_ne (show o ≠ o + 3 by omega), up2_ne (show 0 ≠ 15 by decide), up2_ne (show 0 ≠ 14 by decide), up2_ne (show 0 ≠ 13 by decide)]
            exact hO
          · refine FrR.cur ⟨fun k a b => ?_, fr.2⟩ _ _ _ _
            rw [up2_ne (by omega), up2_ne (by omega), up2_ne (by omega), up2_ne (by omega)]
        · exact ⟨_, _, by rw [if_neg (by decide)], rfl, Or.inr (bad_cur (by decide) z57), fr.cur _ _ _ _⟩
      · rw [if_neg (w_ne hw), cl_some, end_c (w_ne hw), end_m (w_ne hw), cl_some, cu_2]
        exact ⟨_, _, by rw [if_neg (w_ne hw)], rfl, Or.inr (bad_cur (Or.inr hw) h57), FrR.rf.cur _ _ _ _⟩
    · have s3 : f_X5_readNumber 1 0 3 (cu σ p2 w2) = some (0, cu σ p2 w2) := num_s (k := 1) (by decide) (by decide) (w_ne hw) 0 3
      unfold f_X8_deviceItem_32
      rw [mu_2, if_neg (w_ne hw), if_neg (w_ne hw), s3, cl_some, cl_some, end_c (w_ne hw), end_m (w_ne hw), cl_some, cu_2]
      exact ⟨_, _, by rw [if_neg (w_ne hw)], rfl, Or.inr (bad_cur (Or.inr hw) h57), FrR.rf.cur _ _ _ _⟩
  · have s2 : f_X5_readNumber 1 1 8 (cu σ p1 w1) = some (0, cu σ p1 w1) := num_s (k := 1) (by decide) (by decide) (w_ne hw) 1 8
    have s3 : f_X5_readNumber 1 0 3 (cu σ p1 w1) = some (0, cu σ p1 w1) := num_s (k := 1) (by decide) (by decide) (w_ne hw) 0 3
    unfold f_X8_deviceItem_32
    rw [if_neg (w_ne hw), mu_2, if_neg (w_ne hw), if_neg (w_ne hw), s2, cl_some, s3, cl_some, cl_some, end_c (w_ne hw), end_m (w_ne hw), cl_some, cu_2]
    exact ⟨_, _, by rw [if_neg (w_ne hw)], rfl, Or.inr (bad_cur (Or.inr hw) h57), FrR.rf.cur _ _ _ _⟩
