/-! device, coordinator, air, count -/
theorem st_device {n : Nat} {σ τ : St} (h : Rel n σ τ) (hn : n < 512) (a0 a1 : Int32) : ∃ r σ' τ', f_X7_device a0 a1 σ = some (r, σ') ∧ f_X8_device a0 a1 τ = some (r, τ') ∧ Rel (n + 1) σ' τ' := by
  obtain ⟨nc, nd, B, S, le, li, ps, h1, h2, h3, h4, h5, h6, h7, h8, h9⟩ := rel_mono h
  obtain ⟨hN, hl, hL, hM, hrest⟩ := id h1
  have hnd := hN.2.2.2.1
  have hnc := hN.2.1
  by_cases hq : 0 ≤ a0.toInt ∧ a0.toInt < nd
  · obtain ⟨d, hd, rfl⟩ := who hq
    have hd8 : d < 8 := Nat.lt_of_lt_of_le hd hnd
    have n1 : nt (nI d) = d := nt_nI (by omega)
    have g1 : ix (nI d) 8 := ix_nI hd8 (by decide)
    have e9 := h9.1.1 d hd
    by_cases hv : 0 ≤ a1.toInt ∧ a1.toInt ≤ 13
    · have key : ∃ r, f_X2_tell d a1 σ = some (r, σ) ∧ f_X8_device (nI d) a1 τ = some (r, τ) := by
        unfold f_X8_device
        rw [dev_m hN.2.2.1 hnd hM.2.2.2.2.2.2 hd, cl_some, if_neg (by decide), in_t (by rw [t64 0 (by decide)]; omega) (by rw [t64 13 (by decide)]; omega), cl_some, if_neg (by decide), n1]
        unfold f_X2_tell
        by_cases w0 : a1 = 0
        · exact ⟨_, by rw [if_pos w0], by rw [if_pos w0, gd_t g1, e9 1 (by decide) (by decide)]⟩
        rw [if_neg w0, if_neg w0]
        by_cases w1 : a1 = 1
        · exact ⟨_, by rw [if_pos w1], by rw [if_pos w1, gd_t g1, e9 2 (by decide) (by decide)]⟩
        rw [if_neg w1, if_neg w1]
        by_cases w2 : a1 = 2
        · exact ⟨_, by rw [if_pos w2], by rw [if_pos w2, gd_t g1, e9 3 (by decide) (by decide)]⟩
        rw [if_neg w2, if_neg w2]
        by_cases w3 : a1 = 3
        · exact ⟨_, by rw [if_pos w3], by rw [if_pos w3, gd_t g1, e9 4 (by decide) (by decide)]⟩
        rw [if_neg w3, if_neg w3]
        by_cases w4 : a1 = 4
        · exact ⟨_, by rw [if_pos w4], by rw [if_pos w4, gd_t g1, e9 5 (by decide) (by decide)]⟩
        rw [if_neg w4, if_neg w4]
        by_cases w5 : a1 = 5
        · exact ⟨_, by rw [if_pos w5], by rw [if_pos w5, gd_t g1, e9 6 (by decide) (by decide)]⟩
        rw [if_neg w5, if_neg w5]
        by_cases w6 : a1 = 6
        · exact ⟨_, by rw [if_pos w6], by rw [if_pos w6, gd_t g1, e9 7 (by decide) (by decide)]⟩
        rw [if_neg w6, if_neg w6]
        by_cases w7 : a1 = 7
        · exact ⟨_, by rw [if_pos w7], by rw [if_pos w7, gd_t g1, e9 8 (by decide) (by decide)]⟩
        rw [if_neg w7, if_neg w7]
        by_cases w8 : a1 = 8
        · exact ⟨_, by rw [if_pos w8], by rw [if_pos w8, gd_t g1, e9 9 (by decide) (by decide)]⟩
        rw [if_neg w8, if_neg w8]
        by_cases w9 : a1 = 9
        · exact ⟨_, by rw [if_pos w9], by rw [if_pos w9, gd_t g1, e9 10 (by decide) (by decide)]⟩
        rw [if_neg w9, if_neg w9]
        by_cases w10 : a1 = 10
        · exact ⟨_, by rw [if_pos w10], by rw [if_pos w10, gd_t g1, e9 11 (by decide) (by decide)]⟩
        rw [if_neg w10, if_neg w10]
        by_cases w11 : a1 = 11
        · exact ⟨_, by rw [if_pos w11], by rw [if_pos w11, gd_t g1, e9 12 (by decide) (by decide)]⟩
        rw [if_neg w11, if_neg w11]
        by_cases w12 : a1 = 12
        · exact ⟨_, by rw [if_pos w12], by rw [if_pos w12, gd_t g1, e9 13 (by decide) (by decide)]⟩
        rw [if_neg w12, if_neg w12]
        have w13 : a1 = 13 := by
          rw [i_eq, t_lit 13 (by decide)]
          rw [i_eq, t_lit 0 (by decide)] at w0
          rw [i_eq, t_lit 1 (by decide)] at w1
          rw [i_eq, t_lit 2 (by decide)] at w2
          rw [i_eq, t_lit 3 (by decide)] at w3
          rw [i_eq, t_lit 4 (by decide)] at w4
          rw [i_eq, t_lit 5 (by decide)] at w5
          rw [i_eq, t_lit 6 (by decide)] at w6
          rw [i_eq, t_lit 7 (by decide)] at w7
          rw [i_eq, t_lit 8 (by decide)] at w8
          rw [i_eq, t_lit 9 (by decide)] at w9
          rw [i_eq, t_lit 10 (by decide)] at w10
          rw [i_eq, t_lit 11 (by decide)] at w11
          rw [i_eq, t_lit 12 (by decide)] at w12
          omega
        exact ⟨_, by rw [if_pos w13], by rw [gd_t g1, e9 14 (by decide) (by decide)]⟩
      obtain ⟨r, k1, k2⟩ := key
      refine ⟨r, σ, τ, ?_, k2, rel_mono h⟩
      unfold f_X7_device
      rw [dev_c hnd hL.2.2.2.2.2.2 hd, cl_some, oc_some, gd_t hd8, k1, cl_some]
    · refine ⟨-1, σ, τ, ?_, ?_, rel_mono h⟩
      · unfold f_X7_device f_X2_tell
        rw [dev_c hnd hL.2.2.2.2.2.2 hd, cl_some, oc_some, gd_t hd8]
        rw [if_neg (show ¬ a1 = 0 from by rw [i_eq, t_lit 0 (by decide)]; omega), if_neg (show ¬ a1 = 1 from by rw [i_eq, t_lit 1 (by decide)]; omega), if_neg (show ¬ a1 = 2 from by rw [i_eq, t_lit 2 (by decide)]; omega), if_neg (show ¬ a1 = 3 from by rw [i_eq, t_lit 3 (by decide)]; omega), if_neg (show ¬ a1 = 4 from by rw [i_eq, t_lit 4 (by decide)]; omega), if_neg (show ¬ a1 = 5 from by rw [i_eq, t_lit 5 (by decide)]; omega), if_neg (show ¬ a1 = 6 from by rw [i_eq, t_lit 6 (by decide)]; omega), if_neg (show ¬ a1 = 7 from by rw [i_eq, t_lit 7 (by decide)]; omega), if_neg (show ¬ a1 = 8 from by rw [i_eq, t_lit 8 (by decide)]; omega), if_neg (show ¬ a1 = 9 from by rw [i_eq, t_lit 9 (by decide)]; omega), if_neg (show ¬ a1 = 10 from by rw [i_eq, t_lit 10 (by decide)]; omega), if_neg (show ¬ a1 = 11 from by rw [i_eq, t_lit 11 (by decide)]; omega), if_neg (show ¬ a1 = 12 from by rw [i_eq, t_lit 12 (by decide)]; omega), if_neg (show ¬ a1 = 13 from by rw [i_eq, t_lit 13 (by decide)]; omega), cl_some]
      · unfold f_X8_device
        rw [dev_m hN.2.2.1 hnd hM.2.2.2.2.2.2 hd, cl_some, if_neg (by decide), in_f (by rw [t64 0 (by decide), t64 13 (by decide)]; omega), cl_some, if_pos rfl]
  · refine ⟨-1, σ, τ, ?_, ?_, rel_mono h⟩
    · unfold f_X7_device
      rw [dev_cn hnd hL.2.2.2.2.2.2 hq, cl_some, oc_none]
    · unfold f_X8_device
      rw [dev_mn hN.2.2.1 hnd hM.2.2.2.2.2.2 hq, cl_some, if_pos rfl]
theorem st_coordinator {n : Nat} {σ τ : St} (h : Rel n σ τ) (hn : n < 512) (a0 a1 : Int32) : ∃ r σ' τ', f_X7_coordinator a0 a1 σ = some (r, σ') ∧ f_X8_coordinator a0 a1 τ = some (r, τ') ∧ Rel (n + 1) σ' τ' := by
  obtain ⟨nc, nd, B, S, le, li, ps, h1, h2, h3, h4, h5, h6, h7, h8, h9⟩ := rel_mono h
  obtain ⟨hN, hl, hL, hM, hrest⟩ := id h1
  have hnd := hN.2.2.2.1
  have hnc := hN.2.1
  by_cases hq : 0 ≤ a0.toInt ∧ a0.toInt < nc
  · obtain ⟨c, hc, rfl⟩ := who hq
    have hc4 : c < 4 := Nat.lt_of_lt_of_le hc hnc
    have n1 : nt (nI c) = c := nt_nI (by omega)
    have g1 : ix (nI c) 4 := ix_nI hc4 (by decide)
    obtain ⟨pc, pm, pi⟩ := h7.1 c hc
    have hs : pS (ps c) ≤ 16 := by have := pi.2.2; omega
    obtain ⟨s, _, _, s1, s2⟩ := h2 c hc
    obtain ⟨c0, ⟨m, _, c1, c2⟩, ⟨x, _, c3, c4⟩, c5⟩ := h5 c hc
    by_cases hv : 0 ≤ a1.toInt ∧ a1.toInt ≤ 5
    · have key : ∃ r, f_X1_tell c a1 σ = some (r, σ) ∧ f_X8_coordinator (nI c) a1 τ = some (r, τ) := by
        unfold f_X8_coordinator
        rw [co_m hN.1 hnc hM.2.2.2.2.2.1 hc, cl_some, if_neg (by decide), in_t (by rw [t64 0 (by decide)]; omega) (by rw [t64 5 (by decide)]; omega), cl_some, if_neg (by decide), n1]
        unfold f_X1_tell
        rw [s1, s2, c0, c1, c2, c3, c4, c5, c_shared pc pi.1 hs, cl_some, m_shared pm hc4 pi.1 hs, cl_some]
        by_cases w0 : a1 = 0
        · exact ⟨_, by rw [if_pos w0], by rw [if_pos w0, gd_t g1]⟩
        rw [if_neg w0, if_neg w0]
        by_cases w1 : a1 = 1
        · exact ⟨_, by rw [if_pos w1], by rw [if_pos w1, gd_t g1]⟩
        rw [if_neg w1, if_neg w1]
        by_cases w2 : a1 = 2
        · exact ⟨_, by rw [if_pos w2], by rw [if_pos w2]⟩
        rw [if_neg w2, if_neg w2]
        by_cases w3 : a1 = 3
        · exact ⟨_, by rw [if_pos w3], by rw [if_pos w3, gd_t g1]⟩
        rw [if_neg w3, if_neg w3]
        by_cases w4 : a1 = 4
        · exact ⟨_, by rw [if_pos w4], by rw [if_pos w4, gd_t g1]⟩
        rw [if_neg w4, if_neg w4]
        have w5 : a1 = 5 := by
          rw [i_eq, t_lit 5 (by decide)]
          rw [i_eq, t_lit 0 (by decide)] at w0
          rw [i_eq, t_lit 1 (by decide)] at w1
          rw [i_eq, t_lit 2 (by decide)] at w2
          rw [i_eq, t_lit 3 (by decide)] at w3
          rw [i_eq, t_lit 4 (by decide)] at w4
          omega
        exact ⟨_, by rw [if_pos w5], by rw [gd_t g1]⟩
      obtain ⟨r, k1, k2⟩ := key
      refine ⟨r, σ, τ, ?_, k2, rel_mono h⟩
      unfold f_X7_coordinator
      rw [co_c hnc hL.2.2.2.2.2.1 hc, cl_some, oc_some, gd_t hc4, k1, cl_some]
    · refine ⟨-1, σ, τ, ?_, ?_, rel_mono h⟩
      · unfold f_X7_coordinator f_X1_tell
        rw [co_c hnc hL.2.2.2.2.2.1 hc, cl_some, oc_some, gd_t hc4]
        rw [if_neg (show ¬ a1 = 0 from by rw [i_eq, t_lit 0 (by decide)]; omega), if_neg (show ¬ a1 = 1 from by rw [i_eq, t_lit 1 (by decide)]; omega), if_neg (show ¬ a1 = 2 from by rw [i_eq, t_lit 2 (by decide)]; omega), if_neg (show ¬ a1 = 3 from by rw [i_eq, t_lit 3 (by decide)]; omega), if_neg (show ¬ a1 = 4 from by rw [i_eq, t_lit 4 (by decide)]; omega), if_neg (show ¬ a1 = 5 from by rw [i_eq, t_lit 5 (by decide)]; omega), cl_some]
      · unfold f_X8_coordinator
        rw [co_m hN.1 hnc hM.2.2.2.2.2.1 hc, cl_some, if_neg (by decide), in_f (by rw [t64 0 (by decide), t64 5 (by decide)]; omega), cl_some, if_pos rfl]
  · refine ⟨-1, σ, τ, ?_, ?_, rel_mono h⟩
    · unfold f_X7_coordinator
      rw [co_cn hnc hL.2.2.2.2.2.1 hq, cl_some, oc_none]
    · unfold f_X8_coordinator
      rw [co_mn hN.1 hnc hM.2.2.2.2.2.1 hq, cl_some, if_pos rfl]
theorem pow_le {b k : Nat} (h : b ≤ k) : 2 ^ b ≤ 2 ^ k := Nat.pow_le_pow_right (by decide) h
theorem st_air {n : Nat} {σ τ : St} (h : Rel n σ τ) (hn : n < 512) (a0 a1 : Int32) : ∃ r σ' τ', f_X7_air a0 a1 σ = some (r, σ') ∧ f_X8_air a0 a1 τ = some (r, τ') ∧ Rel (n + 1) σ' τ' := by
  obtain ⟨nc, nd, B, S, le, li, ps, h1, h2, h3, h4, h5, h6, h7, h8, h9⟩ := rel_mono h
  obtain ⟨hN, hl, hL, hM, hrest⟩ := id h1
  have hnd := hN.2.2.2.1
  have hnc := hN.2.1
  by_cases hq : 0 ≤ a0.toInt ∧ a0.toInt < nc
  · obtain ⟨c, hc, rfl⟩ := who hq
    have hc4 : c < 4 := Nat.lt_of_lt_of_le hc hnc
    have hS : 48 * 2 ^ S ≤ 384 := by have := pow_le (show S ≤ 3 from hN.2.2.2.2.2.1); omega
    have hS1 : 1 ≤ 48 * 2 ^ S := by have := pow_le (show 0 ≤ S from Nat.zero_le _); omega
    by_cases hv : 0 ≤ a1.toInt ∧ a1.toInt < (48 * 2 ^ S : Nat)
    · obtain ⟨t, ht, rfl⟩ := who hv
      have m1 : f_X8_in (nI t).toInt64 0 (((τ 0 17) - (1 : Int32)).toInt64) τ = some (1, τ) := in_t (by rw [t64 0 (by decide)]; omega) (by rw [hM.2.1, sub1 hS1 (by omega), t_nI t (by omega)]; omega)
      by_cases hp : τ 28 c = 0
      · refine ⟨-4, σ, τ, ?_, ?_, rel_mono h⟩
        · unfold f_X7_air
          rw [co_c hnc hL.2.2.2.2.2.1 hc, cl_some, oc_some, gd_t hc4, if_neg (nI_pos (by omega)), hL.2.1, if_neg (by rw [nI_leI (by omega) (by omega)]; omega), if_pos (nI_lt (by omega) (by decide)), if_pos ((h5 c hc).2.2.2.trans hp)]
        · unfold f_X8_air
          rw [co_m hN.1 hnc hM.2.2.2.2.2.1 hc, cl_some, if_neg (by decide), m1, cl_some, if_neg (by decide), gd_t (ix_nI hc4 (by decide)), nt_nI (show c < 2147483648 by omega), if_pos hp]
      · refine ⟨σ (42 + c) t, σ, τ, ?_, ?_, rel_mono h⟩
        · unfold f_X7_air
          rw [co_c hnc hL.2.2.2.2.2.1 hc, cl_some, oc_some, gd_t hc4, if_neg (nI_pos (by omega)), hL.2.1, if_neg (by rw [nI_leI (by omega) (by omega)]; omega), if_pos (nI_lt (by omega) (by decide)), if_neg (by rw [(h5 c hc).2.2.2]; exact hp), gd_t (ix_nI (by omega) (by decide)), nt_nI (by omega)]
        · unfold f_X8_air
          rw [co_m hN.1 hnc hM.2.2.2.2.2.1 hc, cl_some, if_neg (by decide), m1, cl_some, if_neg (by decide), gd_t (ix_nI hc4 (by decide)), nt_nI (show c < 2147483648 by omega), if_neg hp, show (384 : Int32) = nI 384 from rfl, pk_mul, nI_add, gd_t (ix_nI (by omega) (by decide)), nt_nI (by omega), h8 c hc hp t ht]
    · refine ⟨-1, σ, τ, ?_, ?_, rel_mono h⟩
      · unfold f_X7_air
        rw [co_c hnc hL.2.2.2.2.2.1 hc, cl_some, oc_some, gd_t hc4]
        by_cases h0 : a1 < 0
        · rw [if_pos h0]
        · rw [if_neg h0, hL.2.1, if_pos (by rw [i_lt, t_lit 0 (by decide)] at h0; rw [i_le, t_nI _ (by omega)]; omega)]
      · unfold f_X8_air
        rw [co_m hN.1 hnc hM.2.2.2.2.2.1 hc, cl_some, if_neg (by decide), in_f (by rw [hM.2.1, sub1 hS1 (by omega), t64 0 (by decide)]; omega), cl_some, if_pos rfl]
  · refine ⟨-1, σ, τ, ?_, ?_, rel_mono h⟩
    · unfold f_X7_air
      rw [co_cn hnc hL.2.2.2.2.2.1 hq, cl_some, oc_none]
    · unfold f_X8_air
      rw [co_mn hN.1 hnc hM.2.2.2.2.2.1 hq, cl_some, if_pos rfl]
def oD (f : Nat → Int32) : Nat → Int32
  | 0 => 0
  | k + 1 => oD f k + (if f k = -4 then 1 else 0)
theorem oD_cg {f g : Nat → Int32} : ∀ {k : Nat}, (∀ c, c < k → f c = g c) → oD f k = oD g k
  | 0, _ => rfl
  | k + 1, h => by unfold oD; rw [oD_cg (k := k) (fun c hc => h c (by omega)), h k (by omega)]
theorem c_orphans {nd : Nat} {σ : St} (hnd : nd ≤ 8) (h : σ (LA σ) 6 = nI nd) : f_X7_orphans σ = some (oD (fun d => σ (46 + d) 1) nd, σ) := by
  obtain ⟨r, hr, rfl⟩ := lp_FU (b := fun K a => b_X7_orphans_4 K a.1 a.2.1 a.2.2) (fun k a => a = (oD (fun d => σ (46 + d) 1) k, nI k, σ)) (fun r => r = (oD (fun d => σ (46 + d) 1) nd, σ)) nd (by omega)
    (fun k a hk ha => by
      subst ha
      refine Or.inl ⟨_, rfl, fun K => ?_⟩
      show b_X7_orphans_4 K (oD (fun d => σ (46 + d) 1) k) (nI k) σ = K (oD (fun d => σ (46 + d) 1) k + (if σ (46 + k) 1 = -4 then 1 else 0), nI (k + 1), σ)
      unfold b_X7_orphans_4 f_X2_isOrphan
      rw [h, if_neg (by rw [nI_leI (by omega) (by omega)]; omega), if_neg (by rw [i_le, t_lit 8 (by decide), t_nI k (by omega)]; omega), gd_t (ix_nI (by omega) (by decide)), vl_d, nt_nI (by omega)]
      by_cases e : σ (46 + k) 1 = -4
      · rw [if_pos e, if_pos e, cl_some, if_neg (by decide), vl_d, vl_d, nI_1]
      · rw [if_neg e, if_neg e, cl_some, if_pos rfl, vl_d, nI_1, Int32.add_zero])
    (fun a ha => by
      subst ha
      refine ⟨_, rfl, fun K => ?_⟩
      show b_X7_orphans_4 K (oD (fun d => σ (46 + d) 1) nd) (nI nd) σ = _
      unfold b_X7_orphans_4
      rw [h, if_pos (nI_le (Nat.le_refl _) (by omega))])
    (a := (0, 0, σ)) rfl
  exact hr
theorem m_orphans {nd : Nat} {τ : St} (hnd : nd ≤ 8) (h : τ 0 35 = nI nd) : f_X8_orphans τ = some (oD (fun d => τ 36 d) nd, τ) := by
  obtain ⟨r, hr, rfl⟩ := lp_FU (b := fun K a => b_X8_orphans_4 K a.1 a.2.1 a.2.2) (fun k a => a = (oD (fun d => τ 36 d) k, nI k, τ)) (fun r => r = (oD (fun d => τ 36 d) nd, τ)) nd (by omega)
    (fun k a hk ha => by
      subst ha
      refine Or.inl ⟨_, rfl, fun K => ?_⟩
      show b_X8_orphans_4 K (oD (fun d => τ 36 d) k) (nI k) τ = K (oD (fun d => τ 36 d) k + (if τ 36 k = -4 then 1 else 0), nI (k + 1), τ)
      unfold b_X8_orphans_4
      rw [h, if_neg (by rw [nI_leI (by omega) (by omega)]; omega), gd_t (ix_nI (by omega) (by decide)), nt_nI (by omega)]
      by_cases e : τ 36 k = -4
      · rw [if_pos e, if_pos e, vl_d, vl_d, nI_1]
      · rw [if_neg e, if_neg e, vl_d, vl_d, nI_1])
    (fun a ha => by
      subst ha
      refine ⟨_, rfl, fun K => ?_⟩
      show b_X8_orphans_4 K (oD (fun d => τ 36 d) nd) (nI nd) τ = _
      unfold b_X8_orphans_4
      rw [h, if_pos (nI_le (Nat.le_refl _) (by omega))])
    (a := (0, 0, τ)) rfl
  exact hr
theorem st_count {n : Nat} {σ τ : St} (h : Rel n σ τ) (hn : n < 512) (a0 : Int32) : ∃ r σ' τ', f_X7_count a0 σ = some (r, σ') ∧ f_X8_count a0 τ = some (r, τ') ∧ Rel (n + 1) σ' τ' := by
  obtain ⟨nc, nd, B, S, le, li, ps, h1, h2, h3, h4, h5, h6, h7, h8, h9⟩ := rel_mono h
  obtain ⟨hN, hl, hL, hM, hrest⟩ := id h1
  have hnd := hN.2.2.2.1
  have hnc := hN.2.1
  obtain ⟨⟨N, _, n1, n2⟩, w1, sd, _, s1, s2⟩ := hrest
  obtain ⟨tl, _, t1, t2, _⟩ := h3
  obtain ⟨cm, _, c1, c2, _⟩ := h4
  obtain ⟨l0, l1, l2, l3, l4, l5, l6⟩ := hL
  obtain ⟨m0, m1, m2, m3, m4, m5, m6⟩ := hM
  have key : ∃ r, f_X7_count a0 σ = some (r, σ) ∧ f_X8_count a0 τ = some (r, τ) := by
    unfold f_X7_count f_X8_count
    rw [c_orphans hnd l6, m_orphans hnd m6, cl_some, cl_some, l0, l1, l2, l3, l4, l5, l6, m0, m1, m2, m3, m4, m5, m6, n1, n2, w1, s1, s2, t1, t2, c1, c2, oD_cg (f := fun d => σ (46 + d) 1) (g := fun d => τ 36 d) (fun d hd => h9.1.1 d hd 1 (by decide) (by decide))]
    by_cases w0 : a0 = 0
    · exact ⟨_, by rw [if_pos w0], by rw [if_pos w0]⟩
    rw [if_neg w0, if_neg w0]
    by_cases w1 : a0 = 1
    · exact ⟨_, by rw [if_pos w1], by rw [if_pos w1]⟩
    rw [if_neg w1, if_neg w1]
    by_cases w2 : a0 = 2
    · exact ⟨_, by rw [if_pos w2], by rw [if_pos w2]⟩
    rw [if_neg w2, if_neg w2]
    by_cases w3 : a0 = 3
    · exact ⟨_, by rw [if_pos w3], by rw [if_pos w3]⟩
    rw [if_neg w3, if_neg w3]
    by_cases w4 : a0 = 4
    · exact ⟨_, by rw [if_pos w4], by rw [if_pos w4]⟩
    rw [if_neg w4, if_neg w4]
    by_cases w5 : a0 = 5
    · exact ⟨_, by rw [if_pos w5], by rw [if_pos w5]⟩
    rw [if_neg w5, if_neg w5]
    by_cases w6 : a0 = 6
    · exact ⟨_, by rw [if_pos w6], by rw [if_pos w6]⟩
    rw [if_neg w6, if_neg w6]
    by_cases w7 : a0 = 7
    · exact ⟨_, by rw [if_pos w7], by rw [if_pos w7]⟩
    rw [if_neg w7, if_neg w7]
    by_cases w8 : a0 = 8
    · exact ⟨_, by rw [if_pos w8], by rw [if_pos w8]⟩
    rw [if_neg w8, if_neg w8]
    by_cases w9 : a0 = 9
    · exact ⟨_, by rw [if_pos w9], by rw [if_pos w9]⟩
    rw [if_neg w9, if_neg w9]
    by_cases w10 : a0 = 10
    · exact ⟨_, by rw [if_pos w10], by rw [if_pos w10]⟩
    rw [if_neg w10, if_neg w10]
    by_cases w11 : a0 = 11
    · exact ⟨_, by rw [if_pos w11], by rw [if_pos w11]⟩
    rw [if_neg w11, if_neg w11]
    by_cases w12 : a0 = 12
    · exact ⟨_, by rw [if_pos w12], by rw [if_pos w12]⟩
    rw [if_neg w12, if_neg w12]
    exact ⟨_, rfl, rfl⟩
  obtain ⟨r, k1, k2⟩ := key
  exact ⟨r, σ, τ, k1, k2, rel_mono h⟩
