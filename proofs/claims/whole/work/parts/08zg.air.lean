/-! the air, empty but for the beacon -/
theorem cnA {c : Nat} (hc : c < 4) : cn (42 + c) = 384 := by
  have : c = 0 ∨ c = 1 ∨ c = 2 ∨ c = 3 := by omega
  rcases this with rfl | rfl | rfl | rfl <;> rfl
theorem c_fill {c : Nat} {σ : St} (hc : c < 4) : ∃ σ', f_J7_fill_53178 (42 + c) 0 σ = some ((), σ') ∧ (∀ t, t < 384 → σ' (42 + c) t = 0) ∧ ∀ a, a ≠ 42 + c → σ' a = σ a := by
  obtain ⟨r, hr, σ', rfl, q1, q2⟩ := lp_FU (b := fun K a => b_J7_fill_53178_5 (42 + c) K a.1 a.2.1 a.2.2.1 a.2.2.2) (fun k a => ∃ σk, a = ((0 : Int32), nI k, nI 384, σk) ∧ (∀ t, t < k → σk (42 + c) t = 0) ∧ ∀ a, a ≠ 42 + c → σk a = σ a) (fun r => ∃ σ', r = ((), σ') ∧ (∀ t, t < 384 → σ' (42 + c) t = 0) ∧ ∀ a, a ≠ 42 + c → σ' a = σ a) 384 (by decide)
    (fun k a hk ha => by
      obtain ⟨σk, rfl, m1, m2⟩ := ha
      refine Or.inl ⟨((0 : Int32), nI (k + 1), nI 384, up2 σk (42 + c) k 0), ⟨_, rfl, fun t ht => ?_, fun a ha => by rw [up2_ne ha]; exact m2 a ha⟩, fun K => ?_⟩
      · by_cases e : t = k
        · subst e; rw [up2_at]
        · rw [up2_c e]; exact m1 t (by omega)
      · show b_J7_fill_53178_5 (42 + c) K 0 (nI k) (nI 384) σk = _
        unfold b_J7_fill_53178_5
        rw [if_neg (by rw [nI_leI (by omega) (by omega)]; omega), cnA hc, gd_t (ix_nI hk (by decide)), vl_d, vl_d, nt_nI (by omega), nI_1])
    (fun a ha => by
      obtain ⟨σk, rfl, m1, m2⟩ := ha
      refine ⟨_, ⟨σk, rfl, m1, m2⟩, fun K => ?_⟩
      show b_J7_fill_53178_5 (42 + c) K 0 (nI 384) (nI 384) σk = _
      unfold b_J7_fill_53178_5
      rw [if_pos (nI_le (Nat.le_refl _) (by decide))])
    (a := ((0 : Int32), 0, nI 384, σ)) ⟨σ, rfl, fun t ht => by omega, fun _ _ => rfl⟩
  refine ⟨σ', ?_, q1, q2⟩
  unfold f_J7_fill_53178
  rw [vl_d, cnA hc]
  exact hr
/-- the reference clears the air, then goes on: to what its end says -/
theorem m_air {c a : Nat} {τ : St} {e : Option (Int32 × St)} (hc : c < 4) (ha : a ≤ 384) (h17 : τ 0 17 = nI a) (hend : ∀ τ', (∀ t, t < a → τ' 34 (384 * c + t) = if t = 0 then 1 else 0) → (∀ k, k ≠ 34 → τ' k = τ k) → (∀ j, (j < 384 * c ∨ 384 * c + 384 ≤ j) → τ' 34 j = τ 34 j) → (∀ K, b_X8_part_2 K (nI c) (nI a) τ' = e)) : f_X8_part (nI c) τ = e := by
  refine lp_eq (b := fun K a => b_X8_part_2 K a.1 a.2.1 a.2.2) (fun k x => ∃ τk, x = (nI c, nI k, τk) ∧ (∀ t, t < k → τk 34 (384 * c + t) = if t = 0 then 1 else 0) ∧ (∀ k, k ≠ 34 → τk k = τ k) ∧ ∀ j, (j < 384 * c ∨ 384 * c + 384 ≤ j) → τk 34 j = τ 34 j) e a (by omega) (fun k x hk hx => ?_) (fun x hx K => ?_) ⟨τ, rfl, fun t ht => by omega, fun _ _ => rfl, fun _ _ => rfl⟩
  · obtain ⟨τk, rfl, m1, m2, m3⟩ := hx
    have e17 : τk 0 17 = nI a := by rw [m2 0 (by decide)]; exact h17
    have n0 : ¬ nI a ≤ nI k := by rw [nI_leI (by omega) (by omega)]; omega
    have ei : (384 : Int32) * nI c + nI k = nI (384 * c + k) := by rw [show (384 : Int32) = nI 384 from rfl, pk_mul, nI_add]
    refine ⟨(nI c, nI (k + 1), up2 τk 34 (384 * c + k) (if k = 0 then 1 else 0)), ⟨_, rfl, fun t ht => ?_, fun k' hk' => by rw [up2_ne hk']; exact m2 k' hk', fun j hj => by rw [up2_c (by omega)]; exact m3 j hj⟩, fun K => ?_⟩
    · by_cases e : t = k
      · subst e; rw [up2_at]
      · rw [up2_c (by omega)]; exact m1 t (by omega)
    · show b_X8_part_2 K (nI c) (nI k) τk = _
      unfold b_X8_part_2
      rw [e17, if_neg n0, ei, gd_t (ix_nI (show 384 * c + k < 1536 by omega) (by decide)), vl_d, vl_d, nt_nI (by omega), nI_1]
      by_cases h0 : k = 0
      · rw [if_pos (by rw [h0]; rfl), if_pos h0]
      · rw [if_neg (by rw [i_eq, t_nI k (by omega), t_lit 0 (by decide)]; omega), if_neg h0, gd_t (ix_nI (show 384 * c + k < 1536 by omega) (by decide)), vl_d, vl_d]
  · obtain ⟨τk, rfl, m1, m2, m3⟩ := hx
    exact hend τk m1 m2 m3 K
