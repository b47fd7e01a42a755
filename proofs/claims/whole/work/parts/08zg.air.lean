/-! the air, empty but for the beacon -/
theorem cnA {c : Nat} (hc : c < 4) : cn (42 + c) = 384 := by
  have : c = 0 ∨ c = 1 ∨ c = 2 ∨ c = 3 := by omega
  rcases this with rfl | rfl | rfl | rfl <;> rfl
theorem c_fill {c : Nat} {σ : St} (hc : c < 4) : ∃ σ', f_J7_fill_53178 (42 + c) 0 σ = some ((), σ') ∧ (∀ t, t < 384 → σ' (42 + c) t = 0) ∧ ∀ a, a ≠ 42 + c → σ' a = σ a := by
  obtain ⟨r, hr, σ', rfl, q1, q2⟩ := lp_FU (b := fun K a => b_J7_fill_53178_5 (42 + c) K a.1 a.2.1 a.2.2.1 a.2.2.2) (fun k a => ∃ σk, a = ((0 : Int32), nI k, nI 384, σk) ∧ (∀ t, t < k → σk (42 + c) t = 0) ∧ ∀ a, a ≠ 42 + c → σk a = σ a) (fun r => ∃ σ', r = ((), σ') ∧ (∀ t, t < 384 → σ' (42 + c) t = 0) ∧ ∀ a, a ≠ 42 + c → σ' a = σ a) 384 (by decide)
    (fun k a hk ha => by
      obtain ⟨σk, rfl, m1, m2⟩ := ha
      refine Or.inl ⟨((0 : Int32), nI (k + 1), nI 384, up2 σk (42 + c) k 0), ⟨_, rfl, fun t ht => ?_, fun a ha => by rw [up2_ne ha]; exact m2 a ha⟩, fun K => ?_⟩
      · by_cases e : t = k
        · subst e; rw [up2_at]
        · rw [up2_c e]; exact m1 t (by omega)
      · show b_J7_fill_53178_5 (42 + c) K 0 (nI k) (nI 384) σk = _
        unfold b_J7_fill_53178_5
        rw [if_neg (by rw [nI_leI (by omega) (by omega)]; omega), cnA hc, gd_t (ix_nI hk (by decide)), vl_d, vl_d, nt_nI (by omega), nI_1])
    (fun a ha => by
      obtain ⟨σk, rfl, m1, m2⟩ := ha
      refine ⟨_, ⟨σk, rfl, m1, m2⟩, fun K => ?_⟩
      show b_J7_fill_53178_5 (42 + c) K 0 (nI 384) (nI 384) σk = _
      unfold b_J7_fill_53178_5
      rw [if_pos (nI_le (Nat.le_refl _) (by decide))])
    (a := ((0 : Int32), 0, nI 384, σ)) ⟨σ, rfl, fun t ht => by omega, fun _ _ => rfl⟩
  refine ⟨σ', ?_, q1, q2⟩
  unfold f_J7_fill_53178
  rw [vl_d, cnA hc]
  exact hr
