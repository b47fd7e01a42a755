/-! before and after the shared ticks -/
theorem m_airQ {c a : Nat} {τ : St} {Q : Int32 × St → Prop} (hc : c < 4) (ha : a ≤ 384) (h17 : τ 0 17 = nI a) (hend : ∀ τ', (∀ t, t < a → τ' 34 (384 * c + t) = if t = 0 then 1 else 0) → (∀ k, k ≠ 34 → τ' k = τ k) → (∀ j, (j < 384 * c ∨ 384 * c + 384 ≤ j) → τ' 34 j = τ 34 j) → ∃ r, Q r ∧ ∀ K, b_X8_part_2 K (nI c) (nI a) τ' = some r) : ∃ r, f_X8_part (nI c) τ = some r ∧ Q r := by
  refine lp_FU (b := fun K a => b_X8_part_2 K a.1 a.2.1 a.2.2) (fun k x => ∃ τk, x = (nI c, nI k, τk) ∧ (∀ t, t < k → τk 34 (384 * c + t) = if t = 0 then 1 else 0) ∧ (∀ k, k ≠ 34 → τk k = τ k) ∧ ∀ j, (j < 384 * c ∨ 384 * c + 384 ≤ j) → τk 34 j = τ 34 j) Q a (by omega) (fun k x hk hx => ?_) (fun x hx => ?_) ⟨τ, rfl, fun t ht => by omega, fun _ _ => rfl, fun _ _ => rfl⟩
  · obtain ⟨τk, rfl, m1, m2, m3⟩ := hx
    have e17 : τk 0 17 = nI a := by rw [m2 0 (by decide)]; exact h17
    have n0 : ¬ nI a ≤ nI k := by rw [nI_leI (by omega) (by omega)]; omega
    have ei : (384 : Int32) * nI c + nI k = nI (384 * c + k) := by rw [show (384 : Int32) = nI 384 from rfl, pk_mul, nI_add]
    refine Or.inl ⟨(nI c, nI (k + 1), up2 τk 34 (384 * c + k) (if k = 0 then 1 else 0)), ⟨_, rfl, fun t ht => ?_, fun k' hk' => by rw [up2_ne hk']; exact m2 k' hk', fun j hj => by rw [up2_c (by omega)]; exact m3 j hj⟩, fun K => ?_⟩
    · by_cases e : t = k
      · subst e; rw [up2_at]
      · rw [up2_c (by omega)]; exact m1 t (by omega)
    · show b_X8_part_2 K (nI c) (nI k) τk = _
      unfold b_X8_part_2
      rw [e17, if_neg n0, ei, gd_t (ix_nI (show 384 * c + k < 1536 by omega) (by decide)), vl_d, vl_d, nt_nI (by omega), nI_1]
      by_cases h0 : k = 0
      · rw [if_pos (by rw [h0]; rfl), if_pos h0]
      · rw [if_neg (by rw [i_eq, t_nI k (by omega), t_lit 0 (by decide)]; omega), if_neg h0, gd_t (ix_nI (show 384 * c + k < 1536 by omega) (by decide)), vl_d, vl_d]
  · obtain ⟨τk, rfl, m1, m2, m3⟩ := hx
    exact hend τk m1 m2 m3
theorem m4nI (c : Nat) (hc : c < 4) : ¬ nI c = (-4 : Int32) := by
  rw [i_eq, t_nI c (by omega), t_m4]
  omega
theorem hr15 (c : Int32) (r : Rw) : rHr c r 15 = 0 ∨ rHr c r 15 = 1 := by
  unfold rHr
  by_cases h1 : r 1 = c
  · rw [if_pos h1]
    by_cases h9 : r 9 = 0
    · rw [if_pos h9, upd_s]; exact Or.inr rfl
    · rw [if_neg h9, upd_s]; exact Or.inl rfl
  · rw [if_neg h1, upd_s]; exact Or.inl rfl
theorem hr_ok {nc c : Nat} {r : Rw} (hnc : nc ≤ 4) (hc : c < nc) (h : dI nc r) : hOk c r := by
  obtain ⟨a1, a2, a3, a5, ⟨x, x1, x2, x3⟩, a9, _⟩ := h
  exact ⟨a9, fun q => ⟨x, x3 (by rw [q]; exact m4nI c (by omega)), x2⟩⟩
theorem hr_dI {nc c : Nat} {r : Rw} (hnc : nc ≤ 4) (hc : c < nc) (h : dI nc r) : dI nc (rHr (nI c) r) := by
  obtain ⟨a1, a2, a3, a5, ⟨x, x1, x2, x3⟩, ⟨y, y1, y2⟩, a10, a11, a12, a13⟩ := h
  unfold rHr
  by_cases h1 : r 1 = nI c
  · rw [if_pos h1]
    by_cases h9 : r 9 = 0
    · rw [if_pos h9]
      exact ⟨a1, a2, a3, a5, ⟨0, by decide, rfl, fun _ => by decide⟩, ⟨y, y1, y2⟩, a10, a11, a12, a13⟩
    · rw [if_neg h9]
      have hx3 := x3 (by rw [h1]; exact m4nI c (by omega))
      have y0 : 1 ≤ y := by
        rw [y2, i_eq, t_nI _ (by omega), t_lit 0 (by decide)] at h9
        omega
      have e9 : r 9 - 1 = nI (y - 1) := by rw [y2, show (1 : Int32) = nI 1 from rfl, nI_m _ _ y0]
      have e8 : r 8 + 1 = nI (x + 1) := by rw [x2, nI_1]
      by_cases h4 : r 8 + 1 = 4
      · rw [if_pos h4]
        exact ⟨Or.inl rfl, a2, a3, a5, ⟨x + 1, by omega, e8, fun q => absurd rfl q⟩, ⟨y - 1, by omega, e9⟩, a10, a11, a12, a13⟩
      · rw [if_neg h4]
        have hx2 : x ≤ 2 := by
          rw [e8, i_eq, t_nI _ (by omega), t_lit 4 (by decide)] at h4
          omega
        exact ⟨a1, a2, a3, a5, ⟨x + 1, by omega, e8, fun _ => by omega⟩, ⟨y - 1, by omega, e9⟩, a10, a11, a12, a13⟩
  · rw [if_neg h1]
    exact ⟨a1, a2, a3, a5, ⟨x, x1, x2, x3⟩, ⟨y, y1, y2⟩, a10, a11, a12, a13⟩
theorem dI_W {nc t T : Nat} {r : Rw} (h : dI nc r) (h15 : r 15 = 0 ∨ r 15 = 1) : dW r ∧ dJ t T r := by
  obtain ⟨a1, a2, a3, a5, a8, a9, a10, a11, ⟨x, x1, x2, x3⟩, a13⟩ := h
  have n : ∀ v : Int32, ¬ v = 0 → ¬ v = 3 → ¬ r 10 = v := by
    intro v h0 h3 q
    rcases a10 with z | z
    · exact h0 (q.symm.trans z)
    · exact h3 (q.symm.trans z)
  refine ⟨⟨h15, a11, a3, a2, ?_, ⟨x, x1, x2, fun q => x3 (a10.resolve_left q)⟩, a13, fun q => absurd q (n 1 (by decide) (by decide)), fun q => absurd q (n 2 (by decide) (by decide)), fun q => absurd q (n 4 (by decide) (by decide))⟩, fun _ => a10, fun q => absurd q (n 2 (by decide) (by decide)), fun q => absurd q (n 4 (by decide) (by decide))⟩
  rcases a10 with z | z
  · exact Or.inl z
  · exact Or.inr (Or.inr (Or.inr (Or.inl z)))
theorem end_dI {nc T : Nat} {r r1 : Rw} (hw : dW r) (hj : dJ T T r) (hk : ∀ j, kpl j → r j = r1 j) (h1 : dI nc r1) : dI nc (rHold r) := by
  obtain ⟨b15, b11, b3, b2, b10, ⟨l, l1, l2, l3⟩, b13, _, _, _⟩ := hw
  obtain ⟨a1, a2, a3, a5, a8, a9, _⟩ := h1
  have k1 : kpl 1 := Or.inl rfl
  have k5 : kpl 5 := Or.inr (Or.inr (Or.inr (Or.inl rfl)))
  have k8 : kpl 8 := Or.inr (Or.inr (Or.inr (Or.inr (Or.inl rfl))))
  have k9 : kpl 9 := Or.inr (Or.inr (Or.inr (Or.inr (Or.inr (Or.inl rfl)))))
  rw [← hk 1 k1] at a1 a8
  rw [← hk 5 k5] at a5
  rw [← hk 8 k8] at a8
  rw [← hk 9 k9] at a9
  have n2 : ¬ r 10 = 2 := by
    intro q
    obtain ⟨f, x, j1, j2, j3, j4, j5, j6⟩ := hj.2.1 q
    omega
  have n4 : ¬ r 10 = 4 := by
    intro q
    obtain ⟨x, j1, j2, j3, j4⟩ := hj.2.2 q
    omega
  unfold rHold
  by_cases h15 : r 15 = 1
  · rw [if_pos h15]
    by_cases e1 : r 10 = 1
    · rw [if_pos e1]
      exact ⟨a1, b2, b3, a5, a8, a9, Or.inr rfl, b11, ⟨l, l1, l2, fun _ => l3 (by rw [e1]; decide)⟩, b13⟩
    · rw [if_neg e1, if_neg n2]
      have z : r 10 = 0 ∨ r 10 = 3 := by
        rcases b10 with z | z | z | z | z
        · exact Or.inl z
        · exact absurd z e1
        · exact absurd z n2
        · exact Or.inr z
        · exact absurd z n4
      exact ⟨a1, b2, b3, a5, a8, a9, z, b11, ⟨l, l1, l2, fun q => l3 (by rw [q]; decide)⟩, b13⟩
  · rw [if_neg h15]
    exact ⟨a1, b2, b3, a5, a8, a9, hj.1 h15, b11, ⟨l, l1, l2, fun q => l3 (by rw [q]; decide)⟩, b13⟩
theorem dI.u {nc : Nat} {r r' : Rw} (h : dI nc r) (e : ∀ j, j ≠ 5 → j ≠ 6 → r' j = r j) (h5 : ∃ y, y ≤ 99 ∧ r' 5 = nI y) : dI nc r' := by
  unfold dI at h ⊢
  rw [e 1 (by decide) (by decide), e 2 (by decide) (by decide), e 3 (by decide) (by decide), e 8 (by decide) (by decide), e 9 (by decide) (by decide), e 10 (by decide) (by decide), e 11 (by decide) (by decide), e 12 (by decide) (by decide), e 13 (by decide) (by decide)]
  exact ⟨h.1, h.2.1, h.2.2.1, h5, h.2.2.2.2⟩
theorem pM.u {nd c i : Nat} {L : List Pr} {τ τ' : St} (h : pM L i τ) (hl : L.length ≤ 7) (hne : i ≠ c) (hf : fmU nd c τ τ') : pM L i τ' := by
  refine ⟨by rw [hf.1 30 (by decide) (by decide) (by decide) (by decide)]; exact h.1, fun k q hq => ?_⟩
  have hk := (List.getElem?_eq_some_iff.mp hq).1
  rw [hf.1 31 (by decide) (by decide) (by decide) (by decide), hf.1 32 (by decide) (by decide) (by decide) (by decide), hf.2.2.1 (7 * i + k) (by omega)]
  exact h.2 k q hq
/-- the relation, with any bound of the clock -/
def rGb (b nc nd B S le li : Nat) (σ τ : St) : Prop :=
  rN nc nd B S le li ∧ ((σ 0 6 = 0 ∧ σ 0 7 = 1) ∨ (σ 0 6 = 1 ∧ σ 0 7 = 0)) ∧ rL nc nd B S le li (σ (LA σ)) ∧ rM nc nd B S le li τ ∧
  (∃ N, N ≤ b ∧ σ 0 8 = nI N ∧ τ 0 21 = nI N) ∧ σ 0 9 = τ 0 23 ∧ ∃ sd, sd ≤ 65520 ∧ σ 6 2 = nI sd ∧ τ 0 22 = nI sd
def rCob (b nc : Nat) (σ τ : St) : Prop := ∀ c, c < nc → σ (22 + c) 0 = τ 25 c ∧ (∃ m, m < 256 ∧ σ (22 + c) 2 = nI m ∧ τ 29 c = nI m) ∧ (∃ x, x ≤ b ∧ σ (22 + c) 3 = nI x ∧ τ 27 c = nI x) ∧ σ (22 + c) 4 = τ 28 c
def RX (b nc nd B S le li : Nat) (ps : Nat → List Pr) (σ τ : St) : Prop := rGb b nc nd B S le li σ τ ∧ rS nc B σ τ ∧ rT σ τ ∧ rCa σ τ ∧ rCob b nc σ τ ∧ rZ nc σ ∧ rP nc nd le ps σ τ ∧ rA nc S σ τ ∧ rD nc nd σ τ
theorem pow3 (S : Nat) (h : S ≤ 3) : 1 ≤ 2 ^ S ∧ 2 ^ S ≤ 8 := ⟨pow_le (Nat.zero_le S), pow_le h⟩
theorem pow5 (S : Nat) (h : S ≤ 5) : 1 ≤ 2 ^ S ∧ 2 ^ S ≤ 32 := ⟨pow_le (Nat.zero_le S), pow_le h⟩
