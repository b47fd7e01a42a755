/-! whose beacon comes next -/
theorem lp_eq {α ρ : Type} {b : (α → Option ρ) → α → Option ρ} (I : Nat → α → Prop) (e : Option ρ) (hi : Nat) (hhi : hi < 3000) (hs : ∀ i a, i < hi → I i a → ∃ a', I (i + 1) a' ∧ ∀ K, b K a = K a') (he : ∀ a, I hi a → ∀ K, b K a = e) {a : α} (h0 : I 0 a) : lp b FU a = e := by
  have key : ∀ n i a, I i a → i ≤ hi → hi - i < n → lp b n a = e := by
    intro n
    induction n with
    | zero => intro i a _ _ h; omega
    | succ n ih =>
      intro i a hI hle hlt
      by_cases h : i = hi
      · subst h
        exact he a hI _
      · obtain ⟨a', hI', hk⟩ := hs i a (by omega) hI
        exact (hk _).trans (ih (i + 1) a' hI' (by omega) (by omega))
  exact key FU 0 a h0 (Nat.zero_le _) (by unfold FU; omega)
def nxF (f : Nat → Int32) : Nat → Nat
  | 0 => 0
  | k + 1 => if f (nxF f k) ≤ f (k + 1) then nxF f k else k + 1
theorem nxF_le (f : Nat → Int32) : ∀ k, nxF f k ≤ k := by
  intro k
  induction k with
  | zero => exact Nat.le_refl _
  | succ k ih =>
    show (if f (nxF f k) ≤ f (k + 1) then nxF f k else k + 1) ≤ k + 1
    split <;> omega
theorem nxF_cg {f g : Nat → Int32} : ∀ k, (∀ c, c ≤ k → f c = g c) → nxF f k = nxF g k := by
  intro k
  induction k with
  | zero => exact fun _ => rfl
  | succ k ih =>
    intro h
    have e := ih (fun c hc => h c (by omega))
    show (if f (nxF f k) ≤ f (k + 1) then nxF f k else k + 1) = if g (nxF g k) ≤ g (k + 1) then nxF g k else k + 1
    rw [e, h (nxF g k) (by have := nxF_le g k; omega), h (k + 1) (Nat.le_refl _)]
theorem c_next {nc : Nat} {σ : St} (h1 : 1 ≤ nc) (hnc : nc ≤ 4) (h5 : σ (LA σ) 5 = nI nc) : f_X7_nextToBeacon σ = some (nI (nxF (fun c => σ (22 + c) 3) (nc - 1)), σ) := by
  refine lp_eq (b := fun K a => b_X7_nextToBeacon_4 K a.1 a.2.1 a.2.2) (fun k a => a = (nI (nxF (fun c => σ (22 + c) 3) k), nI (k + 1), σ)) _ (nc - 1) (by omega) (fun k a hk ha => ?_) (fun a ha K => ?_) rfl
  · subst ha
    have hle := nxF_le (fun c => σ (22 + c) 3) k
    refine ⟨_, rfl, fun K => ?_⟩
    show b_X7_nextToBeacon_4 K (nI (nxF (fun c => σ (22 + c) 3) k)) (nI (k + 1)) σ = K (nI (if σ (22 + nxF (fun c => σ (22 + c) 3) k) 3 ≤ σ (22 + (k + 1)) 3 then nxF (fun c => σ (22 + c) 3) k else k + 1), nI (k + 1 + 1), σ)
    unfold b_X7_nextToBeacon_4
    rw [h5, if_neg (by rw [nI_leI (by omega) (by omega)]; omega), if_neg (by rw [i_le, t_lit 4 (by decide), t_nI _ (by omega)]; omega), gd_t (ix_nI (by omega) (by decide)), vl_d, gd_t (ix_nI (by omega) (by decide)), vl_d, nt_nI (by omega), nt_nI (by omega)]
    by_cases h : σ (22 + nxF (fun c => σ (22 + c) 3) k) 3 ≤ σ (22 + (k + 1)) 3
    · rw [if_pos h, if_pos h, vl_d, nI_1]
    · rw [if_neg h, if_neg h, vl_d, nI_1]
  · subst ha
    show b_X7_nextToBeacon_4 K (nI (nxF (fun c => σ (22 + c) 3) (nc - 1))) (nI (nc - 1 + 1)) σ = _
    unfold b_X7_nextToBeacon_4
    rw [h5, if_pos (nI_le (by omega) (by omega))]
theorem m_next {nc : Nat} {τ : St} {a1 a2 a3 : Int32} {K18 : Int32 × Int32 × Int32 × St → Option (Int32 × St)} (h1 : 1 ≤ nc) (hnc : nc ≤ 4) (h24 : τ 0 24 = nI nc) : lp (fun K a => b_X8_run_29 K K18 a.1 a.2.1 a.2.2.1 a.2.2.2.1 a.2.2.2.2.1 a.2.2.2.2.2) FU (a1, a2, a3, (0 : Int32), (1 : Int32), τ) = (cl (f_X8_part (nI (nxF (fun c => τ 27 c) (nc - 1))) τ) fun r8 σ7 => vl (a2 + r8) fun x10 => vl (a3 + (1 : Int32)) fun x11 => K18 (a1, x10, x11, σ7)) := by
  refine lp_eq (b := fun K a => b_X8_run_29 K K18 a.1 a.2.1 a.2.2.1 a.2.2.2.1 a.2.2.2.2.1 a.2.2.2.2.2) (fun k a => a = (a1, a2, a3, nI (nxF (fun c => τ 27 c) k), nI (k + 1), τ)) _ (nc - 1) (by omega) (fun k a hk ha => ?_) (fun a ha K => ?_) rfl
  · subst ha
    have hle := nxF_le (fun c => τ 27 c) k
    refine ⟨_, rfl, fun K => ?_⟩
    show b_X8_run_29 K K18 a1 a2 a3 (nI (nxF (fun c => τ 27 c) k)) (nI (k + 1)) τ = K (a1, a2, a3, nI (if τ 27 (nxF (fun c => τ 27 c) k) ≤ τ 27 (k + 1) then nxF (fun c => τ 27 c) k else k + 1), nI (k + 1 + 1), τ)
    unfold b_X8_run_29
    rw [h24, if_neg (by rw [nI_leI (by omega) (by omega)]; omega), gd_t (ix_nI (by omega) (by decide)), gd_t (ix_nI (by omega) (by decide)), nt_nI (by omega), nt_nI (by omega)]
    by_cases h : τ 27 (nxF (fun c => τ 27 c) k) ≤ τ 27 (k + 1)
    · rw [if_pos h, if_pos h, vl_d, nI_1]
    · rw [if_neg h, if_neg h, vl_d, nI_1]
  · subst ha
    show b_X8_run_29 K K18 a1 a2 a3 (nI (nxF (fun c => τ 27 c) (nc - 1))) (nI (nc - 1 + 1)) τ = _
    unfold b_X8_run_29
    rw [h24, if_pos (nI_le (by omega) (by omega))]
