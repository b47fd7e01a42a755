/-! pure words: numbers, loops, reading rows -/
theorem i_lt (a b : Int32) : (a < b) = (a.toInt < b.toInt) := propext Int32.lt_iff_toInt_lt
theorem i_le (a b : Int32) : (a ≤ b) = (a.toInt ≤ b.toInt) := propext Int32.le_iff_toInt_le
theorem i_eq (a b : Int32) : (a = b) = (a.toInt = b.toInt) := propext Int32.toInt_inj.symm
theorem t_lit (n : Nat) (h : n < 2147483648) : (OfNat.ofNat n : Int32).toInt = (n : Int) := nI_toInt h
theorem t_nI (n : Nat) (h : n < 2147483648) : (nI n).toInt = (n : Int) := nI_toInt h
theorem t_m1 : (-1 : Int32).toInt = -1 := by decide
theorem t_m2 : (-2 : Int32).toInt = -2 := by decide
theorem t_m3 : (-3 : Int32).toInt = -3 := by decide
theorem t_m4 : (-4 : Int32).toInt = -4 := by decide
theorem nI_of_toInt {x : Int32} {n : Nat} (h : x.toInt = n) : x = nI n := by
  have hb := x.toInt_lt
  have : n < 2147483648 := by omega
  rw [i_eq, h, t_nI n this]
theorem nt_nI {n : Nat} (h : n < 2147483648) : nt (nI n) = n := nI_clamp h
theorem ix_nI {i n : Nat} (h : i < n) (hn : n < 2147483648) : ix (nI i) n := nI_in h hn
theorem up2_at (σ : St) (k j : Nat) (v : Int32) : up2 σ k j v k j = v := by simp [up2, upd]
theorem up2_c {σ : St} {k j b : Nat} {v : Int32} (h : b ≠ j) : up2 σ k j v k b = σ k b := by simp [up2, upd, h]
theorem up2_r {σ : St} {k j a : Nat} {v : Int32} (h : a ≠ k) (b : Nat) : up2 σ k j v a b = σ a b := by simp [up2, h]
theorem up2_g (σ : St) (k j : Nat) (v : Int32) (a b : Nat) : up2 σ k j v a b = if a = k ∧ b = j then v else σ a b := by
  by_cases h : a = k
  · subst h
    by_cases h2 : b = j
    · subst h2; simp [up2_at]
    · simp [up2_c h2, h2]
  · simp [up2_r h, h]
theorem up2_self (σ : St) (k j : Nat) : up2 σ k j (σ k j) = σ := by
  funext a b
  rw [up2_g]
  split
  · rename_i h; rw [h.1, h.2]
  · rfl
/-- a loop by its counter: an invariant, steps that go on or end -/
theorem lp_inv {α ρ : Type} {b : (α → Option ρ) → α → Option ρ} (I : Nat → α → Prop) (Q : ρ → Prop) (hi : Nat)
    (hs : ∀ i a, i < hi → I i a → (∃ a', I (i + 1) a' ∧ ∀ K, b K a = K a') ∨ ∃ r, Q r ∧ ∀ K, b K a = some r)
    (he : ∀ a, I hi a → ∃ r, Q r ∧ ∀ K, b K a = some r) : ∀ n i a, I i a → i ≤ hi → hi - i < n → ∃ r, lp b n a = some r ∧ Q r := by
  intro n
  induction n with
  | zero => intro i a _ _ h; omega
  | succ n ih =>
    intro i a hI hle hlt
    by_cases h : i = hi
    · subst h
      obtain ⟨r, hr, hk⟩ := he a hI
      exact ⟨r, hk _, hr⟩
    · rcases hs i a (by omega) hI with ⟨a', hI', hk⟩ | ⟨r, hr, hk⟩
      · obtain ⟨r, h1, h2⟩ := ih (i + 1) a' hI' (by omega) (by omega)
        exact ⟨r, (hk _).trans h1, h2⟩
      · exact ⟨r, hk _, hr⟩
theorem lp_FU {α ρ : Type} {b : (α → Option ρ) → α → Option ρ} (I : Nat → α → Prop) (Q : ρ → Prop) (hi : Nat) (hhi : hi < 3000)
    (hs : ∀ i a, i < hi → I i a → (∃ a', I (i + 1) a' ∧ ∀ K, b K a = K a') ∨ ∃ r, Q r ∧ ∀ K, b K a = some r)
    (he : ∀ a, I hi a → ∃ r, Q r ∧ ∀ K, b K a = some r) {a : α} (h0 : I 0 a) : ∃ r, lp b FU a = some r ∧ Q r :=
  lp_inv I Q hi hs he FU 0 a h0 (Nat.zero_le _) (by unfold FU; omega)
theorem w64 (p : Int32) : p.toInt64.toInt = p.toInt := by simp
theorem t64 (n : Nat) (h : n < 9223372036854775808) : (OfNat.ofNat n : Int64).toInt = (n : Int) := by
  have : (OfNat.ofNat n : Int64) = Int64.ofNat n := rfl
  rw [this]
  exact pk_lT h
/-- the reference's in: within bounds -/
theorem in_r (x lo hi : Int64) (τ : St) : f_X8_in x lo hi τ = some (if lo.toInt ≤ x.toInt ∧ x.toInt ≤ hi.toInt then 1 else 0, τ) := by
  have e1 : (lg_cmp x lo < 0) = (x.toInt < lo.toInt) := by
    unfold lg_cmp
    apply propext
    by_cases h1 : x > lo
    · rw [if_pos h1]
      have := Int64.lt_iff_toInt_lt.mp h1
      constructor
      · intro h; exact absurd h (by decide)
      · intro h; omega
    · rw [if_neg h1]
      by_cases h2 : x = lo
      · rw [if_pos h2]
        constructor
        · intro h; exact absurd h (by decide)
        · intro h; rw [h2] at h; omega
      · rw [if_neg h2]
        have n1 : ¬ lo.toInt < x.toInt := fun h => h1 (Int64.lt_iff_toInt_lt.mpr h)
        have n2 : ¬ x.toInt = lo.toInt := fun h => h2 (Int64.toInt_inj.mp h)
        constructor
        · intro _; omega
        · intro _; decide
  have e2 : (0 < lg_cmp x hi) = (hi.toInt < x.toInt) := by
    unfold lg_cmp
    apply propext
    by_cases h1 : x > hi
    · rw [if_pos h1]
      have := Int64.lt_iff_toInt_lt.mp h1
      constructor
      · intro _; exact this
      · intro _; decide
    · rw [if_neg h1]
      have n1 : ¬ hi.toInt < x.toInt := fun h => h1 (Int64.lt_iff_toInt_lt.mpr h)
      by_cases h2 : x = hi
      · rw [if_pos h2]
        constructor
        · intro h; exact absurd h (by decide)
        · intro h; exact absurd h n1
      · rw [if_neg h2]
        constructor
        · intro h; exact absurd h (by decide)
        · intro h; exact absurd h n1
  unfold f_X8_in
  simp only [e1, e2]
  by_cases h1 : x.toInt < lo.toInt
  · rw [if_pos h1, if_neg (by omega)]
  · rw [if_neg h1]
    by_cases h2 : hi.toInt < x.toInt
    · rw [if_pos h2, if_neg (by omega)]
    · rw [if_neg h2, if_pos (by omega)]
theorem in_t {p : Int32} {lo hi : Int64} {τ : St} (h1 : lo.toInt ≤ p.toInt) (h2 : p.toInt ≤ hi.toInt) : f_X8_in p.toInt64 lo hi τ = some (1, τ) := by
  rw [in_r, w64, if_pos ⟨h1, h2⟩]
theorem in_f {p : Int32} {lo hi : Int64} {τ : St} (h : ¬ (lo.toInt ≤ p.toInt ∧ p.toInt ≤ hi.toInt)) : f_X8_in p.toInt64 lo hi τ = some (0, τ) := by
  rw [in_r, w64, if_neg h]
theorem cl_some {α β : Type} (r : α) (σ : St) (k : α → St → Option β) : cl (some (r, σ)) k = k r σ := rfl
theorem vl_d {α β : Type} (x : α) (k : α → β) : vl x k = k x := rfl
theorem oc_none {β : Type} (a : Option β) (b : Nat → Option β) : oc none a b = a := rfl
theorem oc_some {β : Type} (d : Nat) (a : Option β) (b : Nat → Option β) : oc (some d) a b = b d := rfl
