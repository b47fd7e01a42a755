/-! promises: both sides against a list -/
theorem pS_take {l : List Pr} {k : Nat} {q : Pr} (h : l[k]? = some q) : pS (l.take (k + 1)) = pS (l.take k) + q.2.1 := by
  unfold pS
  rw [List.take_add_one, h]
  simp
theorem pS_le (l : List Pr) (k : Nat) : pS (l.take k) ≤ pS l := by
  have h : pS l = pS (l.take k) + pS (l.drop k) := by
    unfold pS
    rw [← List.sum_append, ← List.map_append, List.take_append_drop]
  omega
theorem pS_all (l : List Pr) : pS (l.take l.length) = pS l := by rw [List.take_length]
theorem nI_m (a b : Nat) (h : b ≤ a) : nI a - nI b = nI (a - b) := pk_sub h
theorem get_lt {l : List Pr} {k : Nat} (h : k < l.length) : ∃ q, l[k]? = some q := ⟨l[k], List.getElem?_eq_getElem h⟩
theorem m7 (c k : Nat) : (7 : Int32) * nI c + nI k = nI (7 * c + k) := by
  rw [show (7 : Int32) = nI 7 from rfl, pk_mul, nI_add]
theorem c_first {l : List Pr} {c : Nat} {σ : St} (h : pC l c σ) (hl : l.length ≤ 7) (hs : pS l ≤ 16) {i : Nat} (hi : i < l.length) : f_X4_firstSlot c (nI i) σ = some (nI (16 - pS (l.take (i + 1))), σ) := by
  obtain ⟨r, hr, rfl⟩ := lp_FU (b := fun K a => b_X4_firstSlot_5 c K a.1 a.2.1 a.2.2.1 a.2.2.2) (fun k a => a = (nI i, nI (16 - pS (l.take k)), nI k, σ)) (fun r => r = (nI (16 - pS (l.take (i + 1))), σ)) (i + 1) (by omega)
    (fun k a hk ha => by
      subst ha
      obtain ⟨q, hq⟩ := get_lt (show k < l.length by omega)
      have e := h.2 k q hq
      refine Or.inl ⟨(nI i, nI (16 - pS (l.take (k + 1))), nI (k + 1), σ), rfl, fun K => ?_⟩
      have h1 := pS_take hq
      have h2 := pS_le l (k + 1)
      show b_X4_firstSlot_5 c K (nI i) _ (nI k) σ = _
      unfold b_X4_firstSlot_5
      rw [if_neg (nI_nlt (by omega) (by omega)), h.1, if_neg (by rw [nI_leI (by omega) (by omega)]; omega), if_neg (by rw [nI_leI (by omega) (by omega)]; omega), gd_t (ix_nI (by omega) (by decide)), vl_d, vl_d, nt_nI (by omega), e.2.1, nI_m _ _ (by omega), nI_1]
      rw [show 16 - pS (l.take k) - q.2.1 = 16 - pS (l.take (k + 1)) by omega])
    (fun a ha => by
      subst ha
      refine ⟨_, rfl, fun K => ?_⟩
      show b_X4_firstSlot_5 c K (nI i) _ (nI (i + 1)) σ = _
      unfold b_X4_firstSlot_5
      rw [if_pos (nI_lt (by omega) (by omega))])
    (a := (nI i, 16, 0, σ)) (by simp [pS]; decide)
  exact hr
theorem c_shared {l : List Pr} {c : Nat} {σ : St} (h : pC l c σ) (hl : l.length ≤ 7) (hs : pS l ≤ 16) : f_X4_sharedSlots c σ = some (nI (16 - pS l), σ) := by
  unfold f_X4_sharedSlots
  rw [h.1]
  cases hn : l.length with
  | zero =>
    have : l = [] := List.eq_nil_of_length_eq_zero hn
    subst this
    rw [show f_X4_firstSlot c (nI 0 - 1) σ = some (nI 16, σ) from by
      unfold f_X4_firstSlot FU
      show b_X4_firstSlot_5 c _ (nI 0 - 1) 16 0 σ = _
      unfold b_X4_firstSlot_5
      rw [if_pos (by decide)]
      rfl]
    rfl
  | succ m =>
    rw [nI_pred, c_first h hl hs (by omega), ← hn, pS_all]
    rfl
theorem m_first {l : List Pr} {c : Nat} {τ : St} (h : pM l c τ) (hc : c < 4) (hl : l.length ≤ 7) (hs : pS l ≤ 16) {i : Nat} (hi : i < l.length) : f_X8_firstSlot (nI c) (nI i) τ = some (nI (16 - pS (l.take (i + 1))), τ) := by
  obtain ⟨r, hr, rfl⟩ := lp_FU (b := fun K a => b_X8_firstSlot_6 K a.1 a.2.1 a.2.2.1 a.2.2.2.1 a.2.2.2.2) (fun k a => a = (nI c, nI i, nI (16 - pS (l.take k)), nI k, τ)) (fun r => r = (nI (16 - pS (l.take (i + 1))), τ)) (i + 1) (by omega)
    (fun k a hk ha => by
      subst ha
      obtain ⟨q, hq⟩ := get_lt (show k < l.length by omega)
      have e := h.2 k q hq
      refine Or.inl ⟨(nI c, nI i, nI (16 - pS (l.take (k + 1))), nI (k + 1), τ), rfl, fun K => ?_⟩
      have h1 := pS_take hq
      have h2 := pS_le l (k + 1)
      show b_X8_firstSlot_6 K (nI c) (nI i) _ (nI k) τ = _
      unfold b_X8_firstSlot_6
      rw [if_neg (nI_nlt (by omega) (by omega)), m7, gd_t (ix_nI (by omega) (by decide)), vl_d, vl_d, nt_nI (by omega), e.2.1, nI_m _ _ (by omega), nI_1]
      rw [show 16 - pS (l.take k) - q.2.1 = 16 - pS (l.take (k + 1)) by omega])
    (fun a ha => by
      subst ha
      refine ⟨_, rfl, fun K => ?_⟩
      show b_X8_firstSlot_6 K (nI c) (nI i) _ (nI (i + 1)) τ = _
      unfold b_X8_firstSlot_6
      rw [if_pos (nI_lt (by omega) (by omega))])
    (a := (nI c, nI i, 16, 0, τ)) (by simp [pS]; decide)
  exact hr
theorem m_taken {l : List Pr} {c : Nat} {τ : St} (h : pM l c τ) (hc : c < 4) (hl : l.length ≤ 7) (hs : pS l ≤ 16) : f_X8_taken (nI c) τ = some (nI (pS l), τ) := by
  obtain ⟨r, hr, rfl⟩ := lp_FU (b := fun K a => b_X8_taken_4 K a.1 a.2.1 a.2.2.1 a.2.2.2) (fun k a => a = (nI c, nI (pS (l.take k)), nI k, τ)) (fun r => r = (nI (pS l), τ)) l.length (by omega)
    (fun k a hk ha => by
      subst ha
      obtain ⟨q, hq⟩ := get_lt hk
      have e := h.2 k q hq
      refine Or.inl ⟨(nI c, nI (pS (l.take (k + 1))), nI (k + 1), τ), rfl, fun K => ?_⟩
      have h1 := pS_take hq
      show b_X8_taken_4 K (nI c) _ (nI k) τ = _
      unfold b_X8_taken_4
      rw [gd_t (ix_nI hc (by decide)), nt_nI (by omega), h.1, if_neg (by rw [nI_leI (by omega) (by omega)]; omega), m7, gd_t (ix_nI (by omega) (by decide)), vl_d, vl_d, nt_nI (by omega), e.2.1, nI_add, nI_1, h1])
    (fun a ha => by
      subst ha
      refine ⟨_, rfl, fun K => ?_⟩
      show b_X8_taken_4 K (nI c) _ (nI l.length) τ = _
      unfold b_X8_taken_4
      rw [gd_t (ix_nI hc (by decide)), nt_nI (by omega), h.1, if_pos (nI_le (Nat.le_refl _) (by omega)), pS_all])
    (a := (nI c, 0, 0, τ)) (by simp [pS]; decide)
  exact hr
theorem m_shared {l : List Pr} {c : Nat} {τ : St} (h : pM l c τ) (hc : c < 4) (hl : l.length ≤ 7) (hs : pS l ≤ 16) : f_X8_shared (nI c) τ = some (nI (16 - pS l), τ) := by
  unfold f_X8_shared
  rw [m_taken h hc hl hs, cl_some, show (16 : Int32) = nI 16 from rfl, nI_m _ _ hs]
/-- the place of a device's promise, as both sides tell it -/
def pX (l : List Pr) (d : Nat) : Int32 := match l.findIdx? (fun q => q.1 == d) with
  | none => -4
  | some i => nI i
theorem pX_none {l : List Pr} {d : Nat} (h : ∀ q ∈ l, q.1 ≠ d) : pX l d = -4 := by
  unfold pX
  rw [List.findIdx?_eq_none_iff.mpr (fun q hq => by simp [h q hq])]
theorem pX_some {l : List Pr} {d i : Nat} {q : Pr} (hq : l[i]? = some q) (hd : q.1 = d) (hn : ∀ j, j < i → ∀ q', l[j]? = some q' → q'.1 ≠ d) : pX l d = nI i := by
  obtain ⟨hi, hg⟩ := List.getElem?_eq_some_iff.mp hq
  unfold pX
  rw [List.findIdx?_eq_some_iff_getElem.mpr ⟨hi, by rw [hg]; simp [hd], fun j hj => by
    have := hn j hj l[j] (List.getElem?_eq_getElem (by omega))
    simpa using this⟩]
theorem pX_cases (l : List Pr) (d : Nat) : (pX l d = -4 ∧ ∀ q ∈ l, q.1 ≠ d) ∨ ∃ i q, l[i]? = some q ∧ q.1 = d ∧ (∀ j, j < i → ∀ q', l[j]? = some q' → q'.1 ≠ d) ∧ pX l d = nI i := by
  cases h : l.findIdx? (fun q => q.1 == d) with
  | none =>
    have h1 := List.findIdx?_eq_none_iff.mp h
    have h2 : ∀ q ∈ l, q.1 ≠ d := fun q hq => by simpa using h1 q hq
    exact Or.inl ⟨pX_none h2, h2⟩
  | some i =>
    obtain ⟨hi, h1, h2⟩ := List.findIdx?_eq_some_iff_getElem.mp h
    have hn : ∀ j, j < i → ∀ q', l[j]? = some q' → q'.1 ≠ d := fun j hj q' hq' => by
      obtain ⟨hl, he⟩ := List.getElem?_eq_some_iff.mp hq'
      have := h2 j hj
      rw [he] at this
      simpa using this
    have hd : l[i].1 = d := by simpa using h1
    exact Or.inr ⟨i, l[i], List.getElem?_eq_getElem hi, hd, hn, pX_some (List.getElem?_eq_getElem hi) hd hn⟩
theorem c_place {l : List Pr} {c d : Nat} {σ : St} (h : pC l c σ) (hl : l.length ≤ 7) (hd : d < 8) (hb : ∀ q ∈ l, q.1 < 8) : f_X4_placeOf c (nI d) σ = some (pX l d, σ) := by
  obtain ⟨r, hr, rfl⟩ := lp_FU (b := fun K a => b_X4_placeOf_2 c K a.1 a.2.1 a.2.2) (fun k a => a = (nI d, nI k, σ) ∧ ∀ j, j < k → ∀ q, l[j]? = some q → q.1 ≠ d) (fun r => r = (pX l d, σ)) l.length (by omega)
    (fun k a hk ha => by
      obtain ⟨rfl, hn⟩ := ha
      obtain ⟨q, hq⟩ := get_lt hk
      have e := h.2 k q hq
      have hq8 := hb q (List.mem_of_getElem? hq)
      by_cases hqd : q.1 = d
      · refine Or.inr ⟨_, rfl, fun K => ?_⟩
        show b_X4_placeOf_2 c K (nI d) (nI k) σ = _
        unfold b_X4_placeOf_2
        rw [h.1, if_neg (by rw [nI_leI (by omega) (by omega)]; omega), if_neg (by rw [nI_leI (by omega) (by omega)]; omega), gd_t (ix_nI (by omega) (by decide)), nt_nI (by omega), e.1, if_pos (by rw [hqd]), pX_some hq hqd hn]
      · refine Or.inl ⟨(nI d, nI (k + 1), σ), ⟨rfl, fun j hj q' hq' => ?_⟩, fun K => ?_⟩
        · by_cases hjk : j = k
          · subst hjk
            rw [hq] at hq'
            cases hq'
            exact hqd
          · exact hn j (by omega) q' hq'
        · show b_X4_placeOf_2 c K (nI d) (nI k) σ = _
          unfold b_X4_placeOf_2
          rw [h.1, if_neg (by rw [nI_leI (by omega) (by omega)]; omega), if_neg (by rw [nI_leI (by omega) (by omega)]; omega), gd_t (ix_nI (by omega) (by decide)), nt_nI (by omega), e.1, if_neg (by rw [nI_eq (by omega) (by omega)]; exact hqd), vl_d, nI_1])
    (fun a ha => by
      obtain ⟨rfl, hn⟩ := ha
      refine ⟨_, rfl, fun K => ?_⟩
      show b_X4_placeOf_2 c K (nI d) (nI l.length) σ = _
      unfold b_X4_placeOf_2
      rw [h.1, if_pos (nI_le (Nat.le_refl _) (by omega)), pX_none (fun q hq => by
        obtain ⟨j, hj⟩ := List.getElem?_of_mem hq
        exact hn j (List.getElem?_eq_some_iff.mp hj).1 q hj)])
    (a := (nI d, 0, σ)) ⟨rfl, fun j hj => by omega⟩
  exact hr
theorem m_place {l : List Pr} {c d : Nat} {τ : St} (h : pM l c τ) (hc : c < 4) (hl : l.length ≤ 7) (hd : d < 8) (hb : ∀ q ∈ l, q.1 < 8) : f_X8_promiseOf (nI c) (nI d) τ = some (pX l d, τ) := by
  obtain ⟨r, hr, rfl⟩ := lp_FU (b := fun K a => b_X8_promiseOf_2 K a.1 a.2.1 a.2.2.1 a.2.2.2) (fun k a => a = (nI c, nI d, nI k, τ) ∧ ∀ j, j < k → ∀ q, l[j]? = some q → q.1 ≠ d) (fun r => r = (pX l d, τ)) l.length (by omega)
    (fun k a hk ha => by
      obtain ⟨rfl, hn⟩ := ha
      obtain ⟨q, hq⟩ := get_lt hk
      have e := h.2 k q hq
      have hq8 := hb q (List.mem_of_getElem? hq)
      by_cases hqd : q.1 = d
      · refine Or.inr ⟨_, rfl, fun K => ?_⟩
        show b_X8_promiseOf_2 K (nI c) (nI d) (nI k) τ = _
        unfold b_X8_promiseOf_2
        rw [gd_t (ix_nI hc (by decide)), nt_nI (by omega), h.1, if_neg (by rw [nI_leI (by omega) (by omega)]; omega), m7, gd_t (ix_nI (by omega) (by decide)), nt_nI (by omega), e.1, if_pos (by rw [hqd]), pX_some hq hqd hn]
      · refine Or.inl ⟨(nI c, nI d, nI (k + 1), τ), ⟨rfl, fun j hj q' hq' => ?_⟩, fun K => ?_⟩
        · by_cases hjk : j = k
          · subst hjk
            rw [hq] at hq'
            cases hq'
            exact hqd
          · exact hn j (by omega) q' hq'
        · show b_X8_promiseOf_2 K (nI c) (nI d) (nI k) τ = _
          unfold b_X8_promiseOf_2
          rw [gd_t (ix_nI hc (by decide)), nt_nI (by omega), h.1, if_neg (by rw [nI_leI (by omega) (by omega)]; omega), m7, gd_t (ix_nI (by omega) (by decide)), nt_nI (by omega), e.1, if_neg (by rw [nI_eq (by omega) (by omega)]; exact hqd), vl_d, nI_1])
    (fun a ha => by
      obtain ⟨rfl, hn⟩ := ha
      refine ⟨_, rfl, fun K => ?_⟩
      show b_X8_promiseOf_2 K (nI c) (nI d) (nI l.length) τ = _
      unfold b_X8_promiseOf_2
      rw [gd_t (ix_nI hc (by decide)), nt_nI (by omega), h.1, if_pos (nI_le (Nat.le_refl _) (by omega)), pX_none (fun q hq => by
        obtain ⟨j, hj⟩ := List.getElem?_of_mem hq
        exact hn j (List.getElem?_eq_some_iff.mp hj).1 q hj)])
    (a := (nI c, nI d, 0, τ)) ⟨rfl, fun j hj => by omega⟩
  exact hr
