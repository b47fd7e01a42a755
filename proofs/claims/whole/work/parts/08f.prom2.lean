/-! a promise goes -/
def frC (c : Nat) (σ σ' : St) : Prop := ∀ a, a ≠ 26 + c → a ≠ 30 + c → a ≠ 34 + c → a ≠ 38 + c → σ' a = σ a
def frM (c : Nat) (τ τ' : St) : Prop := ∀ a b, (a = 30 → b ≠ c) → (31 ≤ a → a ≤ 33 → b < 7 * c ∨ 7 * c + 7 ≤ b) → τ' a b = τ a b
theorem frC.rf {c : Nat} {σ : St} : frC c σ σ := fun _ _ _ _ _ => rfl
theorem frM.rf {c : Nat} {τ : St} : frM c τ τ := fun _ _ _ _ => rfl
theorem frC.tr {c : Nat} {σ σ' σ'' : St} (h : frC c σ σ') (h' : frC c σ' σ'') : frC c σ σ'' := fun a h1 h2 h3 h4 => (h' a h1 h2 h3 h4).trans (h a h1 h2 h3 h4)
theorem frM.tr {c : Nat} {τ τ' τ'' : St} (h : frM c τ τ') (h' : frM c τ' τ'') : frM c τ τ'' := fun a b h1 h2 => (h' a b h1 h2).trans (h a b h1 h2)
theorem c_rem {l : List Pr} {c : Nat} {σ : St} (h : pC l c σ) (hl : l.length ≤ 7) {i : Nat} (hi : i < l.length) : ∃ σ', f_X4_removeAt c (nI i) σ = some ((), σ') ∧ pC (l.eraseIdx i) c σ' ∧ frC c σ σ' := by
  obtain ⟨r, hr, σ', rfl, hp, hf⟩ := lp_FU (b := fun K a => b_X4_removeAt_17 c K a.1 a.2)
    (fun k a => ∃ σk, a = (nI (i + k + 1), σk) ∧ (∀ p, σk (30 + c) p = if i ≤ p ∧ p < i + k then σ (30 + c) (p + 1) else σ (30 + c) p) ∧ (∀ p, σk (34 + c) p = if i ≤ p ∧ p < i + k then σ (34 + c) (p + 1) else σ (34 + c) p) ∧ (∀ p, σk (38 + c) p = if i ≤ p ∧ p < i + k then σ (38 + c) (p + 1) else σ (38 + c) p) ∧ σk (26 + c) = σ (26 + c) ∧ frC c σ σk)
    (fun r => ∃ σ', r = ((), σ') ∧ pC (l.eraseIdx i) c σ' ∧ frC c σ σ') (l.length - (i + 1)) (by omega)
    (fun k a hk ha => by
      obtain ⟨σk, rfl, s1, s2, s3, s4, s5⟩ := ha
      refine Or.inl ⟨(nI (i + k + 1 + 1), up2 (up2 (up2 σk (30 + c) (i + k) (σ (30 + c) (i + k + 1))) (34 + c) (i + k) (σ (34 + c) (i + k + 1))) (38 + c) (i + k) (σ (38 + c) (i + k + 1))), ⟨_, rfl, fun p => ?_, fun p => ?_, fun p => ?_, ?_, ?_⟩, fun K => ?_⟩
      · rw [up2_r (by omega), up2_r (by omega), up2_g, s1]
        by_cases e : p = i + k
        · subst e
          rw [if_pos ⟨rfl, rfl⟩, if_pos (by omega)]
        · rw [if_neg (by omega)]
          by_cases e2 : i ≤ p ∧ p < i + k
          · rw [if_pos e2, if_pos (by omega)]
          · rw [if_neg e2, if_neg (by omega)]
      · rw [up2_r (by omega), up2_g, up2_r (by omega), s2]
        by_cases e : p = i + k
        · subst e
          rw [if_pos ⟨rfl, rfl⟩, if_pos (by omega)]
        · rw [if_neg (by omega)]
          by_cases e2 : i ≤ p ∧ p < i + k
          · rw [if_pos e2, if_pos (by omega)]
          · rw [if_neg e2, if_neg (by omega)]
      · rw [up2_g, up2_r (by omega), up2_r (by omega), s3]
        by_cases e : p = i + k
        · subst e
          rw [if_pos ⟨rfl, rfl⟩, if_pos (by omega)]
        · rw [if_neg (by omega)]
          by_cases e2 : i ≤ p ∧ p < i + k
          · rw [if_pos e2, if_pos (by omega)]
          · rw [if_neg e2, if_neg (by omega)]
      · rw [up2_ne (by omega), up2_ne (by omega), up2_ne (by omega)]; exact s4
      · intro a h1 h2 h3 h4
        rw [up2_ne h4, up2_ne h3, up2_ne h2]
        exact s5 a h1 h2 h3 h4
      · show b_X4_removeAt_17 c K (nI (i + k + 1)) σk = _
        unfold b_X4_removeAt_17
        have q1 : ix (nI (i + k + 1)) 7 := ix_nI (by omega) (by decide)
        have q2 : ix (nI (i + k)) 7 := ix_nI (by omega) (by decide)
        rw [s4, h.1, if_neg (by rw [nI_leI (by omega) (by omega)]; omega), if_neg (by rw [nI_leI (by omega) (by omega)]; omega), nI_pred, gd_t q1, gd_t q2, vl_d, gd_t q1, gd_t q2, vl_d, gd_t q1, gd_t q2, vl_d, vl_d, nt_nI (by omega), nt_nI (by omega), nI_1]
        rw [up2_r (show 34 + c ≠ 30 + c by omega), up2_r (show 38 + c ≠ 34 + c by omega), up2_r (show 38 + c ≠ 30 + c by omega), s1, s2, s3, if_neg (by omega), if_neg (by omega), if_neg (by omega)])
    (fun a ha => by
      obtain ⟨σk, rfl, s1, s2, s3, s4, s5⟩ := ha
      have e : i + (l.length - (i + 1)) + 1 = l.length := by omega
      refine ⟨((), up2 σk (26 + c) 3 (nI (l.length - 1))), ⟨_, rfl, ⟨?_, fun p q hq => ?_⟩, ?_⟩, fun K => ?_⟩
      · rw [up2_at, List.length_eraseIdx, if_pos hi]
      · rw [up2_r (by omega), up2_r (by omega), up2_r (by omega), s1, s2, s3]
        rw [List.getElem?_eraseIdx] at hq
        by_cases hp : p < i
        · rw [if_pos hp] at hq
          rw [if_neg (by omega), if_neg (by omega), if_neg (by omega)]
          exact h.2 p q hq
        · rw [if_neg hp] at hq
          have := (List.getElem?_eq_some_iff.mp hq).1
          rw [if_pos (by omega), if_pos (by omega), if_pos (by omega)]
          exact h.2 (p + 1) q hq
      · intro a h1 h2 h3 h4
        rw [up2_ne h1]
        exact s5 a h1 h2 h3 h4
      · show b_X4_removeAt_17 c K (nI (i + (l.length - (i + 1)) + 1)) σk = _
        rw [e]
        unfold b_X4_removeAt_17
        rw [s4, h.1, if_pos (nI_le (Nat.le_refl _) (by omega)), vl_d, show (1 : Int32) = nI 1 from rfl, nI_m _ _ (by omega)])
    (a := (nI i + 1, σ)) ⟨σ, by rw [nI_1], fun p => by rw [if_neg (by omega)], fun p => by rw [if_neg (by omega)], fun p => by rw [if_neg (by omega)], rfl, frC.rf⟩
  refine ⟨σ', ?_, hp, hf⟩
  unfold f_X4_removeAt
  rw [if_neg (nI_pos (by omega)), h.1, if_pos (nI_lt hi (by omega)), vl_d]
  exact hr
theorem c_rem4 {c : Nat} {σ : St} : f_X4_removeAt c (-4) σ = some ((), σ) := by
  unfold f_X4_removeAt
  rw [if_pos (by decide)]
theorem m_rem {l : List Pr} {c : Nat} {τ : St} (h : pM l c τ) (hc : c < 4) (hl : l.length ≤ 7) {i : Nat} (hi : i < l.length) : ∃ τ', f_X8_letGo (nI c) (nI i) τ = some ((), τ') ∧ pM (l.eraseIdx i) c τ' ∧ frM c τ τ' := by
  obtain ⟨r, hr, τ', rfl, hp, hf⟩ := lp_FU (b := fun K a => b_X8_letGo_12 K a.1 a.2.1 a.2.2)
    (fun k a => ∃ τk, a = (nI c, nI (i + k), τk) ∧ (∀ p, p < 7 → τk 31 (7 * c + p) = if i ≤ p ∧ p < i + k then τ 31 (7 * c + p + 1) else τ 31 (7 * c + p)) ∧ (∀ p, p < 7 → τk 32 (7 * c + p) = if i ≤ p ∧ p < i + k then τ 32 (7 * c + p + 1) else τ 32 (7 * c + p)) ∧ (∀ p, p < 7 → τk 33 (7 * c + p) = if i ≤ p ∧ p < i + k then τ 33 (7 * c + p + 1) else τ 33 (7 * c + p)) ∧ τk 30 c = nI (l.length - 1) ∧ frM c τ τk)
    (fun r => ∃ τ', r = ((), τ') ∧ pM (l.eraseIdx i) c τ' ∧ frM c τ τ') (l.length - (i + 1)) (by omega)
    (fun k a hk ha => by
      obtain ⟨τk, rfl, s1, s2, s3, s4, s5⟩ := ha
      refine Or.inl ⟨(nI c, nI (i + k + 1), up2 (up2 (up2 τk 31 (7 * c + (i + k)) (τ 31 (7 * c + (i + k) + 1))) 32 (7 * c + (i + k)) (τ 32 (7 * c + (i + k) + 1))) 33 (7 * c + (i + k)) (τ 33 (7 * c + (i + k) + 1))), ⟨_, rfl, fun p hp => ?_, fun p hp => ?_, fun p hp => ?_, ?_, ?_⟩, fun K => ?_⟩
      · rw [up2_r (by decide), up2_r (by decide), up2_g, s1 p hp]
        by_cases e : p = i + k
        · subst e
          rw [if_pos ⟨rfl, rfl⟩, if_pos (by omega)]
        · rw [if_neg (by omega)]
          by_cases e2 : i ≤ p ∧ p < i + k
          · rw [if_pos e2, if_pos (by omega)]
          · rw [if_neg e2, if_neg (by omega)]
      · rw [up2_r (by decide), up2_g, up2_r (by decide), s2 p hp]
        by_cases e : p = i + k
        · subst e
          rw [if_pos ⟨rfl, rfl⟩, if_pos (by omega)]
        · rw [if_neg (by omega)]
          by_cases e2 : i ≤ p ∧ p < i + k
          · rw [if_pos e2, if_pos (by omega)]
          · rw [if_neg e2, if_neg (by omega)]
      · rw [up2_g, up2_r (by decide), up2_r (by decide), s3 p hp]
        by_cases e : p = i + k
        · subst e
          rw [if_pos ⟨rfl, rfl⟩, if_pos (by omega)]
        · rw [if_neg (by omega)]
          by_cases e2 : i ≤ p ∧ p < i + k
          · rw [if_pos e2, if_pos (by omega)]
          · rw [if_neg e2, if_neg (by omega)]
      · rw [up2_r (by decide), up2_r (by decide), up2_r (by decide)]; exact s4
      · intro a b h1 h2
        have n31 : ¬ (a = 31 ∧ b = 7 * c + (i + k)) := fun e => by have := h2 (by omega) (by omega); omega
        have n32 : ¬ (a = 32 ∧ b = 7 * c + (i + k)) := fun e => by have := h2 (by omega) (by omega); omega
        have n33 : ¬ (a = 33 ∧ b = 7 * c + (i + k)) := fun e => by have := h2 (by omega) (by omega); omega
        rw [up2_g, if_neg n33, up2_g, if_neg n32, up2_g, if_neg n31]
        exact s5 a b h1 h2
      · show b_X8_letGo_12 K (nI c) (nI (i + k)) τk = _
        unfold b_X8_letGo_12
        have q1 : ix (nI (7 * c + (i + k) + 1)) 28 := ix_nI (by omega) (by decide)
        have q2 : ix (nI (7 * c + (i + k))) 28 := ix_nI (by omega) (by decide)
        rw [gd_t (ix_nI hc (by decide)), nt_nI (show c < 2147483648 by omega), s4, if_neg (by rw [nI_leI (by omega) (by omega)]; omega), m7, nI_1, gd_t q1, gd_t q2, vl_d, gd_t q1, gd_t q2, vl_d, gd_t q1, gd_t q2, vl_d, vl_d, nt_nI (show 7 * c + (i + k) < 2147483648 by omega), nt_nI (show 7 * c + (i + k) + 1 < 2147483648 by omega), nI_1]
        rw [up2_r (show (32 : Nat) ≠ 31 by decide), up2_r (show (33 : Nat) ≠ 32 by decide), up2_r (show (33 : Nat) ≠ 31 by decide)]
        rw [show 7 * c + (i + k) + 1 = 7 * c + (i + k + 1) by omega, s1 (i + k + 1) (by omega), s2 (i + k + 1) (by omega), s3 (i + k + 1) (by omega), if_neg (by omega), if_neg (by omega), if_neg (by omega)])
    (fun a ha => by
      obtain ⟨τk, rfl, s1, s2, s3, s4, s5⟩ := ha
      have e : i + (l.length - (i + 1)) = l.length - 1 := by omega
      refine ⟨((), τk), ⟨_, rfl, ⟨?_, fun p q hq => ?_⟩, s5⟩, fun K => ?_⟩
      · rw [s4, List.length_eraseIdx, if_pos hi]
      · have hlt : p < (l.eraseIdx i).length := (List.getElem?_eq_some_iff.mp hq).1
        rw [List.length_eraseIdx, if_pos hi] at hlt
        rw [s1 p (by omega), s2 p (by omega), s3 p (by omega)]
        rw [List.getElem?_eraseIdx] at hq
        by_cases hp : p < i
        · rw [if_pos hp] at hq
          rw [if_neg (by omega), if_neg (by omega), if_neg (by omega)]
          exact h.2 p q hq
        · rw [if_neg hp] at hq
          rw [if_pos (by omega), if_pos (by omega), if_pos (by omega)]
          exact h.2 (p + 1) q hq
      · show b_X8_letGo_12 K (nI c) (nI (i + (l.length - (i + 1)))) τk = _
        rw [e]
        unfold b_X8_letGo_12
        rw [gd_t (ix_nI hc (by decide)), nt_nI (by omega), s4, if_pos (nI_le (Nat.le_refl _) (by omega))])
    (a := (nI c, nI i, up2 τ 30 c (nI (l.length - 1)))) ⟨_, rfl, fun p hp => by rw [if_neg (by omega), up2_r (by decide)], fun p hp => by rw [if_neg (by omega), up2_r (by decide)], fun p hp => by rw [if_neg (by omega), up2_r (by decide)], up2_at _ _ _ _, fun a b h1 h2 => by rw [up2_g, if_neg (fun e => h1 e.1 e.2)]⟩
  refine ⟨τ', ?_, hp, hf⟩
  unfold f_X8_letGo
  rw [gd_t (ix_nI hc (by decide)), gd_t (ix_nI hc (by decide)), vl_d, nt_nI (by omega), h.1, show (1 : Int32) = nI 1 from rfl, nI_m _ _ (by omega)]
  exact hr
/-- the class's removeOf -/
def pR (l : List Pr) (d : Nat) : List Pr := match l.findIdx? (fun q => q.1 == d) with
  | none => l
  | some i => l.eraseIdx i
def pN (l : List Pr) (d : Nat) : Option Nat := match l.findIdx? (fun q => q.1 == d) with
  | none => none
  | some i => some ((l[i]?.map (fun q => q.2.1)).getD 0)
theorem c_tell2 {l : List Pr} {c : Nat} {σ : St} (h : pC l c σ) (hl : l.length ≤ 7) {i : Nat} {q : Pr} (hq : l[i]? = some q) : f_X4_tell c (nI i) 2 σ = some (nI q.2.1, σ) := by
  have hi := (List.getElem?_eq_some_iff.mp hq).1
  unfold f_X4_tell
  rw [if_neg (nI_pos (by omega)), h.1, if_neg (by rw [nI_leI (by omega) (by omega)]; omega), if_pos (nI_lt (by omega) (by decide)), if_neg (by decide), if_neg (by decide), if_pos rfl, gd_t (ix_nI (by omega) (by decide)), nt_nI (by omega), (h.2 i q hq).2.1]
theorem c_remOf {l : List Pr} {c d : Nat} {σ : St} (h : pC l c σ) (hl : l.length ≤ 7) (hd : d < 8) (hb : ∀ q ∈ l, q.1 < 8) : ∃ σ', f_X4_removeOf c (nI d) σ = some ((match pN l d with | none => 0 | some x => nI x), σ') ∧ pC (pR l d) c σ' ∧ frC c σ σ' := by
  unfold f_X4_removeOf
  rw [c_place h hl hd hb, cl_some]
  cases hf : l.findIdx? (fun q => q.1 == d) with
  | none =>
    have e : pX l d = -4 := by unfold pX; rw [hf]
    refine ⟨σ, ?_, by unfold pR; rw [hf]; exact h, frC.rf⟩
    rw [e, if_pos rfl, c_rem4, cl_some]
    unfold pN
    rw [hf]
  | some i =>
    have e : pX l d = nI i := by unfold pX; rw [hf]
    have hi : i < l.length := by
      obtain ⟨hi, -⟩ := List.findIdx?_eq_some_iff_getElem.mp hf
      exact hi
    obtain ⟨q, hq⟩ := get_lt hi
    obtain ⟨σ', h1, h2, h3⟩ := c_rem h hl hi
    refine ⟨σ', ?_, by unfold pR; rw [hf]; exact h2, h3⟩
    rw [e, if_neg (by rw [i_eq, t_m4, t_nI i (by omega)]; omega), c_tell2 h hl hq, cl_some, h1, cl_some]
    unfold pN
    rw [hf]
    show some (nI q.2.1, σ') = some (nI ((l[i]?.map (fun q => q.2.1)).getD 0), σ')
    rw [hq]
    rfl
