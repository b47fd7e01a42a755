/-! promises that nobody used go at the beacon -/
abbrev kpP (life : Int32) (q : Pr) : Bool := decide (q.2.2 < life)
def idL (life : Int32) (l : List Pr) (m : Nat) : List Pr := l.take m ++ (l.drop m).filter (kpP life)
theorem idL_get {life : Int32} {l : List Pr} {m : Nat} {q : Pr} (h : l[m]? = some q) : (idL life l (m + 1))[m]? = some q := by
  have hm := (List.getElem?_eq_some_iff.mp h).1
  unfold idL
  rw [List.getElem?_append_left (by rw [List.length_take]; omega), List.getElem?_take, if_pos (by omega), h]
theorem idL_keep {life : Int32} {l : List Pr} {m : Nat} {q : Pr} (h : l[m]? = some q) (hq : q.2.2 < life) : idL life l (m + 1) = idL life l m := by
  have hm := (List.getElem?_eq_some_iff.mp h)
  obtain ⟨hl, e⟩ := hm
  unfold idL
  rw [List.take_add_one, h, List.drop_eq_getElem_cons hl, e, List.filter_cons_of_pos (by simp [kpP, hq])]
  simp
theorem idL_drop {life : Int32} {l : List Pr} {m : Nat} {q : Pr} (h : l[m]? = some q) (hq : ¬ q.2.2 < life) : (idL life l (m + 1)).eraseIdx m = idL life l m := by
  obtain ⟨hl, e⟩ := List.getElem?_eq_some_iff.mp h
  unfold idL
  rw [List.take_add_one, h, List.drop_eq_getElem_cons hl, e, List.filter_cons_of_neg (by simp [kpP, hq])]
  have e1 : (List.take m l).length = m := by rw [List.length_take]; omega
  rw [List.append_assoc, List.eraseIdx_append_of_length_le (by omega), e1, Nat.sub_self]
  rfl
theorem idL_len (life : Int32) (l : List Pr) (m : Nat) : (idL life l m).length ≤ l.length := by
  unfold idL
  rw [List.length_append]
  have := List.length_filter_le (kpP life) (l.drop m)
  rw [List.length_drop] at this
  rw [List.length_take]
  omega
theorem dn1 (m : Nat) : nI (m + 1) - 1 = nI m := by rw [show (1 : Int32) = nI 1 from rfl, nI_m _ _ (by omega)]; rfl
theorem dn2 (m : Nat) : nI m + (-1 : Int32) = nI m - 1 := by rw [Int32.sub_eq_add_neg]
theorem c_idle {l : List Pr} {c : Nat} {σ : St} (h : pC l c σ) (hl : l.length ≤ 7) (life : Int32) : ∃ σ', f_X4_removeIdle c life σ = some ((), σ') ∧ pC (l.filter (kpP life)) c σ' ∧ frC c σ σ' := by
  obtain ⟨r, hr, σ', rfl, q1, q2⟩ := lp_FU (b := fun K a => b_X4_removeIdle_7 c K a.1 a.2.1 a.2.2) (fun k a => ∃ σk, a = (life, nI (l.length - k) - 1, σk) ∧ pC (idL life l (l.length - k)) c σk ∧ frC c σ σk) (fun r => ∃ σ', r = ((), σ') ∧ pC (l.filter (kpP life)) c σ' ∧ frC c σ σ') l.length (by omega)
    (fun k a hk ha => by
      obtain ⟨σk, rfl, m1, m2⟩ := ha
      obtain ⟨m, em⟩ : ∃ m, l.length - k = m + 1 := ⟨l.length - k - 1, by omega⟩
      have em' : l.length - (k + 1) = m := by omega
      rw [em] at m1
      obtain ⟨q, hq⟩ := get_lt (l := l) (k := m) (by omega)
      have hq' := idL_get (life := life) hq
      have hlen := idL_len life l (m + 1)
      have hi := (List.getElem?_eq_some_iff.mp hq').1
      have tl : f_X4_tell c (nI m) 3 σk = some (q.2.2, σk) := by
        unfold f_X4_tell
        rw [if_neg (nI_pos (by omega)), m1.1, if_neg (by rw [nI_leI (by omega) (by omega)]; omega), if_pos (nI_lt (by omega) (by decide)), if_neg (by decide), if_neg (by decide), if_neg (by decide), if_pos rfl, gd_t (ix_nI (by omega) (by decide)), nt_nI (by omega), (m1.2 m q hq').2.2]
      by_cases hlt : q.2.2 < life
      · refine Or.inl ⟨(life, nI (l.length - (k + 1)) - 1, σk), ⟨σk, rfl, by rw [em', ← idL_keep hq hlt]; exact m1, m2⟩, fun K => ?_⟩
        show b_X4_removeIdle_7 c K life (nI (l.length - k) - 1) σk = _
        unfold b_X4_removeIdle_7
        rw [em, em', dn1, if_neg (nI_pos (by omega)), tl, cl_some, if_pos hlt, vl_d, dn2]
      · obtain ⟨σ', r1, r2, r3⟩ := c_rem m1 (by omega) hi
        refine Or.inl ⟨(life, nI (l.length - (k + 1)) - 1, σ'), ⟨σ', rfl, by rw [em', ← idL_drop hq hlt]; exact r2, m2.tr r3⟩, fun K => ?_⟩
        show b_X4_removeIdle_7 c K life (nI (l.length - k) - 1) σk = _
        unfold b_X4_removeIdle_7
        rw [em, em', dn1, if_neg (nI_pos (by omega)), tl, cl_some, if_neg hlt, r1, cl_some, vl_d, dn2])
    (fun a ha => by
      obtain ⟨σk, rfl, m1, m2⟩ := ha
      rw [Nat.sub_self] at m1
      refine ⟨_, ⟨σk, rfl, m1, m2⟩, fun K => ?_⟩
      show b_X4_removeIdle_7 c K life (nI (l.length - l.length) - 1) σk = _
      unfold b_X4_removeIdle_7
      rw [Nat.sub_self, if_pos (by decide)])
    (a := (life, nI l.length - 1, σ)) ⟨σ, rfl, by
      rw [Nat.sub_zero]
      unfold idL
      rw [List.take_length, List.drop_length, List.filter_nil, List.append_nil]
      exact h, frC.rf⟩
  refine ⟨σ', ?_, q1, q2⟩
  unfold f_X4_removeIdle
  rw [vl_d, h.1]
  exact hr
theorem m_idle {l : List Pr} {c : Nat} {τ : St} {life : Int32} {Q : Unit × St → Prop} (h : pM l c τ) (hc : c < 4) (hl : l.length ≤ 7) (h20 : τ 0 20 = life) (hend : ∀ τ', pM (l.filter (kpP life)) c τ' → frM c τ τ' → ∃ r, lp (fun K a => b_X8_beacon_45 K a.1 a.2.1 a.2.2) FU (nI c, (0 : Int32), τ') = some r ∧ Q r) : ∃ r, f_X8_beacon (nI c) τ = some r ∧ Q r := by
  obtain ⟨r, hr, q⟩ := lp_FU (b := fun K a => b_X8_beacon_9 K a.1 a.2.1 a.2.2) (fun k a => ∃ τk, a = (nI c, nI (l.length - k) - 1, τk) ∧ pM (idL life l (l.length - k)) c τk ∧ frM c τ τk) Q l.length (by omega)
    (fun k a hk ha => by
      obtain ⟨τk, rfl, m1, m2⟩ := ha
      obtain ⟨m, em⟩ : ∃ m, l.length - k = m + 1 := ⟨l.length - k - 1, by omega⟩
      have em' : l.length - (k + 1) = m := by omega
      rw [em] at m1
      obtain ⟨q, hq⟩ := get_lt (l := l) (k := m) (by omega)
      have hq' := idL_get (life := life) hq
      have hlen := idL_len life l (m + 1)
      have hi := (List.getElem?_eq_some_iff.mp hq').1
      have e20 : τk 0 20 = life := by rw [m2 0 20 (fun q => absurd q (by decide)) (fun q => absurd q (by decide))]; exact h20
      by_cases hlt : q.2.2 < life
      · refine Or.inl ⟨(nI c, nI (l.length - (k + 1)) - 1, τk), ⟨τk, rfl, by rw [em', ← idL_keep hq hlt]; exact m1, m2⟩, fun K => ?_⟩
        show b_X8_beacon_9 K (nI c) (nI (l.length - k) - 1) τk = _
        unfold b_X8_beacon_9
        rw [em, em', dn1, if_neg (nI_pos (by omega)), m7, gd_t (ix_nI (by omega) (by decide)), nt_nI (by omega), (m1.2 m q hq').2.2, e20, if_pos hlt, vl_d, dn2]
      · obtain ⟨τ', r1, r2, r3⟩ := m_rem m1 hc (by omega) hi
        refine Or.inl ⟨(nI c, nI (l.length - (k + 1)) - 1, τ'), ⟨τ', rfl, by rw [em', ← idL_drop hq hlt]; exact r2, m2.tr r3⟩, fun K => ?_⟩
        show b_X8_beacon_9 K (nI c) (nI (l.length - k) - 1) τk = _
        unfold b_X8_beacon_9
        rw [em, em', dn1, if_neg (nI_pos (by omega)), m7, gd_t (ix_nI (by omega) (by decide)), nt_nI (by omega), (m1.2 m q hq').2.2, e20, if_neg hlt, r1, cl_some, vl_d, dn2])
    (fun a ha => by
      obtain ⟨τk, rfl, m1, m2⟩ := ha
      rw [Nat.sub_self] at m1
      obtain ⟨r, e1, e2⟩ := hend τk m1 m2
      refine ⟨r, e2, fun K => ?_⟩
      show b_X8_beacon_9 K (nI c) (nI (l.length - l.length) - 1) τk = _
      unfold b_X8_beacon_9
      rw [Nat.sub_self, if_pos (by decide)]
      exact e1)
    (a := (nI c, nI l.length - 1, τ)) ⟨τ, rfl, by
      rw [Nat.sub_zero]
      unfold idL
      rw [List.take_length, List.drop_length, List.filter_nil, List.append_nil]
      exact h, frM.rf⟩
  refine ⟨r, ?_, q⟩
  unfold f_X8_beacon
  rw [gd_t (ix_nI hc (by decide)), nt_nI (by omega), h.1, vl_d]
  exact hr
