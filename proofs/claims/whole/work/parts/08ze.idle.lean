/-! promises that nobody used go at the beacon -/
abbrev kpP (life : Int32) (q : Pr) : Bool := decide (q.2.2 < life)
def idL (life : Int32) (l : List Pr) (m : Nat) : List Pr := l.take m ++ (l.drop m).filter (kpP life)
theorem idL_get {life : Int32} {l : List Pr} {m : Nat} {q : Pr} (h : l[m]? = some q) : (idL life l (m + 1))[m]? = some q := by
  have hm := (List.getElem?_eq_some_iff.mp h).1
  unfold idL
  rw [List.getElem?_append_left (by rw [List.length_take]; omega), List.getElem?_take, if_pos (by omega), h]
theorem idL_keep {life : Int32} {l : List Pr} {m : Nat} {q : Pr} (h : l[m]? = some q) (hq : q.2.2 < life) : idL life l (m + 1) = idL life l m := by
  have hm := (List.getElem?_eq_some_iff.mp h)
  obtain ⟨hl, e⟩ := hm
  unfold idL
  rw [List.take_add_one, h, List.drop_eq_getElem_cons hl, e, List.filter_cons_of_pos (by simp [kpP, hq])]
  simp
theorem idL_drop {life : Int32} {l : List Pr} {m : Nat} {q : Pr} (h : l[m]? = some q) (hq : ¬ q.2.2 < life) : (idL life l (m + 1)).eraseIdx m = idL life l m := by
  obtain ⟨hl, e⟩ := List.getElem?_eq_some_iff.mp h
  unfold idL
  rw [List.take_add_one, h, List.drop_eq_getElem_cons hl, e, List.filter_cons_of_neg (by simp [kpP, hq])]
  have e1 : (List.take m l).length = m := by rw [List.length_take]; omega
  rw [List.append_assoc, List.eraseIdx_append_of_length_le (by omega), e1, Nat.sub_self]
  rfl
theorem idL_len (life : Int32) (l : List Pr) (m : Nat) : (idL life l m).length ≤ l.length := by
  unfold idL
  rw [List.length_append]
  have := List.length_filter_le (kpP life) (l.drop m)
  rw [List.length_drop] at this
  rw [List.length_take]
  omega
