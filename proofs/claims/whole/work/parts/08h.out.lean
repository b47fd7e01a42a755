/-! a device goes from the lists and from its promises -/
/-- lists, promises and devices alone have changed -/
theorem rel_pr {n nc nd B S le li : Nat} {qs : Nat → List Pr} {σ τ σ' τ' : St} (h : rG n nc nd B S le li σ τ ∧ rS nc B σ τ ∧ rT σ τ ∧ rCa σ τ ∧ rCo n nc σ τ ∧ rA nc S σ τ) (es : ∀ k, k < 22 ∨ (42 ≤ k ∧ k < 46) → σ' k = σ k) (ec : ∀ c, c < 4 → ∀ j, j ≠ 2 → σ' (22 + c) j = σ (22 + c) j) (et : ∀ k, k < 29 ∨ k = 34 → τ' k = τ k)
    (hl : ∀ c, c < nc → ∃ m, m < 256 ∧ σ' (22 + c) 2 = nI m ∧ τ' 29 c = nI m) (hz : rZ nc σ') (hp : rP nc nd le qs σ' τ') (hd : rD nc nd σ' τ') : Rel n σ' τ' := by
  obtain ⟨h1, h2, h3, h4, h5, h8⟩ := h
  have hN := h1.1
  have la : LA σ < 22 ∧ LA σ + 2 < 22 := by rcases LA_ok σ with e | e <;> rw [e] <;> decide
  refine ⟨nc, nd, B, S, le, li, qs, h1.cg (es 0 (by decide)) (by rw [es 6 (by decide)]) (es _ (Or.inl la.1)) (fun j h1 h2 => by rw [et 0 (by decide)]), h2.cg hN.2.1 (es 0 (by decide)) (es _ (Or.inl la.2)) (fun c hc => ec c hc 1 (by decide)) (et 26 (by decide)), h3.cg (es 1 (by decide)) (es 2 (by decide)) (by rw [et 0 (by decide)]) (et 1 (by decide)), h4.cg (es 4 (by decide)) (es 5 (by decide)) (by rw [et 0 (by decide)]) (et 4 (by decide)), fun c hc => ?_, hz, hp, h8.cg hN.2.1 (fun c hc => es _ (by omega)) (et 28 (by decide)) (et 34 (by decide)), hd⟩
  have hc4 : c < 4 := Nat.lt_of_lt_of_le hc hN.2.1
  rw [ec c hc4 0 (by decide), ec c hc4 3 (by decide), ec c hc4 4 (by decide), et 25 (by decide), et 27 (by decide), et 28 (by decide)]
  exact ⟨(h5 c hc).1, hl c hc, (h5 c hc).2.2⟩
abbrev ok7 (l : List Pr) : Prop := l.length ≤ 7 ∧ ∀ q ∈ l, q.1 < 8
theorem ok7_R {l : List Pr} (h : ok7 l) (d : Nat) : ok7 (pR l d) := ⟨Nat.le_trans (pR_sub l d).length_le h.1, fun q hq => h.2 q (pR_mem hq)⟩
theorem ok7_I {l : List Pr} (h : ok7 l) (d : Nat) (P : Prop) [Decidable P] : ok7 (if P then pR l d else l) := by
  split
  · exact ok7_R h d
  · exact h
theorem if_cg {α : Type} {P Q : Prop} [Decidable P] [Decidable Q] (h : P ↔ Q) {a b : α} : (if P then a else b) = if Q then a else b := by
  by_cases hp : P
  · rw [if_pos hp, if_pos (h.mp hp)]
  · rw [if_neg hp, if_neg (fun q => hp (h.mpr q))]
theorem lt_k {c k : Nat} {P : Prop} (h : c ≠ k) : (c < k + 1 ∧ P) ↔ (c < k ∧ P) := ⟨fun q => ⟨by omega, q.2⟩, fun q => ⟨by omega, q.2⟩⟩
def cI (d : Nat) (sk : Int32) (qs : Nat → List Pr) (σ : St) (k : Nat) (σk : St) : Prop :=
  (∀ a, a < 22 ∨ 42 ≤ a → σk a = σ a) ∧ (∀ c, c < 4 → ∀ j, j ≠ 2 → σk (22 + c) j = σ (22 + c) j) ∧ (∀ c, c < 4 → σk (22 + c) 2 = if c < k ∧ nI c ≠ sk then σ (22 + c) 2 &&& (bB d ^^^ (-1 : Int32)) else σ (22 + c) 2) ∧ ∀ c, c < 4 → pC (if c < k ∧ nI c ≠ sk then pR (qs c) d else qs c) c σk
theorem cI_0 {d : Nat} {sk : Int32} {qs : Nat → List Pr} {σ : St} (h : ∀ c, c < 4 → pC (qs c) c σ) : cI d sk qs σ 0 σ :=
  ⟨fun _ _ => rfl, fun _ _ _ _ => rfl, fun c hc => by rw [if_neg (by omega)], fun c hc => by rw [if_neg (by omega)]; exact h c hc⟩
theorem cI_skip {d : Nat} {sk : Int32} {qs : Nat → List Pr} {σ σk : St} {k : Nat} (hk : nI k = sk) (h : cI d sk qs σ k σk) : cI d sk qs σ (k + 1) σk := by
  obtain ⟨h1, h2, h3, h4⟩ := h
  have e : ∀ c, (c < k + 1 ∧ nI c ≠ sk) ↔ (c < k ∧ nI c ≠ sk) := fun c => by
    by_cases hc : c = k
    · subst hc
      exact ⟨fun q => absurd hk q.2, fun q => absurd hk q.2⟩
    · exact lt_k hc
  exact ⟨h1, h2, fun c hc => by rw [if_cg (e c)]; exact h3 c hc, fun c hc => by rw [if_cg (e c)]; exact h4 c hc⟩
theorem cI_step {d : Nat} {sk : Int32} {qs : Nat → List Pr} {σ σk : St} {k : Nat} (hd : d < 8) (hq : ∀ c, c < 4 → ok7 (qs c)) (hk4 : k < 4) (hk : nI k ≠ sk) (h : cI d sk qs σ k σk) : ∃ σ', f_X1_forget k (nI d) σk = some ((), σ') ∧ cI d sk qs σ (k + 1) σ' := by
  obtain ⟨h1, h2, h3, h4⟩ := h
  have p0 : pC (qs k) k σk := by have := h4 k hk4; rw [if_neg (by omega)] at this; exact this
  have l0 : σk (22 + k) 2 = σ (22 + k) 2 := by rw [h3 k hk4, if_neg (by omega)]
  have p1 : pC (qs k) k (up2 σk (22 + k) 2 (σk (22 + k) 2 &&& (bB d ^^^ (-1 : Int32)))) := p0.cg (by rw [up2_ne (by omega)]) (up2_ne (by omega)) (up2_ne (by omega)) (up2_ne (by omega))
  obtain ⟨σ', e1, e2, e3⟩ := c_remOf p1 (hq k hk4).1 hd (hq k hk4).2
  refine ⟨σ', ?_, ?_, ?_, ?_, ?_⟩
  · unfold f_X1_forget
    rw [vl_d, e1, cl_some]
  · intro a ha
    rw [e3 a (by omega) (by omega) (by omega) (by omega), up2_ne (by omega)]
    exact h1 a ha
  · intro c hc j hj
    rw [e3 _ (by omega) (by omega) (by omega) (by omega), up2_g, if_neg (by omega)]
    exact h2 c hc j hj
  · intro c hc
    rw [e3 _ (by omega) (by omega) (by omega) (by omega)]
    by_cases e : c = k
    · subst e
      rw [up2_at, if_pos ⟨by omega, hk⟩, l0]
    · rw [up2_g, if_neg (by omega), if_cg (lt_k e)]
      exact h3 c hc
  · intro c hc
    by_cases e : c = k
    · subst e
      rw [if_pos ⟨by omega, hk⟩]
      exact e2
    · rw [if_cg (lt_k e)]
      exact ((h4 c hc).cg (by rw [up2_ne (by omega)]) (up2_ne (by omega)) (up2_ne (by omega)) (up2_ne (by omega))).fr hc hk4 e3 e
def mI (nc d : Nat) (sk : Int32) (ps : Nat → List Pr) (τ : St) (k : Nat) (τk : St) : Prop :=
  (∀ a, a < 30 ∨ 33 < a → τk a = τ a) ∧ ∀ c, c < nc → pM (if c < k ∧ nI c ≠ sk then pR (ps c) d else ps c) c τk
def gR (d : Nat) (sk : Int32) (ps : Nat → List Pr) (k : Nat) (r : Int32) : Prop :=
  (r = -4 ∧ ∀ c, c < k → nI c ≠ sk → pN (ps c) d = none) ∨ ∃ c x, c < k ∧ nI c ≠ sk ∧ pN (ps c) d = some x ∧ r = nI x
theorem m_goes {nc d : Nat} {ps : Nat → List Pr} {τ : St} (hnc : nc ≤ 4) (hd : d < 8) (h0 : τ 0 24 = nI nc) (hp : ∀ c, c < nc → pM (ps c) c τ ∧ ok7 (ps c)) (sk : Int32) : ∃ r τ', f_X8_goesFrom (nI d) sk τ = some (r, τ') ∧ mI nc d sk ps τ nc τ' ∧ gR d sk ps nc r := by
  obtain ⟨r, hr, r', τ', rfl, q1, q2⟩ := lp_FU (b := fun K a => b_X8_goesFrom_6 K a.1 a.2.1 a.2.2.1 a.2.2.2.1 a.2.2.2.2)
    (fun k a => ∃ r τk, a = (nI d, sk, r, nI k, τk) ∧ mI nc d sk ps τ k τk ∧ gR d sk ps k r)
    (fun a => ∃ r τ', a = (r, τ') ∧ mI nc d sk ps τ nc τ' ∧ gR d sk ps nc r) nc (by omega)
    (fun k a hk ha => by
      obtain ⟨r, τk, rfl, ⟨m1, m2⟩, hg⟩ := ha
      have p0 : pM (ps k) k τk := by have := m2 k hk; rw [if_neg (by omega)] at this; exact this
      have o0 := (hp k hk).2
      have e0 : τk 0 24 = nI nc := by rw [m1 0 (by decide)]; exact h0
      have n0 : ¬ (nI nc ≤ nI k) := by rw [nI_leI (by omega) (by omega)]; omega
      by_cases hs : nI k = sk
      · refine Or.inl ⟨(nI d, sk, r, nI (k + 1), τk), ⟨r, τk, rfl, ⟨m1, fun c hc => ?_⟩, ?_⟩, fun K => ?_⟩
        · by_cases hck : c = k
          · subst hck
            rw [if_neg (fun q => q.2 hs)]
            exact p0
          · rw [if_cg (lt_k hck)]
            exact m2 c hc
        · rcases hg with ⟨g1, g2⟩ | ⟨c, x, g1, g2, g3⟩
          · refine Or.inl ⟨g1, fun c hc hne => ?_⟩
            by_cases hck : c = k
            · subst hck; exact absurd hs hne
            · exact g2 c (by omega) hne
          · exact Or.inr ⟨c, x, by omega, g2, g3⟩
        · show b_X8_goesFrom_6 K (nI d) sk r (nI k) τk = _
          unfold b_X8_goesFrom_6
          rw [e0, if_neg n0, m_place p0 (by omega) o0.1 hd o0.2, cl_some, if_pos hs, vl_d, nI_1]
      · cases hf : (ps k).findIdx? (fun q => q.1 == d) with
        | none =>
          have ex : pX (ps k) d = -4 := by unfold pX; rw [hf]
          have er : pR (ps k) d = ps k := by unfold pR; rw [hf]
          have en : pN (ps k) d = none := by unfold pN; rw [hf]
          refine Or.inl ⟨(nI d, sk, r, nI (k + 1), τk), ⟨r, τk, rfl, ⟨m1, fun c hc => ?_⟩, ?_⟩, fun K => ?_⟩
          · by_cases hck : c = k
            · subst hck
              rw [if_pos ⟨by omega, hs⟩, er]
              exact p0
            · rw [if_cg (lt_k hck)]
              exact m2 c hc
          · rcases hg with ⟨g1, g2⟩ | ⟨c, x, g1, g2, g3⟩
            · refine Or.inl ⟨g1, fun c hc hne => ?_⟩
              by_cases hck : c = k
              · subst hck; exact en
              · exact g2 c (by omega) hne
            · exact Or.inr ⟨c, x, by omega, g2, g3⟩
          · show b_X8_goesFrom_6 K (nI d) sk r (nI k) τk = _
            unfold b_X8_goesFrom_6
            rw [e0, if_neg n0, m_place p0 (by omega) o0.1 hd o0.2, cl_some, if_neg hs, ex, if_pos rfl, vl_d, nI_1]
        | some i =>
          have ex : pX (ps k) d = nI i := by unfold pX; rw [hf]
          have hi : i < (ps k).length := by
            obtain ⟨hi, -⟩ := List.findIdx?_eq_some_iff_getElem.mp hf
            exact hi
          have hi7 : i < 7 := Nat.lt_of_lt_of_le hi o0.1
          obtain ⟨q, hq⟩ := get_lt hi
          have er : pR (ps k) d = (ps k).eraseIdx i := by unfold pR; rw [hf]
          have en : pN (ps k) d = some q.2.1 := by
            unfold pN
            rw [hf]
            show some (((ps k)[i]?.map (fun q => q.2.1)).getD 0) = _
            rw [hq]
            rfl
          obtain ⟨τ', e1, e2, e3⟩ := m_rem p0 (by omega) o0.1 hi
          refine Or.inl ⟨(nI d, sk, nI q.2.1, nI (k + 1), τ'), ⟨_, τ', rfl, ⟨fun a ha => ?_, fun c hc => ?_⟩, Or.inr ⟨k, q.2.1, by omega, hs, en, rfl⟩⟩, fun K => ?_⟩
          · rw [← m1 a ha]
            funext b
            exact e3 a b (fun h => by omega) (fun h h' => by omega)
          · by_cases hck : c = k
            · subst hck
              rw [if_pos ⟨by omega, hs⟩, er]
              exact e2
            · rw [if_cg (lt_k hck)]
              exact (m2 c hc).fr (ok7_I (hp c hc).2 d _).1 e3 hck
          · show b_X8_goesFrom_6 K (nI d) sk r (nI k) τk = _
            unfold b_X8_goesFrom_6
            rw [e0, if_neg n0, m_place p0 (by omega) o0.1 hd o0.2, cl_some, if_neg hs, ex, if_neg (by rw [i_eq, t_m4, t_nI i (by omega)]; omega), m7, gd_t (ix_nI (by omega) (by decide)), vl_d, nt_nI (by omega), (p0.2 i q hq).2.1, e1, cl_some, vl_d, nI_1])
    (fun a ha => by
      obtain ⟨r, τk, rfl, ⟨m1, m2⟩, hg⟩ := ha
      refine ⟨(r, τk), ⟨r, τk, rfl, ⟨m1, m2⟩, hg⟩, fun K => ?_⟩
      show b_X8_goesFrom_6 K (nI d) sk r (nI nc) τk = _
      unfold b_X8_goesFrom_6
      rw [m1 0 (by decide), h0, if_pos (nI_le (Nat.le_refl _) (by omega))])
    (a := (nI d, sk, -4, 0, τ)) ⟨-4, τ, rfl, ⟨fun _ _ => rfl, fun c hc => by rw [if_neg (by omega)]; exact (hp c hc).1⟩, Or.inl ⟨rfl, fun c hc => by omega⟩⟩
  exact ⟨r', τ', hr, q1, q2⟩
/-- what the class's lists hold, at all four coordinators -/
theorem ls_of {n nc : Nat} {σ τ : St} (h : rCo n nc σ τ) (hz : rZ nc σ) {c : Nat} (hc : c < 4) : ∃ m, m < 256 ∧ σ (22 + c) 2 = nI m := by
  by_cases h1 : c < nc
  · obtain ⟨m, a, b, _⟩ := (h c h1).2.1
    exact ⟨m, a, b⟩
  · exact ⟨0, by decide, (hz c (by omega) hc).1⟩
/-- the count of lists that hold a device -/
def cD (f : Nat → Int32) (d : Nat) : Nat → Int32
  | 0 => 0
  | k + 1 => cD f d k + ((f k >>> (nI d &&& 31)) &&& 1)
theorem cD_cg {f g : Nat → Int32} {d : Nat} : ∀ {k : Nat}, (∀ c, c < k → f c = g c) → cD f d k = cD g d k
  | 0, _ => rfl
  | k + 1, h => by unfold cD; rw [cD_cg (k := k) (fun c hc => h c (by omega)), h k (by omega)]
theorem cD_z {f : Nat → Int32} {d nc : Nat} (hd : d < 8) (h : ∀ c, nc ≤ c → c < 4 → f c = 0) : ∀ k, nc ≤ k → k ≤ 4 → cD f d k = cD f d nc := by
  intro k h1 h2
  induction k with
  | zero => rw [show nc = 0 by omega]
  | succ k ih =>
    by_cases e : nc = k + 1
    · rw [e]
    · show cD f d k + ((f k >>> (nI d &&& 31)) &&& 1) = cD f d nc
      rw [ih (by omega) (by omega), h k (by omega) (by omega)]
      rw [show ((0 : Int32) >>> (nI d &&& 31)) &&& 1 = 0 from (bt1 0 (by decide) d hd).mp (bt7 d hd)]
      exact Int32.add_zero _
