/-- what the reference has begun: coordinators -/
def MC (τ : St) (k : Nat) (τk : St) : Prop := (∀ a, (a < 25 ∨ 30 < a) → τk a = τ a) ∧ ∀ c, c < k → τk 25 c = τ 10 c ∧ τk 26 c = τ 11 c ∧ τk 27 c = τ 11 c ∧ τk 28 c = 0 ∧ τk 29 c = 0 ∧ τk 30 c = 0
theorem MC_step {τ τk : St} {k : Nat} (hk : k < 4) (h : MC τ k τk) : ∃ τ', (∀ K, b_X8_begin_73 K (nI k) τk = K (nI (k + 1), τ')) ∧ MC τ (k + 1) τ' := by
  obtain ⟨l1, l2⟩ := h
  have g4 : ix (nI k) 4 := ix_nI hk (by decide)
  refine ⟨up2 (up2 (up2 (up2 (up2 (up2 (up2 τk 29 k 0) 25 k (τk 10 k)) 26 k (τk 11 k)) 28 k 0) 30 k 0) 29 k 0) 27 k (τk 11 k), fun K => ?_, fun a ha => ?_, fun c hc => ?_⟩
  · unfold b_X8_begin_73 f_X8_coordBegins
    rw [if_neg (by rw [i_le, t_lit 4 (by decide), t_nI k (by omega)]; omega), gd_t g4, vl_d, gd_t g4, gd_t g4, gd_t g4, vl_d, gd_t g4, vl_d, gd_t g4, vl_d, gd_t g4, vl_d, gd_t g4, vl_d, cl_some, gd_t g4, gd_t g4, vl_d, vl_d, nt_nI (by omega), nI_1]
    simp only [up2_r (show (10 : Nat) ≠ 29 by decide), up2_r (show (11 : Nat) ≠ 29 by decide), up2_r (show (11 : Nat) ≠ 30 by decide), up2_r (show (11 : Nat) ≠ 28 by decide), up2_r (show (11 : Nat) ≠ 26 by decide), up2_r (show (11 : Nat) ≠ 25 by decide)]
  · rw [up2_ne (by omega), up2_ne (by omega), up2_ne (by omega), up2_ne (by omega), up2_ne (by omega), up2_ne (by omega), up2_ne (by omega)]
    exact l1 a ha
  · by_cases e : c = k
    · subst e
      rw [← l1 10 (by decide), ← l1 11 (by decide)]
      refine ⟨?_, ?_, ?_, ?_, ?_, ?_⟩ <;> simp [up2_g]
    · obtain ⟨q1, q2, q3, q4, q5, q6⟩ := l2 c (by omega)
      refine ⟨?_, ?_, ?_, ?_, ?_, ?_⟩ <;> simp [up2_g, e, q1, q2, q3, q4, q5, q6]
def MD (τ : St) (k : Nat) (τk : St) : Prop := (∀ a, (a < 36 ∨ 49 < a) → τk a = τ a) ∧ ∀ d, d < k → ∀ j, 1 ≤ j → j ≤ 14 → τk (35 + j) d = dv (τ 13 d) (τ 14 d) (τ 15 d) j
theorem begin_eq {nc B S le li : Nat} {τ : St} (hB : B ≤ 5) (hS : S ≤ 3) (t5 : τ 0 5 = nI B) (t6 : τ 0 6 = nI S) (t7 : τ 0 7 = nI le) (t8 : τ 0 8 = nI li) (t9 : τ 0 9 = nI nc) : f_X8_begin τ = lp (fun K a => b_X8_begin_73 K a.1 a.2) FU ((0 : Int32), up2 (up2 (up2 (up2 (up2 (up2 (up2 (up2 (up2 τ 0 16 (nI (48 * 2 ^ B))) 0 17 (nI (48 * 2 ^ S))) 0 18 (nI (3 * 2 ^ S))) 0 19 (nI le)) 0 20 (nI li)) 0 21 0) 0 22 1) 0 23 0) 0 24 (nI nc)) := by
  unfold f_X8_begin f_X8_beatOf
  rw [cl_some, vl_d, cl_some, vl_d, vl_d, vl_d, vl_d, vl_d, vl_d, vl_d, vl_d, t5, sh48 B (by omega)]
  rw [up2_c (show (6 : Nat) ≠ 16 by decide), t6, sh48 S (by omega)]
  rw [up2_c (show (6 : Nat) ≠ 17 by decide), up2_c (show (6 : Nat) ≠ 16 by decide), t6, sh3 S (by omega)]
  rw [up2_c (show (7 : Nat) ≠ 18 by decide), up2_c (show (7 : Nat) ≠ 17 by decide), up2_c (show (7 : Nat) ≠ 16 by decide), t7]
  rw [up2_c (show (8 : Nat) ≠ 19 by decide), up2_c (show (8 : Nat) ≠ 18 by decide), up2_c (show (8 : Nat) ≠ 17 by decide), up2_c (show (8 : Nat) ≠ 16 by decide), t8]
  rw [up2_c (show (9 : Nat) ≠ 23 by decide), up2_c (show (9 : Nat) ≠ 22 by decide), up2_c (show (9 : Nat) ≠ 21 by decide), up2_c (show (9 : Nat) ≠ 20 by decide), up2_c (show (9 : Nat) ≠ 19 by decide), up2_c (show (9 : Nat) ≠ 18 by decide), up2_c (show (9 : Nat) ≠ 17 by decide), up2_c (show (9 : Nat) ≠ 16 by decide), t9]
theorem m_begin {nc nd B S le li : Nat} {hm : Nat → Nat} {τ : St} (hnc : nc ≤ 4) (hnd : nd ≤ 8) (hB : B ≤ 5) (hS : S ≤ 3) (t5 : τ 0 5 = nI B) (t6 : τ 0 6 = nI S) (t7 : τ 0 7 = nI le) (t8 : τ 0 8 = nI li) (t9 : τ 0 9 = nI nc) (t12 : τ 0 12 = nI nd) (hh : ∀ d, d < nd → hm d < nc ∧ τ 13 d = nI (hm d)) :
    ∃ τ', f_X8_begin τ = some ((), τ') ∧ rM nc nd B S le li τ' ∧ τ' 0 21 = 0 ∧ τ' 0 22 = 1 ∧ τ' 0 23 = 0 ∧ (∀ j, j < 16 → τ' 0 j = τ 0 j) ∧ (∀ a, a ≠ 0 → (a < 25 ∨ (30 < a ∧ a < 36) ∨ 49 < a) → τ' a = τ a) ∧ (∀ c, c < 4 → τ' 25 c = τ 10 c ∧ τ' 26 c = τ 11 c ∧ τ' 27 c = τ 11 c ∧ τ' 28 c = 0 ∧ τ' 29 c = lsF hm c nd ∧ τ' 30 c = 0) ∧ ∀ d, d < 8 → ∀ j, 1 ≤ j → j ≤ 14 → τ' (35 + j) d = dv (τ 13 d) (τ 14 d) (τ 15 d) j := by
  obtain ⟨τ2, e2⟩ : ∃ τ2, τ2 = up2 (up2 (up2 (up2 (up2 (up2 (up2 (up2 (up2 τ 0 16 (nI (48 * 2 ^ B))) 0 17 (nI (48 * 2 ^ S))) 0 18 (nI (3 * 2 ^ S))) 0 19 (nI le)) 0 20 (nI li)) 0 21 0) 0 22 1) 0 23 0) 0 24 (nI nc) := ⟨_, rfl⟩
  have r2 : ∀ a, a ≠ 0 → τ2 a = τ a := fun a ha => by rw [e2, up2_ne ha, up2_ne ha, up2_ne ha, up2_ne ha, up2_ne ha, up2_ne ha, up2_ne ha, up2_ne ha, up2_ne ha]
  have r0 : ∀ j, j < 16 → τ2 0 j = τ 0 j := fun j hj => by rw [e2, up2_c (by omega), up2_c (by omega), up2_c (by omega), up2_c (by omega), up2_c (by omega), up2_c (by omega), up2_c (by omega), up2_c (by omega), up2_c (by omega)]
  obtain ⟨r, hr, τc, τd, τl, q1, q2, q3, q4, rfl⟩ := lp_FU (b := fun K a => b_X8_begin_73 K a.1 a.2) (fun k a => ∃ τk, a = (nI k, τk) ∧ MC τ2 k τk)
    (fun r => ∃ τc τd τl, MC τ2 4 τc ∧ MD (up2 τc 0 35 (nI nd)) 8 τd ∧ (∀ a, a ≠ 29 → τl a = τd a) ∧ (∀ c, c < 4 → τl 29 c = lsF hm c nd) ∧ r = ((), τl)) 4 (by decide)
    (fun k a hk ha => by
      obtain ⟨τk, rfl, hI⟩ := ha
      obtain ⟨τ', s1, s2⟩ := MC_step hk hI
      exact Or.inl ⟨(nI (k + 1), τ'), ⟨τ', rfl, s2⟩, s1⟩)
    (fun a ha => by
      obtain ⟨τc, rfl, hI⟩ := ha
      have c12 : τc 0 12 = nI nd := by rw [hI.1 0 (by decide), r0 12 (by decide)]; exact t12
      obtain ⟨r, hr, τd, τl, w1, w2, w3, rfl⟩ := lp_FU (b := fun K a => b_X8_begin_130 K a.1 a.2) (fun k a => ∃ τk, a = (nI k, τk) ∧ MD (up2 τc 0 35 (nI nd)) k τk)
        (fun r => ∃ τd τl, MD (up2 τc 0 35 (nI nd)) 8 τd ∧ (∀ a, a ≠ 29 → τl a = τd a) ∧ (∀ c, c < 4 → τl 29 c = lsF hm c nd) ∧ r = ((), τl)) 8 (by decide)
        (fun k a hk ha => by
          obtain ⟨τk, rfl, l1, l2⟩ := ha
          obtain ⟨τ', s1, s2, s3, s4⟩ := m_devB (τ := τk) hk
          refine Or.inl ⟨(nI (k + 1), τ'), ⟨τ', rfl, fun a ha => (s2 a ha).trans (l1 a ha), fun d hd j j1 j2 => ?_⟩, fun K => ?_⟩
          · by_cases e : d = k
            · subst e
              rw [s4 j j1 j2, l1 13 (by decide), l1 14 (by decide), l1 15 (by decide)]
            · rw [s3 _ d e]
              exact l2 d (by omega) j j1 j2
          · show b_X8_begin_130 K (nI k) τk = _
            unfold b_X8_begin_130
            rw [if_neg (by rw [i_le, t_lit 8 (by decide), t_nI k (by omega)]; omega), s1, cl_some, vl_d, nI_1])
        (fun a ha => by
          obtain ⟨τd, rfl, l1, l2⟩ := ha
          have d35 : τd 0 35 = nI nd := by rw [l1 0 (by decide), up2_at]
          have d36 : ∀ d, d < nd → hm d < nc ∧ τd 36 d = nI (hm d) := fun d hd => by
            refine ⟨(hh d hd).1, ?_⟩
            have := l2 d (by omega) 1 (by decide) (by decide)
            rw [show τd 36 d = τd (35 + 1) d from rfl, this]
            show up2 τc 0 35 (nI nd) 13 d = _
            rw [up2_r (by decide), hI.1 13 (by decide), r2 13 (by decide)]
            exact (hh d hd).2
          obtain ⟨r, hr, τl, v1, v2, rfl⟩ := lp_FU (b := fun K a => b_X8_begin_149 K a.1 a.2) (fun k a => ∃ τk, a = (nI k, τk) ∧ (∀ a, a ≠ 29 → τk a = τd a) ∧ ∀ c, c < 4 → τk 29 c = lsF hm c k)
            (fun r => ∃ τl, (∀ a, a ≠ 29 → τl a = τd a) ∧ (∀ c, c < 4 → τl 29 c = lsF hm c nd) ∧ r = ((), τl)) nd (by omega)
            (fun k a hk ha => by
              obtain ⟨τk, rfl, l3, l4⟩ := ha
              obtain ⟨hc, eh⟩ := d36 k hk
              have hc4 : hm k < 4 := by omega
              refine Or.inl ⟨(nI (k + 1), up2 τk 29 (hm k) (τk 29 (hm k) ||| bB k)), ⟨_, rfl, fun a ha => by rw [up2_ne ha]; exact l3 a ha, fun c hc' => ?_⟩, fun K => ?_⟩
              · show _ = if hm k = c then lsF hm c k ||| bB k else lsF hm c k
                by_cases e : hm k = c
                · subst e
                  rw [if_pos rfl, up2_at, l4 _ hc4]
                · rw [if_neg e, up2_c (fun q => e q.symm), l4 c hc']
              · show b_X8_begin_149 K (nI k) τk = _
                unfold b_X8_begin_149
                rw [l3 0 (by decide), d35, if_neg (by rw [nI_leI (by omega) (by omega)]; omega), gd_t (ix_nI (show k < 8 by omega) (by decide)), nt_nI (show k < 2147483648 by omega), l3 36 (by decide), eh, gd_t (ix_nI hc4 (by decide)), gd_t (ix_nI hc4 (by decide)), vl_d, vl_d, nt_nI (show hm k < 2147483648 by omega), nI_1])
            (fun a ha => by
              obtain ⟨τk, rfl, l3, l4⟩ := ha
              refine ⟨_, ⟨τk, l3, l4, rfl⟩, fun K => ?_⟩
              show b_X8_begin_149 K (nI nd) τk = _
              unfold b_X8_begin_149
              rw [l3 0 (by decide), d35, if_pos (nI_le (Nat.le_refl _) (by omega))])
            (a := (0, τd)) ⟨τd, rfl, fun _ _ => rfl, fun c hc => by
              rw [l1 29 (by decide), up2_ne (by decide)]
              exact (hI.2 c hc).2.2.2.2.1⟩
          refine ⟨_, ⟨τd, τl, ⟨l1, l2⟩, v1, v2, rfl⟩, fun K => ?_⟩
          show b_X8_begin_130 K (nI 8) τd = _
          unfold b_X8_begin_130
          rw [if_pos (by decide)]
          exact hr)
        (a := (0, up2 τc 0 35 (nI nd))) ⟨_, rfl, fun _ _ => rfl, fun d hd => by omega⟩
      refine ⟨_, ⟨τc, τd, τl, hI, w1, w2, w3, rfl⟩, fun K => ?_⟩
      show b_X8_begin_73 K (nI 4) τc = _
      unfold b_X8_begin_73
      rw [if_pos (by decide), vl_d, c12]
      exact hr)
    (a := (0, τ2)) ⟨τ2, rfl, fun _ _ => rfl, fun c hc => by omega⟩
  have f0 : ∀ a, a ≠ 29 → a < 25 → ∀ j, j ≠ 35 ∨ a ≠ 0 → τl a j = τ2 a j := fun a h1 h2 j h3 => by rw [q3 a h1, q2.1 a (by omega), up2_g, if_neg (by omega), q1.1 a (by omega)]
  refine ⟨τl, ?_, ?_, ?_, ?_, ?_, ?_, ?_, ?_, ?_⟩
  · rw [begin_eq hB hS t5 t6 t7 t8 t9, ← e2]
    exact hr
  · unfold rM
    rw [f0 0 (by decide) (by decide) 16 (by decide), f0 0 (by decide) (by decide) 17 (by decide), f0 0 (by decide) (by decide) 18 (by decide), f0 0 (by decide) (by decide) 19 (by decide), f0 0 (by decide) (by decide) 20 (by decide), f0 0 (by decide) (by decide) 24 (by decide), e2]
    refine ⟨?_, ?_, ?_, ?_, ?_, ?_, ?_⟩
    · simp [up2_g]
    · simp [up2_g]
    · simp [up2_g]
    · simp [up2_g]
    · simp [up2_g]
    · simp [up2_g]
    · rw [q3 0 (by decide), q2.1 0 (by decide), up2_at]
  · rw [f0 0 (by decide) (by decide) 21 (by decide), e2]; simp [up2_g]
  · rw [f0 0 (by decide) (by decide) 22 (by decide), e2]; simp [up2_g]
  · rw [f0 0 (by decide) (by decide) 23 (by decide), e2]; simp [up2_g]
  · intro j hj
    rw [f0 0 (by decide) (by decide) j (by omega)]
    exact r0 j hj
  · intro a h1 h2
    rw [q3 a (by omega), q2.1 a (by omega), up2_ne h1, q1.1 a (by omega)]
    exact r2 a h1
  · intro c hc
    obtain ⟨u1, u2, u3, u4, u5, u6⟩ := q1.2 c hc
    have k : ∀ a, a ≠ 29 → a ≠ 0 → a < 36 → τl a c = τc a c := fun a h1 h2 h3 => by rw [q3 a h1, q2.1 a (by omega), up2_ne h2]
    rw [k 25 (by decide) (by decide) (by decide), k 26 (by decide) (by decide) (by decide), k 27 (by decide) (by decide) (by decide), k 28 (by decide) (by decide) (by decide), k 30 (by decide) (by decide) (by decide), q4 c hc, u1, u2, u3, u4, u6, r2 10 (by decide), r2 11 (by decide)]
    exact ⟨rfl, rfl, rfl, rfl, rfl, rfl⟩
  · intro d hd j j1 j2
    rw [q3 _ (by omega), q2.2 d hd j j1 j2]
    have k : ∀ a, 13 ≤ a → a ≤ 15 → up2 τc 0 35 (nI nd) a = τ a := fun a h1 h2 => by rw [up2_ne (by omega), q1.1 a (by omega), r2 a (by omega)]
    rw [k 13 (by decide) (by decide), k 14 (by decide) (by decide), k 15 (by decide) (by decide)]
