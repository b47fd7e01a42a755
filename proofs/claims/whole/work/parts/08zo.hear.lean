/-! the beacon is heard -/
theorem wF_sl (f : Rw → Rw) (W : Wd) : ∀ k, (wF (wOp (fun r s => (f r, s))) W k).2 = W.2 ∧ ∀ d, d < k → (wF (wOp (fun r s => (f r, s))) W k).1 d = f (W.1 d) := by
  intro k
  induction k with
  | zero => exact ⟨rfl, fun d hd => absurd hd (by omega)⟩
  | succ k ih =>
    refine ⟨ih.1, fun d hd => ?_⟩
    show (wOp (fun r s => (f r, s)) k (wF (wOp (fun r s => (f r, s))) W k)).1 d = _
    by_cases e : d = k
    · rw [e, wOp_row, wF_late _ _ _ _ (Nat.le_refl _)]
    · rw [wOp_ne _ _ e]; exact ih.2 d (by omega)
theorem upd_cm (r : Rw) {j k : Nat} (v w : Int32) (h : j ≠ k) : upd (upd r j v) k w = upd (upd r k w) j v := by
  funext i
  by_cases e1 : i = k
  · rw [e1, upd_s, upd_n _ _ (Ne.symm h), upd_s]
  · rw [upd_n _ _ e1]
    by_cases e2 : i = j
    · rw [e2, upd_s, upd_s]
    · rw [upd_n _ _ e2, upd_n _ _ e2, upd_n _ _ e1]
def rHr (c : Int32) (r : Rw) : Rw := if r 1 = c then (if r 9 = 0 then upd (upd r 8 0) 15 1 else upd (upd (upd (upd r 9 (r 9 - 1)) 8 (r 8 + 1)) 1 (if r 8 + 1 = 4 then -4 else r 1)) 15 0) else upd r 15 0
def hOk (c : Nat) (r : Rw) : Prop := (∃ x, x ≤ 9 ∧ r 9 = nI x) ∧ (r 1 = nI c → ∃ x, x ≤ 3 ∧ r 8 = nI x)
theorem m_hear {nd c : Nat} {τ : St} {W : Wd} (hnd : nd ≤ 8) (h35 : τ 0 35 = nI nd) (h : mW nd τ W) (hk : ∀ d, d < nd → hOk c (W.1 d)) : ∃ τ', lp (fun K a => b_X8_beacon_45 K a.1 a.2.1 a.2.2) FU (nI c, (0 : Int32), τ) = some ((), τ') ∧ mW nd τ' (wF (wOp (fun r s => (rHr (nI c) r, s))) W nd) ∧ fmW nd τ τ' := by
  obtain ⟨r, hr, τ', rfl, q1, q2⟩ := dev_loop (b := fun K a => b_X8_beacon_45 K a.1 a.2.1 a.2.2) hnd (fun x i τ => (nI c, i, τ)) (fun r s => (rHr (nI c) r, s)) (fun _ => 0) (fun _ _ _ => True) (Q := fun r => ∃ τ', r = ((), τ') ∧ mW nd τ' (wF (wOp (fun r s => (rHr (nI c) r, s))) W nd) ∧ fmW nd τ τ') (x0 := 0) h trivial
    (fun k τk V x hkn m1 m2 m3 _ => by
      have g8 : ix (nI k) 8 := ix_nI (by omega) (by decide)
      have nk := nt_nI (show k < 2147483648 by omega)
      have M0 := m1.R (d := k)
      rw [m2] at M0
      obtain ⟨⟨x9, p1, p2⟩, p3⟩ := hk k hkn
      obtain ⟨r, er⟩ : ∃ r, r = W.1 k := ⟨_, rfl⟩
      obtain ⟨s, es⟩ : ∃ s, s = V.2 := ⟨_, rfl⟩
      rw [← er] at M0 p2 p3
      rw [← es] at M0
      have z1 : τk 36 k = r 1 := M0.g hkn 1 (by decide) (by decide)
      have z9 : τk 44 k = r 9 := M0.g hkn 9 (by decide) (by decide)
      suffices hh : ∃ τ' r', (∀ K, b_X8_beacon_45 K (nI c) (nI k) τk = K (nI c, nI (k + 1), τ')) ∧ rHr (nI c) r = r' ∧ mR nd τk τ' V k r' s by
        obtain ⟨τ', r', q1, q2, q3⟩ := hh
        have q5 := q3.to (F := fun r s => (rHr (nI c) r, s)) (by show (rHr (nI c) (V.1 k), V.2) = _; rw [m2, ← er, ← es, q2])
        exact ⟨τ', q1, q5.1, q5.2, trivial⟩
      by_cases h1 : r 1 = nI c
      · by_cases h9 : r 9 = 0
        · have M1 := M0.put hkn 15 1 (by decide) (by decide)
          have M2 := M1.put hkn 8 0 (by decide) (by decide)
          refine ⟨_, _, fun K => ?_, ?_, M2⟩
          · unfold b_X8_beacon_45
            rw [if_neg (f35 hnd hkn h35 m3), gd_t g8, nk, z1, if_pos h1, gd_t g8, z9, if_pos h9]
            unfold f_X8_beacon_82
            rw [gd_t g8, nk, vl_d, gd_t g8, up2_r (show (36 : Nat) ≠ 50 by decide), z1, if_pos h1, gd_t g8, up2_r (show (44 : Nat) ≠ 50 by decide), z9, h9, if_pos (by decide)]
            unfold f_X8_beacon_152
            rw [gd_t g8, nk, up2_r (show (36 : Nat) ≠ 50 by decide), z1, if_pos h1, gd_t g8, vl_d, vl_d, nI_1]
          · unfold rHr
            rw [if_pos h1, if_pos h9, upd_cm _ _ _ (by decide)]
        · have M1 := M0.put hkn 15 0 (by decide) (by decide)
          have M2 := M1.put hkn 9 (r 9 - 1) (by decide) (by decide)
          have M3 := M2.put hkn 8 (r 8 + 1) (by decide) (by decide)
          have M4 := M3.put hkn 1 (if r 8 + 1 = 4 then -4 else r 1) (by decide) (by decide)
          refine ⟨_, _, fun K => ?_, ?_, M4⟩
          · have y1 : up2 (up2 (up2 τk 50 k 0) 44 k (r 9 - 1)) 43 k (r 8 + 1) 36 k = r 1 := by rw [up2_r (by decide), up2_r (by decide), up2_r (by decide), z1]
            unfold b_X8_beacon_45
            rw [if_neg (f35 hnd hkn h35 m3), gd_t g8, nk, z1, if_pos h1, gd_t g8, z9, if_neg h9]
            unfold f_X8_beacon_82
            rw [gd_t g8, nk, vl_d, gd_t g8, up2_r (show (36 : Nat) ≠ 50 by decide), z1, if_pos h1, gd_t g8, up2_r (show (44 : Nat) ≠ 50 by decide), z9, if_neg (by rw [p2, i_le, t_nI _ (by omega), t_lit 0 (by decide)]; rw [p2, i_eq, t_nI _ (by omega), t_lit 0 (by decide)] at h9; omega), gd_t g8, gd_t g8, vl_d, gd_t g8, gd_t g8, up2_r (show (43 : Nat) ≠ 44 by decide), up2_r (show (43 : Nat) ≠ 50 by decide), show τk 43 k = r 8 from M0.g hkn 8 (by decide) (by decide), vl_d, gd_t g8, up2_at]
            by_cases h4 : r 8 + 1 = 4
            · rw [if_pos h4, if_pos h4, gd_t g8, vl_d, vl_d, nI_1]
            · rw [if_neg h4, if_neg h4, gd_t g8, gd_t g8, y1, vl_d, vl_d, nI_1]
          · unfold rHr
            rw [if_pos h1, if_neg h9, upd_cm (upd (upd r 15 0) 9 (r 9 - 1)) (j := 8) (k := 1) _ _ (by decide)]
            rw [upd_cm r (j := 15) (k := 9) _ _ (by decide), upd_cm (upd r 9 (r 9 - 1)) (j := 15) (k := 1) _ _ (by decide), upd_cm _ (j := 15) (k := 8) _ _ (by decide), upd_cm (upd r 9 (r 9 - 1)) (j := 1) (k := 8) _ _ (by decide)]
      · have M1 := M0.put hkn 15 0 (by decide) (by decide)
        refine ⟨_, _, fun K => ?_, ?_, M1⟩
        · unfold b_X8_beacon_45
          rw [if_neg (f35 hnd hkn h35 m3), gd_t g8, nk, z1, if_neg h1]
          unfold f_X8_beacon_82
          rw [gd_t g8, nk, vl_d, gd_t g8, up2_r (show (36 : Nat) ≠ 50 by decide), z1, if_neg h1]
          unfold f_X8_beacon_152
          rw [gd_t g8, nk, up2_r (show (36 : Nat) ≠ 50 by decide), z1, if_neg h1, vl_d, nI_1]
        · unfold rHr
          rw [if_neg h1])
    (fun τ' V x eV m1 m2 _ _ => by
      subst eV
      refine ⟨_, ⟨τ', rfl, m1, m2⟩, fun K => ?_⟩
      show b_X8_beacon_45 K (nI c) (nI nd) τ' = _
      unfold b_X8_beacon_45
      rw [if_pos (f35e hnd h35 m2)])
  exact ⟨τ', hr, q1, q2⟩
/-- the class's: who hears is taken into the party -/
def ptH (c : Nat) (W : Wd) (k : Nat) : List Nat := (List.range k).filter (fun d => decide (rHr (nI c) (W.1 d) 15 = 1))
def fcB (nd : Nat) (σ σ' : St) : Prop := (∀ a, a ≠ 6 → a ≠ 7 → (a < 46 ∨ 46 + nd ≤ a) → σ' a = σ a) ∧ (∀ j, j ≠ 1 → j ≠ 2 → σ' 6 j = σ 6 j) ∧ ∀ d, d < nd → ∀ j, (j = 0 ∨ 19 < j) → σ' (46 + d) j = σ (46 + d) j
theorem fcB.rf {nd : Nat} {σ : St} : fcB nd σ σ := ⟨fun _ _ _ _ => rfl, fun _ _ _ => rfl, fun _ _ _ _ => rfl⟩
theorem fcB.tr {nd : Nat} {σ σ' σ'' : St} (h : fcB nd σ σ') (h' : fcB nd σ' σ'') : fcB nd σ σ'' := ⟨fun a b c d => (h'.1 a b c d).trans (h.1 a b c d), fun j a b => (h'.2.1 j a b).trans (h.2.1 j a b), fun d a j b => (h'.2.2 d a j b).trans (h.2.2 d a j b)⟩
theorem fcW.B {nd : Nat} {σ σ' : St} (h : fcW nd σ σ') : fcB nd σ σ' := ⟨fun a b _ c => h.1 a b c, fun j _ a => h.2.1 j a, h.2.2⟩
theorem ptH_succ (c : Nat) (W : Wd) (k : Nat) : ptH c W (k + 1) = if rHr (nI c) (W.1 k) 15 = 1 then ptH c W k ++ [k] else ptH c W k := by
  unfold ptH
  rw [List.range_succ, List.filter_append]
  by_cases h : rHr (nI c) (W.1 k) 15 = 1
  · rw [if_pos h, show List.filter (fun d => decide (rHr (nI c) (W.1 d) 15 = 1)) [k] = [k] from by simp [h]]
  · rw [if_neg h, show List.filter (fun d => decide (rHr (nI c) (W.1 d) 15 = 1)) [k] = [] from by simp [h], List.append_nil]
theorem ptH_len (c : Nat) (W : Wd) (k : Nat) : (ptH c W k).length ≤ k := by
  have := List.length_filter_le (fun d => decide (rHr (nI c) (W.1 d) 15 = 1)) (List.range k)
  rw [List.length_range] at this
  exact this
theorem ptH_pty (c : Nat) (W : Wd) (k : Nat) : pty (wF (wOp (fun r s => (rHr (nI c) r, s))) W k) k = ptH c W k := by
  unfold pty ptH
  refine List.filter_congr (fun d hd => ?_)
  rw [(wF_sl (rHr (nI c)) W k).2 d (List.mem_range.mp hd)]
theorem c_hear {nd c : Nat} {σ : St} {W : Wd} (hnd : nd ≤ 8) (hL : σ (LA σ) 6 = nI nd) (h : cW nd σ W) (hk : ∀ d, d < nd → hOk c (W.1 d)) : ∃ σ', f_X7_hearBeacon (nI c) σ = some ((), σ') ∧ cW nd σ' (wF (wOp (fun r s => (rHr (nI c) r, s))) W nd) ∧ fcB nd σ σ' ∧ σ' 6 1 = nI (ptH c W nd).length ∧ ∀ (i : Nat) (d : Nat), (ptH c W nd)[i]? = some d → σ' 7 i = nI (d + 1) := by
  have hLA := LA_ok σ
  obtain ⟨r, hr, σ', rfl, q1, q2, q3, q4⟩ := lp_FU (b := fun K a => b_X7_hearBeacon_9 K a.1 a.2.1 a.2.2)
    (fun k a => ∃ σk, a = (nI c, nI k, σk) ∧ cW nd σk (wF (wOp (fun r s => (rHr (nI c) r, s))) W k) ∧ fcB nd σ σk ∧ σk 6 1 = nI (ptH c W k).length ∧ ∀ (i : Nat) (d : Nat), (ptH c W k)[i]? = some d → σk 7 i = nI (d + 1))
    (fun r => ∃ σ', r = ((), σ') ∧ cW nd σ' (wF (wOp (fun r s => (rHr (nI c) r, s))) W nd) ∧ fcB nd σ σ' ∧ σ' 6 1 = nI (ptH c W nd).length ∧ ∀ (i : Nat) (d : Nat), (ptH c W nd)[i]? = some d → σ' 7 i = nI (d + 1)) nd (by omega)
    (fun k a hkn ha => by
      obtain ⟨σk, rfl, m1, m2, m3, m4⟩ := ha
      obtain ⟨V, eV⟩ : ∃ V, V = wF (wOp (fun r s => (rHr (nI c) r, s))) W k := ⟨_, rfl⟩
      have eVk : V.1 k = W.1 k := by rw [eV]; exact wF_late _ _ _ _ (Nat.le_refl _)
      have g8 : ix (nI k) 8 := ix_nI (by omega) (by decide)
      have nk := nt_nI (show k < 2147483648 by omega)
      have e0 : σk 0 = σ 0 := m2.1 0 (by decide) (by decide) (by omega)
      have eL : σk (lay (σk 0 6)) 6 = nI nd := by
        rw [e0, show lay (σ 0 6) = LA σ from rfl, m2.1 (LA σ) (by omega) (by omega) (by omega)]
        exact hL
      rw [← eV] at m1
      have R0 := m1.R (d := k)
      rw [eVk] at R0
      obtain ⟨⟨x9, p1, p2⟩, p3⟩ := hk k hkn
      have hlen := ptH_len c W k
      rw [ptH_succ]
      have eW : wF (wOp (fun r s => (rHr (nI c) r, s))) W (k + 1) = wOp (fun r s => (rHr (nI c) r, s)) k V := by rw [eV]; rfl
      rw [eW]
      obtain ⟨r, er⟩ : ∃ r, r = W.1 k := ⟨_, rfl⟩
      obtain ⟨s, es⟩ : ∃ s, s = V.2 := ⟨_, rfl⟩
      rw [← er] at R0 p2 p3 ⊢
      rw [← es] at R0
      have eF : (fun r s => (rHr (nI c) r, s)) (V.1 k) V.2 = (rHr (nI c) r, s) := by show (rHr (nI c) (V.1 k), V.2) = _; rw [eVk, ← er, ← es]
      have z1 : σk (46 + k) 1 = r 1 := R0.g hkn 1 (by decide) (by decide)
      have z9 : σk (46 + k) 9 = r 9 := R0.g hkn 9 (by decide) (by decide)
      have z8 : σk (46 + k) 8 = r 8 := R0.g hkn 8 (by decide) (by decide)
      have n0 : ¬ nI nd ≤ nI k := by rw [nI_leI (by omega) (by omega)]; omega
      have n8 : ¬ (8 : Int32) ≤ nI k := by rw [i_le, t_lit 8 (by decide), t_nI _ (by omega)]; omega
      by_cases h1 : r 1 = nI c
      · by_cases h9 : r 9 = 0
        · have R1 := R0.put hkn 8 0 (by decide) (by decide)
          have R2 := R1.put hkn 15 1 (by decide) (by decide)
          have eh : rHr (nI c) r = upd (upd r 8 0) 15 1 := by unfold rHr; rw [if_pos h1, if_pos h9]
          rw [← eh] at R2
          have Q := R2.to (F := fun r s => (rHr (nI c) r, s)) eF
          have e15 : rHr (nI c) r 15 = 1 := by rw [eh, upd_s]
          obtain ⟨σ2, e2⟩ : ∃ σ2, σ2 = up2 (up2 σk (46 + k) 8 0) (46 + k) 15 1 := ⟨_, rfl⟩
          rw [← e2] at Q
          have y61 : σ2 6 1 = nI (ptH c W k).length := by rw [Q.2.2.1 1 (by decide)]; exact m3
          rw [if_pos e15]
          refine Or.inl ⟨(nI c, nI (k + 1), up2 (up2 σ2 7 (ptH c W k).length (nI (k + 1))) 6 1 (nI ((ptH c W k).length + 1))), ⟨_, rfl, ⟨fun d hd j j1 j2 => ?_, ?_⟩, m2.tr (Q.2.B.tr ⟨fun a b c d => ?_, fun j a b => ?_, fun d hd j hj => ?_⟩), ?_, fun i d hd => ?_⟩, fun K => ?_⟩
          · rw [up2_r (by omega), up2_r (by omega)]; exact Q.1.1 d hd j j1 j2
          · rw [up2_c (by decide), up2_r (by decide)]; exact Q.1.2
          · rw [up2_ne b, up2_ne c]
          · rw [up2_c a, up2_r (by decide)]
          · rw [up2_r (by omega), up2_r (by omega)]
          · rw [up2_at, List.length_append]; rfl
          · rw [up2_r (by decide)]
            by_cases ei : i = (ptH c W k).length
            · rw [ei] at hd ⊢
              rw [List.getElem?_append_right (Nat.le_refl _), Nat.sub_self] at hd
              have : k = d := by simpa using hd
              rw [up2_at, this]
            · rw [up2_c ei, Q.2.1 7 (by decide) (by omega)]
              refine m4 i d ?_
              have hi := (List.getElem?_eq_some_iff.mp hd).1
              rw [List.length_append] at hi
              rw [List.getElem?_append_left (by have : [k].length = 1 := rfl; omega)] at hd
              exact hd
          · show b_X7_hearBeacon_9 K (nI c) (nI k) σk = _
            unfold b_X7_hearBeacon_9
            rw [eL, if_neg n0, if_neg n8, gd_t g8, vl_d, nk, z1, if_pos h1]
            unfold f_X2_hearsBeacon
            rw [z9, if_pos h9, vl_d, cl_some, if_neg (by decide), vl_d, ← e2, show σ2 (46 + k) 15 = 1 from by rw [e2, up2_at], if_neg (by decide)]
            unfold f_X0_adm
            rw [y61, if_neg (by rw [i_le, t_lit 8 (by decide), t_nI _ (by omega)]; omega), gd_t (ix_nI (by omega) (by decide)), nt_nI (by omega), vl_d, up2_r (by decide), y61, vl_d, cl_some, vl_d, nI_1, nI_1]
        · have R1 := R0.put hkn 9 (r 9 - 1) (by decide) (by decide)
          have R2 := R1.put hkn 8 (r 8 + 1) (by decide) (by decide)
          obtain ⟨x8, w1, w2⟩ := p3 h1
          have eh : rHr (nI c) r = upd (upd (upd (upd r 9 (r 9 - 1)) 8 (r 8 + 1)) 1 (if r 8 + 1 = 4 then -4 else r 1)) 15 0 := by unfold rHr; rw [if_pos h1, if_neg h9]
          have e15 : ¬ rHr (nI c) r 15 = 1 := by rw [eh, upd_s]; decide
          rw [if_neg e15]
          have y8 : up2 (up2 σk (46 + k) 9 (r 9 - 1)) (46 + k) 8 (r 8 + 1) (46 + k) 8 = r 8 + 1 := up2_at _ _ _ _
          by_cases h4 : r 8 + 1 = 4
          · have R3 := R2.put hkn 1 (-4) (by decide) (by decide)
            have R4 := R3.put hkn 15 0 (by decide) (by decide)
            rw [if_pos h4] at eh
            rw [← eh] at R4
            have Q := R4.to (F := fun r s => (rHr (nI c) r, s)) eF
            refine Or.inl ⟨(nI c, nI (k + 1), _), ⟨_, rfl, Q.1, m2.tr Q.2.B, by rw [Q.2.2.1 1 (by decide)]; exact m3, fun i d hd => by rw [Q.2.1 7 (by decide) (by omega)]; exact m4 i d hd⟩, fun K => ?_⟩
            show b_X7_hearBeacon_9 K (nI c) (nI k) σk = _
            unfold b_X7_hearBeacon_9
            rw [eL, if_neg n0, if_neg n8, gd_t g8, vl_d, nk, z1, if_pos h1]
            unfold f_X2_hearsBeacon
            rw [z9, if_neg h9, vl_d, up2_c (show (8 : Nat) ≠ 9 by decide), z8, vl_d, y8, if_neg (by rw [h4]; decide), vl_d, cl_some, if_pos rfl]
            unfold f_X7_hearBeacon_56
            rw [vl_d, up2_at, if_pos rfl, vl_d, nI_1]
          · have R4 := R2.put hkn 15 0 (by decide) (by decide)
            rw [if_neg h4, show upd (upd (upd r 9 (r 9 - 1)) 8 (r 8 + 1)) 1 (r 1) = upd (upd r 9 (r 9 - 1)) 8 (r 8 + 1) from by
              have := upd_self (upd (upd r 9 (r 9 - 1)) 8 (r 8 + 1)) 1
              rw [upd_n _ _ (show (1 : Nat) ≠ 8 by decide), upd_n _ _ (show (1 : Nat) ≠ 9 by decide)] at this
              exact this] at eh
            rw [← eh] at R4
            have Q := R4.to (F := fun r s => (rHr (nI c) r, s)) eF
            refine Or.inl ⟨(nI c, nI (k + 1), _), ⟨_, rfl, Q.1, m2.tr Q.2.B, by rw [Q.2.2.1 1 (by decide)]; exact m3, fun i d hd => by rw [Q.2.1 7 (by decide) (by omega)]; exact m4 i d hd⟩, fun K => ?_⟩
            show b_X7_hearBeacon_9 K (nI c) (nI k) σk = _
            unfold b_X7_hearBeacon_9
            rw [eL, if_neg n0, if_neg n8, gd_t g8, vl_d, nk, z1, if_pos h1]
            unfold f_X2_hearsBeacon
            rw [z9, if_neg h9, vl_d, up2_c (show (8 : Nat) ≠ 9 by decide), z8, vl_d, y8, if_pos (by rw [w2]; rw [w2] at h4; exact (hu_ok x8 (by omega)).mpr h4), cl_some, if_pos rfl]
            unfold f_X7_hearBeacon_56
            rw [vl_d, up2_at, if_pos rfl, vl_d, nI_1]
      · have R1 := R0.put hkn 15 0 (by decide) (by decide)
        have eh : rHr (nI c) r = upd r 15 0 := by unfold rHr; rw [if_neg h1]
        have e15 : ¬ rHr (nI c) r 15 = 1 := by rw [eh, upd_s]; decide
        rw [← eh] at R1
        have Q := R1.to (F := fun r s => (rHr (nI c) r, s)) eF
        rw [if_neg e15]
        refine Or.inl ⟨(nI c, nI (k + 1), _), ⟨_, rfl, Q.1, m2.tr Q.2.B, by rw [Q.2.2.1 1 (by decide)]; exact m3, fun i d hd => by rw [Q.2.1 7 (by decide) (by omega)]; exact m4 i d hd⟩, fun K => ?_⟩
        show b_X7_hearBeacon_9 K (nI c) (nI k) σk = _
        unfold b_X7_hearBeacon_9
        rw [eL, if_neg n0, if_neg n8, gd_t g8, vl_d, nk, z1, if_neg h1]
        unfold f_X7_hearBeacon_56
        rw [vl_d, up2_at, if_pos rfl, vl_d, nI_1])
    (fun a ha => by
      obtain ⟨σk, rfl, m1, m2, m3, m4⟩ := ha
      have e0 : σk 0 = σ 0 := m2.1 0 (by decide) (by decide) (by omega)
      refine ⟨_, ⟨σk, rfl, m1, m2, m3, m4⟩, fun K => ?_⟩
      show b_X7_hearBeacon_9 K (nI c) (nI nd) σk = _
      unfold b_X7_hearBeacon_9
      rw [e0, show lay (σ 0 6) = LA σ from rfl, m2.1 (LA σ) (by omega) (by omega) (by omega), hL, if_pos (nI_le (Nat.le_refl _) (by omega))])
    (a := (nI c, 0, up2 σ 6 1 0)) ⟨up2 σ 6 1 0, rfl, ⟨fun d hd j j1 j2 => by rw [up2_r (by omega)]; exact h.1 d hd j j1 j2, by rw [up2_c (by decide)]; exact h.2⟩, ⟨fun a b c d => up2_ne b, fun j a _ => up2_c a, fun d hd j _ => by rw [up2_r (by omega)]⟩, up2_at _ _ _ _, fun i d hd => by simp [ptH] at hd⟩
  refine ⟨σ', ?_, q1, q2, q3, q4⟩
  unfold f_X7_hearBeacon f_X0_clear
  rw [vl_d, cl_some]
  exact hr
