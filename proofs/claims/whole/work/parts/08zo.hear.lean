/-! the beacon is heard -/
theorem wF_sl (f : Rw → Rw) (W : Wd) : ∀ k, (wF (wOp (fun r s => (f r, s))) W k).2 = W.2 ∧ ∀ d, d < k → (wF (wOp (fun r s => (f r, s))) W k).1 d = f (W.1 d) := by
  intro k
  induction k with
  | zero => exact ⟨rfl, fun d hd => absurd hd (by omega)⟩
  | succ k ih =>
    refine ⟨ih.1, fun d hd => ?_⟩
    show (wOp (fun r s => (f r, s)) k (wF (wOp (fun r s => (f r, s))) W k)).1 d = _
    by_cases e : d = k
    · rw [e, wOp_row, wF_late _ _ _ _ (Nat.le_refl _)]
    · rw [wOp_ne _ _ e]; exact ih.2 d (by omega)
theorem upd_cm (r : Rw) {j k : Nat} (v w : Int32) (h : j ≠ k) : upd (upd r j v) k w = upd (upd r k w) j v := by
  funext i
  by_cases e1 : i = k
  · rw [e1, upd_s, upd_n _ _ (Ne.symm h), upd_s]
  · rw [upd_n _ _ e1]
    by_cases e2 : i = j
    · rw [e2, upd_s, upd_s]
    · rw [upd_n _ _ e2, upd_n _ _ e2, upd_n _ _ e1]
def rHr (c : Int32) (r : Rw) : Rw := if r 1 = c then (if r 9 = 0 then upd (upd r 8 0) 15 1 else upd (upd (upd (upd r 9 (r 9 - 1)) 8 (r 8 + 1)) 1 (if r 8 + 1 = 4 then -4 else r 1)) 15 0) else upd r 15 0
def hOk (c : Nat) (r : Rw) : Prop := (∃ x, x ≤ 9 ∧ r 9 = nI x) ∧ (r 1 = nI c → ∃ x, x ≤ 3 ∧ r 8 = nI x)
theorem m_hear {nd c : Nat} {τ : St} {W : Wd} (hnd : nd ≤ 8) (h35 : τ 0 35 = nI nd) (h : mW nd τ W) (hk : ∀ d, d < nd → hOk c (W.1 d)) : ∃ τ', lp (fun K a => b_X8_beacon_45 K a.1 a.2.1 a.2.2) FU (nI c, (0 : Int32), τ) = some ((), τ') ∧ mW nd τ' (wF (wOp (fun r s => (rHr (nI c) r, s))) W nd) ∧ fmW nd τ τ' := by
  obtain ⟨r, hr, τ', rfl, q1, q2⟩ := dev_loop (b := fun K a => b_X8_beacon_45 K a.1 a.2.1 a.2.2) hnd (fun x i τ => (nI c, i, τ)) (fun r s => (rHr (nI c) r, s)) (fun _ => 0) (fun _ _ _ => True) (Q := fun r => ∃ τ', r = ((), τ') ∧ mW nd τ' (wF (wOp (fun r s => (rHr (nI c) r, s))) W nd) ∧ fmW nd τ τ') (x0 := 0) h trivial
    (fun k τk V x hkn m1 m2 m3 _ => by
      have g8 : ix (nI k) 8 := ix_nI (by omega) (by decide)
      have nk := nt_nI (show k < 2147483648 by omega)
      have M0 := m1.R (d := k)
      rw [m2] at M0
      obtain ⟨⟨x9, p1, p2⟩, p3⟩ := hk k hkn
      obtain ⟨r, er⟩ : ∃ r, r = W.1 k := ⟨_, rfl⟩
      obtain ⟨s, es⟩ : ∃ s, s = V.2 := ⟨_, rfl⟩
      rw [← er] at M0 p2 p3
      rw [← es] at M0
      have z1 : τk 36 k = r 1 := M0.g hkn 1 (by decide) (by decide)
      have z9 : τk 44 k = r 9 := M0.g hkn 9 (by decide) (by decide)
      suffices hh : ∃ τ' r', (∀ K, b_X8_beacon_45 K (nI c) (nI k) τk = K (nI c, nI (k + 1), τ')) ∧ rHr (nI c) r = r' ∧ mR nd τk τ' V k r' s by
        obtain ⟨τ', r', q1, q2, q3⟩ := hh
        have q5 := q3.to (F := fun r s => (rHr (nI c) r, s)) (by show (rHr (nI c) (V.1 k), V.2) = _; rw [m2, ← er, ← es, q2])
        exact ⟨τ', q1, q5.1, q5.2, trivial⟩
      by_cases h1 : r 1 = nI c
      · by_cases h9 : r 9 = 0
        · have M1 := M0.put hkn 15 1 (by decide) (by decide)
          have M2 := M1.put hkn 8 0 (by decide) (by decide)
          refine ⟨_, _, fun K => ?_, ?_, M2⟩
          · unfold b_X8_beacon_45
            rw [if_neg (f35 hnd hkn h35 m3), gd_t g8, nk, z1, if_pos h1, gd_t g8, z9, if_pos h9]
            unfold f_X8_beacon_82
            rw [gd_t g8, nk, vl_d, gd_t g8, up2_r (show (36 : Nat) ≠ 50 by decide), z1, if_pos h1, gd_t g8, up2_r (show (44 : Nat) ≠ 50 by decide), z9, h9, if_pos (by decide)]
            unfold f_X8_beacon_152
            rw [gd_t g8, nk, up2_r (show (36 : Nat) ≠ 50 by decide), z1, if_pos h1, gd_t g8, vl_d, vl_d, nI_1]
          · unfold rHr
            rw [if_pos h1, if_pos h9, upd_cm _ _ _ (by decide)]
        · have M1 := M0.put hkn 15 0 (by decide) (by decide)
          have M2 := M1.put hkn 9 (r 9 - 1) (by decide) (by decide)
          have M3 := M2.put hkn 8 (r 8 + 1) (by decide) (by decide)
          have M4 := M3.put hkn 1 (if r 8 + 1 = 4 then -4 else r 1) (by decide) (by decide)
          refine ⟨_, _, fun K => ?_, ?_, M4⟩
          · have y1 : up2 (up2 (up2 τk 50 k 0) 44 k (r 9 - 1)) 43 k (r 8 + 1) 36 k = r 1 := by rw [up2_r (by decide), up2_r (by decide), up2_r (by decide), z1]
            unfold b_X8_beacon_45
            rw [if_neg (f35 hnd hkn h35 m3), gd_t g8, nk, z1, if_pos h1, gd_t g8, z9, if_neg h9]
            unfold f_X8_beacon_82
            rw [gd_t g8, nk, vl_d, gd_t g8, up2_r (show (36 : Nat) ≠ 50 by decide), z1, if_pos h1, gd_t g8, up2_r (show (44 : Nat) ≠ 50 by decide), z9, if_neg (by rw [p2, i_le, t_nI _ (by omega), t_lit 0 (by decide)]; rw [p2, i_eq, t_nI _ (by omega), t_lit 0 (by decide)] at h9; omega), gd_t g8, gd_t g8, vl_d, gd_t g8, gd_t g8, up2_r (show (43 : Nat) ≠ 44 by decide), up2_r (show (43 : Nat) ≠ 50 by decide), show τk 43 k = r 8 from M0.g hkn 8 (by decide) (by decide), vl_d, gd_t g8, up2_at]
            by_cases h4 : r 8 + 1 = 4
            · rw [if_pos h4, if_pos h4, gd_t g8, vl_d, vl_d, nI_1]
            · rw [if_neg h4, if_neg h4, gd_t g8, gd_t g8, y1, vl_d, vl_d, nI_1]
          · unfold rHr
            rw [if_pos h1, if_neg h9, upd_cm (upd (upd r 15 0) 9 (r 9 - 1)) (j := 8) (k := 1) _ _ (by decide)]
            rw [upd_cm r (j := 15) (k := 9) _ _ (by decide), upd_cm (upd r 9 (r 9 - 1)) (j := 15) (k := 1) _ _ (by decide), upd_cm _ (j := 15) (k := 8) _ _ (by decide), upd_cm (upd r 9 (r 9 - 1)) (j := 1) (k := 8) _ _ (by decide)]
      · have M1 := M0.put hkn 15 0 (by decide) (by decide)
        refine ⟨_, _, fun K => ?_, ?_, M1⟩
        · unfold b_X8_beacon_45
          rw [if_neg (f35 hnd hkn h35 m3), gd_t g8, nk, z1, if_neg h1]
          unfold f_X8_beacon_82
          rw [gd_t g8, nk, vl_d, gd_t g8, up2_r (show (36 : Nat) ≠ 50 by decide), z1, if_neg h1]
          unfold f_X8_beacon_152
          rw [gd_t g8, nk, up2_r (show (36 : Nat) ≠ 50 by decide), z1, if_neg h1, vl_d, nI_1]
        · unfold rHr
          rw [if_neg h1])
    (fun τ' V x eV m1 m2 _ _ => by
      subst eV
      refine ⟨_, ⟨τ', rfl, m1, m2⟩, fun K => ?_⟩
      show b_X8_beacon_45 K (nI c) (nI nd) τ' = _
      unfold b_X8_beacon_45
      rw [if_pos (f35e hnd h35 m2)])
  exact ⟨τ', hr, q1, q2⟩
/-- the class's: all eight are told whether they heard -/
def fcB (nd : Nat) (σ σ' : St) : Prop := (∀ a, (a < 46 ∨ 54 ≤ a) → σ' a = σ a) ∧ (∀ d, d < nd → ∀ j, (j = 0 ∨ 19 < j) → σ' (46 + d) j = σ (46 + d) j) ∧ ∀ d, nd ≤ d → d < 8 → ∀ j, j ≠ 15 → σ' (46 + d) j = σ (46 + d) j
theorem c_hear {nd c : Nat} {σ : St} {W : Wd} (hnd : nd ≤ 8) (hc : c < 4) (h : cW nd σ W) (hk : ∀ d, d < nd → hOk c (W.1 d)) (ho : ∀ d, nd ≤ d → d < 8 → σ (46 + d) 1 = -4) : ∃ σ', f_X7_hearBeacon (nI c) σ = some ((), σ') ∧ cW nd σ' (wF (wOp (fun r s => (rHr (nI c) r, s))) W nd) ∧ fcB nd σ σ' ∧ ∀ d, nd ≤ d → d < 8 → σ' (46 + d) 15 = 0 := by
  obtain ⟨r, hr, σ', rfl, q1, q2, q3⟩ := lp_FU (b := fun K a => b_X7_hearBeacon_11 K a.1 a.2.1 a.2.2.1 a.2.2.2)
    (fun k a => ∃ σk, a = (nI c, 8, nI k, σk) ∧ cW nd σk (wF (wOp (fun r s => (rHr (nI c) r, s))) W (min k nd)) ∧ fcB nd σ σk ∧ ∀ d, nd ≤ d → d < k → σk (46 + d) 15 = 0)
    (fun r => ∃ σ', r = ((), σ') ∧ cW nd σ' (wF (wOp (fun r s => (rHr (nI c) r, s))) W nd) ∧ fcB nd σ σ' ∧ ∀ d, nd ≤ d → d < 8 → σ' (46 + d) 15 = 0) 8 (by decide)
    (fun k a hk8 ha => by
      obtain ⟨σk, rfl, m1, m2, m3⟩ := ha
      have g8 : ix (nI k) 8 := ix_nI (by omega) (by decide)
      have nk := nt_nI (show k < 2147483648 by omega)
      have n8 := n8_ok hk8
      by_cases hkn : k < nd
      · rw [show min k nd = k by omega] at m1
        rw [show min (k + 1) nd = k + 1 by omega]
        obtain ⟨V, eV⟩ : ∃ V, V = wF (wOp (fun r s => (rHr (nI c) r, s))) W k := ⟨_, rfl⟩
        have eVk : V.1 k = W.1 k := by rw [eV]; exact wF_late _ _ _ _ (Nat.le_refl _)
        rw [← eV] at m1
        have R0 := m1.R (d := k)
        rw [eVk] at R0
        obtain ⟨⟨x9, p1, p2⟩, p3⟩ := hk k hkn
        have eW : wF (wOp (fun r s => (rHr (nI c) r, s))) W (k + 1) = wOp (fun r s => (rHr (nI c) r, s)) k V := by rw [eV]; rfl
        rw [eW]
        obtain ⟨r, er⟩ : ∃ r, r = W.1 k := ⟨_, rfl⟩
        obtain ⟨s, es⟩ : ∃ s, s = V.2 := ⟨_, rfl⟩
        rw [← er] at R0 p2 p3
        rw [← es] at R0
        have eF : (fun r s => (rHr (nI c) r, s)) (V.1 k) V.2 = (rHr (nI c) r, s) := by show (rHr (nI c) (V.1 k), V.2) = _; rw [eVk, ← er, ← es]
        have z1 : σk (46 + k) 1 = r 1 := R0.g hkn 1 (by decide) (by decide)
        have z9 : σk (46 + k) 9 = r 9 := R0.g hkn 9 (by decide) (by decide)
        have z8 : σk (46 + k) 8 = r 8 := R0.g hkn 8 (by decide) (by decide)
        have fin : ∀ σ2 : St, cW nd σ2 (wOp (fun r s => (rHr (nI c) r, s)) k V) → (∀ a, a ≠ 46 + k → σ2 a = σk a) → fcW nd σk σ2 → fcB nd σ σ2 ∧ ∀ d, nd ≤ d → d < k + 1 → σ2 (46 + d) 15 = 0 := by
          intro σ2 _ f1 f2
          refine ⟨⟨fun a ha => ?_, fun d hd j hj => ?_, fun d d1 d2 j hj => ?_⟩, fun d d1 d2 => by omega⟩
          · rw [f1 a (by omega)]; exact m2.1 a ha
          · rw [f2.2.2 d hd j hj]; exact m2.2.1 d hd j hj
          · rw [f1 _ (by omega)]; exact m2.2.2 d d1 d2 j hj
        suffices hh : ∃ σ2, (∀ K, b_X7_hearBeacon_11 K (nI c) 8 (nI k) σk = K (nI c, 8, nI (k + 1), σ2)) ∧ cW nd σ2 (wOp (fun r s => (rHr (nI c) r, s)) k V) ∧ fcW nd σk σ2 ∧ ∀ a, a ≠ 46 + k → σ2 a = σk a by
          obtain ⟨σ2, w1, w2, w3, w4⟩ := hh
          have w5 := fin σ2 w2 w4 w3
          exact Or.inl ⟨_, ⟨σ2, rfl, w2, w5.1, w5.2⟩, w1⟩
        by_cases h1 : r 1 = nI c
        · by_cases h9 : r 9 = 0
          · have R1 := R0.put hkn 8 0 (by decide) (by decide)
            have R2 := R1.put hkn 15 1 (by decide) (by decide)
            have eh : rHr (nI c) r = upd (upd r 8 0) 15 1 := by unfold rHr; rw [if_pos h1, if_pos h9]
            rw [← eh] at R2
            have Q := R2.to (F := fun r s => (rHr (nI c) r, s)) eF
            refine ⟨_, fun K => ?_, Q.1, Q.2, fun a ha => by rw [up2_ne ha, up2_ne ha]⟩
            unfold b_X7_hearBeacon_11
            rw [if_neg n8, gd_t g8, vl_d, nk, z1, if_pos h1]
            unfold f_X2_hearsBeacon
            rw [z9, if_pos h9, vl_d, cl_some, if_neg (by decide), vl_d, vl_d, nI_1]
          · have R1 := R0.put hkn 9 (r 9 - 1) (by decide) (by decide)
            have R2 := R1.put hkn 8 (r 8 + 1) (by decide) (by decide)
            obtain ⟨x8, w1, w2⟩ := p3 h1
            have eh : rHr (nI c) r = upd (upd (upd (upd r 9 (r 9 - 1)) 8 (r 8 + 1)) 1 (if r 8 + 1 = 4 then -4 else r 1)) 15 0 := by unfold rHr; rw [if_pos h1, if_neg h9]
            have y8 : up2 (up2 σk (46 + k) 9 (r 9 - 1)) (46 + k) 8 (r 8 + 1) (46 + k) 8 = r 8 + 1 := up2_at _ _ _ _
            by_cases h4 : r 8 + 1 = 4
            · have R3 := R2.put hkn 1 (-4) (by decide) (by decide)
              have R4 := R3.put hkn 15 0 (by decide) (by decide)
              rw [if_pos h4] at eh
              rw [← eh] at R4
              have Q := R4.to (F := fun r s => (rHr (nI c) r, s)) eF
              refine ⟨_, fun K => ?_, Q.1, Q.2, fun a ha => by rw [up2_ne ha, up2_ne ha, up2_ne ha, up2_ne ha]⟩
              unfold b_X7_hearBeacon_11
              rw [if_neg n8, gd_t g8, vl_d, nk, z1, if_pos h1]
              unfold f_X2_hearsBeacon
              rw [z9, if_neg h9, vl_d, up2_c (show (8 : Nat) ≠ 9 by decide), z8, vl_d, y8, if_neg (by rw [h4]; decide), vl_d, cl_some, if_pos rfl, vl_d, vl_d, nI_1]
            · have R4 := R2.put hkn 15 0 (by decide) (by decide)
              rw [if_neg h4, show upd (upd (upd r 9 (r 9 - 1)) 8 (r 8 + 1)) 1 (r 1) = upd (upd r 9 (r 9 - 1)) 8 (r 8 + 1) from by
                have := upd_self (upd (upd r 9 (r 9 - 1)) 8 (r 8 + 1)) 1
                rw [upd_n _ _ (show (1 : Nat) ≠ 8 by decide), upd_n _ _ (show (1 : Nat) ≠ 9 by decide)] at this
                exact this] at eh
              rw [← eh] at R4
              have Q := R4.to (F := fun r s => (rHr (nI c) r, s)) eF
              refine ⟨_, fun K => ?_, Q.1, Q.2, fun a ha => by rw [up2_ne ha, up2_ne ha, up2_ne ha]⟩
              unfold b_X7_hearBeacon_11
              rw [if_neg n8, gd_t g8, vl_d, nk, z1, if_pos h1]
              unfold f_X2_hearsBeacon
              rw [z9, if_neg h9, vl_d, up2_c (show (8 : Nat) ≠ 9 by decide), z8, vl_d, y8, if_pos (by rw [w2]; rw [w2] at h4; exact (hu_ok x8 (by omega)).mpr h4), cl_some, if_pos rfl, vl_d, vl_d, nI_1]
        · have R1 := R0.put hkn 15 0 (by decide) (by decide)
          have eh : rHr (nI c) r = upd r 15 0 := by unfold rHr; rw [if_neg h1]
          rw [← eh] at R1
          have Q := R1.to (F := fun r s => (rHr (nI c) r, s)) eF
          refine ⟨_, fun K => ?_, Q.1, Q.2, fun a ha => up2_ne ha⟩
          unfold b_X7_hearBeacon_11
          rw [if_neg n8, gd_t g8, vl_d, nk, z1, if_neg h1, vl_d, vl_d, nI_1]
      · rw [show min k nd = nd by omega] at m1
        rw [show min (k + 1) nd = nd by omega]
        have z1 : ¬ σk (46 + k) 1 = nI c := by
          rw [m2.2.2 k (by omega) hk8 1 (by decide), ho k (by omega) hk8, i_eq, t_nI _ (by omega), t_m4]
          omega
        refine Or.inl ⟨(nI c, 8, nI (k + 1), up2 σk (46 + k) 15 0), ⟨_, rfl, ⟨fun d hd j j1 j2 => ?_, ?_⟩, ⟨fun a ha => ?_, fun d hd j hj => ?_, fun d d1 d2 j hj => ?_⟩, fun d d1 d2 => ?_⟩, fun K => ?_⟩
        · rw [up2_r (by omega)]; exact m1.1 d hd j j1 j2
        · rw [up2_r (by omega)]; exact m1.2
        · rw [up2_ne (by omega)]; exact m2.1 a ha
        · rw [up2_r (by omega)]; exact m2.2.1 d hd j hj
        · by_cases e : d = k
          · rw [e, up2_c hj, ← e]; exact m2.2.2 d d1 d2 j hj
          · rw [up2_r (by omega)]; exact m2.2.2 d d1 d2 j hj
        · by_cases e : d = k
          · rw [e, up2_at]
          · rw [up2_r (by omega)]; exact m3 d d1 (by omega)
        · show b_X7_hearBeacon_11 K (nI c) 8 (nI k) σk = _
          unfold b_X7_hearBeacon_11
          rw [if_neg n8, gd_t g8, vl_d, nk, if_neg z1, vl_d, vl_d, nI_1])
    (fun a ha => by
      obtain ⟨σk, rfl, m1, m2, m3⟩ := ha
      rw [show min 8 nd = nd by omega] at m1
      refine ⟨_, ⟨σk, rfl, m1, m2, m3⟩, fun K => ?_⟩
      show b_X7_hearBeacon_11 K (nI c) 8 (nI 8) σk = _
      unfold b_X7_hearBeacon_11
      rw [if_pos (by decide)])
    (a := (nI c, 8, 0, σ)) ⟨σ, rfl, by rw [Nat.zero_min]; exact h, ⟨fun _ _ => rfl, fun _ _ _ _ => rfl, fun _ _ _ _ _ => rfl⟩, fun d _ hd => by omega⟩
  exact ⟨σ', hr, q1, q2, q3⟩
/-- who hears doesn't hang on who heard before -/
theorem rHr_15 {c : Int32} {r r' : Rw} (h : ∀ j, j ≠ 15 → r' j = r j) : rHr c r' = rHr c r := by
  have k2 : ∀ (f g : Rw) (i : Nat) (v : Int32), (∀ j, j ≠ 15 → f j = g j) → ∀ j, j ≠ 15 → upd f i v j = upd g i v j := by
    intro f g i v e j hj
    by_cases q : j = i
    · rw [q, upd_s, upd_s]
    · rw [upd_n _ _ q, upd_n _ _ q]; exact e j hj
  have k1 : ∀ (f g : Rw) (v : Int32), (∀ j, j ≠ 15 → f j = g j) → upd f 15 v = upd g 15 v := by
    intro f g v e
    funext j
    by_cases q : j = 15
    · rw [q, upd_s, upd_s]
    · rw [upd_n _ _ q, upd_n _ _ q]; exact e j q
  unfold rHr
  rw [h 1 (by decide), h 9 (by decide), h 8 (by decide)]
  split
  · split
    · exact k1 _ _ _ (k2 _ _ _ _ h)
    · exact k1 _ _ _ (k2 _ _ _ _ (k2 _ _ _ _ (k2 _ _ _ _ h)))
  · exact k1 _ _ _ h
theorem rHr_10 (c : Int32) (r : Rw) : rHr c r 10 = r 10 := by
  unfold rHr
  split
  · split
    · rw [upd_n _ _ (by decide), upd_n _ _ (by decide)]
    · rw [upd_n _ _ (by decide), upd_n _ _ (by decide), upd_n _ _ (by decide), upd_n _ _ (by decide)]
  · rw [upd_n _ _ (by decide)]
