/-! one tick, on both sides -/
def tZ (V : Wd) : Wd := (fun d j => if j = 20 then 0 else V.1 d j, V.2)
def tV (nd : Nat) (t T : Int32) (W : Wd) : Wd := wF wC (wF (wB t T) (wF (wA t) W nd) nd) nd
def tn (nd : Nat) (t T : Int32) (W : Wd) : Nat := (sd4 (tV nd t T W) nd).length
def tU (nd : Nat) (t T : Int32) (W : Wd) : Wd := wF (wOp (rLw (tn nd t T W))) (tZ (tV nd t T W)) nd
def tS (nd : Nat) (t T : Int32) (W : Wd) : Int32 := (List.range nd).foldl (fun x d => x + cFf ((tU nd t T W).1 d)) 0
def tK (nd : Nat) (t T : Int32) (W : Wd) : Wd := wF (wOp rFf) (tU nd t T W) nd
def tI (nd t T : Nat) (W : Wd) : Prop := wI nd W ∧ ∀ d, d < nd → dJ t T (W.1 d)
theorem wA_eq (t : Int32) : wA t = wOp (rwA t) := funext fun d => funext fun W => wA_op t d W
theorem wB_eq (t T : Int32) : wB t T = wOp (fun r s => (rwB t T r, s)) := funext fun d => funext fun W => wB_op t T d W
theorem wC_eq : wC = wOp (fun r s => (rwC r, s)) := funext fun d => funext fun W => wC_op d W
theorem tZ_20 (V : Wd) {j : Nat} (h : j ≠ 20) (d : Nat) : (tZ V).1 d j = V.1 d j := if_neg h
theorem tZ_0 (V : Wd) (d : Nat) : (tZ V).1 d 20 = 0 := rfl
theorem cW.Z {nd : Nat} {σ : St} {V : Wd} (h : cW nd σ V) : cW nd σ (tZ V) := ⟨fun d hd j j1 j2 => by rw [tZ_20 V (by omega)]; exact h.1 d hd j j1 j2, h.2⟩
theorem mW.Z {nd : Nat} {τ : St} {V : Wd} (h : mW nd τ V) : mW nd τ (tZ V) := ⟨fun d hd j j1 j2 => by rw [tZ_20 V (by omega)]; exact h.1 d hd j j1 j2, h.2⟩
theorem dW.cg {r r' : Rw} (h : dW r) (e : ∀ j, j ≠ 20 → r' j = r j) : dW r' := by
  unfold dW
  rw [e 15 (by decide), e 11 (by decide), e 3 (by decide), e 2 (by decide), e 10 (by decide), e 12 (by decide), e 13 (by decide), e 16 (by decide), e 17 (by decide), e 18 (by decide), e 19 (by decide)]
  exact h
theorem dJ.cg {t T : Nat} {r r' : Rw} (h : dJ t T r) (e : ∀ j, j ≠ 20 → r' j = r j) : dJ t T r' := by
  unfold dJ
  rw [e 15 (by decide), e 2 (by decide), e 10 (by decide), e 17 (by decide), e 18 (by decide)]
  exact h
theorem tV_I {nd t T : Nat} {W : Wd} (ht : t ≤ 400) (hT : T ≤ 400) (h : tI nd t T W) : wI nd (tV nd (nI t) (nI T) W) ∧ ∀ d, d < nd → dJ t T ((tV nd (nI t) (nI T) W).1 d) ∧ dQ0 ((tV nd (nI t) (nI T) W).1 d) ∧ ((tV nd (nI t) (nI T) W).1 d 10 = 2 → ¬ (tV nd (nI t) (nI T) W).1 d 17 = 2) := by
  have iA := wF_I (fun d W hd hI => wA_I (t := nI t) hI hd) h.1 nd (Nat.le_refl _)
  have iB := wF_I (fun d W hd hI => wB_I (t := nI t) (K := nI T) hI hd) iA nd (Nat.le_refl _)
  have iC := wF_I (fun d W hd hI => wC_I hI hd) iB nd (Nat.le_refl _)
  refine ⟨iC, fun d hd => ?_⟩
  unfold tV
  rw [wC_eq, wB_eq, wA_eq]
  rw [wB_eq, wA_eq] at iB
  rw [wA_eq] at iA
  obtain ⟨s1, _, e1⟩ := (wF_row (F := rwA (nI t)) (rwA_s (nI t)) h.1.1 nd).2 d hd
  obtain ⟨s2, _, e2⟩ := (wF_row (F := fun r s => (rwB (nI t) (nI T) r, s)) (fun _ _ q => q) iA.1 nd).2 d hd
  obtain ⟨s3, _, e3⟩ := (wF_row (F := fun r s => (rwC r, s)) (fun _ _ q => q) iB.1 nd).2 d hd
  have j1 := jA (tt := nI t) (s := s1) (h.2 d hd)
  rw [← e1] at j1
  have j2 := jB ht hT (iA.2 d hd) j1.1 j1.2
  rw [show rwB (nI t) (nI T) ((wF (wOp (rwA (nI t))) W nd).1 d) = _ from e2.symm] at j2
  have j3 := jC j2.1 j2.2
  rw [show rwC ((wF (wOp (fun r s => (rwB (nI t) (nI T) r, s))) (wF (wOp (rwA (nI t))) W nd) nd).1 d) = _ from e3.symm] at j3
  exact j3
theorem tV_k (nd : Nat) (t T : Int32) (W : Wd) {j : Nat} (hj : kpl j) (d : Nat) : (tV nd t T W).1 d j = W.1 d j := by
  unfold tV
  rw [wC_eq, wB_eq, wA_eq, wF_k (fun r s j hj => rwC_k r hj) _ hj, wF_k (fun r s j hj => rwB_k t T r hj) _ hj, wF_k (fun r s j hj => rwA_k t r s hj) _ hj]
theorem tU_I {nd t T : Nat} {W : Wd} (ht : t ≤ 400) (hT : T ≤ 400) (h : tI nd t T W) : sOk (tU nd (nI t) (nI T) W).2 ∧ ∀ d, d < nd → dW ((tU nd (nI t) (nI T) W).1 d) ∧ dJ2 t T ((tU nd (nI t) (nI T) W).1 d) := by
  obtain ⟨v1, v2⟩ := tV_I ht hT h
  have q := wF_row (F := rLw (tn nd (nI t) (nI T) W)) (W := tZ (tV nd (nI t) (nI T) W)) (rLw_s _) v1.1 nd
  refine ⟨q.1, fun d hd => ?_⟩
  obtain ⟨s, s1, s2⟩ := q.2 d hd
  unfold tU
  rw [s2]
  obtain ⟨j1, j2, j3⟩ := v2 d hd
  exact lw_I ((v1.2 d hd).cg (fun j hj => tZ_20 _ hj d)) (j1.cg (fun j hj => tZ_20 _ hj d)) j3 (tZ_0 _ d) s1
theorem tU_k (nd : Nat) (t T : Int32) (W : Wd) {j : Nat} (hj : kpl j) (d : Nat) : (tU nd t T W).1 d j = W.1 d j := by
  unfold tU
  rw [wF_k (fun r s j hj => rLw_k _ r s hj) _ hj, tZ_20 _ (by rcases hj with h | h | h | h | h | h | h <;> omega), tV_k nd t T W hj]
theorem tK_I {nd t T : Nat} {W : Wd} (ht : t ≤ 400) (hT : T ≤ 400) (h : tI nd t T W) : tI nd (t + 1) T (tK nd (nI t) (nI T) W) := by
  obtain ⟨u1, u2⟩ := tU_I ht hT h
  have q := wF_row (F := rFf) (W := tU nd (nI t) (nI T) W) rFf_s u1 nd
  have key : ∀ d, d < nd → dW ((tK nd (nI t) (nI T) W).1 d) ∧ dJ (t + 1) T ((tK nd (nI t) (nI T) W).1 d) := by
    intro d hd
    obtain ⟨s, s1, s2⟩ := q.2 d hd
    unfold tK
    rw [s2]
    exact ff_I (u2 d hd).1 (u2 d hd).2 s1
  exact ⟨⟨q.1, fun d hd => (key d hd).1⟩, fun d hd => (key d hd).2⟩
theorem tK_k (nd : Nat) (t T : Int32) (W : Wd) {j : Nat} (hj : kpl j) (d : Nat) : (tK nd t T W).1 d j = W.1 d j := by
  unfold tK
  rw [wF_k (fun r s j hj => rFf_k r s hj) _ hj, tU_k nd t T W hj]
theorem lw_split (n : Nat) (W : Wd) (k : Nat) : wF (wOp (rLw n)) W k = wF (wOp (fun r s => (rEe r, s))) (wF (wOp (rDd (bz n))) (wF (wOp (fun r s => (rH n r, s))) W k) k) k := by
  have h1 : wF (fun d V => wOp (fun r s => (rEe r, s)) d (wOp (rDd (bz n)) d (wOp (fun r s => (rH n r, s)) d V))) W k = wF (wOp (fun r s => (rEe r, s))) (wF (fun d V => wOp (rDd (bz n)) d (wOp (fun r s => (rH n r, s)) d V)) W k) k := wF_split (fun d V => wOp (rDd (bz n)) d (wOp (fun r s => (rH n r, s)) d V)) (wOp (fun r s => (rEe r, s))) (fun d d' V hd => by
    show wOp (fun r s => (rEe r, s)) d (wOp (rDd (bz n)) d' (wOp (fun r s => (rH n r, s)) d' V)) = wOp (rDd (bz n)) d' (wOp (fun r s => (rH n r, s)) d' (wOp (fun r s => (rEe r, s)) d V))
    rw [wOp_seq (fun r s => (rH n r, s)) (rDd (bz n)) d' V, wOp_comm (g := rEe) (fun _ _ => rfl) (by omega), ← wOp_seq]) k W
  have h2 : wF (fun d V => wOp (rDd (bz n)) d (wOp (fun r s => (rH n r, s)) d V)) W k = wF (wOp (rDd (bz n))) (wF (wOp (fun r s => (rH n r, s))) W k) k := wF_split (wOp (fun r s => (rH n r, s))) (wOp (rDd (bz n))) (fun d d' V hd => (wOp_comm (F := rDd (bz n)) (G := fun r s => (rH n r, s)) (g := rH n) (fun _ _ => rfl) (d := d') (d' := d) (by omega) V).symm) k W
  rw [← h2, ← h1]
  congr 1
  funext d V
  rw [wOp_seq, wOp_seq]
  rfl
theorem rH_20 (n : Nat) (r : Rw) : rH n r 20 = r 20 := by
  unfold rH
  repeat' split
  all_goals simp [upd_n]
theorem m_tick {nd c t T : Nat} {x : Int32} {τ : St} {W : Wd} (hnd : nd ≤ 8) (hc : c < 4) (ht : t < T) (hT : T ≤ 384) (h35 : τ 0 35 = nI nd) (h : mW nd τ W) (hI : tI nd t T W) : ∃ τ', (∀ K, b_X8_part_58 K (nI c) (nI T) x (nI t) τ = K (nI c, nI T, x + tS nd (nI t) (nI T) W, nI (t + 1), τ')) ∧ mW nd τ' (tK nd (nI t) (nI T) W) ∧ fmA nd τ τ' ∧ τ' 34 = upd (τ 34) (384 * c + t) (av (sd4 (tV nd (nI t) (nI T) W) nd)) := by
  obtain ⟨v1, v2⟩ := tV_I (by omega) (by omega) hI
  obtain ⟨u1, u2⟩ := tU_I (by omega) (by omega) hI
  obtain ⟨τ1, a1, a2, a3⟩ := mW.A (t := nI t) hnd h35 h hI.1
  obtain ⟨τ2, b1, b2, b3⟩ := mW.BC (t := nI t) (T := nI T) hnd ((a3.2.1 35 (by decide)).trans h35) a2
  have f2 : fmW nd τ τ2 := a3.tr b3
  obtain ⟨τ3, c1, c2, c3, c4⟩ := m_sending hnd hc (show t < 384 by omega) ((f2.2.1 35 (by decide)).trans h35) b2.Z
  obtain ⟨V, eV⟩ : ∃ V, V = tV nd (nI t) (nI T) W := ⟨_, rfl⟩
  rw [show wF wC (wF (wB (nI t) (nI T)) (wF (wA (nI t)) W nd) nd) nd = V from eV.symm] at c1 c2 c4
  have es : sd4 (tZ V) nd = sd4 V nd := rfl
  rw [es] at c1 c2 c4
  obtain ⟨n, en⟩ : ∃ n, n = (sd4 V nd).length := ⟨_, rfl⟩
  have hn : n ≤ 8 := by have := sd4_len V nd; omega
  rw [← en] at c1 c2
  have etn : tn nd (nI t) (nI T) W = n := by unfold tn; rw [← eV, ← en]
  have eU : tU nd (nI t) (nI T) W = wF (wOp (fun r s => (rEe r, s))) (wF (wOp (rDd (bz n))) (wF (wOp (fun r s => (rH n r, s))) (tZ V) nd) nd) nd := by unfold tU; rw [etn, ← eV, lw_split]
  rw [← eV] at v1 v2 ⊢
  have hrow := wF_row (F := fun r s => (rH n r, s)) (W := tZ V) (fun _ _ q => q) v1.1 nd
  have hD : ∀ d, d < nd → dW ((wF (wOp (fun r s => (rH n r, s))) (tZ V) nd).1 d) := by
    intro d hd
    obtain ⟨s, _, s2⟩ := hrow.2 d hd
    rw [s2]
    exact h_dW ((v1.2 d hd).cg (fun j hj => tZ_20 _ hj d))
  have h20 : ∀ d, (wF (wOp (fun r s => (rH n r, s))) (tZ V) nd).1 d 20 = 0 := by
    intro d
    by_cases hd : d < nd
    · obtain ⟨s, _, s2⟩ := hrow.2 d hd
      rw [s2]
      show rH n ((tZ V).1 d) 20 = 0
      rw [rH_20, tZ_0]
    · rw [wF_late _ _ _ _ (by omega), tZ_0]
  have e35 : τ3 0 35 = nI nd := (c3.2.1 35 (by decide)).trans ((f2.2.1 35 (by decide)).trans h35)
  obtain ⟨τ4, d1, d2, d3, d4⟩ := mW.D (b := bz n) hnd e35 c2 hD h20
  obtain ⟨τ5, e1, e2, e3⟩ := mW.E hnd ((d3.2.1 35 (by decide)).trans e35) d2 d4
  rw [← eU] at e2
  obtain ⟨τ6, g1, g2, g3⟩ := mW.F hnd ((e3.2.1 35 (by decide)).trans ((d3.2.1 35 (by decide)).trans e35)) e2 (fun d hd => (u2 d hd).1)
  refine ⟨τ6, fun K => ?_, g2, f2.A.tr (c3.tr (d3.A.tr (e3.A.tr g3.A))), ?_⟩
  · unfold b_X8_part_58
    rw [if_neg (by rw [nI_leI (by omega) (by omega)]; omega), a1, cl_some, b1, cl_some, c1, cl_some]
    by_cases h0 : n = 0
    · have bz0 : bz n = 0 := if_pos h0
      rw [bz0] at d1
      rw [if_pos (by rw [h0]; decide), d1, cl_some, e1, cl_some, g1, cl_some, vl_d, vl_d, nI_1]
      rfl
    · have bz0 : bz n = 1 := if_neg h0
      rw [bz0] at d1
      rw [if_neg (by rw [i_le, t_nI _ (by omega), t_lit 0 (by decide)]; omega), d1, cl_some, e1, cl_some, g1, cl_some, vl_d, vl_d, nI_1]
      rfl
  · rw [g3.a34, e3.a34, d3.a34, c4, f2.a34]
/-- the class's frame with its air -/
def fcY (nd c : Nat) (σ σ' : St) : Prop := (∀ a, a ≠ 6 → a ≠ 42 + c → (a < 46 ∨ 46 + nd ≤ a) → σ' a = σ a) ∧ (∀ j, j ≠ 2 → j ≠ 3 → j ≠ 4 → σ' 6 j = σ 6 j) ∧ ∀ d, d < nd → ∀ j, (j = 0 ∨ 19 < j) → σ' (46 + d) j = σ (46 + d) j
theorem fcY.rf {nd c : Nat} {σ : St} : fcY nd c σ σ := ⟨fun _ _ _ _ => rfl, fun _ _ _ _ => rfl, fun _ _ _ _ => rfl⟩
theorem fcY.tr {nd c : Nat} {σ σ' σ'' : St} (h : fcY nd c σ σ') (h' : fcY nd c σ' σ'') : fcY nd c σ σ'' := ⟨fun a b c d => (h'.1 a b c d).trans (h.1 a b c d), fun j a b c => (h'.2.1 j a b c).trans (h.2.1 j a b c), fun d a j b => (h'.2.2 d a j b).trans (h.2.2 d a j b)⟩
theorem fcX.Y {nd c : Nat} {σ σ' : St} (h : fcX nd σ σ') : fcY nd c σ σ' := ⟨fun a b _ d => h.1 a b d, h.2.1, h.2.2⟩
theorem c_listenAll {nd n : Nat} {σ : St} {W : Wd} (hnd : nd ≤ 8) (hn : n ≤ 8) (h : cW nd σ W) (hI : ∀ d, d < nd → dW (W.1 d)) (h20 : ∀ d, W.1 d 20 = 0) (h63 : σ 6 3 = nI n) (hq : qW nd W) (hs : qS nd σ) : ∃ σ', f_X0_listenAndWait σ = some ((), σ') ∧ cW nd σ' (wF (wOp (rLw n)) W nd) ∧ fcW nd σ σ' := by
  obtain ⟨r, hr, σ', rfl, q1, q2⟩ := cls_loop (b := fun K a => b_X0_listenAndWait_10 K a.1 a.2.1 a.2.2) hnd (fun x i σ => ((8 : Int32), i, σ)) (rLw n) (fun _ => 0) (Q := fun r => ∃ σ', r = ((), σ') ∧ cW nd σ' (wF (wOp (rLw n)) W nd) ∧ fcW nd σ σ') (x0 := 0) h
    (fun d σk V x hdn h15 m1 m2 m3 => by
      have q := c_listen (σ := σk) hnd m1 (by rw [m2]; exact hI d hdn) hdn (by rw [m2]; exact h15) (by rw [m2]; exact h20 d) hn (by rw [m3.2.1 3 (by decide)]; exact h63)
      exact q)
    (fun k σk V x hk hh m0 m1 m3 K => q_listen hk (quiet hq hs hk hh m0 m1 m3) K)
    (fun σ' V x eV m1 m2 _ => by
      rw [op_party (fun r s q => by simp [rLw, rH, rDd, rEe, q]) (fun r s => rLw_k n r s k15)] at eV
      subst eV
      refine ⟨_, ⟨σ', rfl, m1, m2⟩, fun K => ?_⟩
      show b_X0_listenAndWait_10 K 8 (nI 8) σ' = _
      unfold b_X0_listenAndWait_10
      rw [if_pos (by decide)])
  exact ⟨σ', hr, q1, q2⟩
theorem c_endAll {nd : Nat} {σ : St} {W : Wd} (hnd : nd ≤ 8) (h : cW nd σ W) (hI : ∀ d, d < nd → dW (W.1 d)) (hq : qW nd W) (hs : qS nd σ) : ∃ σ', f_X0_endFrames σ = some ((List.range nd).foldl (fun x d => x + cFf (W.1 d)) 0, σ') ∧ cW nd σ' (wF (wOp rFf) W nd) ∧ fcW nd σ σ' := by
  obtain ⟨r, hr, σ', rfl, q1, q2⟩ := cls_loop (b := fun K a => b_X0_endFrames_13 K a.1 a.2.1 a.2.2.1 a.2.2.2) hnd (fun x i σ => (x, (8 : Int32), i, σ)) rFf cFf (Q := fun r => ∃ σ', r = ((List.range nd).foldl (fun x d => x + cFf (W.1 d)) 0, σ') ∧ cW nd σ' (wF (wOp rFf) W nd) ∧ fcW nd σ σ') (x0 := 0) h
    (fun d σk V x hdn h15 m1 m2 m3 => by
      have q := c_ending (x := x) hnd m1 (by rw [m2]; exact hI d hdn) hdn (by rw [m2]; exact h15)
      rw [m2] at q
      exact q)
    (fun k σk V x hk hh m0 m1 m3 K => q_ending hk (quiet hq hs hk hh m0 m1 m3) K)
    (fun σ' V x eV m1 m2 ex => by
      rw [op_party (fun r s q => by simp [rFf, q]) (fun r s => rFf_k r s k15)] at eV
      rw [cnt_party (fun r q => by simp [cFf, q])] at ex
      subst eV
      refine ⟨_, ⟨σ', rfl, m1, m2⟩, fun K => ?_⟩
      show b_X0_endFrames_13 K x 8 (nI 8) σ' = _
      unfold b_X0_endFrames_13
      rw [if_pos (by decide), ex])
  exact ⟨σ', hr, q1, q2⟩
theorem c_holdAll {nd : Nat} {σ : St} {W : Wd} (hnd : nd ≤ 8) (h : cW nd σ W) (hq : qW nd W) (hs : qS nd σ) : ∃ σ', f_X0_holdAll σ = some ((), σ') ∧ cW nd σ' (wF (wOp (fun r s => (rHold r, s))) W nd) ∧ fcW nd σ σ' := by
  obtain ⟨r, hr, σ', rfl, q1, q2⟩ := cls_loop (b := fun K a => b_X0_holdAll_10 K a.1 a.2.1 a.2.2) hnd (fun x i σ => ((8 : Int32), i, σ)) (fun r s => (rHold r, s)) (fun _ => 0) (Q := fun r => ∃ σ', r = ((), σ') ∧ cW nd σ' (wF (wOp (fun r s => (rHold r, s))) W nd) ∧ fcW nd σ σ') (x0 := 0) h
    (fun d σk V x hdn h15 m1 m2 m3 => by
      have q := c_holding (σ := σk) hnd m1 hdn (by rw [m2]; exact h15)
      exact q)
    (fun k σk V x hk hh m0 m1 m3 K => q_holding hk (quiet hq hs hk hh m0 m1 m3) K)
    (fun σ' V x eV m1 m2 _ => by
      rw [op_party (fun r s q => by simp [rHold, q]) (fun r s => rHold_k r k15)] at eV
      subst eV
      refine ⟨_, ⟨σ', rfl, m1, m2⟩, fun K => ?_⟩
      show b_X0_holdAll_10 K 8 (nI 8) σ' = _
      unfold b_X0_holdAll_10
      rw [if_pos (by decide)])
  exact ⟨σ', hr, q1, q2⟩
theorem qS.fr {nd : Nat} {σ σ' : St} (h : qS nd σ) (e : ∀ a, 46 + nd ≤ a → σ' a = σ a) : qS nd σ' := fun d h1 h2 => by
  rw [e _ (by omega)]
  exact h d h1 h2
theorem tV_q (nd : Nat) (t T : Int32) (W : Wd) {d : Nat} (hd : ¬ W.1 d 15 = 1) : (tV nd t T W).1 d = W.1 d := by
  have eA : (wF (wOp (rwA t)) W nd).1 d = W.1 d := wF_q (fun r s q => by simp [rwA, q]) W hd nd
  have eB : (wF (wOp (fun r s => (rwB t T r, s))) (wF (wOp (rwA t)) W nd) nd).1 d = (wF (wOp (rwA t)) W nd).1 d := wF_q (fun r s q => by simp [rwB, q]) _ (by rw [eA]; exact hd) nd
  unfold tV
  rw [wC_eq, wB_eq, wA_eq, wF_q (fun r s q => by simp [rwC, q]) _ (by rw [eB, eA]; exact hd) nd, eB, eA]
theorem tU_q (nd : Nat) (t T : Int32) (W : Wd) {d : Nat} (hd : ¬ W.1 d 15 = 1) : (tU nd t T W).1 d = (tZ (tV nd t T W)).1 d := by
  unfold tU
  exact wF_q (fun r s q => by simp [rLw, rH, rDd, rEe, q]) _ (by rw [tZ_20 _ (by decide), tV_q nd t T W hd]; exact hd) nd
theorem tU_q10 (nd : Nat) (t T : Int32) (W : Wd) {d : Nat} (hd : ¬ W.1 d 15 = 1) : (tU nd t T W).1 d 10 = W.1 d 10 := by
  rw [tU_q nd t T W hd, tZ_20 _ (by decide), tV_q nd t T W hd]
theorem tK_q10 (nd : Nat) (t T : Int32) (W : Wd) {d : Nat} (hd : ¬ W.1 d 15 = 1) : (tK nd t T W).1 d 10 = W.1 d 10 := by
  have e : (tK nd t T W).1 d = (tU nd t T W).1 d := by
    unfold tK
    exact wF_q (fun r s q => by simp [rFf, q]) _ (by rw [tU_k nd t T W k15]; exact hd) nd
  rw [e, tU_q10 nd t T W hd]
theorem qW.V {nd : Nat} {t T : Int32} {W : Wd} (h : qW nd W) : qW nd (tZ (tV nd t T W)) := fun d hd h15 => by
  have e15 : ¬ W.1 d 15 = 1 := by rw [tZ_20 _ (by decide), tV_k nd t T W k15] at h15; exact h15
  rw [tZ_20 _ (by decide), tV_q nd t T W e15]
  exact h d hd e15
theorem qW.U {nd : Nat} {t T : Int32} {W : Wd} (h : qW nd W) : qW nd (tU nd t T W) := fun d hd h15 => by
  have e15 : ¬ W.1 d 15 = 1 := by rw [tU_k nd t T W k15] at h15; exact h15
  rw [tU_q10 nd t T W e15]
  exact h d hd e15
theorem qW.K {nd : Nat} {t T : Int32} {W : Wd} (h : qW nd W) : qW nd (tK nd t T W) := fun d hd h15 => by
  have e15 : ¬ W.1 d 15 = 1 := by rw [tK_k nd t T W k15] at h15; exact h15
  rw [tK_q10 nd t T W e15]
  exact h d hd e15
theorem c_tick {nd c t T : Nat} {x li : Int32} {σ : St} {W : Wd} (hnd : nd ≤ 8) (hc : c < 4) (ht : t < T) (hT : T ≤ 384) (hli : ¬ li = 0) (h : cW nd σ W) (hI : tI nd t T W) (h0 : ∀ d, d < nd → σ (46 + d) 0 = nI d) (hq : qW nd W) (hs : qS nd σ) :
    ∃ li' σ', (∀ K, b_X0_play_8 (42 + c) K (nI T) x li (nI t) σ = K (nI T, x + tS nd (nI t) (nI T) W, li', nI (t + 1), σ')) ∧ cW nd σ' (tK nd (nI t) (nI T) W) ∧ fcY nd c σ σ' ∧ σ' (42 + c) = upd (σ (42 + c)) t (av (sd4 (tV nd (nI t) (nI T) W) nd)) ∧ (li' = 0 → ∀ d, d < nd → (tV nd (nI t) (nI T) W).1 d 15 = 1 → (tV nd (nI t) (nI T) W).1 d 10 = 0 ∨ (tV nd (nI t) (nI T) W).1 d 10 = 3) := by
  have hl := pty_len W nd
  obtain ⟨v1, v2⟩ := tV_I (by omega) (by omega) hI
  obtain ⟨u1, u2⟩ := tU_I (by omega) (by omega) hI
  obtain ⟨y, σ1, ey, a1, a2, a3, a4, a5, a6⟩ := c_takeUp (t := nI t) (T := nI T) hnd h hI.1 h0 hq hs
  have ey1 : y.1 = tV nd (nI t) (nI T) W := by rw [ey]; exact abc_party _ _ _ _ _
  have eP : pty (tV nd (nI t) (nI T) W) nd = pty W nd := pty_cg (fun d => tV_k nd _ _ W k15 d) nd
  have ey2 : y.2 = (pty W nd).foldl (fun c d => cCnt (tV nd (nI t) (nI T) W) d c) (0, σ 6 4, 0) := by
    rw [ey, wPair_cnt _ _ _ (pty_nodup W nd), show (pty W nd).foldl (fun V d => wABC (nI t) (nI T) d V) W = tV nd (nI t) (nI T) W from by rw [← ey1, ey, wPair_fst]]
  obtain ⟨n1, n2, n3⟩ := cnt_spec (tV nd (nI t) (nI T) W) (pty W nd) 0 (0, σ 6 4, 0) rfl
  rw [← ey2, Nat.zero_add] at n1
  rw [← ey2] at n2 n3
  have esd : (pty W nd).filter (fun d => decide ((tV nd (nI t) (nI T) W).1 d 10 = 4)) = sd4 (tV nd (nI t) (nI T) W) nd := by unfold sd4; rw [eP]
  rw [esd] at n1 n2
  rw [ey1] at a2 a3
  have hn := sd4_len (tV nd (nI t) (nI T) W) nd
  obtain ⟨A, eA⟩ : ∃ A, A = av (sd4 (tV nd (nI t) (nI T) W) nd) := ⟨_, rfl⟩
  have b1 := c_airNow (by omega) (a5.trans n1) (a6.trans n2)
  rw [← eA] at b1 ⊢
  have b2 : cW nd (up2 σ1 (42 + c) t A) (tV nd (nI t) (nI T) W) := ⟨fun d hd j j1 j2 => by rw [up2_r (by omega)]; exact a2.1 d hd j j1 j2, by rw [up2_r (by omega)]; exact a2.2⟩
  have s2 : qS nd (up2 σ1 (42 + c) t A) := hs.fr (fun a ha => by rw [up2_ne (by omega)]; exact a4.1 a (by omega) (Or.inr ha))
  obtain ⟨σ2, c1, c2, c3⟩ := c_listenAll (n := tn nd (nI t) (nI T) W) hnd (by unfold tn; omega) b2.Z (fun d hd => (v1.2 d hd).cg (fun j hj => tZ_20 _ hj d)) (fun d => tZ_0 _ d) (by rw [up2_r (by omega)]; exact a5.trans n1) hq.V s2
  have c2' : cW nd σ2 (tU nd (nI t) (nI T) W) := c2
  obtain ⟨σ3, d1, d2, d3⟩ := c_endAll hnd c2' (fun d hd => (u2 d hd).1) hq.U (s2.fr (fun a ha => c3.1 a (by omega) (Or.inr ha)))
  have f0 : fcY nd c σ1 (up2 σ1 (42 + c) t A) := ⟨fun a _ b _ => up2_ne b, fun j _ _ _ => by rw [up2_r (by omega)], fun d hd j _ => by rw [up2_r (by omega)]⟩
  refine ⟨y.2.2.2, σ3, fun K => ?_, d2, a4.Y.tr (f0.tr (c3.X.Y.tr d3.X.Y)), ?_, fun q d hd h15 => (n3 q).2 d (pty_mem.mpr ⟨hd, by rw [← tV_k nd (nI t) (nI T) W k15 d]; exact h15⟩)⟩
  · unfold b_X0_play_8
    rw [if_neg (by rw [nI_leI (by omega) (by omega)]; omega), cnA hc, if_neg (by rw [nI_leI (by omega) (by omega)]; omega), if_neg hli, a1, cl_some, b1, cl_some, gd_t (ix_nI (by omega) (by decide)), nt_nI (by omega), vl_d, c1, cl_some, d1, cl_some, vl_d, vl_d, nI_1]
    rfl
  · rw [d3.1 (42 + c) (by omega) (by omega), c3.1 (42 + c) (by omega) (by omega), up2_row, a4.1 (42 + c) (by omega) (by omega)]
