/-! the shared ticks, on both sides -/
def tW (nd : Nat) (T : Int32) (W : Wd) : Nat → Wd
  | 0 => W
  | i + 1 => tK nd (nI (i + 1)) T (tW nd T W i)
def tC (nd : Nat) (T : Int32) (W : Wd) : Nat → Int32
  | 0 => 0
  | i + 1 => tC nd T W i + tS nd (nI (i + 1)) T (tW nd T W i)
def tA (nd : Nat) (T : Int32) (W : Wd) (i : Nat) : Int32 := av (sd4 (tV nd (nI (i + 1)) T (tW nd T W i)) nd)
theorem tW_I {nd T : Nat} {W : Wd} (hT : T ≤ 384) (h : tI nd 1 T W) : ∀ i, i < T → tI nd (i + 1) T (tW nd (nI T) W i) := by
  intro i
  induction i with
  | zero => exact fun _ => h
  | succ i ih => exact fun hi => tK_I (by omega) (by omega) (ih (by omega))
theorem tW_k (nd : Nat) (T : Int32) (W : Wd) {j : Nat} (hj : kpl j) : ∀ i d, (tW nd T W i).1 d j = W.1 d j := by
  intro i
  induction i with
  | zero => exact fun _ => rfl
  | succ i ih => exact fun d => (tK_k nd _ T _ hj d).trans (ih d)
/-- nobody is lively -/
def qt (nd : Nat) (Y : Wd) : Prop := (∀ d, Y.1 d 20 = 0) ∧ ∀ d, d < nd → Y.1 d 15 = 1 → (Y.1 d 10 = 0 ∧ Y.1 d 4 ≤ 0) ∨ Y.1 d 10 = 3
theorem qt_03 {nd : Nat} {Y : Wd} (h : qt nd Y) {d : Nat} (hd : d < nd) (h15 : Y.1 d 15 = 1) : ¬ Y.1 d 10 = 4 ∧ ¬ Y.1 d 10 = 2 ∧ ¬ Y.1 d 10 = 1 := by
  rcases h.2 d hd h15 with ⟨q, _⟩ | q <;> rw [q] <;> decide
theorem qt_sd {nd : Nat} {Y : Wd} (h : ∀ d, d < nd → Y.1 d 15 = 1 → ¬ Y.1 d 10 = 4) : sd4 Y nd = [] := by
  unfold sd4
  rw [List.filter_eq_nil_iff]
  intro d hd
  have := pty_mem.mp hd
  simp [h d this.1 this.2]
theorem qt_L {nd : Nat} {Y : Wd} (h : qt nd Y) : wF (wOp (rLw 0)) Y nd = Y := by
  refine wF_id nd (fun d hd => ?_)
  have e20 : upd (Y.1 d) 20 0 = Y.1 d := by
    have := upd_self (Y.1 d) 20
    rw [h.1 d] at this
    exact this
  by_cases h15 : Y.1 d 15 = 1
  · obtain ⟨q1, q2, q3⟩ := qt_03 h hd h15
    simp [rLw, rH, rDd, rEe, h15, q1, q2, q3, e20]
  · simp [rLw, rH, rDd, rEe, h15]
theorem qt_F {nd : Nat} {Y : Wd} (h : qt nd Y) : wF (wOp rFf) Y nd = Y := by
  refine wF_id nd (fun d hd => ?_)
  by_cases h15 : Y.1 d 15 = 1
  · simp [rFf, (qt_03 h hd h15).1]
  · simp [rFf, h15]
theorem qt_S {nd : Nat} {Y : Wd} (h : qt nd Y) : ∀ k, k ≤ nd → ∀ x, (List.range k).foldl (fun x d => x + cFf (Y.1 d)) x = x := by
  intro k
  induction k with
  | zero => exact fun _ _ => rfl
  | succ k ih =>
    intro hk x
    rw [List.range_succ, List.foldl_append, ih (by omega)]
    show x + cFf (Y.1 k) = x
    have : cFf (Y.1 k) = 0 := by
      by_cases h15 : Y.1 k 15 = 1
      · simp [cFf, (qt_03 h (show k < nd by omega) h15).1]
      · simp [cFf, h15]
    rw [this, Int32.add_zero]
theorem qt_V {nd : Nat} {t T : Int32} {Y : Wd} (ht : ¬ t = 1) (h : qt nd Y) : tV nd t T Y = Y := by
  unfold tV
  have eA : wF (wA t) Y nd = Y := by
    rw [wA_eq]
    refine wF_id nd (fun d hd => ?_)
    unfold rwA
    by_cases h15 : Y.1 d 15 = 1
    · rcases h.2 d hd h15 with ⟨q1, q2⟩ | q
      · rw [if_pos h15, if_pos q1, if_pos q2]
      · rw [if_pos h15, if_neg (by rw [q]; decide), if_pos q, if_neg ht]
    · rw [if_neg h15]
  have eB : wF (wB t T) Y nd = Y := by
    rw [wB_eq]
    refine wF_id nd (fun d hd => ?_)
    by_cases h15 : Y.1 d 15 = 1
    · simp [rwB, (qt_03 h hd h15).2.2]
    · simp [rwB, h15]
  have eC : wF wC Y nd = Y := by
    rw [wC_eq]
    refine wF_id nd (fun d hd => ?_)
    by_cases h15 : Y.1 d 15 = 1
    · simp [rwC, (qt_03 h hd h15).2.1]
    · simp [rwC, h15]
  rw [eA, eB, eC]
theorem qt_Z {nd : Nat} {Y : Wd} (h : qt nd Y) : tZ Y = Y := by
  refine Prod.ext (funext fun d => funext fun j => ?_) rfl
  by_cases e : j = 20
  · rw [e, tZ_0, h.1]
  · exact tZ_20 Y e d
theorem qt_rest {nd : Nat} {t T : Int32} {W : Wd} (h : qt nd (tZ (tV nd t T W))) : tK nd t T W = tZ (tV nd t T W) ∧ tS nd t T W = 0 ∧ sd4 (tV nd t T W) nd = [] := by
  have e0 : sd4 (tV nd t T W) nd = [] := qt_sd (fun d hd h15 => (qt_03 h hd h15).1)
  have eU : tU nd t T W = tZ (tV nd t T W) := by
    unfold tU tn
    rw [e0]
    exact qt_L h
  refine ⟨?_, ?_, e0⟩
  · unfold tK
    rw [eU]
    exact qt_F h
  · unfold tS
    rw [eU]
    exact qt_S h nd (Nat.le_refl _) 0
theorem qt_tick {nd : Nat} {t T : Int32} {Y : Wd} (ht : ¬ t = 1) (h : qt nd Y) : tK nd t T Y = Y ∧ tS nd t T Y = 0 ∧ sd4 (tV nd t T Y) nd = [] := by
  have e : tZ (tV nd t T Y) = Y := by rw [qt_V ht h, qt_Z h]
  have q := qt_rest (nd := nd) (t := t) (T := T) (W := Y) (by rw [e]; exact h)
  rw [e] at q
  exact q
theorem qt_iter {nd : Nat} {T : Int32} {W : Wd} {k : Nat} (hk : 1 ≤ k) (h : qt nd (tW nd T W k)) : ∀ m, k + m < 1000 → tW nd T W (k + m) = tW nd T W k ∧ tC nd T W (k + m) = tC nd T W k ∧ tA nd T W (k + m) = 0 := by
  have key : ∀ m, k + m < 1000 → tW nd T W (k + m) = tW nd T W k ∧ tC nd T W (k + m) = tC nd T W k := by
    intro m
    induction m with
    | zero => exact fun _ => ⟨rfl, rfl⟩
    | succ m ih =>
      intro hm
      obtain ⟨i1, i2⟩ := ih (by omega)
      obtain ⟨q1, q2, _⟩ := qt_tick (T := T) (t := nI (k + m + 1)) (by rw [i_eq, t_nI _ (by omega), t_lit 1 (by decide)]; omega) h
      refine ⟨?_, ?_⟩
      · show tK nd (nI (k + m + 1)) T (tW nd T W (k + m)) = _
        rw [i1, q1]
      · show tC nd T W (k + m) + tS nd (nI (k + m + 1)) T (tW nd T W (k + m)) = _
        rw [i1, i2, q2, Int32.add_zero]
  intro m hm
  refine ⟨(key m hm).1, (key m hm).2, ?_⟩
  unfold tA
  rw [(key m hm).1, (qt_tick (T := T) (t := nI (k + m + 1)) (by rw [i_eq, t_nI _ (by omega), t_lit 1 (by decide)]; omega) h).2.2]
  rfl
theorem c_play {nd c T : Nat} {σ : St} {W : Wd} (hnd : nd ≤ 8) (hc : c < 4) (hT1 : 1 ≤ T) (hT : T ≤ 384) (h : cW nd σ W) (hI : tI nd 1 T W) (h0 : ∀ d, d < nd → σ (46 + d) 0 = nI d) (hq : qW nd W) (hs : qS nd σ) (hz : ∀ t, 1 ≤ t → t < T → σ (42 + c) t = 0) :
    ∃ σ', f_X0_play (42 + c) (nI T) σ = some (tC nd (nI T) W (T - 1), σ') ∧ cW nd σ' (wF (wOp (fun r s => (rHold r, s))) (tW nd (nI T) W (T - 1)) nd) ∧ fcY nd c σ σ' ∧ (∀ t, 1 ≤ t → t < T → σ' (42 + c) t = tA nd (nI T) W (t - 1)) ∧ ∀ t, (t = 0 ∨ T ≤ t) → σ' (42 + c) t = σ (42 + c) t := by
  have qk : ∀ k, qW nd (tW nd (nI T) W k) := by
    intro k
    induction k with
    | zero => exact hq
    | succ k ih => exact ih.K
  have sk : ∀ σk, fcY nd c σ σk → qS nd σk := fun σk m => hs.fr (fun a ha => m.1 a (by omega) (by omega) (Or.inr ha))
  have hold : ∀ k σk, cW nd σk (tW nd (nI T) W k) → fcY nd c σ σk → ∃ σ', f_X0_holdAll σk = some ((), σ') ∧ cW nd σ' (wF (wOp (fun r s => (rHold r, s))) (tW nd (nI T) W k) nd) ∧ fcW nd σk σ' := by
    intro k σk m1 m2
    exact c_holdAll hnd m1 (qk k) (sk σk m2)
  obtain ⟨r, hr, σ', rfl, q⟩ := lp_FU (b := fun K a => b_X0_play_8 (42 + c) K a.1 a.2.1 a.2.2.1 a.2.2.2.1 a.2.2.2.2)
    (fun k a => ∃ li σk, a = (nI T, tC nd (nI T) W k, li, nI (k + 1), σk) ∧ cW nd σk (tW nd (nI T) W k) ∧ fcY nd c σ σk ∧ (∀ t, 1 ≤ t → t ≤ k → σk (42 + c) t = tA nd (nI T) W (t - 1)) ∧ (∀ t, (t = 0 ∨ k < t) → σk (42 + c) t = σ (42 + c) t) ∧ (li = 0 → 1 ≤ k ∧ qt nd (tW nd (nI T) W k)))
    (fun r => ∃ σ', r = (tC nd (nI T) W (T - 1), σ') ∧ cW nd σ' (wF (wOp (fun r s => (rHold r, s))) (tW nd (nI T) W (T - 1)) nd) ∧ fcY nd c σ σ' ∧ (∀ t, 1 ≤ t → t < T → σ' (42 + c) t = tA nd (nI T) W (t - 1)) ∧ ∀ t, (t = 0 ∨ T ≤ t) → σ' (42 + c) t = σ (42 + c) t) (T - 1) (by omega)
    (fun k a hk ha => by
      obtain ⟨li, σk, rfl, m1, m2, m3, m4, m5⟩ := ha
      have nT : ¬ nI T ≤ nI (k + 1) := by rw [nI_leI (by omega) (by omega)]; omega
      by_cases hli : li = 0
      · obtain ⟨k1, qk⟩ := m5 hli
        obtain ⟨σ', s1, s2, s3⟩ := hold k σk m1 m2
        have it := fun m hm => qt_iter (T := nI T) (W := W) k1 qk m hm
        have ek : k + (T - 1 - k) = T - 1 := by omega
        have it1 := it (T - 1 - k) (by omega)
        rw [ek] at it1
        refine Or.inr ⟨(tC nd (nI T) W k, σ'), ⟨σ', by rw [it1.2.1], by rw [it1.1]; exact s2, m2.tr s3.X.Y, fun t t1 t2 => ?_, fun t ht => ?_⟩, fun K => ?_⟩
        · rw [s3.1 (42 + c) (by omega) (by omega)]
          by_cases tk : t ≤ k
          · exact m3 t t1 tk
          · rw [m4 t (by omega), hz t t1 t2]
            have := (it (t - 1 - k) (by omega)).2.2
            rw [show k + (t - 1 - k) = t - 1 from by omega] at this
            exact this.symm
        · rw [s3.1 (42 + c) (by omega) (by omega)]
          exact m4 t (by omega)
        · show b_X0_play_8 (42 + c) K (nI T) (tC nd (nI T) W k) li (nI (k + 1)) σk = _
          unfold b_X0_play_8
          rw [if_neg nT, cnA hc, if_neg (by rw [nI_leI (by omega) (by omega)]; omega), if_pos hli, s1, cl_some]
      · obtain ⟨li', σ', s1, s2, s3, s4, s5⟩ := c_tick (x := tC nd (nI T) W k) hnd hc (show k + 1 < T by omega) hT hli m1 (tW_I hT hI k (by omega)) (fun d hd => by rw [m2.2.2 d hd 0 (Or.inl rfl)]; exact h0 d hd) (qk k) (sk σk m2)
        refine Or.inl ⟨_, ⟨li', σ', rfl, s2, m2.tr s3, fun t t1 t2 => ?_, fun t ht => ?_, fun z => ⟨by omega, ?_⟩⟩, s1⟩
        · rw [s4]
          by_cases e : t = k + 1
          · rw [e, upd_s]; rfl
          · rw [upd_n _ _ e]; exact m3 t t1 (by omega)
        · rw [s4, upd_n _ _ (by omega)]; exact m4 t (by omega)
        · have v := (tV_I (by omega) (by omega) (tW_I hT hI k (by omega))).2
          have qz : qt nd (tZ (tV nd (nI (k + 1)) (nI T) (tW nd (nI T) W k))) := ⟨fun d => tZ_0 _ d, fun d hd h15 => by
            rcases s5 z d hd h15 with w | w
            · exact Or.inl ⟨w, (v d hd).2.1 h15 w⟩
            · exact Or.inr w⟩
          show qt nd (tK nd (nI (k + 1)) (nI T) (tW nd (nI T) W k))
          rw [(qt_rest qz).1]
          exact qz)
    (fun a ha => by
      obtain ⟨li, σk, rfl, m1, m2, m3, m4, m5⟩ := ha
      obtain ⟨σ', s1, s2, s3⟩ := hold (T - 1) σk m1 m2
      refine ⟨_, ⟨σ', rfl, s2, m2.tr s3.X.Y, fun t t1 t2 => ?_, fun t ht => ?_⟩, fun K => ?_⟩
      · rw [s3.1 (42 + c) (by omega) (by omega)]; exact m3 t t1 (by omega)
      · rw [s3.1 (42 + c) (by omega) (by omega)]; exact m4 t (by omega)
      · show b_X0_play_8 (42 + c) K (nI T) (tC nd (nI T) W (T - 1)) li (nI (T - 1 + 1)) σk = _
        unfold b_X0_play_8
        rw [if_pos (nI_le (by omega) (by omega)), s1, cl_some])
    (a := (nI T, 0, 1, 1, σ)) ⟨1, σ, rfl, h, fcY.rf, fun t t1 t2 => by omega, fun t _ => rfl, fun q => absurd q (by decide)⟩
  exact ⟨σ', hr, q⟩
theorem m_play {nd c T : Nat} {τ : St} {W : Wd} {Q : Int32 × St → Prop} (hnd : nd ≤ 8) (hc : c < 4) (hT1 : 1 ≤ T) (hT : T ≤ 384) (h35 : τ 0 35 = nI nd) (h : mW nd τ W) (hI : tI nd 1 T W)
    (hend : ∀ τ', mW nd τ' (wF (wOp (fun r s => (rHold r, s))) (tW nd (nI T) W (T - 1)) nd) → fmA nd τ τ' → (∀ t, 1 ≤ t → t < T → τ' 34 (384 * c + t) = tA nd (nI T) W (t - 1)) → (∀ j, (j ≤ 384 * c ∨ 384 * c + T ≤ j) → τ' 34 j = τ 34 j) → ∃ r, Q r ∧ ∀ K, b_X8_part_116 K (nI c) (tC nd (nI T) W (T - 1)) (nI nd) τ' = some r) :
    ∃ r, lp (fun K a => b_X8_part_58 K a.1 a.2.1 a.2.2.1 a.2.2.2.1 a.2.2.2.2) FU (nI c, nI T, (0 : Int32), (1 : Int32), τ) = some r ∧ Q r := by
  refine lp_FU (b := fun K a => b_X8_part_58 K a.1 a.2.1 a.2.2.1 a.2.2.2.1 a.2.2.2.2)
    (fun k a => ∃ τk, a = (nI c, nI T, tC nd (nI T) W k, nI (k + 1), τk) ∧ mW nd τk (tW nd (nI T) W k) ∧ fmA nd τ τk ∧ (∀ t, 1 ≤ t → t ≤ k → τk 34 (384 * c + t) = tA nd (nI T) W (t - 1)) ∧ (∀ j, (j ≤ 384 * c ∨ 384 * c + k < j) → τk 34 j = τ 34 j)) Q (T - 1) (by omega)
    (fun k a hk ha => ?_) (fun a ha => ?_) ⟨τ, rfl, h, fmA.rf, fun t t1 t2 => by omega, fun j _ => rfl⟩
  · obtain ⟨τk, rfl, m1, m2, m3, m4⟩ := ha
    obtain ⟨τ', s1, s2, s3, s4⟩ := m_tick (x := tC nd (nI T) W k) hnd hc (show k + 1 < T by omega) hT ((m2.2.1 35 (by decide)).trans h35) m1 (tW_I hT hI k (by omega))
    refine Or.inl ⟨_, ⟨τ', rfl, s2, m2.tr s3, fun t t1 t2 => ?_, fun j hj => ?_⟩, s1⟩
    · rw [s4]
      by_cases e : t = k + 1
      · rw [e, upd_s]; rfl
      · rw [upd_n _ _ (by omega)]; exact m3 t t1 (by omega)
    · rw [s4, upd_n _ _ (by omega)]; exact m4 j (by omega)
  · obtain ⟨τk, rfl, m1, m2, m3, m4⟩ := ha
    have e35 : τk 0 35 = nI nd := (m2.2.1 35 (by decide)).trans h35
    obtain ⟨r, hr, hq⟩ := dev_loop (b := fun K a => b_X8_part_116 K a.1 a.2.1 a.2.2.1 a.2.2.2) hnd (fun x i τ => (nI c, tC nd (nI T) W (T - 1), i, τ)) (fun r s => (rHold r, s)) (fun _ => 0) (fun _ _ _ => True) (Q := Q) (x0 := 0) m1 trivial
      (fun k τj V x hk j1 j2 j3 _ => by
        have g8 : ix (nI k) 8 := ix_nI (by omega) (by decide)
        have M0 := j1.R (d := k)
        have z15 : τj 50 k = V.1 k 15 := M0.g hk 15 (by decide) (by decide)
        have z10 : τj 45 k = V.1 k 10 := M0.g hk 10 (by decide) (by decide)
        have pre : ∀ K, b_X8_part_116 K (nI c) (tC nd (nI T) W (T - 1)) (nI k) τj = if V.1 k 15 = 1 then (if V.1 k 10 = 1 then K (nI c, tC nd (nI T) W (T - 1), nI (k + 1), up2 τj 45 k 3) else if V.1 k 10 = 2 then K (nI c, tC nd (nI T) W (T - 1), nI (k + 1), up2 τj 45 k 3) else K (nI c, tC nd (nI T) W (T - 1), nI (k + 1), τj)) else K (nI c, tC nd (nI T) W (T - 1), nI (k + 1), τj) := by
          intro K
          have us : up2 τj 45 k (V.1 k 10) = τj := by rw [← z10, up2_self]
          unfold b_X8_part_116
          rw [if_neg (f35 hnd hk e35 j3)]
          simp only [gd_t g8, nt_nI (show k < 2147483648 by omega), z15, z10, vl_d, nI_1, us]
        have M1 := M0.put hk 10 3 (by decide) (by decide)
        by_cases h15 : V.1 k 15 = 1
        · by_cases h1 : V.1 k 10 = 1
          · have M2 := M1.to (F := fun r s => (rHold r, s)) (by simp only [rHold, if_pos h15, if_pos h1])
            exact ⟨_, fun K => by show b_X8_part_116 K _ _ _ _ = _; rw [pre, if_pos h15, if_pos h1], M2.1, M2.2, trivial⟩
          · by_cases h2 : V.1 k 10 = 2
            · have M2 := M1.to (F := fun r s => (rHold r, s)) (by simp only [rHold, if_pos h15, if_neg h1, if_pos h2])
              exact ⟨_, fun K => by show b_X8_part_116 K _ _ _ _ = _; rw [pre, if_pos h15, if_neg h1, if_pos h2], M2.1, M2.2, trivial⟩
            · have M2 := M0.to (F := fun r s => (rHold r, s)) (by simp only [rHold, if_pos h15, if_neg h1, if_neg h2])
              exact ⟨_, fun K => by show b_X8_part_116 K _ _ _ _ = _; rw [pre, if_pos h15, if_neg h1, if_neg h2], M2.1, M2.2, trivial⟩
        · have M2 := M0.to (F := fun r s => (rHold r, s)) (by simp only [rHold, if_neg h15])
          exact ⟨_, fun K => by show b_X8_part_116 K _ _ _ _ = _; rw [pre, if_neg h15], M2.1, M2.2, trivial⟩)
      (fun τ' V x eV n1 n2 _ _ => by
        subst eV
        exact hend τ' n1 (m2.tr n2.A) (fun t t1 t2 => by rw [n2.a34]; exact m3 t t1 (by omega)) (fun j hj => by rw [n2.a34]; exact m4 j (by omega)))
    refine ⟨r, hq, fun K => ?_⟩
    show b_X8_part_58 K (nI c) (nI T) (tC nd (nI T) W (T - 1)) (nI (T - 1 + 1)) τk = _
    unfold b_X8_part_58
    rw [if_pos (nI_le (by omega) (by omega))]
    exact hr
