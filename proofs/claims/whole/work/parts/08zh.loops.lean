/-! loops over the devices and over the party, once for all -/
theorem nd_take {P : List Nat} (h : P.Nodup) {i d : Nat} (hd : P[i]? = some d) : d ∉ P.take i := by
  obtain ⟨hi, e⟩ := List.getElem?_eq_some_iff.mp hd
  have e1 : P.take i ++ d :: P.drop (i + 1) = P := by
    rw [← e, ← List.drop_eq_getElem_cons hi, List.take_append_drop]
  have h' : (P.take i ++ d :: P.drop (i + 1)).Nodup := by rw [e1]; exact h
  have q := (List.nodup_append.mp h').2.2
  exact fun m => q d m d (List.mem_cons_self ..) rfl
def wPut (V : Wd) (d : Nat) (r : Rw) (s : Int32) : Wd := (fun a => if a = d then r else V.1 a, s)
theorem wOp_put (F : Rw → Int32 → Rw × Int32) (d : Nat) (V : Wd) : wOp F d V = wPut V d (F (V.1 d) V.2).1 (F (V.1 d) V.2).2 := rfl
theorem wPut_row (V : Wd) (d : Nat) (r : Rw) (s : Int32) : (wPut V d r s).1 d = r := if_pos rfl
theorem wPut_self (V : Wd) (d : Nat) : wPut V d (V.1 d) V.2 = V := wOp_id d V
theorem wPut_set (V : Wd) (d : Nat) (r : Rw) (s : Int32) (j : Nat) (v : Int32) : wSet (wPut V d r s) d j v = wPut V d (upd r j v) s := by
  rw [wSet_op]
  refine Prod.ext (funext fun a => ?_) rfl
  show (if a = d then upd ((wPut V d r s).1 d) j v else (wPut V d r s).1 a) = if a = d then upd r j v else V.1 a
  rw [wPut_row]
  by_cases h : a = d
  · rw [if_pos h, if_pos h]
  · rw [if_neg h, if_neg h]; exact if_neg h
theorem wPut_draw (V : Wd) (d : Nat) (r : Rw) (s : Int32) : wDraw d (wPut V d r s) = wPut V d (rDraw r s).1 (rDraw r s).2 := by
  rw [wDraw_op]
  refine Prod.ext (funext fun a => ?_) ?_
  · show (if a = d then (rDraw ((wPut V d r s).1 d) s).1 else (wPut V d r s).1 a) = if a = d then (rDraw r s).1 else V.1 a
    rw [wPut_row]
    by_cases h : a = d
    · rw [if_pos h, if_pos h]
    · rw [if_neg h, if_neg h]; exact if_neg h
  · show (rDraw ((wPut V d r s).1 d) s).2 = (rDraw r s).2
    rw [wPut_row]
/-- one device's row under way -/
def cR (nd : Nat) (σ0 σ : St) (V : Wd) (d : Nat) (r : Rw) (s : Int32) : Prop := cW nd σ (wPut V d r s) ∧ fcW nd σ0 σ
def mR (nd : Nat) (τ0 τ : St) (V : Wd) (d : Nat) (r : Rw) (s : Int32) : Prop := mW nd τ (wPut V d r s) ∧ fmW nd τ0 τ
theorem cW.R {nd d : Nat} {σ : St} {V : Wd} (h : cW nd σ V) : cR nd σ σ V d (V.1 d) V.2 := ⟨by rw [wPut_self]; exact h, fcW.rf⟩
theorem mW.R {nd d : Nat} {τ : St} {V : Wd} (h : mW nd τ V) : mR nd τ τ V d (V.1 d) V.2 := ⟨by rw [wPut_self]; exact h, fmW.rf⟩
theorem cR.g {nd d : Nat} {σ0 σ : St} {V : Wd} {r : Rw} {s : Int32} (h : cR nd σ0 σ V d r s) (hd : d < nd) (j : Nat) (h1 : 1 ≤ j) (h2 : j ≤ 19) : σ (46 + d) j = r j := by
  have := h.1.1 d hd j h1 h2
  rw [wPut_row] at this
  exact this
theorem mR.g {nd d : Nat} {τ0 τ : St} {V : Wd} {r : Rw} {s : Int32} (h : mR nd τ0 τ V d r s) (hd : d < nd) (j : Nat) (h1 : 1 ≤ j) (h2 : j ≤ 19) : τ (35 + j) d = r j := by
  have := h.1.1 d hd j h1 h2
  rw [wPut_row] at this
  exact this
theorem cR.put {nd d : Nat} {σ0 σ : St} {V : Wd} {r : Rw} {s : Int32} (h : cR nd σ0 σ V d r s) (hd : d < nd) (j : Nat) (v : Int32) (h1 : 1 ≤ j) (h2 : j ≤ 19) : cR nd σ0 (up2 σ (46 + d) j v) V d (upd r j v) s := by
  have q := h.1.set (v := v) hd h1 h2
  rw [wPut_set] at q
  exact ⟨q.1, h.2.tr q.2⟩
theorem mR.put {nd d : Nat} {τ0 τ : St} {V : Wd} {r : Rw} {s : Int32} (h : mR nd τ0 τ V d r s) (hd : d < nd) (j : Nat) (v : Int32) (h1 : 1 ≤ j) (h2 : j ≤ 19) : mR nd τ0 (up2 τ (35 + j) d v) V d (upd r j v) s := by
  have q := h.1.set (v := v) hd h1 h2
  rw [wPut_set] at q
  exact ⟨q.1, h.2.tr q.2⟩
theorem cR.draw {nd d e : Nat} {σ0 σ : St} {V : Wd} {r : Rw} {s : Int32} (h : cR nd σ0 σ V d r s) (hd : d < nd) (he : e ≤ 5) (e11 : r 11 = nI e) : ∃ σ', f_X0_draw d σ = some ((), σ') ∧ cR nd σ0 σ' V d (rDraw r s).1 (rDraw r s).2 := by
  obtain ⟨σ', q1, q2, q3⟩ := h.1.draw hd he (by rw [wPut_row]; exact e11)
  rw [wPut_draw] at q2
  exact ⟨σ', q1, q2, h.2.tr q3⟩
theorem mR.draw {nd d e : Nat} {τ0 τ : St} {V : Wd} {r : Rw} {s : Int32} (hnd : nd ≤ 8) (h : mR nd τ0 τ V d r s) (hd : d < nd) (he : e ≤ 5) (e11 : r 11 = nI e) : ∃ τ', f_X8_draws (nI d) τ = some ((), τ') ∧ mR nd τ0 τ' V d (rDraw r s).1 (rDraw r s).2 := by
  obtain ⟨τ', q1, q2, q3⟩ := h.1.draw hnd hd he (by rw [wPut_row]; exact e11)
  rw [wPut_draw] at q2
  exact ⟨τ', q1, q2, h.2.tr q3⟩
theorem upd_s (r : Rw) (j : Nat) (v : Int32) : upd r j v j = v := if_pos rfl
theorem upd_n (r : Rw) {j k : Nat} (v : Int32) (h : k ≠ j) : upd r j v k = r k := if_neg h
theorem cR.p20 {nd d : Nat} {σ0 σ : St} {V : Wd} {r : Rw} {s v : Int32} (h : cR nd σ0 σ V d r s) : cR nd σ0 σ V d (upd r 20 v) s := by
  refine ⟨⟨fun d' hd' j j1 j2 => ?_, h.1.2⟩, h.2⟩
  rw [h.1.1 d' hd' j j1 j2]
  show (if d' = d then r else V.1 d') j = (if d' = d then upd r 20 v else V.1 d') j
  by_cases e : d' = d
  · rw [if_pos e, if_pos e, upd_n _ _ (by omega)]
  · rw [if_neg e, if_neg e]
theorem mR.p20 {nd d : Nat} {τ0 τ : St} {V : Wd} {r : Rw} {s v : Int32} (h : mR nd τ0 τ V d r s) : mR nd τ0 τ V d (upd r 20 v) s := by
  refine ⟨⟨fun d' hd' j j1 j2 => ?_, h.1.2⟩, h.2⟩
  rw [h.1.1 d' hd' j j1 j2]
  show (if d' = d then r else V.1 d') j = (if d' = d then upd r 20 v else V.1 d') j
  by_cases e : d' = d
  · rw [if_pos e, if_pos e, upd_n _ _ (by omega)]
  · rw [if_neg e, if_neg e]
theorem wOp_row (F : Rw → Int32 → Rw × Int32) (d : Nat) (V : Wd) : (wOp F d V).1 d = (F (V.1 d) V.2).1 := if_pos rfl
theorem wOp_ne (F : Rw → Int32 → Rw × Int32) {d d' : Nat} (V : Wd) (h : d' ≠ d) : (wOp F d V).1 d' = V.1 d' := if_neg h
theorem wF_late (F : Rw → Int32 → Rw × Int32) (W : Wd) : ∀ k d, k ≤ d → (wF (wOp F) W k).1 d = W.1 d := by
  intro k
  induction k with
  | zero => exact fun _ _ => rfl
  | succ k ih => exact fun d hd => (wOp_ne F _ (by omega)).trans (ih d (by omega))
theorem dev_loop {α ρ : Type} {b : (α → Option ρ) → α → Option ρ} {nd : Nat} (hnd : nd ≤ 8) (mk : Int32 → Int32 → St → α) (F : Rw → Int32 → Rw × Int32) (cnt : Rw → Int32) (X : Nat → Wd → St → Prop) {Q : ρ → Prop} {τ : St} {W : Wd} {x0 : Int32} (h : mW nd τ W) (hX : X 0 W τ)
    (hs : ∀ k τk V x, k < nd → mW nd τk V → V.1 k = W.1 k → fmW nd τ τk → X k V τk → ∃ τ', (∀ K, b K (mk x (nI k) τk) = K (mk (x + cnt (W.1 k)) (nI (k + 1)) τ')) ∧ mW nd τ' (wOp F k V) ∧ fmW nd τk τ' ∧ X (k + 1) (wOp F k V) τ')
    (he : ∀ τ' V x, V = wF (wOp F) W nd → mW nd τ' V → fmW nd τ τ' → X nd V τ' → x = (List.range nd).foldl (fun x d => x + cnt (W.1 d)) x0 → ∃ r, Q r ∧ ∀ K, b K (mk x (nI nd) τ') = some r) : ∃ r, lp b FU (mk x0 0 τ) = some r ∧ Q r := by
  refine lp_FU (b := b) (fun k a => ∃ τk V x, a = mk x (nI k) τk ∧ V = wF (wOp F) W k ∧ mW nd τk V ∧ fmW nd τ τk ∧ X k V τk ∧ x = (List.range k).foldl (fun x d => x + cnt (W.1 d)) x0) Q nd (by omega) (fun k a hk ha => ?_) (fun a ha => ?_) ⟨τ, W, x0, rfl, rfl, h, fmW.rf, hX, rfl⟩
  · obtain ⟨τk, V, x, rfl, eV, m1, m2, m3, ex⟩ := ha
    obtain ⟨τ', s1, s2, s3, s4⟩ := hs k τk V x hk m1 (by rw [eV]; exact wF_late F W k k (Nat.le_refl _)) m2 m3
    refine Or.inl ⟨_, ⟨τ', wOp F k V, _, rfl, by rw [eV]; rfl, s2, m2.tr s3, s4, ?_⟩, s1⟩
    rw [List.range_succ, List.foldl_append, ← ex]
    rfl
  · obtain ⟨τk, V, x, rfl, eV, m1, m2, m3, ex⟩ := ha
    exact he τk V x eV m1 m2 m3 ex
theorem cls_loop {α ρ : Type} {b : (α → Option ρ) → α → Option ρ} {nd : Nat} (hnd : nd ≤ 8) (mk : Int32 → Int32 → St → α) (F : Rw → Int32 → Rw × Int32) (cnt : Rw → Int32) {Q : ρ → Prop} {σ : St} {W : Wd} {x0 : Int32} (h : cW nd σ W)
    (hs : ∀ d σk V x, d < nd → W.1 d 15 = 1 → cW nd σk V → V.1 d = W.1 d → fcW nd σ σk → ∃ σ', (∀ K, b K (mk x (nI d) σk) = K (mk (x + cnt (W.1 d)) (nI (d + 1)) σ')) ∧ cW nd σ' (wOp F d V) ∧ fcW nd σk σ')
    (hn : ∀ k σk V x, k < 8 → ¬ (k < nd ∧ W.1 k 15 = 1) → (k < nd → V.1 k = W.1 k) → cW nd σk V → (∀ a, 46 + nd ≤ a → σk a = σ a) → ∀ K, b K (mk x (nI k) σk) = K (mk x (nI (k + 1)) σk))
    (he : ∀ σ' V x, V = (pty W nd).foldl (fun V d => wOp F d V) W → cW nd σ' V → fcW nd σ σ' → x = (pty W nd).foldl (fun x d => x + cnt (W.1 d)) x0 → ∃ r, Q r ∧ ∀ K, b K (mk x (nI 8) σ') = some r) : ∃ r, lp b FU (mk x0 0 σ) = some r ∧ Q r := by
  refine lp_FU (b := b) (fun k a => ∃ σk V x, a = mk x (nI k) σk ∧ V = (pty W (min k nd)).foldl (fun V d => wOp F d V) W ∧ cW nd σk V ∧ fcW nd σ σk ∧ (∀ d, k ≤ d → V.1 d = W.1 d) ∧ x = (pty W (min k nd)).foldl (fun x d => x + cnt (W.1 d)) x0) Q 8 (by decide) (fun k a hk ha => ?_) (fun a ha => ?_) ⟨σ, W, x0, rfl, by rw [Nat.zero_min]; rfl, h, fcW.rf, fun _ _ => rfl, by rw [Nat.zero_min]; rfl⟩
  · obtain ⟨σk, V, x, rfl, eV, m1, m2, m3, ex⟩ := ha
    rw [pty_min]
    by_cases hh : k < nd ∧ W.1 k 15 = 1
    · obtain ⟨σ', s1, s2, s3⟩ := hs k σk V x hh.1 hh.2 m1 (m3 k (Nat.le_refl _)) m2
      rw [if_pos hh]
      refine Or.inl ⟨_, ⟨σ', wOp F k V, _, rfl, ?_, s2, m2.tr s3, fun d' hd' => ?_, ?_⟩, s1⟩
      · rw [List.foldl_append, ← eV]; rfl
      · rw [wOp_ne F V (by omega)]
        exact m3 d' (by omega)
      · rw [List.foldl_append, ← ex]; rfl
    · rw [if_neg hh]
      exact Or.inl ⟨_, ⟨σk, V, x, rfl, eV, m1, m2, fun d' hd' => m3 d' (by omega), ex⟩, hn k σk V x hk hh (fun _ => m3 k (Nat.le_refl _)) m1 (fun a ha => m2.1 a (by omega) (Or.inr ha))⟩
  · obtain ⟨σk, V, x, rfl, eV, m1, m2, m3, ex⟩ := ha
    rw [show min 8 nd = nd by omega] at eV ex
    exact he σk V x eV m1 m2 ex
/-- the party's fold is the devices' -/
theorem op_party {F : Rw → Int32 → Rw × Int32} (hskip : ∀ r s, r 15 ≠ 1 → F r s = (r, s)) (hkeep : ∀ r s, (F r s).1 15 = r 15) (W : Wd) (k : Nat) : (pty W k).foldl (fun V d => wOp F d V) W = wF (wOp F) W k := by
  refine (wF_party (f := wOp F) (fun d V hV => ?_) (fun d V d' => ?_) W k).symm
  · rw [wOp_put, hskip _ _ hV]; exact wPut_self V d
  · by_cases e : d' = d
    · rw [e, wOp_row, hkeep]
    · rw [wOp_ne F V e]
theorem cnt_party {cnt : Rw → Int32} (hskip : ∀ r : Rw, r 15 ≠ 1 → cnt r = 0) (W : Wd) (x0 : Int32) : ∀ k, (pty W k).foldl (fun x d => x + cnt (W.1 d)) x0 = (List.range k).foldl (fun x d => x + cnt (W.1 d)) x0 := by
  intro k
  induction k with
  | zero => rfl
  | succ k ih =>
    unfold pty at ih ⊢
    rw [List.range_succ, List.filter_append, List.foldl_append, List.foldl_append, ih]
    by_cases h : W.1 k 15 = 1
    · rw [show List.filter (fun d => decide (W.1 d 15 = 1)) [k] = [k] from by simp [h]]
    · rw [show List.filter (fun d => decide (W.1 d 15 = 1)) [k] = [] from by simp [h]]
      show _ = _ + cnt (W.1 k)
      rw [hskip _ h, Int32.add_zero]
      rfl
theorem pty_nodup (W : Wd) (k : Nat) : (pty W k).Nodup := List.nodup_range.filter _
theorem pty_mem {W : Wd} {k d : Nat} : d ∈ pty W k ↔ d < k ∧ W.1 d 15 = 1 := by simp [pty]
theorem pty_len (W : Wd) (k : Nat) : (pty W k).length ≤ k := by
  have := List.length_filter_le (fun d => decide (W.1 d 15 = 1)) (List.range k)
  rw [List.length_range] at this
  exact this
theorem pty_cg {V W : Wd} (h : ∀ d, V.1 d 15 = W.1 d 15) (k : Nat) : pty V k = pty W k := by
  unfold pty
  congr 1
  funext d
  rw [h d]
/-- whoever did not hear is left alone -/
theorem wF_q {F : Rw → Int32 → Rw × Int32} (hskip : ∀ r s, ¬ r 15 = 1 → F r s = (r, s)) (W : Wd) {d : Nat} (hd : ¬ W.1 d 15 = 1) : ∀ k, (wF (wOp F) W k).1 d = W.1 d := by
  intro k
  induction k with
  | zero => rfl
  | succ k ih =>
    show (wOp F k (wF (wOp F) W k)).1 d = _
    by_cases e : d = k
    · subst e
      rw [wOp_row, hskip _ _ (by rw [ih]; exact hd)]
      exact ih
    · rw [wOp_ne F _ e]; exact ih
