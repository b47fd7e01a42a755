/-! contention: devices' rows and the seed, apart from both sides -/
abbrev Wd : Type := (Nat → Nat → Int32) × Int32
def wSet (W : Wd) (d j : Nat) (v : Int32) : Wd := (up2 W.1 d j v, W.2)
def sNext (s : Int32) : Int32 := (((7919 : Int32) * s) + (12345 : Int32)) - (((7919 : Int32) * s) + (12345 : Int32)) / (65521 : Int32) * (65521 : Int32)
def sWait (s e : Int32) : Int32 := s - s / ((1 : Int32) <<< (e &&& 31)) * ((1 : Int32) <<< (e &&& 31))
def wDraw (d : Nat) (W : Wd) : Wd := (up2 (up2 W.1 d 10 1) d 16 (sWait (sNext W.2) (W.1 d 11)), sNext W.2)
def cW (nd : Nat) (σ : St) (W : Wd) : Prop := (∀ d, d < nd → ∀ j, 1 ≤ j → j ≤ 19 → σ (46 + d) j = W.1 d j) ∧ σ 6 2 = W.2
def mW (nd : Nat) (τ : St) (W : Wd) : Prop := (∀ d, d < nd → ∀ j, 1 ≤ j → j ≤ 19 → τ (35 + j) d = W.1 d j) ∧ τ 0 22 = W.2
/-- the class's rows that contention leaves alone -/
def fcW (nd : Nat) (σ σ' : St) : Prop := (∀ a, a ≠ 6 → (a < 46 ∨ 46 + nd ≤ a) → σ' a = σ a) ∧ (∀ j, j ≠ 2 → σ' 6 j = σ 6 j) ∧ ∀ d, d < nd → ∀ j, (j = 0 ∨ 19 < j) → σ' (46 + d) j = σ (46 + d) j
def fmW (nd : Nat) (τ τ' : St) : Prop := (∀ a, a ≠ 0 → (a < 36 ∨ 55 < a) → τ' a = τ a) ∧ (∀ j, j ≠ 22 → τ' 0 j = τ 0 j) ∧ ∀ a d, nd ≤ d → a ≠ 0 → τ' a d = τ a d
theorem fcW.rf {nd : Nat} {σ : St} : fcW nd σ σ := ⟨fun _ _ _ => rfl, fun _ _ => rfl, fun _ _ _ _ => rfl⟩
theorem fmW.rf {nd : Nat} {τ : St} : fmW nd τ τ := ⟨fun _ _ _ => rfl, fun _ _ => rfl, fun _ _ _ _ => rfl⟩
theorem fcW.tr {nd : Nat} {σ σ' σ'' : St} (h : fcW nd σ σ') (h' : fcW nd σ' σ'') : fcW nd σ σ'' := ⟨fun a b c => (h'.1 a b c).trans (h.1 a b c), fun j a => (h'.2.1 j a).trans (h.2.1 j a), fun d a j b => (h'.2.2 d a j b).trans (h.2.2 d a j b)⟩
theorem fmW.tr {nd : Nat} {τ τ' τ'' : St} (h : fmW nd τ τ') (h' : fmW nd τ' τ'') : fmW nd τ τ'' := ⟨fun a b c => (h'.1 a b c).trans (h.1 a b c), fun j a => (h'.2.1 j a).trans (h.2.1 j a), fun d a j b => (h'.2.2 d a j b).trans (h.2.2 d a j b)⟩
theorem wSet_g (W : Wd) (d j : Nat) (v : Int32) (a b : Nat) : (wSet W d j v).1 a b = if a = d ∧ b = j then v else W.1 a b := up2_g _ _ _ _ _ _
theorem cW.set {nd d j : Nat} {σ : St} {W : Wd} {v : Int32} (h : cW nd σ W) (hd : d < nd) (h1 : 1 ≤ j) (h2 : j ≤ 19) : cW nd (up2 σ (46 + d) j v) (wSet W d j v) ∧ fcW nd σ (up2 σ (46 + d) j v) := by
  refine ⟨⟨fun d' hd' j' j1 j2 => ?_, by rw [up2_r (by omega)]; exact h.2⟩, fun a b c => up2_ne (by omega), fun j' _ => by rw [up2_r (by omega)], fun d' hd' j' hj => ?_⟩
  · rw [up2_g, wSet_g]
    by_cases e : d' = d ∧ j' = j
    · rw [if_pos (by omega), if_pos e]
    · rw [if_neg (by omega), if_neg e]
      exact h.1 d' hd' j' j1 j2
  · rw [up2_g, if_neg (by omega)]
theorem mW.set {nd d j : Nat} {τ : St} {W : Wd} {v : Int32} (h : mW nd τ W) (hd : d < nd) (h1 : 1 ≤ j) (h2 : j ≤ 19) : mW nd (up2 τ (35 + j) d v) (wSet W d j v) ∧ fmW nd τ (up2 τ (35 + j) d v) := by
  refine ⟨⟨fun d' hd' j' j1 j2 => ?_, by rw [up2_r (by omega)]; exact h.2⟩, fun a b c => up2_ne (by omega), fun j' _ => by rw [up2_r (by omega)], fun a d' hd' _ => ?_⟩
  · rw [up2_g, wSet_g]
    by_cases e : d' = d ∧ j' = j
    · rw [if_pos (by omega), if_pos e]
    · rw [if_neg (by omega), if_neg e]
      exact h.1 d' hd' j' j1 j2
  · rw [up2_g, if_neg (by omega)]
theorem sh1 : ∀ e, e < 6 → ¬ (1 : Int32) <<< (nI e &&& 31) = 0 := by decide +kernel
theorem cW.draw {nd d e : Nat} {σ : St} {W : Wd} (h : cW nd σ W) (hd : d < nd) (he : e ≤ 5) (e11 : W.1 d 11 = nI e) : ∃ σ', f_X0_draw d σ = some ((), σ') ∧ cW nd σ' (wDraw d W) ∧ fcW nd σ σ' := by
  have r11 : up2 σ 6 2 (sNext W.2) (46 + d) 11 = W.1 d 11 := by rw [up2_r (by omega)]; exact h.1 d hd 11 (by decide) (by decide)
  have h1 : cW nd (up2 σ 6 2 (sNext W.2)) (W.1, sNext W.2) := ⟨fun d' hd' j j1 j2 => by rw [up2_r (by omega)]; exact h.1 d' hd' j j1 j2, up2_at _ _ _ _⟩
  have f1 : fcW nd σ (up2 σ 6 2 (sNext W.2)) := ⟨fun a b c => up2_ne b, fun j hj => up2_c hj, fun d' _ j _ => by rw [up2_r (by omega)]⟩
  have h2 := h1.set (d := d) (j := 10) (v := 1) hd (by decide) (by decide)
  have h3 := h2.1.set (d := d) (j := 16) (v := sWait (sNext W.2) (W.1 d 11)) hd (by decide) (by decide)
  refine ⟨_, ?_, h3.1, f1.tr (h2.2.tr h3.2)⟩
  unfold f_X0_draw f_X2_waitFor
  rw [h.2, vl_d, show (((7919 : Int32) * W.2) + (12345 : Int32)) - (((7919 : Int32) * W.2) + (12345 : Int32)) / (65521 : Int32) * (65521 : Int32) = sNext W.2 from rfl, r11, gd_t (by rw [e11]; exact sh1 e (by omega)), up2_at, vl_d, vl_d, cl_some]
  rfl
theorem mW.draw {nd d e : Nat} {τ : St} {W : Wd} (hnd : nd ≤ 8) (h : mW nd τ W) (hd : d < nd) (he : e ≤ 5) (e11 : W.1 d 11 = nI e) : ∃ τ', f_X8_draws (nI d) τ = some ((), τ') ∧ mW nd τ' (wDraw d W) ∧ fmW nd τ τ' := by
  have g8 : ix (nI d) 8 := ix_nI (by omega) (by decide)
  have r11 : up2 τ 0 22 (sNext W.2) 46 d = W.1 d 11 := by rw [up2_r (by decide)]; exact h.1 d hd 11 (by decide) (by decide)
  have h1 : mW nd (up2 τ 0 22 (sNext W.2)) (W.1, sNext W.2) := ⟨fun d' hd' j j1 j2 => by rw [up2_r (by omega)]; exact h.1 d' hd' j j1 j2, up2_at _ _ _ _⟩
  have f1 : fmW nd τ (up2 τ 0 22 (sNext W.2)) := ⟨fun a b c => up2_ne b, fun j hj => up2_c hj, fun a d' _ ha => by rw [up2_r ha]⟩
  have h2 := h1.set (d := d) (j := 16) (v := sWait (sNext W.2) (W.1 d 11)) hd (by decide) (by decide)
  have h3 := h2.1.set (d := d) (j := 10) (v := 1) hd (by decide) (by decide)
  have ew : wSet (wSet (W.1, sNext W.2) d 16 (sWait (sNext W.2) (W.1 d 11))) d 10 1 = wDraw d W := by
    unfold wSet wDraw
    rw [up2_cm _ _ _ (Or.inr (by decide))]
  refine ⟨up2 (up2 (up2 τ 0 22 (sNext W.2)) 51 d (sWait (sNext W.2) (W.1 d 11))) 45 d 1, ?_, by rw [← ew]; exact h3.1, f1.tr (h2.2.tr h3.2)⟩
  unfold f_X8_draws
  rw [h.2, vl_d, show (((7919 : Int32) * W.2) + (12345 : Int32)) - (((7919 : Int32) * W.2) + (12345 : Int32)) / (65521 : Int32) * (65521 : Int32) = sNext W.2 from rfl, gd_t g8, nt_nI (by omega), r11, gd_t (by rw [e11]; exact sh1 e (by omega)), gd_t g8, up2_at, vl_d, gd_t g8, vl_d]
  rfl
/-- folds over the devices -/
def wF (f : Nat → Wd → Wd) (W : Wd) : Nat → Wd
  | 0 => W
  | k + 1 => f k (wF f W k)
theorem wF_split (f g : Nat → Wd → Wd) (h : ∀ d d' W, d < d' → g d (f d' W) = f d' (g d W)) : ∀ k W, wF (fun d W => g d (f d W)) W k = wF g (wF f W k) k := by
  have hc : ∀ k m W, k ≤ m → wF g (f m W) k = f m (wF g W k) := by
    intro k
    induction k with
    | zero => intro m W _; rfl
    | succ k ih =>
      intro m W hk
      show g k (wF g (f m W) k) = f m (g k (wF g W k))
      rw [ih m W (by omega), h k m _ (by omega)]
  intro k
  induction k with
  | zero => intro W; rfl
  | succ k ih =>
    intro W
    show g k (f k (wF (fun d W => g d (f d W)) W k)) = g k (wF g (f k (wF f W k)) k)
    rw [ih W, hc k k _ (Nat.le_refl _)]
