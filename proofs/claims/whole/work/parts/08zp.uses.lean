/-! promised slots are used -/
def aFill (σ : St) (a t0 m : Nat) (v : Int32) : St := fun x y => if x = a ∧ t0 ≤ y ∧ y < t0 + m then v else σ x y
theorem aFill_0 (σ : St) (a t0 : Nat) (v : Int32) : aFill σ a t0 0 v = σ := by
  funext x y
  exact if_neg (by omega)
theorem aFill_ne {σ : St} {a t0 m x : Nat} {v : Int32} (h : x ≠ a) : aFill σ a t0 m v x = σ x := by
  funext y
  exact if_neg (fun q => h q.1)
theorem aFill_s (σ : St) (a t0 k : Nat) (v : Int32) : up2 (aFill σ a t0 k v) a (t0 + k) v = aFill σ a t0 (k + 1) v := by
  funext x y
  rw [up2_g]
  show (if x = a ∧ y = t0 + k then v else if x = a ∧ t0 ≤ y ∧ y < t0 + k then v else σ x y) = if x = a ∧ t0 ≤ y ∧ y < t0 + (k + 1) then v else σ x y
  by_cases h : x = a ∧ y = t0 + k
  · rw [if_pos h, if_pos (by omega)]
  · rw [if_neg h]
    by_cases h2 : x = a ∧ t0 ≤ y ∧ y < t0 + k
    · rw [if_pos h2, if_pos (by omega)]
    · rw [if_neg h2, if_neg (by omega)]
theorem aFill_at {σ : St} {a t0 m y : Nat} {v : Int32} : aFill σ a t0 m v a y = if t0 ≤ y ∧ y < t0 + m then v else σ a y := by
  show (if a = a ∧ t0 ≤ y ∧ y < t0 + m then v else σ a y) = _
  by_cases h : t0 ≤ y ∧ y < t0 + m
  · rw [if_pos ⟨rfl, h⟩, if_pos h]
  · rw [if_neg (fun q => h q.2), if_neg h]
def uU (r15 : Int32) (p3 x y : Nat) : Nat := if r15 = 1 then min (p3 / x) y else 0
theorem uU_le (r15 : Int32) (p3 x y : Nat) : uU r15 p3 x y * x ≤ p3 ∧ uU r15 p3 x y ≤ y := by
  unfold uU
  by_cases h : r15 = 1
  · rw [if_pos h]
    refine ⟨Nat.le_trans (Nat.mul_le_mul_right x (Nat.min_le_left _ _)) (Nat.div_mul_le_self p3 x), Nat.min_le_right _ _⟩
  · rw [if_neg h]
    omega
theorem c_send {c d t0 p3 x y : Nat} {σ : St} (hc : c < 4) (e15 : σ (46 + d) 15 = 0 ∨ σ (46 + d) 15 = 1) (e0 : σ (46 + d) 0 = nI d) (e2 : σ (46 + d) 2 = nI x) (x1 : 1 ≤ x) (x8 : x ≤ 8) (e5 : σ (46 + d) 5 = nI y) (hy : y ≤ 99) (ht : t0 + p3 ≤ 384) :
    f_X2_sendPromised d (42 + c) (nI t0) (nI p3) σ = some (nI (uU (σ (46 + d) 15) p3 x y), up2 (up2 (aFill σ (42 + c) t0 (uU (σ (46 + d) 15) p3 x y * x) (10 + nI d)) (46 + d) 5 (σ (46 + d) 5 - nI (uU (σ (46 + d) 15) p3 x y))) (46 + d) 6 (σ (46 + d) 6 + nI (uU (σ (46 + d) 15) p3 x y))) := by
  obtain ⟨u1, u2⟩ := uU_le (σ (46 + d) 15) p3 x y
  obtain ⟨u, eu⟩ : ∃ u, u = uU (σ (46 + d) 15) p3 x y := ⟨_, rfl⟩
  rw [← eu] at u1 u2 ⊢
  unfold f_X2_sendPromised
  rcases e15 with h | h
  · have u0 : u = 0 := by
      rw [eu, h]
      exact if_neg (by decide)
    rw [if_pos h, u0, Nat.zero_mul, aFill_0, show nI 0 = (0 : Int32) from rfl, Int32.sub_zero, Int32.add_zero, up2_self, up2_self]
  · have eu' : u = min (p3 / x) y := by rw [eu]; exact if_pos h
    have i1 : (if (1 : Int32) < nI x then nI x else 1) = nI x := by
      by_cases hx : 1 < x
      · rw [if_pos (show (1 : Int32) < nI x from nI_lt hx (by omega))]
      · rw [show x = 1 by omega]; rfl
    have i2 : (if nI p3 / nI x < nI y then nI p3 / nI x else nI y) = nI u := by
      rw [pk_div (by omega) (by omega) (by omega), eu']
      have := Nat.div_le_self p3 x
      by_cases hlt : p3 / x < y
      · rw [if_pos (nI_lt hlt (by omega)), Nat.min_eq_left (by omega)]
      · rw [if_neg (by rw [i_lt, t_nI _ (by omega), t_nI _ (by omega)]; omega), Nat.min_eq_right (by omega)]
    have i3 : (if (0 : Int32) < nI t0 then nI t0 else 0) = nI t0 := by
      by_cases hx : 0 < t0
      · rw [if_pos (show (0 : Int32) < nI t0 from nI_lt hx (by omega))]
      · rw [show t0 = 0 by omega]; rfl
    rw [if_neg (by rw [h]; decide), e2, i1, vl_d, gd_t (by rw [i_eq, t_nI _ (by omega), t_lit 0 (by decide)]; omega), e5, i2, vl_d, cnA hc, pk_mul, nI_add, if_neg (by rw [i_lt, t_nI _ (by omega), t_nI _ (by omega)]; omega), vl_d, i3, vl_d]
    refine lp_eq (b := fun K a => b_X2_sendPromised_51 d (42 + c) K a.1 a.2.1 a.2.2.1 a.2.2.2) (fun k a => a = (nI u, nI (t0 + u * x), nI (t0 + k), aFill σ (42 + c) t0 k (10 + nI d))) _ (u * x) (by omega) (fun k a hk ha => ?_) (fun a ha K => ?_) (by rw [aFill_0]; rfl)
    · subst ha
      refine ⟨_, rfl, fun K => ?_⟩
      show b_X2_sendPromised_51 d (42 + c) K (nI u) (nI (t0 + u * x)) (nI (t0 + k)) (aFill σ (42 + c) t0 k (10 + nI d)) = _
      unfold b_X2_sendPromised_51
      rw [if_neg (by rw [nI_leI (by omega) (by omega)]; omega), cnA hc, gd_t (ix_nI (by omega) (by decide)), nt_nI (by omega), aFill_ne (show 46 + d ≠ 42 + c by omega), e0, vl_d, vl_d, aFill_s, nI_1]
      rfl
    · subst ha
      show b_X2_sendPromised_51 d (42 + c) K (nI u) (nI (t0 + u * x)) (nI (t0 + u * x)) (aFill σ (42 + c) t0 (u * x) (10 + nI d)) = _
      unfold b_X2_sendPromised_51
      rw [if_pos (nI_le (Nat.le_refl _) (by omega)), vl_d, vl_d, aFill_ne (show 46 + d ≠ 42 + c by omega), up2_c (by decide), aFill_ne (show 46 + d ≠ 42 + c by omega), e5]
theorem m_send {c d t0 x u k : Nat} {τ : St} {acc : Int32} {K4 : Int32 × Int32 × Int32 × St → Option (Int32 × St)} (hc : c < 4) (hd : d < 8) (e2 : τ 37 d = nI x) (hk : k < 7) (hu : u ≤ 99) (ht : t0 + u * x ≤ 384) :
    lp (fun K a => b_X8_uses_109 K K4 a.1 a.2.1 a.2.2.1 a.2.2.2.1 a.2.2.2.2.1 a.2.2.2.2.2.1 a.2.2.2.2.2.2.1 a.2.2.2.2.2.2.2) FU (nI c, acc, nI k, nI d, nI u, nI t0, (0 : Int32), τ) = K4 (nI c, acc + nI u, nI (k + 1), up2 (up2 (up2 (aFill τ 34 (384 * c + t0) (u * x) (10 + nI d)) 40 d (τ 40 d - nI u)) 41 d (τ 41 d + nI u)) 33 (7 * c + k) (if u = 0 then τ 33 (7 * c + k) + 1 else 0)) := by
  have g8 : ix (nI d) 8 := ix_nI hd (by decide)
  have nd8 := nt_nI (show d < 2147483648 by omega)
  refine lp_eq (b := fun K a => b_X8_uses_109 K K4 a.1 a.2.1 a.2.2.1 a.2.2.2.1 a.2.2.2.2.1 a.2.2.2.2.2.1 a.2.2.2.2.2.2.1 a.2.2.2.2.2.2.2) (fun j a => a = (nI c, acc, nI k, nI d, nI u, nI t0, nI j, aFill τ 34 (384 * c + t0) j (10 + nI d))) _ (u * x) (by omega) (fun j a hj ha => ?_) (fun a ha K => ?_) (by rw [aFill_0]; rfl)
  · subst ha
    have ei : ((384 : Int32) * nI c + nI t0) + nI j = nI (384 * c + t0 + j) := by rw [show (384 : Int32) = nI 384 from rfl, pk_mul, nI_add, nI_add]
    refine ⟨_, rfl, fun K => ?_⟩
    show b_X8_uses_109 K K4 (nI c) acc (nI k) (nI d) (nI u) (nI t0) (nI j) (aFill τ 34 (384 * c + t0) j (10 + nI d)) = _
    unfold b_X8_uses_109
    rw [gd_t g8, nd8, aFill_ne (show (37 : Nat) ≠ 34 by decide), e2, pk_mul, if_neg (by rw [nI_leI (by omega) (by omega)]; omega), ei, gd_t (ix_nI (by omega) (by decide)), nt_nI (by omega), vl_d, aFill_s, vl_d, nI_1]
  · subst ha
    show b_X8_uses_109 K K4 (nI c) acc (nI k) (nI d) (nI u) (nI t0) (nI (u * x)) (aFill τ 34 (384 * c + t0) (u * x) (10 + nI d)) = _
    unfold b_X8_uses_109
    rw [gd_t g8, nd8, aFill_ne (show (37 : Nat) ≠ 34 by decide), e2, pk_mul, if_pos (nI_le (Nat.le_refl _) (by omega)), gd_t g8, gd_t g8, aFill_ne (show (40 : Nat) ≠ 34 by decide), vl_d, gd_t g8, gd_t g8, up2_r (show (41 : Nat) ≠ 40 by decide), aFill_ne (show (41 : Nat) ≠ 34 by decide), vl_d, m7]
    have z : up2 (up2 (aFill τ 34 (384 * c + t0) (u * x) (10 + nI d)) 40 d (τ 40 d - nI u)) 41 d (τ 41 d + nI u) 33 (7 * c + k) = τ 33 (7 * c + k) := by rw [up2_r (by decide), up2_r (by decide), aFill_ne (by decide)]
    by_cases h0 : u = 0
    · rw [if_pos (by rw [h0]; decide), gd_t (ix_nI (by omega) (by decide)), gd_t (ix_nI (by omega) (by decide)), nt_nI (by omega), z, vl_d, vl_d, vl_d, nI_1, if_pos h0]
    · rw [if_neg (by rw [i_le, t_nI _ (by omega), t_lit 0 (by decide)]; omega), gd_t (ix_nI (by omega) (by decide)), nt_nI (by omega), vl_d, vl_d, vl_d, nI_1, if_neg h0]
/-- holders and slots: what an idle count doesn't touch -/
def pk2 (q : Pr) : Nat × Nat := (q.1, q.2.1)
theorem pI.mp {nd le : Nat} {l L : List Pr} (h : pI nd le l) (e : L.map pk2 = l.map pk2) : pI nd le L := by
  refine ⟨?_, fun q hq => ?_, ?_⟩
  · have := congrArg List.length e
    rw [List.length_map, List.length_map] at this
    rw [this]
    exact h.1
  · have h1 : pk2 q ∈ l.map pk2 := by rw [← e]; exact List.mem_map_of_mem hq
    obtain ⟨q', hq', e'⟩ := List.mem_map.mp h1
    have h2 := h.2.1 q' hq'
    have e1 : q'.1 = q.1 := congrArg (fun z : Nat × Nat => z.1) e'
    have e2 : q'.2.1 = q.2.1 := congrArg (fun z : Nat × Nat => z.2) e'
    rw [e1, e2] at h2
    exact h2
  · have hs : ∀ m : List Pr, pS m = ((m.map pk2).map Prod.snd).sum := by
      intro m
      rw [List.map_map]
      rfl
    rw [hs L, e, ← hs l]
    exact h.2.2
theorem c_idl {L : List Pr} {c k : Nat} {q : Pr} {σ : St} {v : Int32} (h : pC L c σ) (hc : c < 4) (hq : L[k]? = some q) : pC (L.set k (q.1, q.2.1, v)) c (up2 σ (38 + c) k v) := by
  refine ⟨by rw [up2_r (by omega), List.length_set]; exact h.1, fun i q' hq' => ?_⟩
  rw [up2_r (by omega), up2_r (by omega)]
  rw [List.getElem?_set] at hq'
  by_cases e : k = i
  · subst e
    rw [if_pos rfl, if_pos (List.getElem?_eq_some_iff.mp hq).1] at hq'
    injection hq' with hq'
    rw [← hq', up2_at]
    exact ⟨(h.2 k q hq).1, (h.2 k q hq).2.1, rfl⟩
  · rw [if_neg e] at hq'
    rw [up2_c (Ne.symm e)]
    exact h.2 i q' hq'
theorem m_idl {L : List Pr} {c k : Nat} {q : Pr} {τ : St} {v : Int32} (h : pM L c τ) (hq : L[k]? = some q) : pM (L.set k (q.1, q.2.1, v)) c (up2 τ 33 (7 * c + k) v) := by
  refine ⟨by rw [up2_r (by decide), List.length_set]; exact h.1, fun i q' hq' => ?_⟩
  rw [up2_r (by decide), up2_r (by decide)]
  rw [List.getElem?_set] at hq'
  by_cases e : k = i
  · subst e
    rw [if_pos rfl, if_pos (List.getElem?_eq_some_iff.mp hq).1] at hq'
    injection hq' with hq'
    rw [← hq', up2_at]
    exact ⟨(h.2 k q hq).1, (h.2 k q hq).2.1, rfl⟩
  · rw [if_neg e] at hq'
    rw [up2_c (by omega)]
    exact h.2 i q' hq'
theorem map_idl {L : List Pr} {k : Nat} {q : Pr} {v : Int32} (hq : L[k]? = some q) : (L.set k (q.1, q.2.1, v)).map pk2 = L.map pk2 := by
  rw [List.map_set]
  refine List.ext_getElem? (fun i => ?_)
  rw [List.getElem?_set]
  by_cases e : k = i
  · subst e
    rw [if_pos rfl, List.length_map, if_pos (List.getElem?_eq_some_iff.mp hq).1, List.getElem?_map, hq]
    rfl
  · rw [if_neg e]
def fcU (nd c : Nat) (σ σ' : St) : Prop := (∀ a, a ≠ 38 + c → a ≠ 42 + c → (a < 46 ∨ 46 + nd ≤ a) → σ' a = σ a) ∧ ∀ d, d < nd → ∀ j, (j = 0 ∨ 19 < j) → σ' (46 + d) j = σ (46 + d) j
def fmU (nd c : Nat) (τ τ' : St) : Prop := (∀ a, a ≠ 33 → a ≠ 34 → a ≠ 40 → a ≠ 41 → τ' a = τ a) ∧ (∀ a d, nd ≤ d → (a = 40 ∨ a = 41) → τ' a d = τ a d) ∧ (∀ j, (j < 7 * c ∨ 7 * c + 7 ≤ j) → τ' 33 j = τ 33 j) ∧ ∀ j, (j < 384 * c ∨ 384 * c + 384 ≤ j) → τ' 34 j = τ 34 j
theorem fcU.rf {nd c : Nat} {σ : St} : fcU nd c σ σ := ⟨fun _ _ _ _ => rfl, fun _ _ _ _ => rfl⟩
theorem fcU.tr {nd c : Nat} {σ σ' σ'' : St} (h : fcU nd c σ σ') (h' : fcU nd c σ' σ'') : fcU nd c σ σ'' := ⟨fun a b c d => (h'.1 a b c d).trans (h.1 a b c d), fun d a j b => (h'.2 d a j b).trans (h.2 d a j b)⟩
theorem fmU.rf {nd c : Nat} {τ : St} : fmU nd c τ τ := ⟨fun _ _ _ _ _ => rfl, fun _ _ _ _ => rfl, fun _ _ => rfl, fun _ _ => rfl⟩
theorem fmU.tr {nd c : Nat} {τ τ' τ'' : St} (h : fmU nd c τ τ') (h' : fmU nd c τ' τ'') : fmU nd c τ τ'' := ⟨fun a b c d e => (h'.1 a b c d e).trans (h.1 a b c d e), fun a d x y => (h'.2.1 a d x y).trans (h.2.1 a d x y), fun j x => (h'.2.2.1 j x).trans (h.2.2.1 j x), fun j x => (h'.2.2.2 j x).trans (h.2.2.2 j x)⟩
def vU (nd : Nat) (W V : Wd) : Prop := V.2 = W.2 ∧ ∀ d, d < nd → (∀ j, j ≠ 5 → j ≠ 6 → V.1 d j = W.1 d j) ∧ ∃ y, y ≤ 99 ∧ V.1 d 5 = nI y
theorem cm_uses {nd c le sl act : Nat} {σ τ : St} {W : Wd} {l : List Pr} (hnd : nd ≤ 8) (hle : 1 ≤ le) (hc : c < 4) (hsl : 1 ≤ sl) (hact : act = 16 * sl) (ha : act ≤ 384) (hLs : σ (LA σ) 2 = nI sl) (hLd : σ (LA σ) 6 = nI nd) (h18 : τ 0 18 = nI sl) (hC : cW nd σ W) (hM : mW nd τ W) (hp : pC l c σ) (hm : pM l c τ) (hI : pI nd le l) (h0 : ∀ d, d < nd → σ (46 + d) 0 = nI d) (hair : ∀ t, t < act → σ (42 + c) t = τ 34 (384 * c + t))
    (h2 : ∀ d, d < nd → ∃ x, 1 ≤ x ∧ x ≤ 8 ∧ W.1 d 2 = nI x) (h15 : ∀ d, d < nd → W.1 d 15 = 0 ∨ W.1 d 15 = 1) (h5 : ∀ d, d < nd → ∃ y, y ≤ 99 ∧ W.1 d 5 = nI y) :
    ∃ x σ' τ' V L, f_X7_keepPromises c σ = some (x, σ') ∧ f_X8_uses (nI c) τ = some (x, τ') ∧ cW nd σ' V ∧ mW nd τ' V ∧ pC L c σ' ∧ pM L c τ' ∧ L.map pk2 = l.map pk2 ∧ (∀ t, t < act → σ' (42 + c) t = τ' 34 (384 * c + t)) ∧ vU nd W V ∧ fcU nd c σ σ' ∧ fmU nd c τ τ' := by
  have hLA := LA_ok σ
  obtain ⟨r1, r2, e1, e2, q⟩ := lp_two (b₁ := fun K a => b_X7_keepPromises_10 c K a.1 a.2.1 a.2.2) (b₂ := fun K a => b_X8_uses_4 K a.1 a.2.1 a.2.2.1 a.2.2.2)
    (fun k a1 a2 => ∃ acc σk τk V L, a1 = (acc, nI k, σk) ∧ a2 = (nI c, acc, nI k, τk) ∧ cW nd σk V ∧ mW nd τk V ∧ pC L c σk ∧ pM L c τk ∧ L.map pk2 = l.map pk2 ∧ (∀ t, t < act → σk (42 + c) t = τk 34 (384 * c + t)) ∧ vU nd W V ∧ fcU nd c σ σk ∧ fmU nd c τ τk)
    (fun r1 r2 => ∃ x σ' τ' V L, r1 = (x, σ') ∧ r2 = (x, τ') ∧ cW nd σ' V ∧ mW nd τ' V ∧ pC L c σ' ∧ pM L c τ' ∧ L.map pk2 = l.map pk2 ∧ (∀ t, t < act → σ' (42 + c) t = τ' 34 (384 * c + t)) ∧ vU nd W V ∧ fcU nd c σ σ' ∧ fmU nd c τ τ') l.length (by have := hI.1; omega)
    (fun k a1 a2 hk hh => by
      obtain ⟨acc, σk, τk, V, L, rfl, rfl, m1, m2, m3, m4, m5, m6, m7', m8, m9⟩ := hh
      have IL := hI.mp m5
      have eLen : L.length = l.length := by
        have := congrArg List.length m5
        rw [List.length_map, List.length_map] at this
        exact this
      have hl7 := IL.1
      have hs16 : pS L ≤ 16 := by have := IL.2.2; omega
      obtain ⟨q, hq⟩ := get_lt (l := L) (k := k) (by omega)
      obtain ⟨q1, q2, q3⟩ := IL.2.1 q (List.mem_of_getElem? hq)
      obtain ⟨d, ed⟩ : ∃ d, d = q.1 := ⟨_, rfl⟩
      obtain ⟨sz, esz⟩ : ∃ sz, sz = q.2.1 := ⟨_, rfl⟩
      rw [← ed] at q1
      rw [← esz] at q2 q3
      obtain ⟨fs, efs⟩ : ∃ fs, fs = 16 - pS (L.take (k + 1)) := ⟨_, rfl⟩
      have hfs : fs + sz ≤ 16 := by
        have a1 := pS_take hq
        have a2 := pS_le L (k + 1)
        rw [efs, esz]
        omega
      have hmul : fs * sl + sz * sl ≤ 384 := by
        rw [← Nat.add_mul]
        exact Nat.le_trans (Nat.mul_le_mul_right sl hfs) (by omega)
      have hlay : σk (lay (σk 0 6)) = σ (LA σ) := by
        have e0 : σk 0 = σ 0 := m8.1 0 (by omega) (by omega) (by omega)
        rw [e0]
        exact m8.1 (LA σ) (by omega) (by omega) (by omega)
      obtain ⟨v1, v2⟩ := m7'
      obtain ⟨v3, y, y1, y2⟩ := v2 d q1
      obtain ⟨x, x1, x2, x3⟩ := h2 d q1
      have R0 := m1.R (d := d)
      have M0 := m2.R (d := d)
      have z15 : σk (46 + d) 15 = W.1 d 15 := (R0.g q1 15 (by decide) (by decide)).trans (v3 15 (by decide) (by decide))
      have z2 : σk (46 + d) 2 = nI x := (R0.g q1 2 (by decide) (by decide)).trans ((v3 2 (by decide) (by decide)).trans x3)
      have z5 : σk (46 + d) 5 = nI y := (R0.g q1 5 (by decide) (by decide)).trans y2
      have z6 : σk (46 + d) 6 = V.1 d 6 := R0.g q1 6 (by decide) (by decide)
      have w15 : τk 50 d = W.1 d 15 := (M0.g q1 15 (by decide) (by decide)).trans (v3 15 (by decide) (by decide))
      have w2 : τk 37 d = nI x := (M0.g q1 2 (by decide) (by decide)).trans ((v3 2 (by decide) (by decide)).trans x3)
      have w5 : τk 40 d = nI y := (M0.g q1 5 (by decide) (by decide)).trans y2
      have w6 : τk 41 d = V.1 d 6 := M0.g q1 6 (by decide) (by decide)
      have z0 : σk (46 + d) 0 = nI d := (m8.2 d q1 0 (Or.inl rfl)).trans (h0 d q1)
      obtain ⟨u1, u2⟩ := uU_le (W.1 d 15) (sz * sl) x y
      have cs := c_send (t0 := fs * sl) (p3 := sz * sl) hc (by rw [z15]; exact h15 d q1) z0 z2 x1 x2 z5 y1 hmul
      rw [z15, z5, z6] at cs
      obtain ⟨u, eu⟩ : ∃ u, u = uU (W.1 d 15) (sz * sl) x y := ⟨_, rfl⟩
      rw [← eu] at u1 u2 cs
      obtain ⟨vi, evi⟩ : ∃ vi : Int32, vi = if u = 0 then q.2.2 + 1 else 0 := ⟨_, rfl⟩
      obtain ⟨σ2, eσ2⟩ : ∃ σ2, σ2 = up2 (up2 (aFill σk (42 + c) (fs * sl) (u * x) (10 + nI d)) (46 + d) 5 (nI y - nI u)) (46 + d) 6 (V.1 d 6 + nI u) := ⟨_, rfl⟩
      rw [← eσ2] at cs
      have e38 : σ2 (38 + c) = σk (38 + c) := by rw [eσ2, up2_ne (by omega), up2_ne (by omega), aFill_ne (by omega)]
      have e26 : σ2 (26 + c) = σk (26 + c) := by rw [eσ2, up2_ne (by omega), up2_ne (by omega), aFill_ne (by omega)]
      have bk : ∀ K, b_X7_keepPromises_10 c K acc (nI k) σk = K (acc + nI u, nI (k + 1), up2 σ2 (38 + c) k vi) := by
        intro K
        have t0 := c_tell m3 hl7 hs16 hq 0
        have t1 := c_tell m3 hl7 hs16 hq 1
        have t2 := c_tell m3 hl7 hs16 hq 2
        rw [if_pos rfl, ← ed] at t0
        rw [if_neg (by decide), if_pos rfl, ← efs] at t1
        rw [if_neg (by decide), if_neg (by decide), if_pos rfl, ← esz] at t2
        unfold b_X7_keepPromises_10
        rw [m3.1, if_neg (by rw [nI_leI (by omega) (by omega)]; omega), t0, cl_some, dev_c hnd (by show σk (lay (σk 0 6)) 6 = _; rw [hlay]; exact hLd) q1, cl_some, oc_some, gd_t (by omega), t1, cl_some, hlay, hLs, pk_mul, vl_d, t2, cl_some, hlay, hLs, pk_mul, vl_d, cs, cl_some]
        unfold f_X7_keepPromises_88 f_X4_noteUse
        rw [e26, m3.1, nt_nI (show k < 2147483648 by omega), e38, (m3.2 k q hq).2.2]
        have k0 : ¬ nI k < 0 := nI_pos (by omega)
        have k1 : ¬ nI L.length ≤ nI k := by rw [nI_leI (by omega) (by omega)]; omega
        have k2 : ¬ nI 7 ≤ nI k := by rw [nI_leI (by omega) (by omega)]; omega
        by_cases h0 : u = 0
        · rw [if_pos (by rw [h0]; decide), if_neg k0, if_neg k1, if_neg k2, if_pos rfl, gd_t (ix_nI (show k < 7 by omega) (by decide)), gd_t (ix_nI (show k < 7 by omega) (by decide)), vl_d, cl_some, vl_d, vl_d, nI_1, evi, if_pos h0]
        · rw [if_neg (by rw [i_le, t_nI _ (by omega), t_lit 0 (by decide)]; omega), if_neg k0, if_neg k1, if_neg k2, if_neg (by decide), gd_t (ix_nI (show k < 7 by omega) (by decide)), vl_d, cl_some, vl_d, vl_d, nI_1, evi, if_neg h0]
      obtain ⟨τ2, eτ2⟩ : ∃ τ2, τ2 = up2 (up2 (aFill τk 34 (384 * c + fs * sl) (u * x) (10 + nI d)) 40 d (nI y - nI u)) 41 d (V.1 d 6 + nI u) := ⟨_, rfl⟩
      have br : ∀ K, b_X8_uses_4 K (nI c) acc (nI k) τk = K (nI c, acc + nI u, nI (k + 1), up2 τ2 33 (7 * c + k) vi) := by
        intro K
        have g8 : ix (nI d) 8 := ix_nI (by omega) (by decide)
        have fst := m_first m4 hc hl7 hs16 (i := k) (by omega)
        rw [← efs] at fst
        have e18 : τk 0 18 = nI sl := by rw [m9.1 0 (by decide) (by decide) (by decide) (by decide)]; exact h18
        have ms := m_send (acc := acc) (k := k) (u := u) (t0 := fs * sl) (τ := τk) (K4 := K) hc (show d < 8 by omega) w2 (by omega) (by omega) (by omega)
        rw [w5, w6, (m4.2 k q hq).2.2, ← evi, ← eτ2] at ms
        unfold b_X8_uses_4
        rw [gd_t (ix_nI hc (by decide)), nt_nI (show c < 2147483648 by omega), m4.1, if_neg (by rw [nI_leI (by omega) (by omega)]; omega), m7, gd_t (ix_nI (by omega) (by decide)), nt_nI (show 7 * c + k < 2147483648 by omega), (m4.2 k q hq).1, ← ed, vl_d, gd_t (ix_nI (by omega) (by decide)), gd_t g8, nt_nI (show d < 2147483648 by omega), w2, gd_t (by rw [i_eq, t_nI _ (by omega), t_lit 0 (by decide)]; omega), (m4.2 k q hq).2.1, ← esz, e18, pk_mul, pk_div (by omega) (by omega) (by omega), vl_d, gd_t g8, w15]
        by_cases z : W.1 d 15 = 0
        · have u0 : u = 0 := by rw [eu, z]; exact if_neg (by decide)
          rw [if_pos z, fst, cl_some, e18, pk_mul, vl_d]
          rw [← ms, u0]
          rfl
        · have z1 : W.1 d 15 = 1 := (h15 d q1).resolve_left z
          have eu' : u = min (sz * sl / x) y := by rw [eu]; exact if_pos z1
          have hdl := Nat.div_le_self (sz * sl) x
          rw [if_neg z, gd_t g8, w5]
          by_cases hyx : y ≤ sz * sl / x
          · rw [if_pos (nI_le hyx (by omega)), gd_t g8, vl_d, fst, cl_some, e18, pk_mul, vl_d]
            rw [show y = u from by rw [eu', Nat.min_eq_right hyx]]
            exact ms
          · rw [if_neg (by rw [nI_leI (by omega) (by omega)]; exact hyx), fst, cl_some, e18, pk_mul, vl_d]
            rw [show sz * sl / x = u from by rw [eu', Nat.min_eq_left (by omega)]]
            exact ms
      have C1 : cW nd (aFill σk (42 + c) (fs * sl) (u * x) (10 + nI d)) V := ⟨fun d' hd' j j1 j2 => by rw [aFill_ne (by omega)]; exact m1.1 d' hd' j j1 j2, by rw [aFill_ne (by omega)]; exact m1.2⟩
      have M1 : mW nd (aFill τk 34 (384 * c + fs * sl) (u * x) (10 + nI d)) V := ⟨fun d' hd' j j1 j2 => by rw [aFill_ne (by omega)]; exact m2.1 d' hd' j j1 j2, by rw [aFill_ne (by omega)]; exact m2.2⟩
      have C2 := ((C1.R (d := d)).put q1 5 (nI y - nI u) (by decide) (by decide)).put q1 6 (V.1 d 6 + nI u) (by decide) (by decide)
      have M2 := ((M1.R (d := d)).put q1 5 (nI y - nI u) (by decide) (by decide)).put q1 6 (V.1 d 6 + nI u) (by decide) (by decide)
      rw [← eσ2] at C2
      rw [show up2 (up2 (aFill τk 34 (384 * c + fs * sl) (u * x) (10 + nI d)) (35 + 5) d (nI y - nI u)) (35 + 6) d (V.1 d 6 + nI u) = τ2 from eτ2.symm] at M2
      have p2C : pC L c σ2 := m3.cg (by rw [e26]) (by rw [eσ2, up2_ne (by omega), up2_ne (by omega), aFill_ne (by omega)]) (by rw [eσ2, up2_ne (by omega), up2_ne (by omega), aFill_ne (by omega)]) e38
      have p2M : pM L c τ2 := m4.cg (by rw [eτ2, up2_ne (by decide), up2_ne (by decide), aFill_ne (by decide)]) (by rw [eτ2, up2_ne (by decide), up2_ne (by decide), aFill_ne (by decide)]) (by rw [eτ2, up2_ne (by decide), up2_ne (by decide), aFill_ne (by decide)]) (by rw [eτ2, up2_ne (by decide), up2_ne (by decide), aFill_ne (by decide)])
      refine Or.inl ⟨_, _, ⟨acc + nI u, up2 σ2 (38 + c) k vi, up2 τ2 33 (7 * c + k) vi, wPut V d (upd (upd (V.1 d) 5 (nI y - nI u)) 6 (V.1 d 6 + nI u)) V.2, L.set k (q.1, q.2.1, vi), rfl, rfl, ⟨fun d' hd' j j1 j2 => ?_, ?_⟩, ⟨fun d' hd' j j1 j2 => ?_, ?_⟩, c_idl p2C hc hq, m_idl p2M hq, (map_idl hq).trans m5, fun t ht => ?_, ⟨v1, fun d' hd' => ?_⟩, m8.tr ⟨fun a b c' d' => ?_, fun d' hd' j hj => ?_⟩, m9.tr ⟨fun a b1 b2 b3 b4 => ?_, fun a d' hd' ha => ?_, fun j hj => ?_, fun j hj => ?_⟩⟩, bk, br⟩
      · rw [up2_r (by omega)]; exact C2.1.1 d' hd' j j1 j2
      · rw [up2_r (by omega)]; exact C2.1.2
      · rw [up2_r (by omega)]; exact M2.1.1 d' hd' j j1 j2
      · rw [up2_r (by omega)]; exact M2.1.2
      · rw [up2_r (by omega), up2_r (by decide), eσ2, eτ2, up2_r (by omega), up2_r (by omega), up2_r (by decide), up2_r (by decide), aFill_at, aFill_at, m6 t ht]
        by_cases hin : fs * sl ≤ t ∧ t < fs * sl + u * x
        · rw [if_pos hin, if_pos (by omega)]
        · rw [if_neg hin, if_neg (by omega)]
      · by_cases e : d' = d
        · subst e
          rw [wPut_row]
          refine ⟨fun j j5 j6 => by rw [upd_n _ _ j6, upd_n _ _ j5]; exact v3 j j5 j6, y - u, by omega, ?_⟩
          rw [upd_n _ _ (by decide), upd_s, nI_m _ _ (by omega)]
        · rw [show (wPut V d (upd (upd (V.1 d) 5 (nI y - nI u)) 6 (V.1 d 6 + nI u)) V.2).1 d' = V.1 d' from if_neg e]
          exact v2 d' hd'
      · rw [up2_ne b, eσ2, up2_ne (by omega), up2_ne (by omega), aFill_ne c']
      · rw [up2_r (by omega), eσ2, up2_g, if_neg (by omega), up2_g, if_neg (by omega), aFill_ne (by omega)]
      · rw [up2_ne b1, eτ2, up2_ne b4, up2_ne b3, aFill_ne b2]
      · rw [up2_r (by omega), eτ2, up2_g, if_neg (by omega), up2_g, if_neg (by omega), aFill_ne (by omega)]
      · rw [up2_c (by omega), eτ2, up2_r (by decide), up2_r (by decide), aFill_ne (by decide)]
      · rw [up2_r (by decide), eτ2, up2_r (by decide), up2_r (by decide), aFill_at, if_neg (by omega)])
    (fun a1 a2 hh => by
      obtain ⟨acc, σk, τk, V, L, rfl, rfl, m1, m2, m3, m4, m5, m6, m7', m8, m9⟩ := hh
      have eLen : L.length = l.length := by
        have := congrArg List.length m5
        rw [List.length_map, List.length_map] at this
        exact this
      have hl7 := hI.1
      refine ⟨_, _, ⟨acc, σk, τk, V, L, rfl, rfl, m1, m2, m3, m4, m5, m6, m7', m8, m9⟩, fun K => ?_, fun K => ?_⟩
      · show b_X7_keepPromises_10 c K acc (nI l.length) σk = _
        unfold b_X7_keepPromises_10
        rw [m3.1, eLen, if_pos (nI_le (Nat.le_refl _) (by omega))]
      · show b_X8_uses_4 K (nI c) acc (nI l.length) τk = _
        unfold b_X8_uses_4
        rw [gd_t (ix_nI hc (by decide)), nt_nI (show c < 2147483648 by omega), m4.1, eLen, if_pos (nI_le (Nat.le_refl _) (by omega))])
    (a₁ := (0, 0, σ)) (a₂ := (nI c, 0, 0, τ)) ⟨0, σ, τ, W, l, rfl, rfl, hC, hM, hp, hm, rfl, hair, ⟨rfl, fun d hd => ⟨fun _ _ _ => rfl, h5 d hd⟩⟩, fcU.rf, fmU.rf⟩
  obtain ⟨x, σ', τ', V, L, rfl, rfl, qq⟩ := q
  exact ⟨x, σ', τ', V, L, e1, e2, qq⟩
