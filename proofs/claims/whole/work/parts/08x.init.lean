/-! the start -/
abbrev hsL : List Nat := [0, 0, 0, 1, 1, 2]
abbrev xsL : List Nat := [2, 1, 3, 2, 1, 2]
abbrev esL : List Nat := [3, 2, 1, 3, 2, 1]
abbrev ssL : List Nat := [0, 192, 400]
abbrev paL : List Int32 := [-4, 0, 0]
def iniC (z : St) : Bool :=
  decide (z 0 6 = 0 ∧ z 0 7 = 1 ∧ z 4 1 = 0) && decide (z 14 0 = nI 768 ∧ z 14 1 = nI 96 ∧ z 14 2 = nI 6 ∧ z 14 3 = nI 8 ∧ z 14 4 = nI 3 ∧ z 14 5 = nI 3 ∧ z 14 6 = nI 6) &&
  (List.range 3).all (fun c => decide (z 15 c = paL.getD c 0 ∧ z 16 c = nI (ssL.getD c 0))) &&
  (List.range 6).all (fun d => decide (z 17 d = nI (hsL.getD d 0) ∧ z 18 d = nI (xsL.getD d 0) ∧ z 19 d = nI (esL.getD d 0))) &&
  (List.range 8).all (fun d => decide (z (46 + d) 0 = nI d) && (List.range 5).all (fun j => decide (z (46 + d) (15 + j) = 0)))
def iniB : Bool := match tx7 ftB σi with
  | none => false
  | some (_, z1) => match f_X5_readInto (lay (z1 0 7)) z1 with
    | none => false
    | some (_, z2) => iniC z2
theorem iniB_t : iniB = true := by decide +kernel
theorem ini_c : ∃ u1 z1 u2 z2, tx7 ftB σi = some (u1, z1) ∧ f_X5_readInto (lay (z1 0 7)) z1 = some (u2, z2) ∧ iniC z2 = true := by
  have h := iniB_t
  unfold iniB at h
  split at h
  · exact absurd h (by decide)
  · rename_i u1 z1 e1
    split at h
    · exact absurd h (by decide)
    · rename_i u2 z2 e2
      exact ⟨u1, z1, u2, z2, e1, e2, h⟩
def i13 : Option (Unit × St) :=
  vl (fun _ _ => 0 : St) fun z0 =>
  cl (f_X8_empty z0) fun _ z1 =>
  vl (up2 z1 0 5 (4 : Int32)) fun z2 =>
  vl (up2 z2 0 6 (1 : Int32)) fun z3 =>
  vl (up2 z3 0 7 (8 : Int32)) fun z4 =>
  cl (f_X8_deviceIs (0 : Int32) (2 : Int32) (3 : Int32) z4) fun _ z5 =>
  cl (f_X8_deviceIs (0 : Int32) (1 : Int32) (2 : Int32) z5) fun _ z6 =>
  cl (f_X8_deviceIs (0 : Int32) (3 : Int32) (1 : Int32) z6) fun _ z7 =>
  cl (f_X8_coordIs (0 : Int32) (192 : Int32) z7) fun _ z8 =>
  cl (f_X8_deviceIs (1 : Int32) (2 : Int32) (3 : Int32) z8) fun _ z9 =>
  cl (f_X8_deviceIs (1 : Int32) (1 : Int32) (2 : Int32) z9) fun _ z10 =>
  cl (f_X8_coordIs (0 : Int32) (400 : Int32) z10) fun _ z11 =>
  cl (f_X8_deviceIs (2 : Int32) (2 : Int32) (1 : Int32) z11) fun _ z12 =>
  vl (up2 z12 0 8 (3 : Int32)) fun z13 =>
  some ((), z13)
theorem cl_as {α β γ : Type} (a : Option (α × St)) (f : α → St → Option (β × St)) (g : β → St → Option γ) : cl (cl a f) g = cl a (fun r σ => cl (f r σ) g) := by
  cases a <;> rfl
theorem init_m : f_X8_init = cl i13 fun _ z13 => cl (f_X8_begin z13) fun _ z14 => some ((), z14) := by
  unfold f_X8_init i13
  simp only [vl_d, cl_as, cl_some]
def iniN (z : St) : Bool :=
  decide (z 0 0 = 0 ∧ z 0 3 = 0 ∧ z 0 5 = nI 4 ∧ z 0 6 = nI 1 ∧ z 0 7 = nI 8 ∧ z 0 8 = nI 3 ∧ z 0 9 = nI 3 ∧ z 0 12 = nI 6) &&
  (List.range 3).all (fun c => decide (z 10 c = paL.getD c 0 ∧ z 11 c = nI (ssL.getD c 0))) &&
  (List.range 6).all (fun d => decide (z 13 d = nI (hsL.getD d 0) ∧ z 14 d = nI (xsL.getD d 0) ∧ z 15 d = nI (esL.getD d 0))) &&
  (List.range 8).all (fun d => (List.range 5).all (fun j => decide (z (35 + (15 + j)) d = 0)))
def iniD : Bool := match i13 with
  | none => false
  | some (_, z) => iniN z
theorem iniD_t : iniD = true := by decide +kernel
theorem ini_m : ∃ u z, i13 = some (u, z) ∧ iniN z = true := by
  have h := iniD_t
  unfold iniD at h
  split at h
  · exact absurd h (by decide)
  · rename_i u z e
    exact ⟨u, z, e, h⟩
theorem tabs : (∀ c, c < 3 → ssL.getD c 0 < 48 * 2 ^ 4) ∧ ∀ d, d < 6 → hsL.getD d 0 < 3 ∧ 1 ≤ xsL.getD d 0 ∧ xsL.getD d 0 ≤ 8 ∧ esL.getD d 0 ≤ 3 := by decide +kernel
theorem rel_init : ∃ (u v : Unit) (σ τ : St), f_X7_init = some (u, σ) ∧ f_X8_init = some (v, τ) ∧ Rel 0 σ τ := by
  obtain ⟨u1, z1, u2, z2, e1, e2, hz⟩ := ini_c
  obtain ⟨u, z, e3, hn⟩ := ini_m
  unfold iniC at hz
  unfold iniN at hn
  simp only [Bool.and_eq_true, decide_eq_true_eq, List.all_eq_true, List.mem_range] at hz hn
  obtain ⟨⟨⟨⟨⟨a6, a7, a41⟩, b0, b1, b2, b3, b4, b5, b6⟩, cc⟩, cd⟩, ce⟩ := hz
  obtain ⟨⟨⟨⟨m00, m3, m5, m6, m7, m8, m9, m12⟩, mc⟩, md⟩, me⟩ := hn
  have eo : 14 = lay (z2 0 7) := by rw [a7]; rfl
  have hY : RY 14 3 6 4 3 z2 z := by
    refine ⟨⟨by decide, by decide, by decide, by decide, by decide⟩, ⟨b4, m8⟩, ⟨b5, m9⟩, ⟨b6, m12⟩, fun c hc => ?_, fun c hc => ?_, fun d hd => ?_⟩
    · rw [(mc c hc).1]; exact (cc c hc).1
    · exact ⟨ssL.getD c 0, tabs.1 c hc, (cc c hc).2, (mc c hc).2⟩
    · obtain ⟨q1, q2, q3, q4⟩ := tabs.2 d hd
      exact ⟨hsL.getD d 0, xsL.getD d 0, esL.getD d 0, q1, q2, q3, q4, ⟨(cd d hd).1, (md d hd).1⟩, ⟨(cd d hd).2.1, (md d hd).2.1⟩, ⟨(cd d hd).2.2, (md d hd).2.2⟩⟩
  have hO : RO 14 4 1 8 z2 z := ⟨by decide, b0, b1, b2, b3, m5, m6, m7⟩
  obtain ⟨σ', τ', f1, f2, ⟨g1, g2, g4, g5, g6, g7, g8, g9⟩, ⟨r1, r2, r3, r4⟩, -⟩ := begin_tt (n := 0) eo (by decide) hY hO ⟨0, by decide, a41, m3, fun j hj => by omega⟩ (Or.inl ⟨a6, a7⟩) (fun d hd j j1 j2 => by
    have p := (ce d hd).2 (j - 15) (by omega)
    have q := me d hd (j - 15) (by omega)
    rw [show 15 + (j - 15) = j by omega] at p q
    rw [p, q]) (fun d hd => (ce d hd).1)
  have es : ∀ k, k ≠ 1 → up2 σ' 1 1 0 k = σ' k := fun k hk => up2_ne hk
  have la : LA σ' ≠ 1 ∧ LA σ' + 2 ≠ 1 := by rcases LA_ok σ' with e | e <;> rw [e] <;> decide
  have hN := g1.1
  refine ⟨(), (), up2 σ' 1 1 0, τ', ?_, ?_, 3, 6, 4, 1, 8, 3, fun _ => [], g1.cg (es 0 (by decide)) (by rw [es 6 (by decide)]) (es _ la.1) (fun _ _ _ => rfl), g2.cg hN.2.1 (es 0 (by decide)) (es _ la.2) (fun c hc => by rw [es _ (by omega)]) rfl, ⟨0, by decide, up2_at _ _ _ _, by rw [r3]; exact m00, fun j hj => by omega⟩, g4.cg (es 4 (by decide)) (es 5 (by decide)) rfl rfl, g5.cg hN.2.1 (fun c hc => es _ (by omega)) rfl rfl rfl rfl, g6.cg (fun c hc => by rw [es _ (by omega)]) (fun c hc => by rw [es _ (by omega)]), g7.cg hN.2.1 (fun k h1 h2 => es _ (by omega)) (fun k h1 h2 => rfl), g8.cg hN.2.1 (fun c hc => es _ (by omega)) rfl rfl, g9.cg hN.2.2.2.1 (fun d hd => es _ (by omega)) (fun k h1 h2 => rfl)⟩
  · unfold f_X7_init f_X6_clear
    rw [e1, cl_some, e2, cl_some, f1, cl_some, vl_d, cl_some]
  · rw [init_m, e3, cl_some, f2, cl_some]
