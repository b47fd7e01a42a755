theorem ti_X0 : (Jvm.Cond.instantiable "PromisedSlots$Contention" (4 : Nat)) ∈ U0 := mkU 320 _ (by decide +kernel) rfl
theorem ti_X1 : (Jvm.Cond.instantiable "PromisedSlots$Coordinator" (7 : Nat)) ∈ U0 := mkU 186 _ (by decide +kernel) rfl
theorem ti_X2 : (Jvm.Cond.instantiable "PromisedSlots$Device" (20 : Nat)) ∈ U0 := mkU 239 _ (by decide +kernel) rfl
theorem ti_X3 : (Jvm.Cond.instantiable "PromisedSlots$Layout" (12 : Nat)) ∈ U0 := mkU 131 _ (by decide +kernel) rfl
theorem ti_X4 : (Jvm.Cond.instantiable "PromisedSlots$Promises" (4 : Nat)) ∈ U0 := mkU 192 _ (by decide +kernel) rfl
theorem ti_X5 : (Jvm.Cond.instantiable "PromisedSlots$Reader" (4 : Nat)) ∈ U0 := mkU 110 _ (by decide +kernel) rfl
theorem ti_X6 : (Jvm.Cond.instantiable "PromisedSlots$Row" (2 : Nat)) ∈ U0 := mkU 91 _ (by decide +kernel) rfl
theorem ti_X7 : (Jvm.Cond.instantiable "PromisedSlots" (10 : Nat)) ∈ U0 := mkU 83 _ (by decide +kernel) rfl
abbrev dvX0 : List Value := [.null, .int 0, .int 0, .int 0]
theorem dfX0 : ∀ j, j < 4 → defaultValue (tyX0 j) = vp_V dvX0 j := fun j hj => match j, hj with
  | 0, _ => rfl
  | 1, _ => rfl
  | 2, _ => rfl
  | 3, _ => rfl
  | j + 4, h => absurd h (by omega)
abbrev dvX1 : List Value := [.int 0, .int 0, .int 0, .int 0, .int 0, .null, .null]
theorem dfX1 : ∀ j, j < 7 → defaultValue (tyX1 j) = vp_V dvX1 j := fun j hj => match j, hj with
  | 0, _ => rfl
  | 1, _ => rfl
  | 2, _ => rfl
  | 3, _ => rfl
  | 4, _ => rfl
  | 5, _ => rfl
  | 6, _ => rfl
  | j + 7, h => absurd h (by omega)
abbrev dvX2 : List Value := [.int 0, .int 0, .int 0, .int 0, .int 0, .int 0, .int 0, .int 0, .int 0, .int 0, .int 0, .int 0, .int 0, .int 0, .int 0, .int 0, .int 0, .int 0, .int 0, .int 0]
theorem dfX2 : ∀ j, j < 20 → defaultValue (tyX2 j) = vp_V dvX2 j := fun j hj => match j, hj with
  | 0, _ => rfl
  | 1, _ => rfl
  | 2, _ => rfl
  | 3, _ => rfl
  | 4, _ => rfl
  | 5, _ => rfl
  | 6, _ => rfl
  | 7, _ => rfl
  | 8, _ => rfl
  | 9, _ => rfl
  | 10, _ => rfl
  | 11, _ => rfl
  | 12, _ => rfl
  | 13, _ => rfl
  | 14, _ => rfl
  | 15, _ => rfl
  | 16, _ => rfl
  | 17, _ => rfl
  | 18, _ => rfl
  | 19, _ => rfl
  | j + 20, h => absurd h (by omega)
abbrev dvX3 : List Value := [.int 0, .int 0, .int 0, .int 0, .int 0, .int 0, .int 0, .null, .null, .null, .null, .null]
theorem dfX3 : ∀ j, j < 12 → defaultValue (tyX3 j) = vp_V dvX3 j := fun j hj => match j, hj with
  | 0, _ => rfl
  | 1, _ => rfl
  | 2, _ => rfl
  | 3, _ => rfl
  | 4, _ => rfl
  | 5, _ => rfl
  | 6, _ => rfl
  | 7, _ => rfl
  | 8, _ => rfl
  | 9, _ => rfl
  | 10, _ => rfl
  | 11, _ => rfl
  | j + 12, h => absurd h (by omega)
abbrev dvX4 : List Value := [.null, .null, .null, .int 0]
theorem dfX4 : ∀ j, j < 4 → defaultValue (tyX4 j) = vp_V dvX4 j := fun j hj => match j, hj with
  | 0, _ => rfl
  | 1, _ => rfl
  | 2, _ => rfl
  | 3, _ => rfl
  | j + 4, h => absurd h (by omega)
abbrev dvX5 : List Value := [.null, .int 0, .int 0, .int 0]
theorem dfX5 : ∀ j, j < 4 → defaultValue (tyX5 j) = vp_V dvX5 j := fun j hj => match j, hj with
  | 0, _ => rfl
  | 1, _ => rfl
  | 2, _ => rfl
  | 3, _ => rfl
  | j + 4, h => absurd h (by omega)
abbrev dvX6 : List Value := [.null, .int 0]
theorem dfX6 : ∀ j, j < 2 → defaultValue (tyX6 j) = vp_V dvX6 j := fun j hj => match j, hj with
  | 0, _ => rfl
  | 1, _ => rfl
  | j + 2, h => absurd h (by omega)
abbrev dvX7 : List Value := [.null, .null, .null, .null, .null, .null, .null, .null, .int 0, .int 0]
theorem dfX7 : ∀ j, j < 10 → defaultValue (tyX7 j) = vp_V dvX7 j := fun j hj => match j, hj with
  | 0, _ => rfl
  | 1, _ => rfl
  | 2, _ => rfl
  | 3, _ => rfl
  | 4, _ => rfl
  | 5, _ => rfl
  | 6, _ => rfl
  | 7, _ => rfl
  | 8, _ => rfl
  | 9, _ => rfl
  | j + 10, h => absurd h (by omega)
abbrev eI (cI : ClassId) (q n : Nat) : Nat × va_E := (q, .inl (cI, n, .inl (fun _ => 0)))
abbrev eR (cR : ClassId) (q n : Nat) (f : Nat → Option Nat) : Nat × va_E := (q, .inl (cR, n, .inr (.inr (.inr (.inr f)))))
abbrev eD (q : Nat) (n : Int32) : Nat × va_E := (q, .inr (2, [.int n, .int 0, .int 0, .int 0, .int 0, .int 0, .int 0, .int 0, .int 0, .int 0, .int 0, .int 0, .int 0, .int 0, .int 0, .int 0, .int 0, .int 0, .int 0, .int 0]))
section SNQ
variable {p : Program} {l : Launch} {e : Env} {R : Room} {s : State} {m : MethodId} {args : Array Value} {below : List Frame} {meth : Method} {c : Code} {H : Heap} {locs : List Loc} {cells slots : Nat} {Q : State → Prop}
variable {cc : ByteArray} {pc : Nat} {ls : Array Slot} {rest : List Value} {D : va_G} {A : Nat → Prop} {tys : List (ClassId × FieldType)} {ws : va_W} {H0 : Heap}
theorem g_newq (hexec : p.tables.exec = Jvm.exec) (hb : c.code = cc) {own C : String} {index : Nat} (hown : s.vm.findClass own = some m.cls) (hclink : (Cond.classLink own index C).before args s = true) (hover : va_AO C s) (hK : va_K D classes tys s) (t0 : Nat) {cR : ClassId} (ht : tys[t0]? = some (cR, .object C)) (hP : va_P D classes ws H) (hD : va_D A ws) (hS : va_S A H0 H locs) (hA : ∀ q, H0.size ≤ q → A q)
    {n : Int32} {N' : Nat} (hn : ¬ n < 0) (hN : n.toNatClampNeg = N') (hbytes : N' * 4 ≤ 536870912) (hcells : cells + 1 ≤ R.cells) (hslots : slots + N' ≤ R.slots) (hdg : decode cc pc = .ok (.anewarray index, 3))
    (kk : ∀ (q : Nat) (H1 : Heap), va_P D classes (ws ++ [(q, .inl (cR, N', .inr (.inr (.inr (.inr (fun _ => none))))))]) H1 → va_D A (ws ++ [(q, .inl (cR, N', .inr (.inr (.inr (.inr (fun _ => none))))))]) → va_S A H0 H1 locs →
      W p l e R s m args below meth c H1 locs (cells + 1) (slots + N') Q (F0 m (pc + 3) ls (.ref q :: rest))) : W p l e R s m args below meth c H locs cells slots Q (F0 m pc ls (.int n :: rest)) := by
  refine va_newq hexec hb hown hclink hover hK hP hD hS hA hn hN hbytes hcells hslots hdg (fun q cA H1 hK1 hP1 hD1 hS1 => ?_)
  obtain ⟨_, _, -, -, -, h1⟩ := (hK.2 t0 _ ht).2
  obtain ⟨_, _, -, -, -, h2⟩ := (hK1.2 tys.length (cA, .object C) (by simp)).2
  have e : cR = cA := Option.some.inj (h1.symm.trans h2)
  subst e
  exact kk q H1 hP1 hD1 hS1
end SNQ
abbrev rm_X6_init_200 : Room := { frames := 1, cells := 1, slots := 200, locals := 21 }
set_option maxHeartbeats 4000000 in
set_option maxRecDepth 100000 in
theorem c_X6_init_200 (l : Launch) (D : va_G) (cI cC cD : ClassId) (h0 sz : Nat) : Met l yX6_init (.code yX6_init cX6_init 2 none :: U0) rm_X6_init_200 (va_Pc [.ref h0, .int 200] (kPre D cI cC cD sz [(h0, .inr (6, [.null, .int 0]))])) (va_Qv (fun _ : Nat => True) (fun u t => va_P D classes [(h0, .inr (6, [.ref u, .int 0])), (eI cI u 200)] t.heap ∧ va_D (va_A [(h0, .inr (6, [.null, .int 0]))] sz) [(h0, .inr (6, [.ref u, .int 0])), (eI cI u 200)]) (va_A [(h0, .inr (6, [.null, .int 0]))] sz)) 1 200 (va_A [(h0, .inr (6, [.null, .int 0]))] sz) := by
  refine Met.ofW (cc := cX6_init) (maxL := 2) (ret := none) (by decide) rfl ?_
  intro p e s m args below meth c s₁ B hml hv
  obtain ⟨rfl, hsz, hP, hD0, hK, hN, hAC, hAD⟩ := hv
  have hx := B.exec
  have hb := B.bytes
  have hr := B.returns
  have hts0 := atoms_spec (ws := .code yX6_init cX6_init 2 none :: U0) B.pre
  have hts := fun w hw => hts0 w (List.mem_cons_of_mem _ hw)
  have hown : s.vm.findClass RX6 = some m.cls := findClass_of_methodNamed B.named
  have hlocks := B.notSynchronized
  have hin : meth.name = "<init>" := (name_of_methodNamed B.named B.method).1
  subst hsz
  have hD := hD0.self (sz := s.heap.size)
  generalize hAe : va_A [(h0, .inr (6, [.null, .int 0]))] s.heap.size = A at hD ⊢
  have hA : ∀ q : Nat, s.heap.size ≤ q → A q := fun q h => by rw [← hAe]; exact Or.inr h
  have hS : va_S A s.heap s.heap [] := va_S.rf
  have hl := lv_entry ([.ref h0, .int 200]) (n := 2) (Nat.le_of_ble_eq_true rfl)
  rw [lg_entry_eq]
  generalize (lg_sl ([.ref h0, .int 200]) ++ List.replicate (2 - (lg_sl ([.ref h0, .int 200])).length) Slot.unset).toArray = ls at hl ⊢
  have hl : lv_has ls 2 [(0, .ref h0), (1, .int 200)] := hl
  refine lv_aload_n hx hb dX6_init_0 rfl (lv_at hl 0 rfl) ?_
  refine W.objInit hx hb hown (hts _ tw_29) (hts _ tw_22) (hts _ tw_23) rfl (by rw [hml]; exact hl.1) rfl dX6_init_1 (Nat.le_of_ble_eq_true rfl) (Nat.le_of_ble_eq_true rfl) ?_
  refine W.eq (g2 := F0 m 4 ls []) rfl ?_
  refine lv_aload_n hx hb dX6_init_4 rfl (lv_at hl 0 rfl) ?_
  refine lv_iconst (v := 0) hx hb dX6_init_5 (by decide) ?_
  refine lv_iload_n hx hb dX6_init_6 rfl (lv_at hl 1 rfl) ?_
  refine va_mmax hx hb (hml.trans hl.1.symm) hown (hts _ tw_30) (hts _ tw_31) (hts _ tw_3) (hts _ tw_32) (Nat.le_of_ble_eq_true rfl) (Nat.le_of_ble_eq_true rfl) (Nat.zero_le _) (Nat.zero_le _) dX6_init_7 ?_
  rw [show (if (0 : Int32) < 200 then (200 : Int32) else 0) = 200 from rfl]
  refine g_newa hx hb (hts _ tw_42) hK hP hD hS hA (N' := 200) (by decide) (by decide) (by decide) (Nat.le_of_ble_eq_true rfl) (Nat.le_of_ble_eq_true rfl) dX6_init_10 (fun q1 H hP hD hS => ?_)
  have hP : va_P D classes [(h0, .inr (6, [.null, .int 0])), (eI cI q1 200)] H := hP
  have hD : va_D A [(h0, .inr (6, [.null, .int 0])), (eI cI q1 200)] := hD
  refine W.widen (k := 1) (n := 200) (Nat.le_refl _) (Nat.le_refl _) ?_
  refine va_putF (D := D) (ci := 6) (v := .ref q1) (ty := (.array .int)) (C := RX6) (T := TX6) (N := 2) hx hb hts inX6 tyX6 tyX6_ok nmX6 hown hK hP hD hS 0 rfl rfl 0 (by decide) (hts _ tw_33) (fun _ h9 => h9) rfl hin rfl (by decide +kernel) rfl rfl (Nat.le_of_ble_eq_true rfl) dX6_init_12 (fun H locs hP hD hS => ?_)
  have hP : va_P D classes [(h0, .inr (6, [.ref q1, .int 0])), (eI cI q1 200)] H := hP
  have hD : va_D A [(h0, .inr (6, [.ref q1, .int 0])), (eI cI q1 200)] := hD
  exact W.vret hx hb hr (fun t ht hW => ⟨⟨(q1), rfl, trivial, by subst ht; exact ⟨hP, hD⟩⟩, hS.F ht⟩) hS.2.2 dX6_init_15
abbrev rm_X6_init_3 : Room := { frames := 1, cells := 1, slots := 3, locals := 21 }
set_option maxHeartbeats 4000000 in
set_option maxRecDepth 100000 in
theorem c_X6_init_3 (l : Launch) (D : va_G) (cI cC cD : ClassId) (h0 sz : Nat) : Met l yX6_init (.code yX6_init cX6_init 2 none :: U0) rm_X6_init_3 (va_Pc [.ref h0, .int 3] (kPre D cI cC cD sz [(h0, .inr (6, [.null, .int 0]))])) (va_Qv (fun _ : Nat => True) (fun u t => va_P D classes [(h0, .inr (6, [.ref u, .int 0])), (eI cI u 3)] t.heap ∧ va_D (va_A [(h0, .inr (6, [.null, .int 0]))] sz) [(h0, .inr (6, [.ref u, .int 0])), (eI cI u 3)]) (va_A [(h0, .inr (6, [.null, .int 0]))] sz)) 1 3 (va_A [(h0, .inr (6, [.null, .int 0]))] sz) := by
  refine Met.ofW (cc := cX6_init) (maxL := 2) (ret := none) (by decide) rfl ?_
  intro p e s m args below meth c s₁ B hml hv
  obtain ⟨rfl, hsz, hP, hD0, hK, hN, hAC, hAD⟩ := hv
  have hx := B.exec
  have hb := B.bytes
  have hr := B.returns
  have hts0 := atoms_spec (ws := .code yX6_init cX6_init 2 none :: U0) B.pre
  have hts := fun w hw => hts0 w (List.mem_cons_of_mem _ hw)
  have hown : s.vm.findClass RX6 = some m.cls := findClass_of_methodNamed B.named
  have hlocks := B.notSynchronized
  have hin : meth.name = "<init>" := (name_of_methodNamed B.named B.method).1
  subst hsz
  have hD := hD0.self (sz := s.heap.size)
  generalize hAe : va_A [(h0, .inr (6, [.null, .int 0]))] s.heap.size = A at hD ⊢
  have hA : ∀ q : Nat, s.heap.size ≤ q → A q := fun q h => by rw [← hAe]; exact Or.inr h
  have hS : va_S A s.heap s.heap [] := va_S.rf
  have hl := lv_entry ([.ref h0, .int 3]) (n := 2) (Nat.le_of_ble_eq_true rfl)
  rw [lg_entry_eq]
  generalize (lg_sl ([.ref h0, .int 3]) ++ List.replicate (2 - (lg_sl ([.ref h0, .int 3])).length) Slot.unset).toArray = ls at hl ⊢
  have hl : lv_has ls 2 [(0, .ref h0), (1, .int 3)] := hl
  refine lv_aload_n hx hb dX6_init_0 rfl (lv_at hl 0 rfl) ?_
  refine W.objInit hx hb hown (hts _ tw_29) (hts _ tw_22) (hts _ tw_23) rfl (by rw [hml]; exact hl.1) rfl dX6_init_1 (Nat.le_of_ble_eq_true rfl) (Nat.le_of_ble_eq_true rfl) ?_
  refine W.eq (g2 := F0 m 4 ls []) rfl ?_
  refine lv_aload_n hx hb dX6_init_4 rfl (lv_at hl 0 rfl) ?_
  refine lv_iconst (v := 0) hx hb dX6_init_5 (by decide) ?_
  refine lv_iload_n hx hb dX6_init_6 rfl (lv_at hl 1 rfl) ?_
  refine va_mmax hx hb (hml.trans hl.1.symm) hown (hts _ tw_30) (hts _ tw_31) (hts _ tw_3) (hts _ tw_32) (Nat.le_of_ble_eq_true rfl) (Nat.le_of_ble_eq_true rfl) (Nat.zero_le _) (Nat.zero_le _) dX6_init_7 ?_
  rw [show (if (0 : Int32) < 3 then (3 : Int32) else 0) = 3 from rfl]
  refine g_newa hx hb (hts _ tw_42) hK hP hD hS hA (N' := 3) (by decide) (by decide) (by decide) (Nat.le_of_ble_eq_true rfl) (Nat.le_of_ble_eq_true rfl) dX6_init_10 (fun q1 H hP hD hS => ?_)
  have hP : va_P D classes [(h0, .inr (6, [.null, .int 0])), (eI cI q1 3)] H := hP
  have hD : va_D A [(h0, .inr (6, [.null, .int 0])), (eI cI q1 3)] := hD
  refine W.widen (k := 1) (n := 3) (Nat.le_refl _) (Nat.le_refl _) ?_
  refine va_putF (D := D) (ci := 6) (v := .ref q1) (ty := (.array .int)) (C := RX6) (T := TX6) (N := 2) hx hb hts inX6 tyX6 tyX6_ok nmX6 hown hK hP hD hS 0 rfl rfl 0 (by decide) (hts _ tw_33) (fun _ h9 => h9) rfl hin rfl (by decide +kernel) rfl rfl (Nat.le_of_ble_eq_true rfl) dX6_init_12 (fun H locs hP hD hS => ?_)
  have hP : va_P D classes [(h0, .inr (6, [.ref q1, .int 0])), (eI cI q1 3)] H := hP
  have hD : va_D A [(h0, .inr (6, [.ref q1, .int 0])), (eI cI q1 3)] := hD
  exact W.vret hx hb hr (fun t ht hW => ⟨⟨(q1), rfl, trivial, by subst ht; exact ⟨hP, hD⟩⟩, hS.F ht⟩) hS.2.2 dX6_init_15
abbrev rm_X5_init : Room := { frames := 1, cells := 0, slots := 0, locals := 12 }
set_option maxHeartbeats 4000000 in
set_option maxRecDepth 100000 in
theorem c_X5_init (l : Launch) (D : va_G) (cI cC cD : ClassId) (h0 sz : Nat) (p1 : Nat) : Met l yX5_init (.code yX5_init cX5_init 2 none :: U0) rm_X5_init (va_Pc [.ref h0, .ref p1] (kPre D cI cC cD sz [(h0, .inr (5, [.null, .int 0, .int 0, .int 0]))])) (va_Qv (fun _ : Unit => True) (fun u t => va_P D classes [(h0, .inr (5, [.ref p1, .int 0, .int 0, .int 0]))] t.heap ∧ va_D (va_A [(h0, .inr (5, [.null, .int 0, .int 0, .int 0]))] sz) [(h0, .inr (5, [.ref p1, .int 0, .int 0, .int 0]))]) (va_A [(h0, .inr (5, [.null, .int 0, .int 0, .int 0]))] sz)) 0 0 (va_A [(h0, .inr (5, [.null, .int 0, .int 0, .int 0]))] sz) := by
  refine Met.ofW (cc := cX5_init) (maxL := 2) (ret := none) (by decide) rfl ?_
  intro p e s m args below meth c s₁ B hml hv
  obtain ⟨rfl, hsz, hP, hD0, hK, hN, hAC, hAD⟩ := hv
  have hx := B.exec
  have hb := B.bytes
  have hr := B.returns
  have hts0 := atoms_spec (ws := .code yX5_init cX5_init 2 none :: U0) B.pre
  have hts := fun w hw => hts0 w (List.mem_cons_of_mem _ hw)
  have hown : s.vm.findClass RX5 = some m.cls := findClass_of_methodNamed B.named
  have hlocks := B.notSynchronized
  have hin : meth.name = "<init>" := (name_of_methodNamed B.named B.method).1
  subst hsz
  have hD := hD0.self (sz := s.heap.size)
  generalize hAe : va_A [(h0, .inr (5, [.null, .int 0, .int 0, .int 0]))] s.heap.size = A at hD ⊢
  have hA : ∀ q : Nat, s.heap.size ≤ q → A q := fun q h => by rw [← hAe]; exact Or.inr h
  have hS : va_S A s.heap s.heap [] := va_S.rf
  have hl := lv_entry ([.ref h0, .ref p1]) (n := 2) (Nat.le_of_ble_eq_true rfl)
  rw [lg_entry_eq]
  generalize (lg_sl ([.ref h0, .ref p1]) ++ List.replicate (2 - (lg_sl ([.ref h0, .ref p1])).length) Slot.unset).toArray = ls at hl ⊢
  have hl : lv_has ls 2 [(0, .ref h0), (1, .ref p1)] := hl
  refine lv_aload_n hx hb dX5_init_0 rfl (lv_at hl 0 rfl) ?_
  refine W.objInit hx hb hown (hts _ tw_48) (hts _ tw_22) (hts _ tw_23) rfl (by rw [hml]; exact hl.1) rfl dX5_init_1 (Nat.le_of_ble_eq_true rfl) (Nat.le_of_ble_eq_true rfl) ?_
  refine W.eq (g2 := F0 m 4 ls []) rfl ?_
  refine lv_aload_n hx hb dX5_init_4 rfl (lv_at hl 0 rfl) ?_
  refine lv_aload_n hx hb dX5_init_5 rfl (lv_at hl 1 rfl) ?_
  refine va_putF (D := D) (ci := 5) (v := .ref p1) (ty := (.object "PromisedSlots$Row")) (C := RX5) (T := TX5) (N := 4) hx hb hts inX5 tyX5 tyX5_ok nmX5 hown hK hP hD hS 0 rfl rfl 0 (by decide) (hts _ tw_49) (fun _ h9 => h9) rfl hin rfl (by decide +kernel) rfl rfl (Nat.le_of_ble_eq_true rfl) dX5_init_6 (fun H locs hP hD hS => ?_)
  have hP : va_P D classes [(h0, .inr (5, [.ref p1, .int 0, .int 0, .int 0]))] H := hP
  have hD : va_D A [(h0, .inr (5, [.ref p1, .int 0, .int 0, .int 0]))] := hD
  exact W.vret hx hb hr (fun t ht hW => ⟨⟨(), rfl, trivial, by subst ht; exact ⟨hP, hD⟩⟩, hS.F ht⟩) hS.2.2 dX5_init_9
abbrev rm_X0_init : Room := { frames := 1, cells := 0, slots := 0, locals := 12 }
set_option maxHeartbeats 4000000 in
set_option maxRecDepth 100000 in
theorem c_X0_init (l : Launch) (D : va_G) (cI cC cD : ClassId) (h0 sz : Nat) (p1 : Nat) : Met l yX0_init (.code yX0_init cX0_init 2 none :: U0) rm_X0_init (va_Pc [.ref h0, .ref p1] (kPre D cI cC cD sz [(h0, .inr (0, [.null, .int 0, .int 0, .int 0]))])) (va_Qv (fun _ : Unit => True) (fun u t => va_P D classes [(h0, .inr (0, [.ref p1, .int 0, .int 0, .int 0]))] t.heap ∧ va_D (va_A [(h0, .inr (0, [.null, .int 0, .int 0, .int 0]))] sz) [(h0, .inr (0, [.ref p1, .int 0, .int 0, .int 0]))]) (va_A [(h0, .inr (0, [.null, .int 0, .int 0, .int 0]))] sz)) 0 0 (va_A [(h0, .inr (0, [.null, .int 0, .int 0, .int 0]))] sz) := by
  refine Met.ofW (cc := cX0_init) (maxL := 2) (ret := none) (by decide) rfl ?_
  intro p e s m args below meth c s₁ B hml hv
  obtain ⟨rfl, hsz, hP, hD0, hK, hN, hAC, hAD⟩ := hv
  have hx := B.exec
  have hb := B.bytes
  have hr := B.returns
  have hts0 := atoms_spec (ws := .code yX0_init cX0_init 2 none :: U0) B.pre
  have hts := fun w hw => hts0 w (List.mem_cons_of_mem _ hw)
  have hown : s.vm.findClass RX0 = some m.cls := findClass_of_methodNamed B.named
  have hlocks := B.notSynchronized
  have hin : meth.name = "<init>" := (name_of_methodNamed B.named B.method).1
  subst hsz
  have hD := hD0.self (sz := s.heap.size)
  generalize hAe : va_A [(h0, .inr (0, [.null, .int 0, .int 0, .int 0]))] s.heap.size = A at hD ⊢
  have hA : ∀ q : Nat, s.heap.size ≤ q → A q := fun q h => by rw [← hAe]; exact Or.inr h
  have hS : va_S A s.heap s.heap [] := va_S.rf
  have hl := lv_entry ([.ref h0, .ref p1]) (n := 2) (Nat.le_of_ble_eq_true rfl)
  rw [lg_entry_eq]
  generalize (lg_sl ([.ref h0, .ref p1]) ++ List.replicate (2 - (lg_sl ([.ref h0, .ref p1])).length) Slot.unset).toArray = ls at hl ⊢
  have hl : lv_has ls 2 [(0, .ref h0), (1, .ref p1)] := hl
  refine lv_aload_n hx hb dX0_init_0 rfl (lv_at hl 0 rfl) ?_
  refine W.objInit hx hb hown (hts _ tw_258) (hts _ tw_22) (hts _ tw_23) rfl (by rw [hml]; exact hl.1) rfl dX0_init_1 (Nat.le_of_ble_eq_true rfl) (Nat.le_of_ble_eq_true rfl) ?_
  refine W.eq (g2 := F0 m 4 ls []) rfl ?_
  refine lv_aload_n hx hb dX0_init_4 rfl (lv_at hl 0 rfl) ?_
  refine lv_aload_n hx hb dX0_init_5 rfl (lv_at hl 1 rfl) ?_
  refine va_putF (D := D) (ci := 0) (v := .ref p1) (ty := (.array (.object "PromisedSlots$Device"))) (C := RX0) (T := TX0) (N := 4) hx hb hts inX0 tyX0 tyX0_ok nmX0 hown hK hP hD hS 0 rfl rfl 0 (by decide) (hts _ tw_259) (fun _ h9 => h9) rfl hin rfl (by decide +kernel) rfl rfl (Nat.le_of_ble_eq_true rfl) dX0_init_6 (fun H locs hP hD hS => ?_)
  have hP : va_P D classes [(h0, .inr (0, [.ref p1, .int 0, .int 0, .int 0]))] H := hP
  have hD : va_D A [(h0, .inr (0, [.ref p1, .int 0, .int 0, .int 0]))] := hD
  exact W.vret hx hb hr (fun t ht hW => ⟨⟨(), rfl, trivial, by subst ht; exact ⟨hP, hD⟩⟩, hS.F ht⟩) hS.2.2 dX0_init_9
abbrev rm_X3_init : Room := { frames := 1, cells := 5, slots := 32, locals := 12 }
set_option maxHeartbeats 4000000 in
set_option maxRecDepth 100000 in
theorem c_X3_init (l : Launch) (D : va_G) (cI cC cD : ClassId) (h0 sz : Nat) : Met l yX3_init (.code yX3_init cX3_init 1 none :: U0) rm_X3_init (va_Pc [.ref h0] (kPre D cI cC cD sz [(h0, .inr (3, [.int 0, .int 0, .int 0, .int 0, .int 0, .int 0, .int 0, .null, .null, .null, .null, .null]))])) (va_Qv (fun _ : Nat × Nat × Nat × Nat × Nat => True) (fun u t => va_P D classes [(h0, .inr (3, [.int 0, .int 0, .int 0, .int 0, .int 0, .int 0, .int 0, .ref u.1, .ref u.2.1, .ref u.2.2.1, .ref u.2.2.2.1, .ref u.2.2.2.2])), (eI cI u.1 4), (eI cI u.2.1 4), (eI cI u.2.2.1 8), (eI cI u.2.2.2.1 8), (eI cI u.2.2.2.2 8)] t.heap ∧ va_D (va_A [(h0, .inr (3, [.int 0, .int 0, .int 0, .int 0, .int 0, .int 0, .int 0, .null, .null, .null, .null, .null]))] sz) [(h0, .inr (3, [.int 0, .int 0, .int 0, .int 0, .int 0, .int 0, .int 0, .ref u.1, .ref u.2.1, .ref u.2.2.1, .ref u.2.2.2.1, .ref u.2.2.2.2])), (eI cI u.1 4), (eI cI u.2.1 4), (eI cI u.2.2.1 8), (eI cI u.2.2.2.1 8), (eI cI u.2.2.2.2 8)]) (va_A [(h0, .inr (3, [.int 0, .int 0, .int 0, .int 0, .int 0, .int 0, .int 0, .null, .null, .null, .null, .null]))] sz)) 5 32 (va_A [(h0, .inr (3, [.int 0, .int 0, .int 0, .int 0, .int 0, .int 0, .int 0, .null, .null, .null, .null, .null]))] sz) := by
  refine Met.ofW (cc := cX3_init) (maxL := 1) (ret := none) (by decide) rfl ?_
  intro p e s m args below meth c s₁ B hml hv
  obtain ⟨rfl, hsz, hP, hD0, hK, hN, hAC, hAD⟩ := hv
  have hx := B.exec
  have hb := B.bytes
  have hr := B.returns
  have hts0 := atoms_spec (ws := .code yX3_init cX3_init 1 none :: U0) B.pre
  have hts := fun w hw => hts0 w (List.mem_cons_of_mem _ hw)
  have hown : s.vm.findClass RX3 = some m.cls := findClass_of_methodNamed B.named
  have hlocks := B.notSynchronized
  have hin : meth.name = "<init>" := (name_of_methodNamed B.named B.method).1
  subst hsz
  have hD := hD0.self (sz := s.heap.size)
  generalize hAe : va_A [(h0, .inr (3, [.int 0, .int 0, .int 0, .int 0, .int 0, .int 0, .int 0, .null, .null, .null, .null, .null]))] s.heap.size = A at hD ⊢
  have hA : ∀ q : Nat, s.heap.size ≤ q → A q := fun q h => by rw [← hAe]; exact Or.inr h
  have hS : va_S A s.heap s.heap [] := va_S.rf
  have hl := lv_entry ([.ref h0]) (n := 1) (Nat.le_of_ble_eq_true rfl)
  rw [lg_entry_eq]
  generalize (lg_sl ([.ref h0]) ++ List.replicate (1 - (lg_sl ([.ref h0])).length) Slot.unset).toArray = ls at hl ⊢
  have hl : lv_has ls 1 [(0, .ref h0)] := hl
  refine lv_aload_n hx hb dX3_init_0 rfl (lv_at hl 0 rfl) ?_
  refine W.objInit hx hb hown (hts _ tw_69) (hts _ tw_22) (hts _ tw_23) rfl (by rw [hml]; exact hl.1) rfl dX3_init_1 (Nat.le_of_ble_eq_true rfl) (Nat.le_of_ble_eq_true rfl) ?_
  refine W.eq (g2 := F0 m 4 ls []) rfl ?_
  refine lv_aload_n hx hb dX3_init_4 rfl (lv_at hl 0 rfl) ?_
  refine lv_iconst (v := 4) hx hb dX3_init_5 (by decide) ?_
  refine g_newa hx hb (hts _ tw_42) hK hP hD hS hA (N' := 4) (by decide) (by decide) (by decide) (Nat.le_of_ble_eq_true rfl) (Nat.le_of_ble_eq_true rfl) dX3_init_6 (fun q1 H hP hD hS => ?_)
  have hP : va_P D classes [(h0, .inr (3, [.int 0, .int 0, .int 0, .int 0, .int 0, .int 0, .int 0, .null, .null, .null, .null, .null])), (eI cI q1 4)] H := hP
  have hD : va_D A [(h0, .inr (3, [.int 0, .int 0, .int 0, .int 0, .int 0, .int 0, .int 0, .null, .null, .null, .null, .null])), (eI cI q1 4)] := hD
  refine W.widen (k := 1) (n := 4) (Nat.le_refl _) (Nat.le_refl _) ?_
  refine va_putF (D := D) (ci := 3) (v := .ref q1) (ty := (.array .int)) (C := RX3) (T := TX3) (N := 12) hx hb hts inX3 tyX3 tyX3_ok nmX3 hown hK hP hD hS 0 rfl rfl 7 (by decide) (hts _ tw_88) (fun _ h9 => h9) rfl hin rfl (by decide +kernel) rfl rfl (Nat.le_of_ble_eq_true rfl) dX3_init_8 (fun H locs hP hD hS => ?_)
  have hP : va_P D classes [(h0, .inr (3, [.int 0, .int 0, .int 0, .int 0, .int 0, .int 0, .int 0, .ref q1, .null, .null, .null, .null])), (eI cI q1 4)] H := hP
  have hD : va_D A [(h0, .inr (3, [.int 0, .int 0, .int 0, .int 0, .int 0, .int 0, .int 0, .ref q1, .null, .null, .null, .null])), (eI cI q1 4)] := hD
  refine lv_aload_n hx hb dX3_init_11 rfl (lv_at hl 0 rfl) ?_
  refine lv_iconst (v := 4) hx hb dX3_init_12 (by decide) ?_
  refine g_newa hx hb (hts _ tw_42) hK hP hD hS hA (N' := 4) (by decide) (by decide) (by decide) (Nat.le_of_ble_eq_true rfl) (Nat.le_of_ble_eq_true rfl) dX3_init_13 (fun q2 H hP hD hS => ?_)
  have hP : va_P D classes [(h0, .inr (3, [.int 0, .int 0, .int 0, .int 0, .int 0, .int 0, .int 0, .ref q1, .null, .null, .null, .null])), (eI cI q1 4), (eI cI q2 4)] H := hP
  have hD : va_D A [(h0, .inr (3, [.int 0, .int 0, .int 0, .int 0, .int 0, .int 0, .int 0, .ref q1, .null, .null, .null, .null])), (eI cI q1 4), (eI cI q2 4)] := hD
  refine W.widen (k := 2) (n := 8) (Nat.le_refl _) (Nat.le_refl _) ?_
  refine va_putF (D := D) (ci := 3) (v := .ref q2) (ty := (.array .int)) (C := RX3) (T := TX3) (N := 12) hx hb hts inX3 tyX3 tyX3_ok nmX3 hown hK hP hD hS 0 rfl rfl 8 (by decide) (hts _ tw_89) (fun _ h9 => h9) rfl hin rfl (by decide +kernel) rfl rfl (Nat.le_of_ble_eq_true rfl) dX3_init_15 (fun H locs hP hD hS => ?_)
  have hP : va_P D classes [(h0, .inr (3, [.int 0, .int 0, .int 0, .int 0, .int 0, .int 0, .int 0, .ref q1, .ref q2, .null, .null, .null])), (eI cI q1 4), (eI cI q2 4)] H := hP
  have hD : va_D A [(h0, .inr (3, [.int 0, .int 0, .int 0, .int 0, .int 0, .int 0, .int 0, .ref q1, .ref q2, .null, .null, .null])), (eI cI q1 4), (eI cI q2 4)] := hD
  refine lv_aload_n hx hb dX3_init_18 rfl (lv_at hl 0 rfl) ?_
  refine lv_bipush (v := 8) hx hb dX3_init_19 (by decide) ?_
  refine g_newa hx hb (hts _ tw_42) hK hP hD hS hA (N' := 8) (by decide) (by decide) (by decide) (Nat.le_of_ble_eq_true rfl) (Nat.le_of_ble_eq_true rfl) dX3_init_21 (fun q3 H hP hD hS => ?_)
  have hP : va_P D classes [(h0, .inr (3, [.int 0, .int 0, .int 0, .int 0, .int 0, .int 0, .int 0, .ref q1, .ref q2, .null, .null, .null])), (eI cI q1 4), (eI cI q2 4), (eI cI q3 8)] H := hP
  have hD : va_D A [(h0, .inr (3, [.int 0, .int 0, .int 0, .int 0, .int 0, .int 0, .int 0, .ref q1, .ref q2, .null, .null, .null])), (eI cI q1 4), (eI cI q2 4), (eI cI q3 8)] := hD
  refine W.widen (k := 3) (n := 16) (Nat.le_refl _) (Nat.le_refl _) ?_
  refine va_putF (D := D) (ci := 3) (v := .ref q3) (ty := (.array .int)) (C := RX3) (T := TX3) (N := 12) hx hb hts inX3 tyX3 tyX3_ok nmX3 hown hK hP hD hS 0 rfl rfl 9 (by decide) (hts _ tw_90) (fun _ h9 => h9) rfl hin rfl (by decide +kernel) rfl rfl (Nat.le_of_ble_eq_true rfl) dX3_init_23 (fun H locs hP hD hS => ?_)
  have hP : va_P D classes [(h0, .inr (3, [.int 0, .int 0, .int 0, .int 0, .int 0, .int 0, .int 0, .ref q1, .ref q2, .ref q3, .null, .null])), (eI cI q1 4), (eI cI q2 4), (eI cI q3 8)] H := hP
  have hD : va_D A [(h0, .inr (3, [.int 0, .int 0, .int 0, .int 0, .int 0, .int 0, .int 0, .ref q1, .ref q2, .ref q3, .null, .null])), (eI cI q1 4), (eI cI q2 4), (eI cI q3 8)] := hD
  refine lv_aload_n hx hb dX3_init_26 rfl (lv_at hl 0 rfl) ?_
  refine lv_bipush (v := 8) hx hb dX3_init_27 (by decide) ?_
  refine g_newa hx hb (hts _ tw_42) hK hP hD hS hA (N' := 8) (by decide) (by decide) (by decide) (Nat.le_of_ble_eq_true rfl) (Nat.le_of_ble_eq_true rfl) dX3_init_29 (fun q4 H hP hD hS => ?_)
  have hP : va_P D classes [(h0, .inr (3, [.int 0, .int 0, .int 0, .int 0, .int 0, .int 0, .int 0, .ref q1, .ref q2, .ref q3, .null, .null])), (eI cI q1 4), (eI cI q2 4), (eI cI q3 8), (eI cI q4 8)] H := hP
  have hD : va_D A [(h0, .inr (3, [.int 0, .int 0, .int 0, .int 0, .int 0, .int 0, .int 0, .ref q1, .ref q2, .ref q3, .null, .null])), (eI cI q1 4), (eI cI q2 4), (eI cI q3 8), (eI cI q4 8)] := hD
  refine W.widen (k := 4) (n := 24) (Nat.le_refl _) (Nat.le_refl _) ?_
  refine va_putF (D := D) (ci := 3) (v := .ref q4) (ty := (.array .int)) (C := RX3) (T := TX3) (N := 12) hx hb hts inX3 tyX3 tyX3_ok nmX3 hown hK hP hD hS 0 rfl rfl 10 (by decide) (hts _ tw_91) (fun _ h9 => h9) rfl hin rfl (by decide +kernel) rfl rfl (Nat.le_of_ble_eq_true rfl) dX3_init_31 (fun H locs hP hD hS => ?_)
  have hP : va_P D classes [(h0, .inr (3, [.int 0, .int 0, .int 0, .int 0, .int 0, .int 0, .int 0, .ref q1, .ref q2, .ref q3, .ref q4, .null])), (eI cI q1 4), (eI cI q2 4), (eI cI q3 8), (eI cI q4 8)] H := hP
  have hD : va_D A [(h0, .inr (3, [.int 0, .int 0, .int 0, .int 0, .int 0, .int 0, .int 0, .ref q1, .ref q2, .ref q3, .ref q4, .null])), (eI cI q1 4), (eI cI q2 4), (eI cI q3 8), (eI cI q4 8)] := hD
  refine lv_aload_n hx hb dX3_init_34 rfl (lv_at hl 0 rfl) ?_
  refine lv_bipush (v := 8) hx hb dX3_init_35 (by decide) ?_
  refine g_newa hx hb (hts _ tw_42) hK hP hD hS hA (N' := 8) (by decide) (by decide) (by decide) (Nat.le_of_ble_eq_true rfl) (Nat.le_of_ble_eq_true rfl) dX3_init_37 (fun q5 H hP hD hS => ?_)
  have hP : va_P D classes [(h0, .inr (3, [.int 0, .int 0, .int 0, .int 0, .int 0, .int 0, .int 0, .ref q1, .ref q2, .ref q3, .ref q4, .null])), (eI cI q1 4), (eI cI q2 4), (eI cI q3 8), (eI cI q4 8), (eI cI q5 8)] H := hP
  have hD : va_D A [(h0, .inr (3, [.int 0, .int 0, .int 0, .int 0, .int 0, .int 0, .int 0, .ref q1, .ref q2, .ref q3, .ref q4, .null])), (eI cI q1 4), (eI cI q2 4), (eI cI q3 8), (eI cI q4 8), (eI cI q5 8)] := hD
  refine W.widen (k := 5) (n := 32) (Nat.le_refl _) (Nat.le_refl _) ?_
  refine va_putF (D := D) (ci := 3) (v := .ref q5) (ty := (.array .int)) (C := RX3) (T := TX3) (N := 12) hx hb hts inX3 tyX3 tyX3_ok nmX3 hown hK hP hD hS 0 rfl rfl 11 (by decide) (hts _ tw_92) (fun _ h9 => h9) rfl hin rfl (by decide +kernel) rfl rfl (Nat.le_of_ble_eq_true rfl) dX3_init_39 (fun H locs hP hD hS => ?_)
  have hP : va_P D classes [(h0, .inr (3, [.int 0, .int 0, .int 0, .int 0, .int 0, .int 0, .int 0, .ref q1, .ref q2, .ref q3, .ref q4, .ref q5])), (eI cI q1 4), (eI cI q2 4), (eI cI q3 8), (eI cI q4 8), (eI cI q5 8)] H := hP
  have hD : va_D A [(h0, .inr (3, [.int 0, .int 0, .int 0, .int 0, .int 0, .int 0, .int 0, .ref q1, .ref q2, .ref q3, .ref q4, .ref q5])), (eI cI q1 4), (eI cI q2 4), (eI cI q3 8), (eI cI q4 8), (eI cI q5 8)] := hD
  exact W.vret hx hb hr (fun t ht hW => ⟨⟨(q1, q2, q3, q4, q5), rfl, trivial, by subst ht; exact ⟨hP, hD⟩⟩, hS.F ht⟩) hS.2.2 dX3_init_42
abbrev rm_X4_init : Room := { frames := 1, cells := 3, slots := 21, locals := 12 }
set_option maxHeartbeats 4000000 in
set_option maxRecDepth 100000 in
theorem c_X4_init (l : Launch) (D : va_G) (cI cC cD : ClassId) (h0 sz : Nat) : Met l yX4_init (.code yX4_init cX4_init 1 none :: U0) rm_X4_init (va_Pc [.ref h0] (kPre D cI cC cD sz [(h0, .inr (4, [.null, .null, .null, .int 0]))])) (va_Qv (fun _ : Nat × Nat × Nat => True) (fun u t => va_P D classes [(h0, .inr (4, [.ref u.1, .ref u.2.1, .ref u.2.2, .int 0])), (eI cI u.1 7), (eI cI u.2.1 7), (eI cI u.2.2 7)] t.heap ∧ va_D (va_A [(h0, .inr (4, [.null, .null, .null, .int 0]))] sz) [(h0, .inr (4, [.ref u.1, .ref u.2.1, .ref u.2.2, .int 0])), (eI cI u.1 7), (eI cI u.2.1 7), (eI cI u.2.2 7)]) (va_A [(h0, .inr (4, [.null, .null, .null, .int 0]))] sz)) 3 21 (va_A [(h0, .inr (4, [.null, .null, .null, .int 0]))] sz) := by
  refine Met.ofW (cc := cX4_init) (maxL := 1) (ret := none) (by decide) rfl ?_
  intro p e s m args below meth c s₁ B hml hv
  obtain ⟨rfl, hsz, hP, hD0, hK, hN, hAC, hAD⟩ := hv
  have hx := B.exec
  have hb := B.bytes
  have hr := B.returns
  have hts0 := atoms_spec (ws := .code yX4_init cX4_init 1 none :: U0) B.pre
  have hts := fun w hw => hts0 w (List.mem_cons_of_mem _ hw)
  have hown : s.vm.findClass RX4 = some m.cls := findClass_of_methodNamed B.named
  have hlocks := B.notSynchronized
  have hin : meth.name = "<init>" := (name_of_methodNamed B.named B.method).1
  subst hsz
  have hD := hD0.self (sz := s.heap.size)
  generalize hAe : va_A [(h0, .inr (4, [.null, .null, .null, .int 0]))] s.heap.size = A at hD ⊢
  have hA : ∀ q : Nat, s.heap.size ≤ q → A q := fun q h => by rw [← hAe]; exact Or.inr h
  have hS : va_S A s.heap s.heap [] := va_S.rf
  have hl := lv_entry ([.ref h0]) (n := 1) (Nat.le_of_ble_eq_true rfl)
  rw [lg_entry_eq]
  generalize (lg_sl ([.ref h0]) ++ List.replicate (1 - (lg_sl ([.ref h0])).length) Slot.unset).toArray = ls at hl ⊢
  have hl : lv_has ls 1 [(0, .ref h0)] := hl
  refine lv_aload_n hx hb dX4_init_0 rfl (lv_at hl 0 rfl) ?_
  refine W.objInit hx hb hown (hts _ tw_130) (hts _ tw_22) (hts _ tw_23) rfl (by rw [hml]; exact hl.1) rfl dX4_init_1 (Nat.le_of_ble_eq_true rfl) (Nat.le_of_ble_eq_true rfl) ?_
  refine W.eq (g2 := F0 m 4 ls []) rfl ?_
  refine lv_aload_n hx hb dX4_init_4 rfl (lv_at hl 0 rfl) ?_
  refine lv_bipush (v := 7) hx hb dX4_init_5 (by decide) ?_
  refine g_newa hx hb (hts _ tw_42) hK hP hD hS hA (N' := 7) (by decide) (by decide) (by decide) (Nat.le_of_ble_eq_true rfl) (Nat.le_of_ble_eq_true rfl) dX4_init_7 (fun q1 H hP hD hS => ?_)
  have hP : va_P D classes [(h0, .inr (4, [.null, .null, .null, .int 0])), (eI cI q1 7)] H := hP
  have hD : va_D A [(h0, .inr (4, [.null, .null, .null, .int 0])), (eI cI q1 7)] := hD
  refine W.widen (k := 1) (n := 7) (Nat.le_refl _) (Nat.le_refl _) ?_
  refine va_putF (D := D) (ci := 4) (v := .ref q1) (ty := (.array .int)) (C := RX4) (T := TX4) (N := 4) hx hb hts inX4 tyX4 tyX4_ok nmX4 hown hK hP hD hS 0 rfl rfl 0 (by decide) (hts _ tw_131) (fun _ h9 => h9) rfl hin rfl (by decide +kernel) rfl rfl (Nat.le_of_ble_eq_true rfl) dX4_init_9 (fun H locs hP hD hS => ?_)
  have hP : va_P D classes [(h0, .inr (4, [.ref q1, .null, .null, .int 0])), (eI cI q1 7)] H := hP
  have hD : va_D A [(h0, .inr (4, [.ref q1, .null, .null, .int 0])), (eI cI q1 7)] := hD
  refine lv_aload_n hx hb dX4_init_12 rfl (lv_at hl 0 rfl) ?_
  refine lv_bipush (v := 7) hx hb dX4_init_13 (by decide) ?_
  refine g_newa hx hb (hts _ tw_42) hK hP hD hS hA (N' := 7) (by decide) (by decide) (by decide) (Nat.le_of_ble_eq_true rfl) (Nat.le_of_ble_eq_true rfl) dX4_init_15 (fun q2 H hP hD hS => ?_)
  have hP : va_P D classes [(h0, .inr (4, [.ref q1, .null, .null, .int 0])), (eI cI q1 7), (eI cI q2 7)] H := hP
  have hD : va_D A [(h0, .inr (4, [.ref q1, .null, .null, .int 0])), (eI cI q1 7), (eI cI q2 7)] := hD
  refine W.widen (k := 2) (n := 14) (Nat.le_refl _) (Nat.le_refl _) ?_
  refine va_putF (D := D) (ci := 4) (v := .ref q2) (ty := (.array .int)) (C := RX4) (T := TX4) (N := 4) hx hb hts inX4 tyX4 tyX4_ok nmX4 hown hK hP hD hS 0 rfl rfl 1 (by decide) (hts _ tw_132) (fun _ h9 => h9) rfl hin rfl (by decide +kernel) rfl rfl (Nat.le_of_ble_eq_true rfl) dX4_init_17 (fun H locs hP hD hS => ?_)
  have hP : va_P D classes [(h0, .inr (4, [.ref q1, .ref q2, .null, .int 0])), (eI cI q1 7), (eI cI q2 7)] H := hP
  have hD : va_D A [(h0, .inr (4, [.ref q1, .ref q2, .null, .int 0])), (eI cI q1 7), (eI cI q2 7)] := hD
  refine lv_aload_n hx hb dX4_init_20 rfl (lv_at hl 0 rfl) ?_
  refine lv_bipush (v := 7) hx hb dX4_init_21 (by decide) ?_
  refine g_newa hx hb (hts _ tw_42) hK hP hD hS hA (N' := 7) (by decide) (by decide) (by decide) (Nat.le_of_ble_eq_true rfl) (Nat.le_of_ble_eq_true rfl) dX4_init_23 (fun q3 H hP hD hS => ?_)
  have hP : va_P D classes [(h0, .inr (4, [.ref q1, .ref q2, .null, .int 0])), (eI cI q1 7), (eI cI q2 7), (eI cI q3 7)] H := hP
  have hD : va_D A [(h0, .inr (4, [.ref q1, .ref q2, .null, .int 0])), (eI cI q1 7), (eI cI q2 7), (eI cI q3 7)] := hD
  refine W.widen (k := 3) (n := 21) (Nat.le_refl _) (Nat.le_refl _) ?_
  refine va_putF (D := D) (ci := 4) (v := .ref q3) (ty := (.array .int)) (C := RX4) (T := TX4) (N := 4) hx hb hts inX4 tyX4 tyX4_ok nmX4 hown hK hP hD hS 0 rfl rfl 2 (by decide) (hts _ tw_133) (fun _ h9 => h9) rfl hin rfl (by decide +kernel) rfl rfl (Nat.le_of_ble_eq_true rfl) dX4_init_25 (fun H locs hP hD hS => ?_)
  have hP : va_P D classes [(h0, .inr (4, [.ref q1, .ref q2, .ref q3, .int 0])), (eI cI q1 7), (eI cI q2 7), (eI cI q3 7)] H := hP
  have hD : va_D A [(h0, .inr (4, [.ref q1, .ref q2, .ref q3, .int 0])), (eI cI q1 7), (eI cI q2 7), (eI cI q3 7)] := hD
  exact W.vret hx hb hr (fun t ht hW => ⟨⟨(q1, q2, q3), rfl, trivial, by subst ht; exact ⟨hP, hD⟩⟩, hS.F ht⟩) hS.2.2 dX4_init_28
abbrev rm_X1_init : Room := { frames := 2, cells := 5, slots := 409, locals := 32 }
set_option maxHeartbeats 4000000 in
set_option maxRecDepth 100000 in
theorem c_X1_init (l : Launch) (D : va_G) (cI cC cD : ClassId) (h0 sz : Nat) : Met l yX1_init (.code yX1_init cX1_init 1 none :: U0) rm_X1_init (va_Pc [.ref h0] (kPre D cI cC cD sz [(h0, .inr (1, [.int 0, .int 0, .int 0, .int 0, .int 0, .null, .null]))])) (va_Qv (fun _ : Nat × Nat × Nat × Nat × Nat => True) (fun u t => va_P D classes [(h0, .inr (1, [.int 0, .int 0, .int 0, .int 0, .int 0, .ref u.1, .ref u.2.2.2.2])), (u.1, .inr (4, [.ref u.2.1, .ref u.2.2.1, .ref u.2.2.2.1, .int 0])), (eI cI u.2.1 7), (eI cI u.2.2.1 7), (eI cI u.2.2.2.1 7), (eI cI u.2.2.2.2 384)] t.heap ∧ va_D (va_A [(h0, .inr (1, [.int 0, .int 0, .int 0, .int 0, .int 0, .null, .null]))] sz) [(h0, .inr (1, [.int 0, .int 0, .int 0, .int 0, .int 0, .ref u.1, .ref u.2.2.2.2])), (u.1, .inr (4, [.ref u.2.1, .ref u.2.2.1, .ref u.2.2.2.1, .int 0])), (eI cI u.2.1 7), (eI cI u.2.2.1 7), (eI cI u.2.2.2.1 7), (eI cI u.2.2.2.2 384)]) (va_A [(h0, .inr (1, [.int 0, .int 0, .int 0, .int 0, .int 0, .null, .null]))] sz)) 5 409 (va_A [(h0, .inr (1, [.int 0, .int 0, .int 0, .int 0, .int 0, .null, .null]))] sz) := by
  refine Met.ofW (cc := cX1_init) (maxL := 1) (ret := none) (by decide) rfl ?_
  intro p e s m args below meth c s₁ B hml hv
  obtain ⟨rfl, hsz, hP, hD0, hK, hN, hAC, hAD⟩ := hv
  have hx := B.exec
  have hb := B.bytes
  have hr := B.returns
  have hts0 := atoms_spec (ws := .code yX1_init cX1_init 1 none :: U0) B.pre
  have hts := fun w hw => hts0 w (List.mem_cons_of_mem _ hw)
  have hown : s.vm.findClass RX1 = some m.cls := findClass_of_methodNamed B.named
  have hlocks := B.notSynchronized
  have hin : meth.name = "<init>" := (name_of_methodNamed B.named B.method).1
  subst hsz
  have hD := hD0.self (sz := s.heap.size)
  generalize hAe : va_A [(h0, .inr (1, [.int 0, .int 0, .int 0, .int 0, .int 0, .null, .null]))] s.heap.size = A at hD ⊢
  have hA : ∀ q : Nat, s.heap.size ≤ q → A q := fun q h => by rw [← hAe]; exact Or.inr h
  have hS : va_S A s.heap s.heap [] := va_S.rf
  have hl := lv_entry ([.ref h0]) (n := 1) (Nat.le_of_ble_eq_true rfl)
  rw [lg_entry_eq]
  generalize (lg_sl ([.ref h0]) ++ List.replicate (1 - (lg_sl ([.ref h0])).length) Slot.unset).toArray = ls at hl ⊢
  have hl : lv_has ls 1 [(0, .ref h0)] := hl
  refine lv_aload_n hx hb dX1_init_0 rfl (lv_at hl 0 rfl) ?_
  refine W.objInit hx hb hown (hts _ tw_124) (hts _ tw_22) (hts _ tw_23) rfl (by rw [hml]; exact hl.1) rfl dX1_init_1 (Nat.le_of_ble_eq_true rfl) (Nat.le_of_ble_eq_true rfl) ?_
  refine W.eq (g2 := F0 m 4 ls []) rfl ?_
  refine lv_aload_n hx hb dX1_init_4 rfl (lv_at hl 0 rfl) ?_
  refine va_new (ci := 4) (fs := dvX4) (C := RX4) (T := TX4) (N := 4) hx hb hts inX4 tyX4 tyX4_ok hown (hts _ tw_125) (hts _ ti_X4) (hts _ tw_7) hK hP hD hS hA rfl dfX4 (Nat.le_of_ble_eq_true rfl) (Nat.le_of_ble_eq_true rfl) dX1_init_5 (fun q1 H hP hD hS => ?_)
  have hP : va_P D classes [(h0, .inr (1, [.int 0, .int 0, .int 0, .int 0, .int 0, .null, .null])), (q1, .inr (4, [.null, .null, .null, .int 0]))] H := hP
  have hD : va_D A [(h0, .inr (1, [.int 0, .int 0, .int 0, .int 0, .int 0, .null, .null])), (q1, .inr (4, [.null, .null, .null, .int 0]))] := hD
  refine W.widen (k := 1) (n := 4) (Nat.le_refl _) (Nat.le_refl _) ?_
  refine lv_dup hx hb dX1_init_8 rfl ?_
  have hPc := hP.sub (ws' := [(q1, .inr (4, [.null, .null, .null, .int 0]))]) [1] rfl
  have hDc := hD.sub (ws' := [(q1, .inr (4, [.null, .null, .null, .int 0]))]) [1] (by decide) rfl
  have hFc := va_free (wc := [(q1, .inr (4, [.null, .null, .null, .int 0]))]) hD hS hA [1] rfl
  refine va_callv (va_runIN (As := []) (rest := [.ref q1, .ref h0]) ⟨hx, hb, hml, hown, hts⟩ (c_X4_init l D cI cC cD q1 H.size) ⟨va_cnB 0 hts (g_good1 tw_129) rfl rfl rfl (hN _ tw_127) (hts _ tw_7) (by decide +kernel) ⟨Nat.le_of_ble_eq_true rfl, Nat.le_of_ble_eq_true rfl⟩, rfl, hts _ tw_128⟩ ⟨k_blind, fun U hU hW => ⟨rfl, by rw [hU], by rw [hU]; exact hPc, hDc.weaken (fun _ _ _ _ => trivial), va_K.moved hW.alike hK, hasN.warm hW hN, hAC.moved hW.alike, hAD.moved hW.alike⟩⟩ rfl rfl hl.1 rfl (lv_room (Nat.le_of_ble_eq_true rfl)) dX1_init_9 ⟨Nat.le_of_ble_eq_true rfl, Nat.le_of_ble_eq_true rfl⟩) hS (fun q _ h => hFc q h) hFc (fun u t H1 locs ht hvm hw hB hz1 hk1 hS => ?_)
  obtain ⟨q2, q3, q4⟩ := u
  subst ht
  obtain ⟨hP1, hD1⟩ := hB
  have hP1 : va_P D classes [(q1, .inr (4, [.ref q2, .ref q3, .ref q4, .int 0])), (eI cI q2 7), (eI cI q3 7), (eI cI q4 7)] t.heap := hP1
  have hD1 : va_D (va_A [(q1, .inr (4, [.null, .null, .null, .int 0]))] H.size) [(q1, .inr (4, [.ref q2, .ref q3, .ref q4, .int 0])), (eI cI q2 7), (eI cI q3 7), (eI cI q4 7)] := hD1
  obtain ⟨hP, hD⟩ := va_join (wr := [(h0, .inr (1, [.int 0, .int 0, .int 0, .int 0, .int 0, .null, .null]))]) (w1 := [(q1, .inr (4, [.ref q2, .ref q3, .ref q4, .int 0])), (eI cI q2 7), (eI cI q3 7), (eI cI q4 7)]) hP hD [1] [0] rfl rfl (by decide) (by decide) hk1 hFc hP1 hD1
  generalize t.heap = H at hP hS ⊢
  have hP : va_P D classes [(h0, .inr (1, [.int 0, .int 0, .int 0, .int 0, .int 0, .null, .null])), (q1, .inr (4, [.ref q2, .ref q3, .ref q4, .int 0])), (eI cI q2 7), (eI cI q3 7), (eI cI q4 7)] H := hP
  have hD : va_D A [(h0, .inr (1, [.int 0, .int 0, .int 0, .int 0, .int 0, .null, .null])), (q1, .inr (4, [.ref q2, .ref q3, .ref q4, .int 0])), (eI cI q2 7), (eI cI q3 7), (eI cI q4 7)] := hD
  refine W.widen (k := 4) (n := 25) (Nat.le_refl _) (Nat.le_refl _) ?_
  refine va_putF (D := D) (ci := 1) (v := .ref q1) (ty := (.object "PromisedSlots$Promises")) (C := RX1) (T := TX1) (N := 7) hx hb hts inX1 tyX1 tyX1_ok nmX1 hown hK hP hD hS 0 rfl rfl 5 (by decide) (hts _ tw_152) (fun _ h9 => h9) rfl hin rfl (by decide +kernel) rfl rfl (Nat.le_of_ble_eq_true rfl) dX1_init_12 (fun H locs hP hD hS => ?_)
  have hP : va_P D classes [(h0, .inr (1, [.int 0, .int 0, .int 0, .int 0, .int 0, .ref q1, .null])), (q1, .inr (4, [.ref q2, .ref q3, .ref q4, .int 0])), (eI cI q2 7), (eI cI q3 7), (eI cI q4 7)] H := hP
  have hD : va_D A [(h0, .inr (1, [.int 0, .int 0, .int 0, .int 0, .int 0, .ref q1, .null])), (q1, .inr (4, [.ref q2, .ref q3, .ref q4, .int 0])), (eI cI q2 7), (eI cI q3 7), (eI cI q4 7)] := hD
  refine lv_aload_n hx hb dX1_init_15 rfl (lv_at hl 0 rfl) ?_
  refine lv_sipush (v := 384) hx hb dX1_init_16 (by decide) ?_
  refine g_newa hx hb (hts _ tw_42) hK hP hD hS hA (N' := 384) (by decide) (by decide) (by decide) (Nat.le_of_ble_eq_true rfl) (Nat.le_of_ble_eq_true rfl) dX1_init_19 (fun q5 H hP hD hS => ?_)
  have hP : va_P D classes [(h0, .inr (1, [.int 0, .int 0, .int 0, .int 0, .int 0, .ref q1, .null])), (q1, .inr (4, [.ref q2, .ref q3, .ref q4, .int 0])), (eI cI q2 7), (eI cI q3 7), (eI cI q4 7), (eI cI q5 384)] H := hP
  have hD : va_D A [(h0, .inr (1, [.int 0, .int 0, .int 0, .int 0, .int 0, .ref q1, .null])), (q1, .inr (4, [.ref q2, .ref q3, .ref q4, .int 0])), (eI cI q2 7), (eI cI q3 7), (eI cI q4 7), (eI cI q5 384)] := hD
  refine W.widen (k := 5) (n := 409) (Nat.le_refl _) (Nat.le_refl _) ?_
  refine va_putF (D := D) (ci := 1) (v := .ref q5) (ty := (.array .int)) (C := RX1) (T := TX1) (N := 7) hx hb hts inX1 tyX1 tyX1_ok nmX1 hown hK hP hD hS 0 rfl rfl 6 (by decide) (hts _ tw_154) (fun _ h9 => h9) rfl hin rfl (by decide +kernel) rfl rfl (Nat.le_of_ble_eq_true rfl) dX1_init_21 (fun H locs hP hD hS => ?_)
  have hP : va_P D classes [(h0, .inr (1, [.int 0, .int 0, .int 0, .int 0, .int 0, .ref q1, .ref q5])), (q1, .inr (4, [.ref q2, .ref q3, .ref q4, .int 0])), (eI cI q2 7), (eI cI q3 7), (eI cI q4 7), (eI cI q5 384)] H := hP
  have hD : va_D A [(h0, .inr (1, [.int 0, .int 0, .int 0, .int 0, .int 0, .ref q1, .ref q5])), (q1, .inr (4, [.ref q2, .ref q3, .ref q4, .int 0])), (eI cI q2 7), (eI cI q3 7), (eI cI q4 7), (eI cI q5 384)] := hD
  exact W.vret hx hb hr (fun t ht hW => ⟨⟨(q1, q2, q3, q4, q5), rfl, trivial, by subst ht; exact ⟨hP, hD⟩⟩, hS.F ht⟩) hS.2.2 dX1_init_24
abbrev rm_X2_init : Room := { frames := 1, cells := 0, slots := 0, locals := 12 }
set_option maxHeartbeats 4000000 in
set_option maxRecDepth 100000 in
theorem c_X2_init (l : Launch) (D : va_G) (cI cC cD : ClassId) (h0 sz : Nat) (p1 : Int32) : Met l yX2_init (.code yX2_init cX2_init 2 none :: U0) rm_X2_init (va_Pc [.ref h0, .int p1] (kPre D cI cC cD sz [(eD h0 0)])) (va_Qv (fun _ : Unit => True) (fun u t => va_P D classes [(eD h0 p1)] t.heap ∧ va_D (va_A [(eD h0 0)] sz) [(eD h0 p1)]) (va_A [(eD h0 0)] sz)) 0 0 (va_A [(eD h0 0)] sz) := by
  refine Met.ofW (cc := cX2_init) (maxL := 2) (ret := none) (by decide) rfl ?_
  intro p e s m args below meth c s₁ B hml hv
  obtain ⟨rfl, hsz, hP, hD0, hK, hN, hAC, hAD⟩ := hv
  have hx := B.exec
  have hb := B.bytes
  have hr := B.returns
  have hts0 := atoms_spec (ws := .code yX2_init cX2_init 2 none :: U0) B.pre
  have hts := fun w hw => hts0 w (List.mem_cons_of_mem _ hw)
  have hown : s.vm.findClass RX2 = some m.cls := findClass_of_methodNamed B.named
  have hlocks := B.notSynchronized
  have hin : meth.name = "<init>" := (name_of_methodNamed B.named B.method).1
  subst hsz
  have hD := hD0.self (sz := s.heap.size)
  generalize hAe : va_A [(eD h0 0)] s.heap.size = A at hD ⊢
  have hA : ∀ q : Nat, s.heap.size ≤ q → A q := fun q h => by rw [← hAe]; exact Or.inr h
  have hS : va_S A s.heap s.heap [] := va_S.rf
  have hl := lv_entry ([.ref h0, .int p1]) (n := 2) (Nat.le_of_ble_eq_true rfl)
  rw [lg_entry_eq]
  generalize (lg_sl ([.ref h0, .int p1]) ++ List.replicate (2 - (lg_sl ([.ref h0, .int p1])).length) Slot.unset).toArray = ls at hl ⊢
  have hl : lv_has ls 2 [(0, .ref h0), (1, .int p1)] := hl
  refine lv_aload_n hx hb dX2_init_0 rfl (lv_at hl 0 rfl) ?_
  refine W.objInit hx hb hown (hts _ tw_177) (hts _ tw_22) (hts _ tw_23) rfl (by rw [hml]; exact hl.1) rfl dX2_init_1 (Nat.le_of_ble_eq_true rfl) (Nat.le_of_ble_eq_true rfl) ?_
  refine W.eq (g2 := F0 m 4 ls []) rfl ?_
  refine lv_aload_n hx hb dX2_init_4 rfl (lv_at hl 0 rfl) ?_
  refine lv_iload_n hx hb dX2_init_5 rfl (lv_at hl 1 rfl) ?_
  refine va_putF (D := D) (ci := 2) (v := .int p1) (ty := .int) (C := RX2) (T := TX2) (N := 20) hx hb hts inX2 tyX2 tyX2_ok nmX2 hown hK hP hD hS 0 rfl rfl 0 (by decide) (hts _ tw_178) (fun _ h9 => h9) rfl hin rfl (by decide +kernel) rfl rfl (Nat.le_of_ble_eq_true rfl) dX2_init_6 (fun H locs hP hD hS => ?_)
  have hP : va_P D classes [(eD h0 p1)] H := hP
  have hD : va_D A [(eD h0 p1)] := hD
  exact W.vret hx hb hr (fun t ht hW => ⟨⟨(), rfl, trivial, by subst ht; exact ⟨hP, hD⟩⟩, hS.F ht⟩) hS.2.2 dX2_init_9
