theorem ti_X8 : (Jvm.Cond.instantiable "PromisedSlotsModel" (58 : Nat)) ∈ U0 := mkU 818 _ (by decide +kernel) rfl
abbrev f8 (pa : Nat → Option Nat) : List Value := [.int 0, va_rf (pa 1), .int 0, .int 0, va_rf (pa 4), .int 0, .int 0, .int 0, .int 0, .int 0, va_rf (pa 10), va_rf (pa 11), .int 0, va_rf (pa 13), va_rf (pa 14), va_rf (pa 15), .int 0, .int 0, .int 0, .int 0, .int 0, .int 0, .int 0, .int 0, .int 0, va_rf (pa 25), va_rf (pa 26), va_rf (pa 27), va_rf (pa 28), va_rf (pa 29), va_rf (pa 30), va_rf (pa 31), va_rf (pa 32), va_rf (pa 33), va_rf (pa 34), .int 0, va_rf (pa 36), va_rf (pa 37), va_rf (pa 38), va_rf (pa 39), va_rf (pa 40), va_rf (pa 41), va_rf (pa 42), va_rf (pa 43), va_rf (pa 44), va_rf (pa 45), va_rf (pa 46), va_rf (pa 47), va_rf (pa 48), va_rf (pa 49), va_rf (pa 50), va_rf (pa 51), va_rf (pa 52), va_rf (pa 53), va_rf (pa 54), va_rf (pa 55), .int 0, .int 0]
def kPre (D : va_G) (cI cC cD : ClassId) (sz : Nat) (ws : va_W) (U : State) : Prop := U.heap.size = sz ∧ va_P D classes ws U.heap ∧ va_D (fun _ => True) ws ∧ va_K D classes [(cI, .int), (cC, .object "PromisedSlots$Coordinator"), (cD, .object "PromisedSlots$Device")] U ∧ hasN U ∧ va_AO "PromisedSlots$Coordinator" U ∧ va_AO "PromisedSlots$Device" U
theorem k_blind {av : List Value} {D : va_G} {cI cC cD : ClassId} {sz : Nat} {ws : va_W} : FrameBlind (va_Pc av (kPre D cI cC cD sz ws)) := fun a U g mk q => ⟨q.1, q.2.1, q.2.2.1, q.2.2.2.1, va_K.moved (u := U) (U := U.calling g mk a) (Vm.Alike.refl U.vm) q.2.2.2.2.1, hasN.same (u := U) (U := U.calling g mk a) rfl q.2.2.2.2.2.1, va_AO.moved (u := U) (U := U.calling g mk a) (Vm.Alike.refl U.vm) q.2.2.2.2.2.2.1, va_AO.moved (u := U) (U := U.calling g mk a) (Vm.Alike.refl U.vm) q.2.2.2.2.2.2.2⟩
section S8
variable {p : Program} {l : Launch} {e : Env} {R : Room} {s : State} {m : MethodId} {args : Array Value} {below : List Frame} {meth : Method} {c : Code} {H : Heap} {locs : List Loc} {cells slots : Nat} {Q : State → Prop}
variable {pc nL : Nat} {ls : Array Slot} {A : Nat → Prop} {D : va_G} {cI : ClassId} {tys : List (ClassId × FieldType)} {arrs : va_W} {H0 : Heap} {pa : Nat → Option Nat} {h0 : Nat}
abbrev w8 (cI : ClassId) (h0 : Nat) (pa : Nat → Option Nat) (js : List Nat) : va_W := (h0, .inr (8, f8 pa)) :: js.map (fun i => ((pa i).getD h0, .inl (cI, mn i, .inl (fun _ => 0))))
/-- a new array of ints into a final field of the reference -/
theorem m8_step (hx : p.tables.exec = Jvm.exec) (hb : c.code = cX8_init) (hts : ∀ w ∈ U0, w.before args s = true) (hown : s.vm.findClass RX8 = some m.cls) (hin : meth.name = "<init>") (hK : va_K D classes ((cI, .int) :: tys) s) {js : List Nat} (hpa : pa 0 = none ∧ ∀ i ∈ js, (pa i).isSome = true) (hP : va_P D classes (w8 cI h0 pa js) H) (hD : va_D A (w8 cI h0 pa js)) (hS : va_S A s.heap H locs) (hA : ∀ q, s.heap.size ≤ q → A q) (j : Nat) (hj : j < 58) (hj0 : j ≠ 0) (hjs : j ∉ js) {n : Int32} {N' : Nat} (hmn : mn j = N') (hn : ¬ n < 0) (hN : n.toNatClampNeg = N') (hbytes : N' * 4 ≤ 536870912) (hcells : cells + 1 ≤ R.cells) (hslots : slots + N' ≤ R.slots)
    {idx : Nat} (hlink : Cond.fieldLink RX8 idx RX8 (TX8 j).2.1 (TX8 j).2.2.1 ∈ U0) (hcl : (TX8 j).1 = RX8) (hfin : (TX8 j).2.2.2 = true) (hty : tyX8 j = .array .int) (hset : ∀ q, (f8 pa).set j (.ref q) = f8 (va_up pa j (some q)))
    (d1 : decode cX8_init pc = .ok (.newarray .int, 2)) (d2 : decode cX8_init (pc + 2) = .ok (.putfield idx, 3)) {pc' c' s' : Nat} (hpc : pc + 5 = pc') (hc' : cells + 1 = c') (hs' : slots + N' = s')
    (kk : ∀ (pa' : Nat → Option Nat) (H1 : Heap) (locs1 : List Loc), (pa' 0 = none ∧ ∀ i ∈ js ++ [j], (pa' i).isSome = true) → va_P D classes (w8 cI h0 pa' (js ++ [j])) H1 → va_D A (w8 cI h0 pa' (js ++ [j])) → va_S A s.heap H1 locs1 → W p l e R s m args below meth c H1 locs1 c' s' Q (F0 m pc' ls [])) :
    W p l e R s m args below meth c H locs cells slots Q (F0 m pc ls [.int n, .ref h0]) := by
  subst hpc
  subst hc'
  subst hs'
  refine g_newa hx hb (hts _ tw_42) hK hP hD hS hA hn hN hbytes hcells hslots d1 (fun q H hP hD hS => ?_)
  refine va_putF (D := D) (ci := 8) (v := .ref q) (ty := .array .int) (C := RX8) (T := TX8) (N := 58) hx hb hts inX8 tyX8 tyX8_ok nmX8 hown hK hP hD hS 0 rfl rfl j hj (hts _ hlink) (fun x h => by rw [← hcl]; exact h) hfin hin hcl (by rw [tyX8_ok j hj, hty]) rfl rfl hj d2 (fun H locs hP hD hS => ?_)
  rw [hset] at hP hD
  have ew : (h0, .inr (8, f8 (va_up pa j (some q)))) :: (js.map (fun i => ((pa i).getD h0, (.inl (cI, mn i, .inl (fun _ => 0)) : va_E))) ++ [(q, .inl (cI, N', .inl (fun _ => 0)))]) = w8 cI h0 (va_up pa j (some q)) (js ++ [j]) := by
    have e1 : js.map (fun i => (((va_up pa j (some q)) i).getD h0, (.inl (cI, mn i, .inl (fun _ => 0)) : va_E))) = js.map (fun i => ((pa i).getD h0, (.inl (cI, mn i, .inl (fun _ => 0)) : va_E))) := List.map_congr_left (fun i hi => by
      have : i ≠ j := fun e => hjs (e ▸ hi)
      simp [va_up, this])
    simp only [w8, List.map_append, e1, List.map_cons, List.map_nil]
    simp [va_up, hmn]
  refine kk (va_up pa j (some q)) H locs ⟨by simp [va_up, hj0.symm, hpa.1], fun i hi => ?_⟩ (ew ▸ hP) (ew ▸ hD) hS
  by_cases e : i = j
  · simp [va_up, e]
  · simp only [va_up, if_neg e]
    rcases List.mem_append.mp hi with h | h
    · exact hpa.2 i h
    · exact absurd (List.mem_singleton.mp h) e
end S8
/-- what the constructor does behind its makings -/
def f_X8_init : Option (Unit × St) :=
  vl (fun _ _ => 0 : St) fun z0 =>
  cl (f_X8_empty z0) fun _ z1 =>
  vl (up2 z1 0 5 (4 : Int32)) fun z2 =>
  vl (up2 z2 0 6 (1 : Int32)) fun z3 =>
  vl (up2 z3 0 7 (8 : Int32)) fun z4 =>
  cl (f_X8_deviceIs (0 : Int32) (2 : Int32) (3 : Int32) z4) fun _ z5 =>
  cl (f_X8_deviceIs (0 : Int32) (1 : Int32) (2 : Int32) z5) fun _ z6 =>
  cl (f_X8_deviceIs (0 : Int32) (3 : Int32) (1 : Int32) z6) fun _ z7 =>
  cl (f_X8_coordIs (0 : Int32) (192 : Int32) z7) fun _ z8 =>
  cl (f_X8_deviceIs (1 : Int32) (2 : Int32) (3 : Int32) z8) fun _ z9 =>
  cl (f_X8_deviceIs (1 : Int32) (1 : Int32) (2 : Int32) z9) fun _ z10 =>
  cl (f_X8_coordIs (0 : Int32) (400 : Int32) z10) fun _ z11 =>
  cl (f_X8_deviceIs (2 : Int32) (2 : Int32) (1 : Int32) z11) fun _ z12 =>
  vl (up2 z12 0 8 (3 : Int32)) fun z13 =>
  cl (f_X8_begin z13) fun _ z14 =>
  some ((), z14)
abbrev rm_X8_init : Room := { frames := 2, cells := 37, slots := 2039, locals := 44 }
set_option maxRecDepth 100000 in
set_option maxHeartbeats 4000000 in
theorem w8_same (D : va_G) (cI : ClassId) (h0 : Nat) (pa : Nat → Option Nat) (h : pa 0 = none ∧ ∀ i ∈ mL.tail, (pa i).isSome = true) : w8 cI h0 pa mL.tail = gWS (mG (D, cI, fun k => (pa k).getD h0)) (fun _ _ => 0) := by
  have hv : ∀ i ∈ mL.tail, va_rf (pa i) = .ref ((pa i).getD h0) := by
    intro i hi
    have := h.2 i hi
    cases hp : pa i with
    | none => rw [hp] at this; cases this
    | some q => rfl
  have e1 : f8 pa = fs8 (D, cI, fun k => (pa k).getD h0) (fun _ => 0) := by
    simp only [f8, fs8, hv 1 (by decide), hv 4 (by decide), hv 10 (by decide), hv 11 (by decide), hv 13 (by decide), hv 14 (by decide), hv 15 (by decide), hv 25 (by decide), hv 26 (by decide), hv 27 (by decide), hv 28 (by decide), hv 29 (by decide), hv 30 (by decide), hv 31 (by decide), hv 32 (by decide), hv 33 (by decide), hv 34 (by decide), hv 36 (by decide), hv 37 (by decide), hv 38 (by decide), hv 39 (by decide), hv 40 (by decide), hv 41 (by decide), hv 42 (by decide), hv 43 (by decide), hv 44 (by decide), hv 45 (by decide), hv 46 (by decide), hv 47 (by decide), hv 48 (by decide), hv 49 (by decide), hv 50 (by decide), hv 51 (by decide), hv 52 (by decide), hv 53 (by decide), hv 54 (by decide), hv 55 (by decide)]
  have e2 : (pa 0).getD h0 = h0 := by rw [h.1]; rfl
  have e3 : ∀ k ∈ mL.tail, mCe (D, cI, fun k => (pa k).getD h0) k (fun _ => 0) = .inl (cI, mn k, .inl (fun _ => 0)) := fun k hk => if_neg (by intro e; subst e; revert hk; decide)
  show _ = ((pa 0).getD h0, mCe (D, cI, fun k => (pa k).getD h0) 0 (fun _ => 0)) :: mL.tail.map (fun k => ((pa k).getD h0, mCe (D, cI, fun k => (pa k).getD h0) k (fun _ => 0)))
  rw [me_0, e2, ← e1]
  congr 1
/-- what a picture's cells being apart says of its addresses -/
theorem gIj_of {Γ : gEv} {σ : St} {A : Nat → Prop} (hn : Γ.2.2.1.Nodup) (h : va_D A (gWS Γ σ)) : gIj Γ := by
  refine ⟨hn, fun i hi j hj e => ?_⟩
  obtain ⟨a, ha⟩ := List.getElem?_of_mem hi
  obtain ⟨b, hb⟩ := List.getElem?_of_mem hj
  have h1 : (gWS Γ σ)[a]? = some (gAd Γ i, Γ.2.2.2.2 i (σ i)) := by simp [gWs, ha]
  have h2 : (gWS Γ σ)[b]? = some (gAd Γ j, Γ.2.2.2.2 j (σ j)) := by simp [gWs, hb]
  have hab := h.1 a b _ _ h1 h2 e
  subst hab
  exact Option.some.inj (ha.symm.trans hb)
theorem gA_of {Γ : gEv} {σ : St} {A : Nat → Prop} (h : va_D A (gWS Γ σ)) : ∀ q, gA Γ q → A q := by
  rintro q ⟨k, hk, rfl⟩
  obtain ⟨a, ha⟩ := List.getElem?_of_mem hk
  exact h.2 a (gAd Γ k, Γ.2.2.2.2 k (σ k)) (by simp [gWs, ha])
set_option maxHeartbeats 8000000 in
set_option maxRecDepth 100000 in
/-- the reference's constructor -/
theorem c_X8_init (l : Launch) (D : va_G) (cI cC cD : ClassId) (h0 sz : Nat) {τ0 : St} {u0 : Unit} (hf : f_X8_init = some (u0, τ0)) : Met l yX8_init (.code yX8_init cX8_init 1 none :: U0) rm_X8_init (va_Pc [.ref h0] (kPre D cI cC cD sz (w8 cI h0 (fun _ => none) []))) (va_Qv (fun ad : Nat → Nat => ad 0 = h0) (fun ad t => gW (mG (D, cI, ad)) τ0 t.heap ∧ gIj (mG (D, cI, ad)) ∧ ∀ q, gA (mG (D, cI, ad)) q → (va_A (w8 cI h0 (fun _ => none) []) sz) q) (va_A (w8 cI h0 (fun _ => none) []) sz)) 37 2039 (va_A (w8 cI h0 (fun _ => none) []) sz) := by
  refine Met.ofW (cc := cX8_init) (maxL := 1) (ret := none) (by decide) rfl ?_
  intro p e s m args below meth c s₁ B hml hv
  obtain ⟨rfl, hsz, hP, hD0, hK, hN, hAC, hAD⟩ := hv
  have hx := B.exec
  have hb := B.bytes
  have hr := B.returns
  have hts0 := atoms_spec (ws := .code yX8_init cX8_init 1 none :: U0) B.pre
  have hts := fun w hw => hts0 w (List.mem_cons_of_mem _ hw)
  have hown : s.vm.findClass RX8 = some m.cls := findClass_of_methodNamed B.named
  have hlocks := B.notSynchronized
  have hin : meth.name = "<init>" := (name_of_methodNamed B.named B.method).1
  subst hsz
  have hD := hD0.self (sz := s.heap.size)
  generalize hAe : va_A (w8 cI h0 (fun _ => none) []) s.heap.size = A at hD ⊢
  have hA : ∀ q : Nat, s.heap.size ≤ q → A q := fun q h => by rw [← hAe]; exact Or.inr h
  have hS : va_S A s.heap s.heap [] := va_S.rf
  have hl := lv_entry ([.ref h0]) (n := 1) (Nat.le_of_ble_eq_true rfl)
  rw [lg_entry_eq]
  generalize (lg_sl ([.ref h0]) ++ List.replicate (1 - (lg_sl ([.ref h0])).length) Slot.unset).toArray = ls at hl ⊢
  have hl : lv_has ls 1 [(0, .ref h0)] := hl
  refine lv_aload_n hx hb dX8_init_0 rfl (lv_at hl 0 rfl) ?_
  refine W.objInit hx hb hown (hts _ tw_756) (hts _ tw_22) (hts _ tw_23) rfl (by rw [hml]; exact hl.1) rfl dX8_init_1 (Nat.le_of_ble_eq_true rfl) (Nat.le_of_ble_eq_true rfl) ?_
  refine W.eq (g2 := F0 m 4 ls []) rfl ?_
  obtain ⟨pa, hpa0⟩ : ∃ pa : Nat → Option Nat, pa = fun _ => none := ⟨_, rfl⟩
  rw [← hpa0] at hP hD
  have hpa : pa 0 = none ∧ ∀ i ∈ ([] : List Nat), (pa i).isSome = true := ⟨by rw [hpa0], fun i h => by cases h⟩
  refine lv_aload_n hx hb dX8_init_4 rfl (lv_at hl 0 rfl) ?_
  refine lv_sipush (v := 200) hx hb dX8_init_5 (by decide) ?_
  refine m8_step (pc := 8) hx hb hts hown hin hK hpa hP hD hS hA 1 (by decide) (by decide) (by decide) (N' := 200) rfl (by decide) (by decide) (by decide) (Nat.le_of_ble_eq_true rfl) (Nat.le_of_ble_eq_true rfl) tw_785 rfl rfl rfl (fun _ => rfl) dX8_init_8 dX8_init_10 (pc' := 13) (c' := 1) (s' := 200) rfl rfl rfl (fun pa H locs hpa hP hD hS => ?_)
  refine lv_aload_n hx hb dX8_init_13 rfl (lv_at hl 0 rfl) ?_
  refine lv_iconst (v := 3) hx hb dX8_init_14 (by decide) ?_
  refine m8_step (pc := 15) hx hb hts hown hin hK hpa hP hD hS hA 4 (by decide) (by decide) (by decide) (N' := 3) rfl (by decide) (by decide) (by decide) (Nat.le_of_ble_eq_true rfl) (Nat.le_of_ble_eq_true rfl) tw_788 rfl rfl rfl (fun _ => rfl) dX8_init_15 dX8_init_17 (pc' := 20) (c' := 2) (s' := 203) rfl rfl rfl (fun pa H locs hpa hP hD hS => ?_)
  refine lv_aload_n hx hb dX8_init_20 rfl (lv_at hl 0 rfl) ?_
  refine lv_iconst (v := 4) hx hb dX8_init_21 (by decide) ?_
  refine m8_step (pc := 22) hx hb hts hown hin hK hpa hP hD hS hA 10 (by decide) (by decide) (by decide) (N' := 4) rfl (by decide) (by decide) (by decide) (Nat.le_of_ble_eq_true rfl) (Nat.le_of_ble_eq_true rfl) tw_794 rfl rfl rfl (fun _ => rfl) dX8_init_22 dX8_init_24 (pc' := 27) (c' := 3) (s' := 207) rfl rfl rfl (fun pa H locs hpa hP hD hS => ?_)
  refine lv_aload_n hx hb dX8_init_27 rfl (lv_at hl 0 rfl) ?_
  refine lv_iconst (v := 4) hx hb dX8_init_28 (by decide) ?_
  refine m8_step (pc := 29) hx hb hts hown hin hK hpa hP hD hS hA 11 (by decide) (by decide) (by decide) (N' := 4) rfl (by decide) (by decide) (by decide) (Nat.le_of_ble_eq_true rfl) (Nat.le_of_ble_eq_true rfl) tw_795 rfl rfl rfl (fun _ => rfl) dX8_init_29 dX8_init_31 (pc' := 34) (c' := 4) (s' := 211) rfl rfl rfl (fun pa H locs hpa hP hD hS => ?_)
  refine lv_aload_n hx hb dX8_init_34 rfl (lv_at hl 0 rfl) ?_
  refine lv_bipush (v := 8) hx hb dX8_init_35 (by decide) ?_
  refine m8_step (pc := 37) hx hb hts hown hin hK hpa hP hD hS hA 13 (by decide) (by decide) (by decide) (N' := 8) rfl (by decide) (by decide) (by decide) (Nat.le_of_ble_eq_true rfl) (Nat.le_of_ble_eq_true rfl) tw_797 rfl rfl rfl (fun _ => rfl) dX8_init_37 dX8_init_39 (pc' := 42) (c' := 5) (s' := 219) rfl rfl rfl (fun pa H locs hpa hP hD hS => ?_)
  refine lv_aload_n hx hb dX8_init_42 rfl (lv_at hl 0 rfl) ?_
  refine lv_bipush (v := 8) hx hb dX8_init_43 (by decide) ?_
  refine m8_step (pc := 45) hx hb hts hown hin hK hpa hP hD hS hA 14 (by decide) (by decide) (by decide) (N' := 8) rfl (by decide) (by decide) (by decide) (Nat.le_of_ble_eq_true rfl) (Nat.le_of_ble_eq_true rfl) tw_798 rfl rfl rfl (fun _ => rfl) dX8_init_45 dX8_init_47 (pc' := 50) (c' := 6) (s' := 227) rfl rfl rfl (fun pa H locs hpa hP hD hS => ?_)
  refine lv_aload_n hx hb dX8_init_50 rfl (lv_at hl 0 rfl) ?_
  refine lv_bipush (v := 8) hx hb dX8_init_51 (by decide) ?_
  refine m8_step (pc := 53) hx hb hts hown hin hK hpa hP hD hS hA 15 (by decide) (by decide) (by decide) (N' := 8) rfl (by decide) (by decide) (by decide) (Nat.le_of_ble_eq_true rfl) (Nat.le_of_ble_eq_true rfl) tw_799 rfl rfl rfl (fun _ => rfl) dX8_init_53 dX8_init_55 (pc' := 58) (c' := 7) (s' := 235) rfl rfl rfl (fun pa H locs hpa hP hD hS => ?_)
  refine lv_aload_n hx hb dX8_init_58 rfl (lv_at hl 0 rfl) ?_
  refine lv_iconst (v := 4) hx hb dX8_init_59 (by decide) ?_
  refine m8_step (pc := 60) hx hb hts hown hin hK hpa hP hD hS hA 25 (by decide) (by decide) (by decide) (N' := 4) rfl (by decide) (by decide) (by decide) (Nat.le_of_ble_eq_true rfl) (Nat.le_of_ble_eq_true rfl) tw_809 rfl rfl rfl (fun _ => rfl) dX8_init_60 dX8_init_62 (pc' := 65) (c' := 8) (s' := 239) rfl rfl rfl (fun pa H locs hpa hP hD hS => ?_)
  refine lv_aload_n hx hb dX8_init_65 rfl (lv_at hl 0 rfl) ?_
  refine lv_iconst (v := 4) hx hb dX8_init_66 (by decide) ?_
  refine m8_step (pc := 67) hx hb hts hown hin hK hpa hP hD hS hA 26 (by decide) (by decide) (by decide) (N' := 4) rfl (by decide) (by decide) (by decide) (Nat.le_of_ble_eq_true rfl) (Nat.le_of_ble_eq_true rfl) tw_810 rfl rfl rfl (fun _ => rfl) dX8_init_67 dX8_init_69 (pc' := 72) (c' := 9) (s' := 243) rfl rfl rfl (fun pa H locs hpa hP hD hS => ?_)
  refine lv_aload_n hx hb dX8_init_72 rfl (lv_at hl 0 rfl) ?_
  refine lv_iconst (v := 4) hx hb dX8_init_73 (by decide) ?_
  refine m8_step (pc := 74) hx hb hts hown hin hK hpa hP hD hS hA 27 (by decide) (by decide) (by decide) (N' := 4) rfl (by decide) (by decide) (by decide) (Nat.le_of_ble_eq_true rfl) (Nat.le_of_ble_eq_true rfl) tw_811 rfl rfl rfl (fun _ => rfl) dX8_init_74 dX8_init_76 (pc' := 79) (c' := 10) (s' := 247) rfl rfl rfl (fun pa H locs hpa hP hD hS => ?_)
  refine lv_aload_n hx hb dX8_init_79 rfl (lv_at hl 0 rfl) ?_
  refine lv_iconst (v := 4) hx hb dX8_init_80 (by decide) ?_
  refine m8_step (pc := 81) hx hb hts hown hin hK hpa hP hD hS hA 28 (by decide) (by decide) (by decide) (N' := 4) rfl (by decide) (by decide) (by decide) (Nat.le_of_ble_eq_true rfl) (Nat.le_of_ble_eq_true rfl) tw_812 rfl rfl rfl (fun _ => rfl) dX8_init_81 dX8_init_83 (pc' := 86) (c' := 11) (s' := 251) rfl rfl rfl (fun pa H locs hpa hP hD hS => ?_)
  refine lv_aload_n hx hb dX8_init_86 rfl (lv_at hl 0 rfl) ?_
  refine lv_iconst (v := 4) hx hb dX8_init_87 (by decide) ?_
  refine m8_step (pc := 88) hx hb hts hown hin hK hpa hP hD hS hA 29 (by decide) (by decide) (by decide) (N' := 4) rfl (by decide) (by decide) (by decide) (Nat.le_of_ble_eq_true rfl) (Nat.le_of_ble_eq_true rfl) tw_813 rfl rfl rfl (fun _ => rfl) dX8_init_88 dX8_init_90 (pc' := 93) (c' := 12) (s' := 255) rfl rfl rfl (fun pa H locs hpa hP hD hS => ?_)
  refine lv_aload_n hx hb dX8_init_93 rfl (lv_at hl 0 rfl) ?_
  refine lv_iconst (v := 4) hx hb dX8_init_94 (by decide) ?_
  refine m8_step (pc := 95) hx hb hts hown hin hK hpa hP hD hS hA 30 (by decide) (by decide) (by decide) (N' := 4) rfl (by decide) (by decide) (by decide) (Nat.le_of_ble_eq_true rfl) (Nat.le_of_ble_eq_true rfl) tw_814 rfl rfl rfl (fun _ => rfl) dX8_init_95 dX8_init_97 (pc' := 100) (c' := 13) (s' := 259) rfl rfl rfl (fun pa H locs hpa hP hD hS => ?_)
  refine lv_aload_n hx hb dX8_init_100 rfl (lv_at hl 0 rfl) ?_
  refine lv_bipush (v := 28) hx hb dX8_init_101 (by decide) ?_
  refine m8_step (pc := 103) hx hb hts hown hin hK hpa hP hD hS hA 31 (by decide) (by decide) (by decide) (N' := 28) rfl (by decide) (by decide) (by decide) (Nat.le_of_ble_eq_true rfl) (Nat.le_of_ble_eq_true rfl) tw_815 rfl rfl rfl (fun _ => rfl) dX8_init_103 dX8_init_105 (pc' := 108) (c' := 14) (s' := 287) rfl rfl rfl (fun pa H locs hpa hP hD hS => ?_)
  refine lv_aload_n hx hb dX8_init_108 rfl (lv_at hl 0 rfl) ?_
  refine lv_bipush (v := 28) hx hb dX8_init_109 (by decide) ?_
  refine m8_step (pc := 111) hx hb hts hown hin hK hpa hP hD hS hA 32 (by decide) (by decide) (by decide) (N' := 28) rfl (by decide) (by decide) (by decide) (Nat.le_of_ble_eq_true rfl) (Nat.le_of_ble_eq_true rfl) tw_816 rfl rfl rfl (fun _ => rfl) dX8_init_111 dX8_init_113 (pc' := 116) (c' := 15) (s' := 315) rfl rfl rfl (fun pa H locs hpa hP hD hS => ?_)
  refine lv_aload_n hx hb dX8_init_116 rfl (lv_at hl 0 rfl) ?_
  refine lv_bipush (v := 28) hx hb dX8_init_117 (by decide) ?_
  refine m8_step (pc := 119) hx hb hts hown hin hK hpa hP hD hS hA 33 (by decide) (by decide) (by decide) (N' := 28) rfl (by decide) (by decide) (by decide) (Nat.le_of_ble_eq_true rfl) (Nat.le_of_ble_eq_true rfl) tw_817 rfl rfl rfl (fun _ => rfl) dX8_init_119 dX8_init_121 (pc' := 124) (c' := 16) (s' := 343) rfl rfl rfl (fun pa H locs hpa hP hD hS => ?_)
  refine lv_aload_n hx hb dX8_init_124 rfl (lv_at hl 0 rfl) ?_
  refine lv_sipush (v := 1536) hx hb dX8_init_125 (by decide) ?_
  refine m8_step (pc := 128) hx hb hts hown hin hK hpa hP hD hS hA 34 (by decide) (by decide) (by decide) (N' := 1536) rfl (by decide) (by decide) (by decide) (Nat.le_of_ble_eq_true rfl) (Nat.le_of_ble_eq_true rfl) tw_818 rfl rfl rfl (fun _ => rfl) dX8_init_128 dX8_init_130 (pc' := 133) (c' := 17) (s' := 1879) rfl rfl rfl (fun pa H locs hpa hP hD hS => ?_)
  refine lv_aload_n hx hb dX8_init_133 rfl (lv_at hl 0 rfl) ?_
  refine lv_bipush (v := 8) hx hb dX8_init_134 (by decide) ?_
  refine m8_step (pc := 136) hx hb hts hown hin hK hpa hP hD hS hA 36 (by decide) (by decide) (by decide) (N' := 8) rfl (by decide) (by decide) (by decide) (Nat.le_of_ble_eq_true rfl) (Nat.le_of_ble_eq_true rfl) tw_820 rfl rfl rfl (fun _ => rfl) dX8_init_136 dX8_init_138 (pc' := 141) (c' := 18) (s' := 1887) rfl rfl rfl (fun pa H locs hpa hP hD hS => ?_)
  refine lv_aload_n hx hb dX8_init_141 rfl (lv_at hl 0 rfl) ?_
  refine lv_bipush (v := 8) hx hb dX8_init_142 (by decide) ?_
  refine m8_step (pc := 144) hx hb hts hown hin hK hpa hP hD hS hA 37 (by decide) (by decide) (by decide) (N' := 8) rfl (by decide) (by decide) (by decide) (Nat.le_of_ble_eq_true rfl) (Nat.le_of_ble_eq_true rfl) tw_821 rfl rfl rfl (fun _ => rfl) dX8_init_144 dX8_init_146 (pc' := 149) (c' := 19) (s' := 1895) rfl rfl rfl (fun pa H locs hpa hP hD hS => ?_)
  refine lv_aload_n hx hb dX8_init_149 rfl (lv_at hl 0 rfl) ?_
  refine lv_bipush (v := 8) hx hb dX8_init_150 (by decide) ?_
  refine m8_step (pc := 152) hx hb hts hown hin hK hpa hP hD hS hA 38 (by decide) (by decide) (by decide) (N' := 8) rfl (by decide) (by decide) (by decide) (Nat.le_of_ble_eq_true rfl) (Nat.le_of_ble_eq_true rfl) tw_822 rfl rfl rfl (fun _ => rfl) dX8_init_152 dX8_init_154 (pc' := 157) (c' := 20) (s' := 1903) rfl rfl rfl (fun pa H locs hpa hP hD hS => ?_)
  refine lv_aload_n hx hb dX8_init_157 rfl (lv_at hl 0 rfl) ?_
  refine lv_bipush (v := 8) hx hb dX8_init_158 (by decide) ?_
  refine m8_step (pc := 160) hx hb hts hown hin hK hpa hP hD hS hA 39 (by decide) (by decide) (by decide) (N' := 8) rfl (by decide) (by decide) (by decide) (Nat.le_of_ble_eq_true rfl) (Nat.le_of_ble_eq_true rfl) tw_823 rfl rfl rfl (fun _ => rfl) dX8_init_160 dX8_init_162 (pc' := 165) (c' := 21) (s' := 1911) rfl rfl rfl (fun pa H locs hpa hP hD hS => ?_)
  refine lv_aload_n hx hb dX8_init_165 rfl (lv_at hl 0 rfl) ?_
  refine lv_bipush (v := 8) hx hb dX8_init_166 (by decide) ?_
  refine m8_step (pc := 168) hx hb hts hown hin hK hpa hP hD hS hA 40 (by decide) (by decide) (by decide) (N' := 8) rfl (by decide) (by decide) (by decide) (Nat.le_of_ble_eq_true rfl) (Nat.le_of_ble_eq_true rfl) tw_824 rfl rfl rfl (fun _ => rfl) dX8_init_168 dX8_init_170 (pc' := 173) (c' := 22) (s' := 1919) rfl rfl rfl (fun pa H locs hpa hP hD hS => ?_)
  refine lv_aload_n hx hb dX8_init_173 rfl (lv_at hl 0 rfl) ?_
  refine lv_bipush (v := 8) hx hb dX8_init_174 (by decide) ?_
  refine m8_step (pc := 176) hx hb hts hown hin hK hpa hP hD hS hA 41 (by decide) (by decide) (by decide) (N' := 8) rfl (by decide) (by decide) (by decide) (Nat.le_of_ble_eq_true rfl) (Nat.le_of_ble_eq_true rfl) tw_825 rfl rfl rfl (fun _ => rfl) dX8_init_176 dX8_init_178 (pc' := 181) (c' := 23) (s' := 1927) rfl rfl rfl (fun pa H locs hpa hP hD hS => ?_)
  refine lv_aload_n hx hb dX8_init_181 rfl (lv_at hl 0 rfl) ?_
  refine lv_bipush (v := 8) hx hb dX8_init_182 (by decide) ?_
  refine m8_step (pc := 184) hx hb hts hown hin hK hpa hP hD hS hA 42 (by decide) (by decide) (by decide) (N' := 8) rfl (by decide) (by decide) (by decide) (Nat.le_of_ble_eq_true rfl) (Nat.le_of_ble_eq_true rfl) tw_826 rfl rfl rfl (fun _ => rfl) dX8_init_184 dX8_init_186 (pc' := 189) (c' := 24) (s' := 1935) rfl rfl rfl (fun pa H locs hpa hP hD hS => ?_)
  refine lv_aload_n hx hb dX8_init_189 rfl (lv_at hl 0 rfl) ?_
  refine lv_bipush (v := 8) hx hb dX8_init_190 (by decide) ?_
  refine m8_step (pc := 192) hx hb hts hown hin hK hpa hP hD hS hA 43 (by decide) (by decide) (by decide) (N' := 8) rfl (by decide) (by decide) (by decide) (Nat.le_of_ble_eq_true rfl) (Nat.le_of_ble_eq_true rfl) tw_827 rfl rfl rfl (fun _ => rfl) dX8_init_192 dX8_init_194 (pc' := 197) (c' := 25) (s' := 1943) rfl rfl rfl (fun pa H locs hpa hP hD hS => ?_)
  refine lv_aload_n hx hb dX8_init_197 rfl (lv_at hl 0 rfl) ?_
  refine lv_bipush (v := 8) hx hb dX8_init_198 (by decide) ?_
  refine m8_step (pc := 200) hx hb hts hown hin hK hpa hP hD hS hA 44 (by decide) (by decide) (by decide) (N' := 8) rfl (by decide) (by decide) (by decide) (Nat.le_of_ble_eq_true rfl) (Nat.le_of_ble_eq_true rfl) tw_828 rfl rfl rfl (fun _ => rfl) dX8_init_200 dX8_init_202 (pc' := 205) (c' := 26) (s' := 1951) rfl rfl rfl (fun pa H locs hpa hP hD hS => ?_)
  refine lv_aload_n hx hb dX8_init_205 rfl (lv_at hl 0 rfl) ?_
  refine lv_bipush (v := 8) hx hb dX8_init_206 (by decide) ?_
  refine m8_step (pc := 208) hx hb hts hown hin hK hpa hP hD hS hA 45 (by decide) (by decide) (by decide) (N' := 8) rfl (by decide) (by decide) (by decide) (Nat.le_of_ble_eq_true rfl) (Nat.le_of_ble_eq_true rfl) tw_829 rfl rfl rfl (fun _ => rfl) dX8_init_208 dX8_init_210 (pc' := 213) (c' := 27) (s' := 1959) rfl rfl rfl (fun pa H locs hpa hP hD hS => ?_)
  refine lv_aload_n hx hb dX8_init_213 rfl (lv_at hl 0 rfl) ?_
  refine lv_bipush (v := 8) hx hb dX8_init_214 (by decide) ?_
  refine m8_step (pc := 216) hx hb hts hown hin hK hpa hP hD hS hA 46 (by decide) (by decide) (by decide) (N' := 8) rfl (by decide) (by decide) (by decide) (Nat.le_of_ble_eq_true rfl) (Nat.le_of_ble_eq_true rfl) tw_830 rfl rfl rfl (fun _ => rfl) dX8_init_216 dX8_init_218 (pc' := 221) (c' := 28) (s' := 1967) rfl rfl rfl (fun pa H locs hpa hP hD hS => ?_)
  refine lv_aload_n hx hb dX8_init_221 rfl (lv_at hl 0 rfl) ?_
  refine lv_bipush (v := 8) hx hb dX8_init_222 (by decide) ?_
  refine m8_step (pc := 224) hx hb hts hown hin hK hpa hP hD hS hA 47 (by decide) (by decide) (by decide) (N' := 8) rfl (by decide) (by decide) (by decide) (Nat.le_of_ble_eq_true rfl) (Nat.le_of_ble_eq_true rfl) tw_831 rfl rfl rfl (fun _ => rfl) dX8_init_224 dX8_init_226 (pc' := 229) (c' := 29) (s' := 1975) rfl rfl rfl (fun pa H locs hpa hP hD hS => ?_)
  refine lv_aload_n hx hb dX8_init_229 rfl (lv_at hl 0 rfl) ?_
  refine lv_bipush (v := 8) hx hb dX8_init_230 (by decide) ?_
  refine m8_step (pc := 232) hx hb hts hown hin hK hpa hP hD hS hA 48 (by decide) (by decide) (by decide) (N' := 8) rfl (by decide) (by decide) (by decide) (Nat.le_of_ble_eq_true rfl) (Nat.le_of_ble_eq_true rfl) tw_832 rfl rfl rfl (fun _ => rfl) dX8_init_232 dX8_init_234 (pc' := 237) (c' := 30) (s' := 1983) rfl rfl rfl (fun pa H locs hpa hP hD hS => ?_)
  refine lv_aload_n hx hb dX8_init_237 rfl (lv_at hl 0 rfl) ?_
  refine lv_bipush (v := 8) hx hb dX8_init_238 (by decide) ?_
  refine m8_step (pc := 240) hx hb hts hown hin hK hpa hP hD hS hA 49 (by decide) (by decide) (by decide) (N' := 8) rfl (by decide) (by decide) (by decide) (Nat.le_of_ble_eq_true rfl) (Nat.le_of_ble_eq_true rfl) tw_833 rfl rfl rfl (fun _ => rfl) dX8_init_240 dX8_init_242 (pc' := 245) (c' := 31) (s' := 1991) rfl rfl rfl (fun pa H locs hpa hP hD hS => ?_)
  refine lv_aload_n hx hb dX8_init_245 rfl (lv_at hl 0 rfl) ?_
  refine lv_bipush (v := 8) hx hb dX8_init_246 (by decide) ?_
  refine m8_step (pc := 248) hx hb hts hown hin hK hpa hP hD hS hA 50 (by decide) (by decide) (by decide) (N' := 8) rfl (by decide) (by decide) (by decide) (Nat.le_of_ble_eq_true rfl) (Nat.le_of_ble_eq_true rfl) tw_834 rfl rfl rfl (fun _ => rfl) dX8_init_248 dX8_init_250 (pc' := 253) (c' := 32) (s' := 1999) rfl rfl rfl (fun pa H locs hpa hP hD hS => ?_)
  refine lv_aload_n hx hb dX8_init_253 rfl (lv_at hl 0 rfl) ?_
  refine lv_bipush (v := 8) hx hb dX8_init_254 (by decide) ?_
  refine m8_step (pc := 256) hx hb hts hown hin hK hpa hP hD hS hA 51 (by decide) (by decide) (by decide) (N' := 8) rfl (by decide) (by decide) (by decide) (Nat.le_of_ble_eq_true rfl) (Nat.le_of_ble_eq_true rfl) tw_835 rfl rfl rfl (fun _ => rfl) dX8_init_256 dX8_init_258 (pc' := 261) (c' := 33) (s' := 2007) rfl rfl rfl (fun pa H locs hpa hP hD hS => ?_)
  refine lv_aload_n hx hb dX8_init_261 rfl (lv_at hl 0 rfl) ?_
  refine lv_bipush (v := 8) hx hb dX8_init_262 (by decide) ?_
  refine m8_step (pc := 264) hx hb hts hown hin hK hpa hP hD hS hA 52 (by decide) (by decide) (by decide) (N' := 8) rfl (by decide) (by decide) (by decide) (Nat.le_of_ble_eq_true rfl) (Nat.le_of_ble_eq_true rfl) tw_836 rfl rfl rfl (fun _ => rfl) dX8_init_264 dX8_init_266 (pc' := 269) (c' := 34) (s' := 2015) rfl rfl rfl (fun pa H locs hpa hP hD hS => ?_)
  refine lv_aload_n hx hb dX8_init_269 rfl (lv_at hl 0 rfl) ?_
  refine lv_bipush (v := 8) hx hb dX8_init_270 (by decide) ?_
  refine m8_step (pc := 272) hx hb hts hown hin hK hpa hP hD hS hA 53 (by decide) (by decide) (by decide) (N' := 8) rfl (by decide) (by decide) (by decide) (Nat.le_of_ble_eq_true rfl) (Nat.le_of_ble_eq_true rfl) tw_837 rfl rfl rfl (fun _ => rfl) dX8_init_272 dX8_init_274 (pc' := 277) (c' := 35) (s' := 2023) rfl rfl rfl (fun pa H locs hpa hP hD hS => ?_)
  refine lv_aload_n hx hb dX8_init_277 rfl (lv_at hl 0 rfl) ?_
  refine lv_bipush (v := 8) hx hb dX8_init_278 (by decide) ?_
  refine m8_step (pc := 280) hx hb hts hown hin hK hpa hP hD hS hA 54 (by decide) (by decide) (by decide) (N' := 8) rfl (by decide) (by decide) (by decide) (Nat.le_of_ble_eq_true rfl) (Nat.le_of_ble_eq_true rfl) tw_838 rfl rfl rfl (fun _ => rfl) dX8_init_280 dX8_init_282 (pc' := 285) (c' := 36) (s' := 2031) rfl rfl rfl (fun pa H locs hpa hP hD hS => ?_)
  refine lv_aload_n hx hb dX8_init_285 rfl (lv_at hl 0 rfl) ?_
  refine lv_bipush (v := 8) hx hb dX8_init_286 (by decide) ?_
  refine m8_step (pc := 288) hx hb hts hown hin hK hpa hP hD hS hA 55 (by decide) (by decide) (by decide) (N' := 8) rfl (by decide) (by decide) (by decide) (Nat.le_of_ble_eq_true rfl) (Nat.le_of_ble_eq_true rfl) tw_839 rfl rfl rfl (fun _ => rfl) dX8_init_288 dX8_init_290 (pc' := 293) (c' := 37) (s' := 2039) rfl rfl rfl (fun pa H locs hpa hP hD hS => ?_)
  have hpa : pa 0 = none ∧ ∀ i ∈ mL.tail, (pa i).isSome = true := hpa
  have hP : va_P D classes (w8 cI h0 pa mL.tail) H := hP
  have hD : va_D A (w8 cI h0 pa mL.tail) := hD
  rw [w8_same D cI h0 pa hpa] at hP hD
  obtain ⟨E, hE⟩ : ∃ E : mEv, E = (D, cI, fun k => (pa k).getD h0) := ⟨_, rfl⟩
  have hE0 : mAd E 0 = h0 := by rw [hE]; show (pa 0).getD h0 = h0; rw [hpa.1]; rfl
  rw [← hE] at hP hD
  have hI := gIj_of mL_nd hD
  have hAg := gA_of hD
  have hKm : gK (mG E) s := by rw [hE]; exact hK.sub (tys' := [(cI, .int)]) [0] rfl
  have F : gFx p m c cX8_init 1 s _ RX8 (mG E) := ⟨hx, hb, hml, hown, hts, hN, hKm, hI⟩
  rw [← hE0] at hl
  have hP : gW (mG E) (fun _ _ => 0) H := by
    show va_P E.1 classes _ H
    rw [show E.1 = D by rw [hE]]
    exact hP
  unfold f_X8_init at hf
  obtain ⟨z0, ez0, hf⟩ := vl_x hf
  rw [← ez0] at hP
  refine lv_aload_n hx hb dX8_init_293 rfl (lv_at hl 0 rfl) ?_
  obtain ⟨_, z1, hz1, hf⟩ := cl_e hf
  refine gx_callVv F hP hAg hS (c_X8_empty l F.2.2.2.2.2.2.2 hz1) (g_cwV (n := 0) F tw_757 tw_759 ts_28 tw_14 tw_760 (by decide +kernel) rfl rfl ⟨Nat.le_of_ble_eq_true rfl, Nat.le_of_ble_eq_true rfl⟩) (k := 0) min0 (me_0 E _) rfl (As := []) rfl hl.1 rfl (Nat.le_of_ble_eq_true rfl) dX8_init_294 ⟨Nat.le_of_ble_eq_true rfl, Nat.le_of_ble_eq_true rfl⟩ (fun H locs hP _ _ hS => ?_)
  refine lv_aload_n hx hb dX8_init_297 rfl (lv_at hl 0 rfl) ?_
  refine lv_iconst (v := 4) hx hb dX8_init_298 (by decide) ?_
  refine gx_put F hP hAg hS (k := 0) min0 (me_0 E _) rfl inX8 tyX8 tyX8_ok nmX8 5 (by decide) tw_789 rfl rfl rfl rfl (Nat.le_of_ble_eq_true rfl) (x := 4) (me_0 E _) dX8_init_299 (fun H locs hP hS => ?_)
  obtain ⟨z2, ez2, hf⟩ := vl_x hf
  rw [← ez2] at hP
  refine lv_aload_n hx hb dX8_init_302 rfl (lv_at hl 0 rfl) ?_
  refine lv_iconst (v := 1) hx hb dX8_init_303 (by decide) ?_
  refine gx_put F hP hAg hS (k := 0) min0 (me_0 E _) rfl inX8 tyX8 tyX8_ok nmX8 6 (by decide) tw_790 rfl rfl rfl rfl (Nat.le_of_ble_eq_true rfl) (x := 1) (me_0 E _) dX8_init_304 (fun H locs hP hS => ?_)
  obtain ⟨z3, ez3, hf⟩ := vl_x hf
  rw [← ez3] at hP
  refine lv_aload_n hx hb dX8_init_307 rfl (lv_at hl 0 rfl) ?_
  refine lv_bipush (v := 8) hx hb dX8_init_308 (by decide) ?_
  refine gx_put F hP hAg hS (k := 0) min0 (me_0 E _) rfl inX8 tyX8 tyX8_ok nmX8 7 (by decide) tw_791 rfl rfl rfl rfl (Nat.le_of_ble_eq_true rfl) (x := 8) (me_0 E _) dX8_init_310 (fun H locs hP hS => ?_)
  obtain ⟨z4, ez4, hf⟩ := vl_x hf
  rw [← ez4] at hP
  refine lv_aload_n hx hb dX8_init_313 rfl (lv_at hl 0 rfl) ?_
  refine lv_iconst (v := 0) hx hb dX8_init_314 (by decide) ?_
  refine lv_iconst (v := 2) hx hb dX8_init_315 (by decide) ?_
  refine lv_iconst (v := 3) hx hb dX8_init_316 (by decide) ?_
  obtain ⟨_, z5, hz5, hf⟩ := cl_e hf
  refine gx_callVv F hP hAg hS (c_X8_deviceIs l F.2.2.2.2.2.2.2 hz5) (g_cwV (n := 3) F tw_761 tw_763 ts_29 tw_14 tw_764 (by decide +kernel) rfl rfl ⟨Nat.le_of_ble_eq_true rfl, Nat.le_of_ble_eq_true rfl⟩) (k := 0) min0 (me_0 E _) rfl (As := [.int 0, .int 2, .int 3]) rfl hl.1 rfl (Nat.le_of_ble_eq_true rfl) dX8_init_317 ⟨Nat.le_of_ble_eq_true rfl, Nat.le_of_ble_eq_true rfl⟩ (fun H locs hP _ _ hS => ?_)
  refine lv_aload_n hx hb dX8_init_320 rfl (lv_at hl 0 rfl) ?_
  refine lv_iconst (v := 0) hx hb dX8_init_321 (by decide) ?_
  refine lv_iconst (v := 1) hx hb dX8_init_322 (by decide) ?_
  refine lv_iconst (v := 2) hx hb dX8_init_323 (by decide) ?_
  obtain ⟨_, z6, hz6, hf⟩ := cl_e hf
  refine gx_callVv F hP hAg hS (c_X8_deviceIs l F.2.2.2.2.2.2.2 hz6) (g_cwV (n := 3) F tw_761 tw_763 ts_29 tw_14 tw_764 (by decide +kernel) rfl rfl ⟨Nat.le_of_ble_eq_true rfl, Nat.le_of_ble_eq_true rfl⟩) (k := 0) min0 (me_0 E _) rfl (As := [.int 0, .int 1, .int 2]) rfl hl.1 rfl (Nat.le_of_ble_eq_true rfl) dX8_init_324 ⟨Nat.le_of_ble_eq_true rfl, Nat.le_of_ble_eq_true rfl⟩ (fun H locs hP _ _ hS => ?_)
  refine lv_aload_n hx hb dX8_init_327 rfl (lv_at hl 0 rfl) ?_
  refine lv_iconst (v := 0) hx hb dX8_init_328 (by decide) ?_
  refine lv_iconst (v := 3) hx hb dX8_init_329 (by decide) ?_
  refine lv_iconst (v := 1) hx hb dX8_init_330 (by decide) ?_
  obtain ⟨_, z7, hz7, hf⟩ := cl_e hf
  refine gx_callVv F hP hAg hS (c_X8_deviceIs l F.2.2.2.2.2.2.2 hz7) (g_cwV (n := 3) F tw_761 tw_763 ts_29 tw_14 tw_764 (by decide +kernel) rfl rfl ⟨Nat.le_of_ble_eq_true rfl, Nat.le_of_ble_eq_true rfl⟩) (k := 0) min0 (me_0 E _) rfl (As := [.int 0, .int 3, .int 1]) rfl hl.1 rfl (Nat.le_of_ble_eq_true rfl) dX8_init_331 ⟨Nat.le_of_ble_eq_true rfl, Nat.le_of_ble_eq_true rfl⟩ (fun H locs hP _ _ hS => ?_)
  refine lv_aload_n hx hb dX8_init_334 rfl (lv_at hl 0 rfl) ?_
  refine lv_iconst (v := 0) hx hb dX8_init_335 (by decide) ?_
  refine lv_sipush (v := 192) hx hb dX8_init_336 (by decide) ?_
  obtain ⟨_, z8, hz8, hf⟩ := cl_e hf
  refine gx_callVv F hP hAg hS (c_X8_coordIs l F.2.2.2.2.2.2.2 hz8) (g_cwV (n := 2) F tw_765 tw_767 ts_30 tw_14 tw_768 (by decide +kernel) rfl rfl ⟨Nat.le_of_ble_eq_true rfl, Nat.le_of_ble_eq_true rfl⟩) (k := 0) min0 (me_0 E _) rfl (As := [.int 0, .int 192]) rfl hl.1 rfl (Nat.le_of_ble_eq_true rfl) dX8_init_339 ⟨Nat.le_of_ble_eq_true rfl, Nat.le_of_ble_eq_true rfl⟩ (fun H locs hP _ _ hS => ?_)
  refine lv_aload_n hx hb dX8_init_342 rfl (lv_at hl 0 rfl) ?_
  refine lv_iconst (v := 1) hx hb dX8_init_343 (by decide) ?_
  refine lv_iconst (v := 2) hx hb dX8_init_344 (by decide) ?_
  refine lv_iconst (v := 3) hx hb dX8_init_345 (by decide) ?_
  obtain ⟨_, z9, hz9, hf⟩ := cl_e hf
  refine gx_callVv F hP hAg hS (c_X8_deviceIs l F.2.2.2.2.2.2.2 hz9) (g_cwV (n := 3) F tw_761 tw_763 ts_29 tw_14 tw_764 (by decide +kernel) rfl rfl ⟨Nat.le_of_ble_eq_true rfl, Nat.le_of_ble_eq_true rfl⟩) (k := 0) min0 (me_0 E _) rfl (As := [.int 1, .int 2, .int 3]) rfl hl.1 rfl (Nat.le_of_ble_eq_true rfl) dX8_init_346 ⟨Nat.le_of_ble_eq_true rfl, Nat.le_of_ble_eq_true rfl⟩ (fun H locs hP _ _ hS => ?_)
  refine lv_aload_n hx hb dX8_init_349 rfl (lv_at hl 0 rfl) ?_
  refine lv_iconst (v := 1) hx hb dX8_init_350 (by decide) ?_
  refine lv_iconst (v := 1) hx hb dX8_init_351 (by decide) ?_
  refine lv_iconst (v := 2) hx hb dX8_init_352 (by decide) ?_
  obtain ⟨_, z10, hz10, hf⟩ := cl_e hf
  refine gx_callVv F hP hAg hS (c_X8_deviceIs l F.2.2.2.2.2.2.2 hz10) (g_cwV (n := 3) F tw_761 tw_763 ts_29 tw_14 tw_764 (by decide +kernel) rfl rfl ⟨Nat.le_of_ble_eq_true rfl, Nat.le_of_ble_eq_true rfl⟩) (k := 0) min0 (me_0 E _) rfl (As := [.int 1, .int 1, .int 2]) rfl hl.1 rfl (Nat.le_of_ble_eq_true rfl) dX8_init_353 ⟨Nat.le_of_ble_eq_true rfl, Nat.le_of_ble_eq_true rfl⟩ (fun H locs hP _ _ hS => ?_)
  refine lv_aload_n hx hb dX8_init_356 rfl (lv_at hl 0 rfl) ?_
  refine lv_iconst (v := 0) hx hb dX8_init_357 (by decide) ?_
  refine lv_sipush (v := 400) hx hb dX8_init_358 (by decide) ?_
  obtain ⟨_, z11, hz11, hf⟩ := cl_e hf
  refine gx_callVv F hP hAg hS (c_X8_coordIs l F.2.2.2.2.2.2.2 hz11) (g_cwV (n := 2) F tw_765 tw_767 ts_30 tw_14 tw_768 (by decide +kernel) rfl rfl ⟨Nat.le_of_ble_eq_true rfl, Nat.le_of_ble_eq_true rfl⟩) (k := 0) min0 (me_0 E _) rfl (As := [.int 0, .int 400]) rfl hl.1 rfl (Nat.le_of_ble_eq_true rfl) dX8_init_361 ⟨Nat.le_of_ble_eq_true rfl, Nat.le_of_ble_eq_true rfl⟩ (fun H locs hP _ _ hS => ?_)
  refine lv_aload_n hx hb dX8_init_364 rfl (lv_at hl 0 rfl) ?_
  refine lv_iconst (v := 2) hx hb dX8_init_365 (by decide) ?_
  refine lv_iconst (v := 2) hx hb dX8_init_366 (by decide) ?_
  refine lv_iconst (v := 1) hx hb dX8_init_367 (by decide) ?_
  obtain ⟨_, z12, hz12, hf⟩ := cl_e hf
  refine gx_callVv F hP hAg hS (c_X8_deviceIs l F.2.2.2.2.2.2.2 hz12) (g_cwV (n := 3) F tw_761 tw_763 ts_29 tw_14 tw_764 (by decide +kernel) rfl rfl ⟨Nat.le_of_ble_eq_true rfl, Nat.le_of_ble_eq_true rfl⟩) (k := 0) min0 (me_0 E _) rfl (As := [.int 2, .int 2, .int 1]) rfl hl.1 rfl (Nat.le_of_ble_eq_true rfl) dX8_init_368 ⟨Nat.le_of_ble_eq_true rfl, Nat.le_of_ble_eq_true rfl⟩ (fun H locs hP _ _ hS => ?_)
  refine lv_aload_n hx hb dX8_init_371 rfl (lv_at hl 0 rfl) ?_
  refine lv_iconst (v := 3) hx hb dX8_init_372 (by decide) ?_
  refine gx_put F hP hAg hS (k := 0) min0 (me_0 E _) rfl inX8 tyX8 tyX8_ok nmX8 8 (by decide) tw_792 rfl rfl rfl rfl (Nat.le_of_ble_eq_true rfl) (x := 3) (me_0 E _) dX8_init_373 (fun H locs hP hS => ?_)
  obtain ⟨z13, ez13, hf⟩ := vl_x hf
  rw [← ez13] at hP
  refine lv_aload_n hx hb dX8_init_376 rfl (lv_at hl 0 rfl) ?_
  obtain ⟨_, z14, hz14, hf⟩ := cl_e hf
  refine gx_callVv F hP hAg hS (c_X8_begin l F.2.2.2.2.2.2.2 hz14) (g_cwV (n := 0) F tw_769 tw_771 ts_31 tw_14 tw_772 (by decide +kernel) rfl rfl ⟨Nat.le_of_ble_eq_true rfl, Nat.le_of_ble_eq_true rfl⟩) (k := 0) min0 (me_0 E _) rfl (As := []) rfl hl.1 rfl (Nat.le_of_ble_eq_true rfl) dX8_init_377 ⟨Nat.le_of_ble_eq_true rfl, Nat.le_of_ble_eq_true rfl⟩ (fun H locs hP _ _ hS => ?_)
  cases hf
  refine W.widen (k := 37) (n := 2039) (Nat.le_refl _) (Nat.le_refl _) ?_
  refine W.vret hx hb hr (fun t ht hW => ⟨⟨mAd E, rfl, hE0, ?_⟩, hS.F ht⟩) hS.2.2 dX8_init_380
  subst ht
  rw [hE] at hP hI hAg ⊢
  exact ⟨hP, hI, hAg⟩
