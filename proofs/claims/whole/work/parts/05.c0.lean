section SA
variable {p : Program} {l : Launch} {e : Env} {R : Room} {s : State} {m : MethodId} {args : Array Value} {below : List Frame} {meth : Method} {c : Code} {H : Heap} {locs : List Loc} {cells slots : Nat} {Q : State → Prop}
variable {cc : ByteArray} {pc nL : Nat} {ls : Array Slot} {rest : List Value} {E : cEv} {σ : St}
theorem pf_X2_48 (F : gFx p m c cc nL s args RX2 (cG E)) (hP : gW (cG E) σ H) (hS : va_S (gA (cG E)) s.heap H locs) {o : Nat} (ho : o < 8) {x : Int32} (hdg : decode cc pc = .ok (.putfield 48, 3)) (kk : ∀ (H1 : Heap) (locs1 : List Loc), gW (cG E) (up2 σ (46 + o) 12 x) H1 → va_S (gA (cG E)) s.heap H1 locs1 → W p l e R s m args below meth c H1 locs1 cells slots Q (F0 m (pc + 3) ls rest)) : W p l e R s m args below meth c H locs cells slots Q (F0 m pc ls (.int x :: .ref (cAd E (46 + o)) :: rest)) :=
  g_put F hP hS (k := (46 + o)) (cin (by omega)) (ce_2 E _ ho) rfl inX2 tyX2 tyX2_ok nmX2 12 (by decide) tw_198 rfl rfl rfl rfl (Nat.le_of_ble_eq_true rfl) (x := x) (jj := 12) (ce_2 E _ ho) hdg kk
theorem gf_X2_21 (F : gFx p m c cc nL s args RX2 (cG E)) (hP : gW (cG E) σ H) {o : Nat} (ho : o < 8) (hdg : decode cc pc = .ok (.getfield 21, 3)) (kk : W p l e R s m args below meth c H locs cells slots Q (F0 m (pc + 3) ls (.int (σ (46 + o) 3) :: rest))) : W p l e R s m args below meth c H locs cells slots Q (F0 m pc ls (.ref (cAd E (46 + o)) :: rest)) :=
  g_get F hP (k := (46 + o)) (cin (by omega)) (ce_2 E _ ho) rfl inX2 3 (by decide) tw_183 rfl rfl hdg kk
theorem pf_X2_45 (F : gFx p m c cc nL s args RX2 (cG E)) (hP : gW (cG E) σ H) (hS : va_S (gA (cG E)) s.heap H locs) {o : Nat} (ho : o < 8) {x : Int32} (hdg : decode cc pc = .ok (.putfield 45, 3)) (kk : ∀ (H1 : Heap) (locs1 : List Loc), gW (cG E) (up2 σ (46 + o) 11 x) H1 → va_S (gA (cG E)) s.heap H1 locs1 → W p l e R s m args below meth c H1 locs1 cells slots Q (F0 m (pc + 3) ls rest)) : W p l e R s m args below meth c H locs cells slots Q (F0 m pc ls (.int x :: .ref (cAd E (46 + o)) :: rest)) :=
  g_put F hP hS (k := (46 + o)) (cin (by omega)) (ce_2 E _ ho) rfl inX2 tyX2 tyX2_ok nmX2 11 (by decide) tw_196 rfl rfl rfl rfl (Nat.le_of_ble_eq_true rfl) (x := x) (jj := 11) (ce_2 E _ ho) hdg kk
end SA
/-! PromisedSlots$Device.beginFrame()V -/
def f_X2_beginFrame (o : Nat) (σ : St) : Option (Unit × St) :=
  vl (up2 σ (46 + o) 12 (0 : Int32)) fun σ1 =>
  vl (up2 σ1 (46 + o) 11 (σ1 (46 + o) 3)) fun σ2 =>
  some ((), σ2)
abbrev rm_X2_beginFrame : Room := { frames := 0, cells := 0, slots := 0, locals := 0 }
set_option maxHeartbeats 4000000 in
set_option maxRecDepth 100000 in
theorem w_X2_beginFrame_e {p : Program} {l : Launch} {e : Env} {s : State} {m : MethodId} {args : Array Value} {below : List Frame} {meth : Method} {c : Code} {E : cEv} {u : Unit} {σ' : St} {o : Nat} (ho : o < 8) (B : gBx p m meth c cX2_beginFrame 1 none s args RX2 (cG E)) (σ : St) (hf : f_X2_beginFrame o σ = some (u, σ')) (H : Heap) (locs : List Loc) (ls : Array Slot) (hP : gW (cG E) σ H) (hS : va_S (gA (cG E)) s.heap H locs) (hl : lv_has ls 1 [(0, .ref (cAd E (46 + o)))]) : W p l e rm_X2_beginFrame s m args below meth c H locs 0 0 (gQv below args s (cG E) σ') (F0 m 0 ls []) := by
  unfold f_X2_beginFrame at hf
  obtain ⟨F, hr, hlk⟩ := id B
  have hx := F.1
  have hb := F.2.1
  have hml := F.2.2.1
  have hown := F.2.2.2.1
  have hts := F.2.2.2.2.1
  refine lv_aload_n hx hb dX2_beginFrame_0 rfl (lv_at hl 0 rfl) ?_
  refine lv_iconst (v := 0) hx hb dX2_beginFrame_1 (by decide) ?_
  refine pf_X2_48 F hP hS ho dX2_beginFrame_2 (fun H locs hP hS => ?_)
  obtain ⟨σ1, eσ1, hf⟩ := vl_x hf
  rw [← eσ1] at hP
  refine lv_aload_n hx hb dX2_beginFrame_5 rfl (lv_at hl 0 rfl) ?_
  refine lv_aload_n hx hb dX2_beginFrame_6 rfl (lv_at hl 0 rfl) ?_
  refine gf_X2_21 F hP ho dX2_beginFrame_7 ?_
  refine pf_X2_45 F hP hS ho dX2_beginFrame_10 (fun H locs hP hS => ?_)
  obtain ⟨σ2, eσ2, hf⟩ := vl_x hf
  rw [← eσ2] at hP
  exact g_vret B hP hS hf dX2_beginFrame_13
theorem c_X2_beginFrame (l : Launch) {E : cEv} (hI : gIj (cG E)) {o : Nat} (ho : o < 8) {σ σ' : St} {u : Unit} (hf : f_X2_beginFrame o σ = some (u, σ')) : gMv l yX2_beginFrame cX2_beginFrame 1 rm_X2_beginFrame [.ref (cAd E (46 + o))] (cG E) σ σ' :=
  g_entry (by decide) (Nat.le_of_ble_eq_true rfl) hI (fun p e s m args below meth c B hP hS ls hl => w_X2_beginFrame_e ho B σ hf _ _ ls hP hS hl)
section SA
variable {p : Program} {l : Launch} {e : Env} {R : Room} {s : State} {m : MethodId} {args : Array Value} {below : List Frame} {meth : Method} {c : Code} {H : Heap} {locs : List Loc} {cells slots : Nat} {Q : State → Prop}
variable {cc : ByteArray} {pc nL : Nat} {ls : Array Slot} {rest : List Value} {E : cEv} {σ : St}
theorem pf_X2_42 (F : gFx p m c cc nL s args RX2 (cG E)) (hP : gW (cG E) σ H) (hS : va_S (gA (cG E)) s.heap H locs) {o : Nat} (ho : o < 8) {x : Int32} (hdg : decode cc pc = .ok (.putfield 42, 3)) (kk : ∀ (H1 : Heap) (locs1 : List Loc), gW (cG E) (up2 σ (46 + o) 10 x) H1 → va_S (gA (cG E)) s.heap H1 locs1 → W p l e R s m args below meth c H1 locs1 cells slots Q (F0 m (pc + 3) ls rest)) : W p l e R s m args below meth c H locs cells slots Q (F0 m pc ls (.int x :: .ref (cAd E (46 + o)) :: rest)) :=
  g_put F hP hS (k := (46 + o)) (cin (by omega)) (ce_2 E _ ho) rfl inX2 tyX2 tyX2_ok nmX2 10 (by decide) tw_194 rfl rfl rfl rfl (Nat.le_of_ble_eq_true rfl) (x := x) (jj := 10) (ce_2 E _ ho) hdg kk
theorem pf_X2_57 (F : gFx p m c cc nL s args RX2 (cG E)) (hP : gW (cG E) σ H) (hS : va_S (gA (cG E)) s.heap H locs) {o : Nat} (ho : o < 8) {x : Int32} (hdg : decode cc pc = .ok (.putfield 57, 3)) (kk : ∀ (H1 : Heap) (locs1 : List Loc), gW (cG E) (up2 σ (46 + o) 16 x) H1 → va_S (gA (cG E)) s.heap H1 locs1 → W p l e R s m args below meth c H1 locs1 cells slots Q (F0 m (pc + 3) ls rest)) : W p l e R s m args below meth c H locs cells slots Q (F0 m pc ls (.int x :: .ref (cAd E (46 + o)) :: rest)) :=
  g_put F hP hS (k := (46 + o)) (cin (by omega)) (ce_2 E _ ho) rfl inX2 tyX2 tyX2_ok nmX2 16 (by decide) tw_205 rfl rfl rfl rfl (Nat.le_of_ble_eq_true rfl) (x := x) (jj := 16) (ce_2 E _ ho) hdg kk
end SA
/-! PromisedSlots$Device.waitFor(I)V -/
def f_X2_waitFor (o : Nat) (p1 : Int32) (σ : St) : Option (Unit × St) :=
  vl (up2 σ (46 + o) 10 (1 : Int32)) fun σ1 =>
  vl (up2 σ1 (46 + o) 16 p1) fun σ2 =>
  some ((), σ2)
abbrev rm_X2_waitFor : Room := { frames := 0, cells := 0, slots := 0, locals := 0 }
set_option maxHeartbeats 4000000 in
set_option maxRecDepth 100000 in
theorem w_X2_waitFor_e {p : Program} {l : Launch} {e : Env} {s : State} {m : MethodId} {args : Array Value} {below : List Frame} {meth : Method} {c : Code} {E : cEv} {u : Unit} {σ' : St} {o : Nat} (ho : o < 8) (B : gBx p m meth c cX2_waitFor 2 none s args RX2 (cG E)) (p1 : Int32) (σ : St) (hf : f_X2_waitFor o p1 σ = some (u, σ')) (H : Heap) (locs : List Loc) (ls : Array Slot) (hP : gW (cG E) σ H) (hS : va_S (gA (cG E)) s.heap H locs) (hl : lv_has ls 2 [(0, .ref (cAd E (46 + o))), (1, .int p1)]) : W p l e rm_X2_waitFor s m args below meth c H locs 0 0 (gQv below args s (cG E) σ') (F0 m 0 ls []) := by
  unfold f_X2_waitFor at hf
  obtain ⟨F, hr, hlk⟩ := id B
  have hx := F.1
  have hb := F.2.1
  have hml := F.2.2.1
  have hown := F.2.2.2.1
  have hts := F.2.2.2.2.1
  refine lv_aload_n hx hb dX2_waitFor_0 rfl (lv_at hl 0 rfl) ?_
  refine lv_iconst (v := 1) hx hb dX2_waitFor_1 (by decide) ?_
  refine pf_X2_42 F hP hS ho dX2_waitFor_2 (fun H locs hP hS => ?_)
  obtain ⟨σ1, eσ1, hf⟩ := vl_x hf
  rw [← eσ1] at hP
  refine lv_aload_n hx hb dX2_waitFor_5 rfl (lv_at hl 0 rfl) ?_
  refine lv_iload_n hx hb dX2_waitFor_6 rfl (lv_at hl 1 rfl) ?_
  refine pf_X2_57 F hP hS ho dX2_waitFor_7 (fun H locs hP hS => ?_)
  obtain ⟨σ2, eσ2, hf⟩ := vl_x hf
  rw [← eσ2] at hP
  exact g_vret B hP hS hf dX2_waitFor_10
theorem c_X2_waitFor (l : Launch) {E : cEv} (hI : gIj (cG E)) {o : Nat} (ho : o < 8) {p1 : Int32} {σ σ' : St} {u : Unit} (hf : f_X2_waitFor o p1 σ = some (u, σ')) : gMv l yX2_waitFor cX2_waitFor 2 rm_X2_waitFor [.ref (cAd E (46 + o)), .int p1] (cG E) σ σ' :=
  g_entry (by decide) (Nat.le_of_ble_eq_true rfl) hI (fun p e s m args below meth c B hP hS ls hl => w_X2_waitFor_e ho B _ σ hf _ _ ls hP hS hl)
section SA
variable {p : Program} {l : Launch} {e : Env} {R : Room} {s : State} {m : MethodId} {args : Array Value} {below : List Frame} {meth : Method} {c : Code} {H : Heap} {locs : List Loc} {cells slots : Nat} {Q : State → Prop}
variable {cc : ByteArray} {pc nL : Nat} {ls : Array Slot} {rest : List Value} {E : cEv} {σ : St}
theorem gf_X2_18 (F : gFx p m c cc nL s args RX2 (cG E)) (hP : gW (cG E) σ H) {o : Nat} (ho : o < 8) (hdg : decode cc pc = .ok (.getfield 18, 3)) (kk : W p l e R s m args below meth c H locs cells slots Q (F0 m (pc + 3) ls (.int (σ (46 + o) 2) :: rest))) : W p l e R s m args below meth c H locs cells slots Q (F0 m pc ls (.ref (cAd E (46 + o)) :: rest)) :=
  g_get F hP (k := (46 + o)) (cin (by omega)) (ce_2 E _ ho) rfl inX2 2 (by decide) tw_182 rfl rfl hdg kk
theorem pf_X2_66 (F : gFx p m c cc nL s args RX2 (cG E)) (hP : gW (cG E) σ H) (hS : va_S (gA (cG E)) s.heap H locs) {o : Nat} (ho : o < 8) {x : Int32} (hdg : decode cc pc = .ok (.putfield 66, 3)) (kk : ∀ (H1 : Heap) (locs1 : List Loc), gW (cG E) (up2 σ (46 + o) 17 x) H1 → va_S (gA (cG E)) s.heap H1 locs1 → W p l e R s m args below meth c H1 locs1 cells slots Q (F0 m (pc + 3) ls rest)) : W p l e R s m args below meth c H locs cells slots Q (F0 m pc ls (.int x :: .ref (cAd E (46 + o)) :: rest)) :=
  g_put F hP hS (k := (46 + o)) (cin (by omega)) (ce_2 E _ ho) rfl inX2 tyX2 tyX2_ok nmX2 17 (by decide) tw_207 rfl rfl rfl rfl (Nat.le_of_ble_eq_true rfl) (x := x) (jj := 17) (ce_2 E _ ho) hdg kk
end SA
/-! PromisedSlots$Device.lookOrHold(II)V -/
def f_X2_lookOrHold (o : Nat) (p1 : Int32) (p2 : Int32) (σ : St) : Option (Unit × St) :=
  if p2 < ((p1 + (σ (46 + o) 2)) + (2 : Int32)) then
    vl (up2 σ (46 + o) 10 (3 : Int32)) fun σ2 =>
    vl (up2 σ2 (46 + o) 17 (0 : Int32)) fun σ3 =>
    some ((), σ3)
  else
    vl (up2 σ (46 + o) 10 (2 : Int32)) fun σ4 =>
    vl (up2 σ4 (46 + o) 17 (0 : Int32)) fun σ5 =>
    some ((), σ5)
abbrev rm_X2_lookOrHold : Room := { frames := 0, cells := 0, slots := 0, locals := 0 }
set_option maxHeartbeats 4000000 in
set_option maxRecDepth 100000 in
theorem w_X2_lookOrHold_e {p : Program} {l : Launch} {e : Env} {s : State} {m : MethodId} {args : Array Value} {below : List Frame} {meth : Method} {c : Code} {E : cEv} {u : Unit} {σ' : St} {o : Nat} (ho : o < 8) (B : gBx p m meth c cX2_lookOrHold 3 none s args RX2 (cG E)) (p1 : Int32) (p2 : Int32) (σ : St) (hf : f_X2_lookOrHold o p1 p2 σ = some (u, σ')) (H : Heap) (locs : List Loc) (ls : Array Slot) (hP : gW (cG E) σ H) (hS : va_S (gA (cG E)) s.heap H locs) (hl : lv_has ls 3 [(0, .ref (cAd E (46 + o))), (1, .int p1), (2, .int p2)]) : W p l e rm_X2_lookOrHold s m args below meth c H locs 0 0 (gQv below args s (cG E) σ') (F0 m 0 ls []) := by
  unfold f_X2_lookOrHold at hf
  obtain ⟨F, hr, hlk⟩ := id B
  have hx := F.1
  have hb := F.2.1
  have hml := F.2.2.1
  have hown := F.2.2.2.1
  have hts := F.2.2.2.2.1
  refine lv_aload_n hx hb dX2_lookOrHold_0 rfl (lv_at hl 0 rfl) ?_
  refine lv_iload_n hx hb dX2_lookOrHold_1 rfl (lv_at hl 1 rfl) ?_
  refine lv_aload_n hx hb dX2_lookOrHold_2 rfl (lv_at hl 0 rfl) ?_
  refine gf_X2_18 F hP ho dX2_lookOrHold_3 ?_
  refine lv_iadd hx hb dX2_lookOrHold_6 ?_
  refine lv_iconst (v := 2) hx hb dX2_lookOrHold_7 (by decide) ?_
  refine lv_iadd hx hb dX2_lookOrHold_8 ?_
  refine lv_iload_n hx hb dX2_lookOrHold_9 rfl (lv_at hl 2 rfl) ?_
  refine lv_icmp_gt (tgt := 17) hx hb dX2_lookOrHold_10 (by decide) (fun h1 => ?_) (fun h1 => ?_)
  · rw [if_pos h1] at hf
    refine lv_iconst (v := 3) hx hb dX2_lookOrHold_17 (by decide) ?_
    refine pf_X2_42 F hP hS ho dX2_lookOrHold_18 (fun H locs hP hS => ?_)
    obtain ⟨σ2, eσ2, hf⟩ := vl_x hf
    rw [← eσ2] at hP
    refine lv_aload_n hx hb dX2_lookOrHold_21 rfl (lv_at hl 0 rfl) ?_
    refine lv_iconst (v := 0) hx hb dX2_lookOrHold_22 (by decide) ?_
    refine pf_X2_66 F hP hS ho dX2_lookOrHold_23 (fun H locs hP hS => ?_)
    obtain ⟨σ3, eσ3, hf⟩ := vl_x hf
    rw [← eσ3] at hP
    exact g_vret B hP hS hf dX2_lookOrHold_26
  · rw [if_neg h1] at hf
    refine lv_iconst (v := 2) hx hb dX2_lookOrHold_13 (by decide) ?_
    refine lv_goto (tgt := 18) hx hb dX2_lookOrHold_14 (by decide) ?_
    refine pf_X2_42 F hP hS ho dX2_lookOrHold_18 (fun H locs hP hS => ?_)
    obtain ⟨σ4, eσ4, hf⟩ := vl_x hf
    rw [← eσ4] at hP
    refine lv_aload_n hx hb dX2_lookOrHold_21 rfl (lv_at hl 0 rfl) ?_
    refine lv_iconst (v := 0) hx hb dX2_lookOrHold_22 (by decide) ?_
    refine pf_X2_66 F hP hS ho dX2_lookOrHold_23 (fun H locs hP hS => ?_)
    obtain ⟨σ5, eσ5, hf⟩ := vl_x hf
    rw [← eσ5] at hP
    exact g_vret B hP hS hf dX2_lookOrHold_26
theorem c_X2_lookOrHold (l : Launch) {E : cEv} (hI : gIj (cG E)) {o : Nat} (ho : o < 8) {p1 : Int32} {p2 : Int32} {σ σ' : St} {u : Unit} (hf : f_X2_lookOrHold o p1 p2 σ = some (u, σ')) : gMv l yX2_lookOrHold cX2_lookOrHold 3 rm_X2_lookOrHold [.ref (cAd E (46 + o)), .int p1, .int p2] (cG E) σ σ' :=
  g_entry (by decide) (Nat.le_of_ble_eq_true rfl) hI (fun p e s m args below meth c B hP hS ls hl => w_X2_lookOrHold_e ho B _ _ σ hf _ _ ls hP hS hl)
section SA
variable {p : Program} {l : Launch} {e : Env} {R : Room} {s : State} {m : MethodId} {args : Array Value} {below : List Frame} {meth : Method} {c : Code} {H : Heap} {locs : List Loc} {cells slots : Nat} {Q : State → Prop}
variable {cc : ByteArray} {pc nL : Nat} {ls : Array Slot} {rest : List Value} {E : cEv} {σ : St}
theorem pf_X2_69 (F : gFx p m c cc nL s args RX2 (cG E)) (hP : gW (cG E) σ H) (hS : va_S (gA (cG E)) s.heap H locs) {o : Nat} (ho : o < 8) {x : Int32} (hdg : decode cc pc = .ok (.putfield 69, 3)) (kk : ∀ (H1 : Heap) (locs1 : List Loc), gW (cG E) (up2 σ (46 + o) 18 x) H1 → va_S (gA (cG E)) s.heap H1 locs1 → W p l e R s m args below meth c H1 locs1 cells slots Q (F0 m (pc + 3) ls rest)) : W p l e R s m args below meth c H locs cells slots Q (F0 m pc ls (.int x :: .ref (cAd E (46 + o)) :: rest)) :=
  g_put F hP hS (k := (46 + o)) (cin (by omega)) (ce_2 E _ ho) rfl inX2 tyX2 tyX2_ok nmX2 18 (by decide) tw_209 rfl rfl rfl rfl (Nat.le_of_ble_eq_true rfl) (x := x) (jj := 18) (ce_2 E _ ho) hdg kk
theorem pf_X2_72 (F : gFx p m c cc nL s args RX2 (cG E)) (hP : gW (cG E) σ H) (hS : va_S (gA (cG E)) s.heap H locs) {o : Nat} (ho : o < 8) {x : Int32} (hx : x = 0 ∨ x = 1) (hdg : decode cc pc = .ok (.putfield 72, 3)) (kk : ∀ (H1 : Heap) (locs1 : List Loc), gW (cG E) (up2 σ (46 + o) 19 x) H1 → va_S (gA (cG E)) s.heap H1 locs1 → W p l e R s m args below meth c H1 locs1 cells slots Q (F0 m (pc + 3) ls rest)) : W p l e R s m args below meth c H locs cells slots Q (F0 m pc ls (.int x :: .ref (cAd E (46 + o)) :: rest)) :=
  g_put F hP hS (k := (46 + o)) (cin (by omega)) (ce_2 E _ ho) rfl inX2 tyX2 tyX2_ok nmX2 19 (by decide) tw_211 rfl rfl (nb_ok hx) (nb_fit hx) (Nat.le_of_ble_eq_true rfl) (x := x) (jj := 19) (ce_2 E _ ho) hdg kk
end SA
/-! PromisedSlots$Device.startSending()V -/
def f_X2_startSending (o : Nat) (σ : St) : Option (Unit × St) :=
  vl (up2 σ (46 + o) 10 (4 : Int32)) fun σ1 =>
  vl (up2 σ1 (46 + o) 18 (σ1 (46 + o) 2)) fun σ2 =>
  vl (up2 σ2 (46 + o) 19 (0 : Int32)) fun σ3 =>
  some ((), σ3)
abbrev rm_X2_startSending : Room := { frames := 0, cells := 0, slots := 0, locals := 0 }
set_option maxHeartbeats 4000000 in
set_option maxRecDepth 100000 in
theorem w_X2_startSending_e {p : Program} {l : Launch} {e : Env} {s : State} {m : MethodId} {args : Array Value} {below : List Frame} {meth : Method} {c : Code} {E : cEv} {u : Unit} {σ' : St} {o : Nat} (ho : o < 8) (B : gBx p m meth c cX2_startSending 1 none s args RX2 (cG E)) (σ : St) (hf : f_X2_startSending o σ = some (u, σ')) (H : Heap) (locs : List Loc) (ls : Array Slot) (hP : gW (cG E) σ H) (hS : va_S (gA (cG E)) s.heap H locs) (hl : lv_has ls 1 [(0, .ref (cAd E (46 + o)))]) : W p l e rm_X2_startSending s m args below meth c H locs 0 0 (gQv below args s (cG E) σ') (F0 m 0 ls []) := by
  unfold f_X2_startSending at hf
  obtain ⟨F, hr, hlk⟩ := id B
  have hx := F.1
  have hb := F.2.1
  have hml := F.2.2.1
  have hown := F.2.2.2.1
  have hts := F.2.2.2.2.1
  refine lv_aload_n hx hb dX2_startSending_0 rfl (lv_at hl 0 rfl) ?_
  refine lv_iconst (v := 4) hx hb dX2_startSending_1 (by decide) ?_
  refine pf_X2_42 F hP hS ho dX2_startSending_2 (fun H locs hP hS => ?_)
  obtain ⟨σ1, eσ1, hf⟩ := vl_x hf
  rw [← eσ1] at hP
  refine lv_aload_n hx hb dX2_startSending_5 rfl (lv_at hl 0 rfl) ?_
  refine lv_aload_n hx hb dX2_startSending_6 rfl (lv_at hl 0 rfl) ?_
  refine gf_X2_18 F hP ho dX2_startSending_7 ?_
  refine pf_X2_69 F hP hS ho dX2_startSending_10 (fun H locs hP hS => ?_)
  obtain ⟨σ2, eσ2, hf⟩ := vl_x hf
  rw [← eσ2] at hP
  refine lv_aload_n hx hb dX2_startSending_13 rfl (lv_at hl 0 rfl) ?_
  refine lv_iconst (v := 0) hx hb dX2_startSending_14 (by decide) ?_
  refine pf_X2_72 F hP hS ho (by decide) dX2_startSending_15 (fun H locs hP hS => ?_)
  obtain ⟨σ3, eσ3, hf⟩ := vl_x hf
  rw [← eσ3] at hP
  exact g_vret B hP hS hf dX2_startSending_18
theorem c_X2_startSending (l : Launch) {E : cEv} (hI : gIj (cG E)) {o : Nat} (ho : o < 8) {σ σ' : St} {u : Unit} (hf : f_X2_startSending o σ = some (u, σ')) : gMv l yX2_startSending cX2_startSending 1 rm_X2_startSending [.ref (cAd E (46 + o))] (cG E) σ σ' :=
  g_entry (by decide) (Nat.le_of_ble_eq_true rfl) hI (fun p e s m args below meth c B hP hS ls hl => w_X2_startSending_e ho B σ hf _ _ ls hP hS hl)
section SA
variable {p : Program} {l : Launch} {e : Env} {R : Room} {s : State} {m : MethodId} {args : Array Value} {below : List Frame} {meth : Method} {c : Code} {H : Heap} {locs : List Loc} {cells slots : Nat} {Q : State → Prop}
variable {cc : ByteArray} {pc nL : Nat} {ls : Array Slot} {rest : List Value} {E : cEv} {σ : St}
theorem gf_X2_24 (F : gFx p m c cc nL s args RX2 (cG E)) (hP : gW (cG E) σ H) {o : Nat} (ho : o < 8) (hdg : decode cc pc = .ok (.getfield 24, 3)) (kk : W p l e R s m args below meth c H locs cells slots Q (F0 m (pc + 3) ls (.int (σ (46 + o) 4) :: rest))) : W p l e R s m args below meth c H locs cells slots Q (F0 m pc ls (.ref (cAd E (46 + o)) :: rest)) :=
  g_get F hP (k := (46 + o)) (cin (by omega)) (ce_2 E _ ho) rfl inX2 4 (by decide) tw_184 rfl rfl hdg kk
theorem pf_X2_24 (F : gFx p m c cc nL s args RX2 (cG E)) (hP : gW (cG E) σ H) (hS : va_S (gA (cG E)) s.heap H locs) {o : Nat} (ho : o < 8) {x : Int32} (hdg : decode cc pc = .ok (.putfield 24, 3)) (kk : ∀ (H1 : Heap) (locs1 : List Loc), gW (cG E) (up2 σ (46 + o) 4 x) H1 → va_S (gA (cG E)) s.heap H1 locs1 → W p l e R s m args below meth c H1 locs1 cells slots Q (F0 m (pc + 3) ls rest)) : W p l e R s m args below meth c H locs cells slots Q (F0 m pc ls (.int x :: .ref (cAd E (46 + o)) :: rest)) :=
  g_put F hP hS (k := (46 + o)) (cin (by omega)) (ce_2 E _ ho) rfl inX2 tyX2 tyX2_ok nmX2 4 (by decide) tw_184 rfl rfl rfl rfl (Nat.le_of_ble_eq_true rfl) (x := x) (jj := 4) (ce_2 E _ ho) hdg kk
theorem pf_X2_51 (F : gFx p m c cc nL s args RX2 (cG E)) (hP : gW (cG E) σ H) (hS : va_S (gA (cG E)) s.heap H locs) {o : Nat} (ho : o < 8) {x : Int32} (hdg : decode cc pc = .ok (.putfield 51, 3)) (kk : ∀ (H1 : Heap) (locs1 : List Loc), gW (cG E) (up2 σ (46 + o) 13 x) H1 → va_S (gA (cG E)) s.heap H1 locs1 → W p l e R s m args below meth c H1 locs1 cells slots Q (F0 m (pc + 3) ls rest)) : W p l e R s m args below meth c H locs cells slots Q (F0 m pc ls (.int x :: .ref (cAd E (46 + o)) :: rest)) :=
  g_put F hP hS (k := (46 + o)) (cin (by omega)) (ce_2 E _ ho) rfl inX2 tyX2 tyX2_ok nmX2 13 (by decide) tw_199 rfl rfl rfl rfl (Nat.le_of_ble_eq_true rfl) (x := x) (jj := 13) (ce_2 E _ ho) hdg kk
end SA
/-! PromisedSlots$Device.endFrame()V -/
def f_X2_endFrame (o : Nat) (σ : St) : Option (Unit × St) :=
  vl (up2 σ (46 + o) 4 ((σ (46 + o) 4) - (1 : Int32))) fun σ1 =>
  vl (up2 σ1 (46 + o) 10 (0 : Int32)) fun σ2 =>
  vl (up2 σ2 (46 + o) 13 (0 : Int32)) fun σ3 =>
  some ((), σ3)
abbrev rm_X2_endFrame : Room := { frames := 0, cells := 0, slots := 0, locals := 0 }
set_option maxHeartbeats 4000000 in
set_option maxRecDepth 100000 in
theorem w_X2_endFrame_e {p : Program} {l : Launch} {e : Env} {s : State} {m : MethodId} {args : Array Value} {below : List Frame} {meth : Method} {c : Code} {E : cEv} {u : Unit} {σ' : St} {o : Nat} (ho : o < 8) (B : gBx p m meth c cX2_endFrame 1 none s args RX2 (cG E)) (σ : St) (hf : f_X2_endFrame o σ = some (u, σ')) (H : Heap) (locs : List Loc) (ls : Array Slot) (hP : gW (cG E) σ H) (hS : va_S (gA (cG E)) s.heap H locs) (hl : lv_has ls 1 [(0, .ref (cAd E (46 + o)))]) : W p l e rm_X2_endFrame s m args below meth c H locs 0 0 (gQv below args s (cG E) σ') (F0 m 0 ls []) := by
  unfold f_X2_endFrame at hf
  obtain ⟨F, hr, hlk⟩ := id B
  have hx := F.1
  have hb := F.2.1
  have hml := F.2.2.1
  have hown := F.2.2.2.1
  have hts := F.2.2.2.2.1
  refine lv_aload_n hx hb dX2_endFrame_0 rfl (lv_at hl 0 rfl) ?_
  refine lv_dup hx hb dX2_endFrame_1 rfl ?_
  refine gf_X2_24 F hP ho dX2_endFrame_2 ?_
  refine lv_iconst (v := 1) hx hb dX2_endFrame_5 (by decide) ?_
  refine lv_isub hx hb dX2_endFrame_6 ?_
  refine pf_X2_24 F hP hS ho dX2_endFrame_7 (fun H locs hP hS => ?_)
  obtain ⟨σ1, eσ1, hf⟩ := vl_x hf
  rw [← eσ1] at hP
  refine lv_aload_n hx hb dX2_endFrame_10 rfl (lv_at hl 0 rfl) ?_
  refine lv_iconst (v := 0) hx hb dX2_endFrame_11 (by decide) ?_
  refine pf_X2_42 F hP hS ho dX2_endFrame_12 (fun H locs hP hS => ?_)
  obtain ⟨σ2, eσ2, hf⟩ := vl_x hf
  rw [← eσ2] at hP
  refine lv_aload_n hx hb dX2_endFrame_15 rfl (lv_at hl 0 rfl) ?_
  refine lv_iconst (v := 0) hx hb dX2_endFrame_16 (by decide) ?_
  refine pf_X2_51 F hP hS ho dX2_endFrame_17 (fun H locs hP hS => ?_)
  obtain ⟨σ3, eσ3, hf⟩ := vl_x hf
  rw [← eσ3] at hP
  exact g_vret B hP hS hf dX2_endFrame_20
theorem c_X2_endFrame (l : Launch) {E : cEv} (hI : gIj (cG E)) {o : Nat} (ho : o < 8) {σ σ' : St} {u : Unit} (hf : f_X2_endFrame o σ = some (u, σ')) : gMv l yX2_endFrame cX2_endFrame 1 rm_X2_endFrame [.ref (cAd E (46 + o))] (cG E) σ σ' :=
  g_entry (by decide) (Nat.le_of_ble_eq_true rfl) hI (fun p e s m args below meth c B hP hS ls hl => w_X2_endFrame_e ho B σ hf _ _ ls hP hS hl)
section SA
variable {p : Program} {l : Launch} {e : Env} {R : Room} {s : State} {m : MethodId} {args : Array Value} {below : List Frame} {meth : Method} {c : Code} {H : Heap} {locs : List Loc} {cells slots : Nat} {Q : State → Prop}
variable {cc : ByteArray} {pc nL : Nat} {ls : Array Slot} {rest : List Value} {E : cEv} {σ : St}
theorem gf_X2_33 (F : gFx p m c cc nL s args RX2 (cG E)) (hP : gW (cG E) σ H) {o : Nat} (ho : o < 8) (hdg : decode cc pc = .ok (.getfield 33, 3)) (kk : W p l e R s m args below meth c H locs cells slots Q (F0 m (pc + 3) ls (.int (σ (46 + o) 7) :: rest))) : W p l e R s m args below meth c H locs cells slots Q (F0 m pc ls (.ref (cAd E (46 + o)) :: rest)) :=
  g_get F hP (k := (46 + o)) (cin (by omega)) (ce_2 E _ ho) rfl inX2 7 (by decide) tw_190 rfl rfl hdg kk
theorem pf_X2_33 (F : gFx p m c cc nL s args RX2 (cG E)) (hP : gW (cG E) σ H) (hS : va_S (gA (cG E)) s.heap H locs) {o : Nat} (ho : o < 8) {x : Int32} (hdg : decode cc pc = .ok (.putfield 33, 3)) (kk : ∀ (H1 : Heap) (locs1 : List Loc), gW (cG E) (up2 σ (46 + o) 7 x) H1 → va_S (gA (cG E)) s.heap H1 locs1 → W p l e R s m args below meth c H1 locs1 cells slots Q (F0 m (pc + 3) ls rest)) : W p l e R s m args below meth c H locs cells slots Q (F0 m pc ls (.int x :: .ref (cAd E (46 + o)) :: rest)) :=
  g_put F hP hS (k := (46 + o)) (cin (by omega)) (ce_2 E _ ho) rfl inX2 tyX2 tyX2_ok nmX2 7 (by decide) tw_190 rfl rfl rfl rfl (Nat.le_of_ble_eq_true rfl) (x := x) (jj := 7) (ce_2 E _ ho) hdg kk
theorem kc_X2_82 (F : gFx p m c cc nL s args RX2 (cG E)) (hP : gW (cG E) σ H) (hS : va_S (gA (cG E)) s.heap H locs) {o : Nat} (ho : o < 8) {u : Unit} {σ' : St} (hf : f_X2_endFrame o σ = some (u, σ')) (hR : rm_X2_endFrame.frames + 1 ≤ R.frames ∧ 8 + (1 + 11) + rm_X2_endFrame.locals ≤ R.locals) (hsz : ls.size = nL) (hrest : (rest.map fun v => v.category).sum ≤ 8) (hcs : cells ≤ R.cells ∧ slots ≤ R.slots) (hdg : decode cc pc = .ok (.invokevirtual 82, 3)) (kk : ∀ (H1 : Heap) (locs1 : List Loc), gW (cG E) σ' H1 → va_S (gA (cG E)) s.heap H1 locs1 → W p l e R s m args below meth c H1 locs1 cells slots Q (F0 m (pc + 3) ls rest)) : W p l e R s m args below meth c H locs cells slots Q (F0 m pc ls (.ref (cAd E (46 + o)) :: rest)) :=
  g_callVv F hP hS (c_X2_endFrame l F.2.2.2.2.2.2.2 ho hf) (g_cwV (n := 0) F tw_681 tw_683 ts_22 tw_8 tw_684 (by decide +kernel) rfl rfl hR) (k := (46 + o)) (cin (by omega)) (ce_2 E _ ho) rfl (As := []) rfl hsz rfl hrest hdg hcs kk
end SA
/-! PromisedSlots$Device.giveUp()V -/
def f_X2_giveUp (o : Nat) (σ : St) : Option (Unit × St) :=
  vl (up2 σ (46 + o) 7 ((σ (46 + o) 7) + (1 : Int32))) fun σ1 =>
  cl (f_X2_endFrame o σ1) fun r3 σ2 =>
  some ((), σ2)
abbrev rm_X2_giveUp : Room := { frames := 1, cells := 0, slots := 0, locals := 20 }
set_option maxHeartbeats 4000000 in
set_option maxRecDepth 100000 in
theorem w_X2_giveUp_e {p : Program} {l : Launch} {e : Env} {s : State} {m : MethodId} {args : Array Value} {below : List Frame} {meth : Method} {c : Code} {E : cEv} {u : Unit} {σ' : St} {o : Nat} (ho : o < 8) (B : gBx p m meth c cX2_giveUp 1 none s args RX2 (cG E)) (σ : St) (hf : f_X2_giveUp o σ = some (u, σ')) (H : Heap) (locs : List Loc) (ls : Array Slot) (hP : gW (cG E) σ H) (hS : va_S (gA (cG E)) s.heap H locs) (hl : lv_has ls 1 [(0, .ref (cAd E (46 + o)))]) : W p l e rm_X2_giveUp s m args below meth c H locs 0 0 (gQv below args s (cG E) σ') (F0 m 0 ls []) := by
  unfold f_X2_giveUp at hf
  obtain ⟨F, hr, hlk⟩ := id B
  have hx := F.1
  have hb := F.2.1
  have hml := F.2.2.1
  have hown := F.2.2.2.1
  have hts := F.2.2.2.2.1
  refine lv_aload_n hx hb dX2_giveUp_0 rfl (lv_at hl 0 rfl) ?_
  refine lv_dup hx hb dX2_giveUp_1 rfl ?_
  refine gf_X2_33 F hP ho dX2_giveUp_2 ?_
  refine lv_iconst (v := 1) hx hb dX2_giveUp_5 (by decide) ?_
  refine lv_iadd hx hb dX2_giveUp_6 ?_
  refine pf_X2_33 F hP hS ho dX2_giveUp_7 (fun H locs hP hS => ?_)
  obtain ⟨σ1, eσ1, hf⟩ := vl_x hf
  rw [← eσ1] at hP
  refine lv_aload_n hx hb dX2_giveUp_10 rfl (lv_at hl 0 rfl) ?_
  obtain ⟨r3, σ2, h4, hf⟩ := cl_e hf
  refine kc_X2_82 F hP hS ho h4 ⟨Nat.le_of_ble_eq_true rfl, Nat.le_of_ble_eq_true rfl⟩ hl.1 (Nat.le_of_ble_eq_true rfl) ⟨Nat.zero_le _, Nat.zero_le _⟩ dX2_giveUp_11 (fun H locs hP hS => ?_)
  exact g_vret B hP hS hf dX2_giveUp_14
theorem c_X2_giveUp (l : Launch) {E : cEv} (hI : gIj (cG E)) {o : Nat} (ho : o < 8) {σ σ' : St} {u : Unit} (hf : f_X2_giveUp o σ = some (u, σ')) : gMv l yX2_giveUp cX2_giveUp 1 rm_X2_giveUp [.ref (cAd E (46 + o))] (cG E) σ σ' :=
  g_entry (by decide) (Nat.le_of_ble_eq_true rfl) hI (fun p e s m args below meth c B hP hS ls hl => w_X2_giveUp_e ho B σ hf _ _ ls hP hS hl)
section SA
variable {p : Program} {l : Launch} {e : Env} {R : Room} {s : State} {m : MethodId} {args : Array Value} {below : List Frame} {meth : Method} {c : Code} {H : Heap} {locs : List Loc} {cells slots : Nat} {Q : State → Prop}
variable {cc : ByteArray} {pc nL : Nat} {ls : Array Slot} {rest : List Value} {E : cEv} {σ : St}
theorem gf_X2_48 (F : gFx p m c cc nL s args RX2 (cG E)) (hP : gW (cG E) σ H) {o : Nat} (ho : o < 8) (hdg : decode cc pc = .ok (.getfield 48, 3)) (kk : W p l e R s m args below meth c H locs cells slots Q (F0 m (pc + 3) ls (.int (σ (46 + o) 12) :: rest))) : W p l e R s m args below meth c H locs cells slots Q (F0 m pc ls (.ref (cAd E (46 + o)) :: rest)) :=
  g_get F hP (k := (46 + o)) (cin (by omega)) (ce_2 E _ ho) rfl inX2 12 (by decide) tw_198 rfl rfl hdg kk
theorem gf_X2_45 (F : gFx p m c cc nL s args RX2 (cG E)) (hP : gW (cG E) σ H) {o : Nat} (ho : o < 8) (hdg : decode cc pc = .ok (.getfield 45, 3)) (kk : W p l e R s m args below meth c H locs cells slots Q (F0 m (pc + 3) ls (.int (σ (46 + o) 11) :: rest))) : W p l e R s m args below meth c H locs cells slots Q (F0 m pc ls (.ref (cAd E (46 + o)) :: rest)) :=
  g_get F hP (k := (46 + o)) (cin (by omega)) (ce_2 E _ ho) rfl inX2 11 (by decide) tw_196 rfl rfl hdg kk
theorem kc_X2_79 (F : gFx p m c cc nL s args RX2 (cG E)) (hP : gW (cG E) σ H) (hS : va_S (gA (cG E)) s.heap H locs) {o : Nat} (ho : o < 8) {u : Unit} {σ' : St} (hf : f_X2_giveUp o σ = some (u, σ')) (hR : rm_X2_giveUp.frames + 1 ≤ R.frames ∧ 8 + (1 + 11) + rm_X2_giveUp.locals ≤ R.locals) (hsz : ls.size = nL) (hrest : (rest.map fun v => v.category).sum ≤ 8) (hcs : cells ≤ R.cells ∧ slots ≤ R.slots) (hdg : decode cc pc = .ok (.invokevirtual 79, 3)) (kk : ∀ (H1 : Heap) (locs1 : List Loc), gW (cG E) σ' H1 → va_S (gA (cG E)) s.heap H1 locs1 → W p l e R s m args below meth c H1 locs1 cells slots Q (F0 m (pc + 3) ls rest)) : W p l e R s m args below meth c H locs cells slots Q (F0 m pc ls (.ref (cAd E (46 + o)) :: rest)) :=
  g_callVv F hP hS (c_X2_giveUp l F.2.2.2.2.2.2.2 ho hf) (g_cwV (n := 0) F tw_677 tw_679 ts_21 tw_8 tw_680 (by decide +kernel) rfl rfl hR) (k := (46 + o)) (cin (by omega)) (ce_2 E _ ho) rfl (As := []) rfl hsz rfl hrest hdg hcs kk
end SA
/-! PromisedSlots$Device.foundBusy()Z -/
def f_X2_foundBusy (o : Nat) (σ : St) : Option (Int32 × St) :=
  vl (up2 σ (46 + o) 12 ((σ (46 + o) 12) + (1 : Int32))) fun σ1 =>
  vl (if ((σ1 (46 + o) 11) + (1 : Int32)) < (5 : Int32) then ((σ1 (46 + o) 11) + (1 : Int32)) else (5 : Int32)) fun x2 =>
  vl (up2 σ1 (46 + o) 11 x2) fun σ3 =>
  if (σ3 (46 + o) 12) < (5 : Int32) then
    some ((1 : Int32), σ3)
  else
    cl (f_X2_giveUp o σ3) fun r6 σ5 =>
    some ((0 : Int32), σ5)
abbrev rm_X2_foundBusy : Room := { frames := 2, cells := 0, slots := 0, locals := 40 }
set_option maxHeartbeats 4000000 in
set_option maxRecDepth 100000 in
theorem w_X2_foundBusy_e {p : Program} {l : Launch} {e : Env} {s : State} {m : MethodId} {args : Array Value} {below : List Frame} {meth : Method} {c : Code} {E : cEv} {r : Int32} {σ' : St} {o : Nat} (ho : o < 8) (B : gBx p m meth c cX2_foundBusy 1 (some .boolean) s args RX2 (cG E)) (σ : St) (hf : f_X2_foundBusy o σ = some (r, σ')) (H : Heap) (locs : List Loc) (ls : Array Slot) (hP : gW (cG E) σ H) (hS : va_S (gA (cG E)) s.heap H locs) (hl : lv_has ls 1 [(0, .ref (cAd E (46 + o)))]) : W p l e rm_X2_foundBusy s m args below meth c H locs 0 0 (gQi below args s (cG E) r σ') (F0 m 0 ls []) := by
  unfold f_X2_foundBusy at hf
  obtain ⟨F, hr, hlk⟩ := id B
  have hx := F.1
  have hb := F.2.1
  have hml := F.2.2.1
  have hown := F.2.2.2.1
  have hts := F.2.2.2.2.1
  refine lv_aload_n hx hb dX2_foundBusy_0 rfl (lv_at hl 0 rfl) ?_
  refine lv_dup hx hb dX2_foundBusy_1 rfl ?_
  refine gf_X2_48 F hP ho dX2_foundBusy_2 ?_
  refine lv_iconst (v := 1) hx hb dX2_foundBusy_5 (by decide) ?_
  refine lv_iadd hx hb dX2_foundBusy_6 ?_
  refine pf_X2_48 F hP hS ho dX2_foundBusy_7 (fun H locs hP hS => ?_)
  obtain ⟨σ1, eσ1, hf⟩ := vl_x hf
  rw [← eσ1] at hP
  refine lv_aload_n hx hb dX2_foundBusy_10 rfl (lv_at hl 0 rfl) ?_
  refine lv_iconst (v := 5) hx hb dX2_foundBusy_11 (by decide) ?_
  refine lv_aload_n hx hb dX2_foundBusy_12 rfl (lv_at hl 0 rfl) ?_
  refine gf_X2_45 F hP ho dX2_foundBusy_13 ?_
  refine lv_iconst (v := 1) hx hb dX2_foundBusy_16 (by decide) ?_
  refine lv_iadd hx hb dX2_foundBusy_17 ?_
  refine va_mmin hx hb (hml.trans hl.1.symm) hown (hts _ tw_676) (hts _ tw_355) (hts _ tw_3) (hts _ tw_356) (Nat.le_of_ble_eq_true rfl) (Nat.le_of_ble_eq_true rfl) (Nat.zero_le _) (Nat.zero_le _) dX2_foundBusy_18 ?_
  obtain ⟨x2, ex2, hf⟩ := vl_x hf
  rw [← ex2]
  refine pf_X2_45 F hP hS ho dX2_foundBusy_21 (fun H locs hP hS => ?_)
  obtain ⟨σ3, eσ3, hf⟩ := vl_x hf
  rw [← eσ3] at hP
  refine lv_aload_n hx hb dX2_foundBusy_24 rfl (lv_at hl 0 rfl) ?_
  refine gf_X2_48 F hP ho dX2_foundBusy_25 ?_
  refine lv_iconst (v := 5) hx hb dX2_foundBusy_28 (by decide) ?_
  refine lv_icmp_lt (tgt := 38) hx hb dX2_foundBusy_29 (by decide) (fun h4 => ?_) (fun h4 => ?_)
  · rw [if_pos h4] at hf
    refine lv_iconst (v := 1) hx hb dX2_foundBusy_38 (by decide) ?_
    exact g_zret B hP hS hf (by decide) dX2_foundBusy_39
  · rw [if_neg h4] at hf
    refine lv_aload_n hx hb dX2_foundBusy_32 rfl (lv_at hl 0 rfl) ?_
    obtain ⟨r6, σ5, h7, hf⟩ := cl_e hf
    refine kc_X2_79 F hP hS ho h7 ⟨Nat.le_of_ble_eq_true rfl, Nat.le_of_ble_eq_true rfl⟩ hl.1 (Nat.le_of_ble_eq_true rfl) ⟨Nat.zero_le _, Nat.zero_le _⟩ dX2_foundBusy_33 (fun H locs hP hS => ?_)
    refine lv_iconst (v := 0) hx hb dX2_foundBusy_36 (by decide) ?_
    exact g_zret B hP hS hf (by decide) dX2_foundBusy_37
theorem c_X2_foundBusy (l : Launch) {E : cEv} (hI : gIj (cG E)) {o : Nat} (ho : o < 8) {σ σ' : St} {r : Int32} (hf : f_X2_foundBusy o σ = some (r, σ')) : gMi l yX2_foundBusy cX2_foundBusy 1 .boolean rm_X2_foundBusy [.ref (cAd E (46 + o))] (cG E) σ r σ' :=
  g_entry (by decide) (Nat.le_of_ble_eq_true rfl) hI (fun p e s m args below meth c B hP hS ls hl => w_X2_foundBusy_e ho B σ hf _ _ ls hP hS hl)
section SA
variable {p : Program} {l : Launch} {e : Env} {R : Room} {s : State} {m : MethodId} {args : Array Value} {below : List Frame} {meth : Method} {c : Code} {H : Heap} {locs : List Loc} {cells slots : Nat} {Q : State → Prop}
variable {cc : ByteArray} {pc nL : Nat} {ls : Array Slot} {rest : List Value} {E : cEv} {σ : St}
theorem gf_X2_57 (F : gFx p m c cc nL s args RX2 (cG E)) (hP : gW (cG E) σ H) {o : Nat} (ho : o < 8) (hdg : decode cc pc = .ok (.getfield 57, 3)) (kk : W p l e R s m args below meth c H locs cells slots Q (F0 m (pc + 3) ls (.int (σ (46 + o) 16) :: rest))) : W p l e R s m args below meth c H locs cells slots Q (F0 m pc ls (.ref (cAd E (46 + o)) :: rest)) :=
  g_get F hP (k := (46 + o)) (cin (by omega)) (ce_2 E _ ho) rfl inX2 16 (by decide) tw_205 rfl rfl hdg kk
end SA
/-! PromisedSlots$Device.waitLess()V -/
def f_X2_waitLess (o : Nat) (σ : St) : Option (Unit × St) :=
  vl (if (0 : Int32) < ((σ (46 + o) 16) - (1 : Int32)) then ((σ (46 + o) 16) - (1 : Int32)) else (0 : Int32)) fun x1 =>
  vl (up2 σ (46 + o) 16 x1) fun σ2 =>
  some ((), σ2)
abbrev rm_X2_waitLess : Room := { frames := 1, cells := 0, slots := 0, locals := 21 }
set_option maxHeartbeats 4000000 in
set_option maxRecDepth 100000 in
theorem w_X2_waitLess_e {p : Program} {l : Launch} {e : Env} {s : State} {m : MethodId} {args : Array Value} {below : List Frame} {meth : Method} {c : Code} {E : cEv} {u : Unit} {σ' : St} {o : Nat} (ho : o < 8) (B : gBx p m meth c cX2_waitLess 1 none s args RX2 (cG E)) (σ : St) (hf : f_X2_waitLess o σ = some (u, σ')) (H : Heap) (locs : List Loc) (ls : Array Slot) (hP : gW (cG E) σ H) (hS : va_S (gA (cG E)) s.heap H locs) (hl : lv_has ls 1 [(0, .ref (cAd E (46 + o)))]) : W p l e rm_X2_waitLess s m args below meth c H locs 0 0 (gQv below args s (cG E) σ') (F0 m 0 ls []) := by
  unfold f_X2_waitLess at hf
  obtain ⟨F, hr, hlk⟩ := id B
  have hx := F.1
  have hb := F.2.1
  have hml := F.2.2.1
  have hown := F.2.2.2.1
  have hts := F.2.2.2.2.1
  refine lv_aload_n hx hb dX2_waitLess_0 rfl (lv_at hl 0 rfl) ?_
  refine lv_iconst (v := 0) hx hb dX2_waitLess_1 (by decide) ?_
  refine lv_aload_n hx hb dX2_waitLess_2 rfl (lv_at hl 0 rfl) ?_
  refine gf_X2_57 F hP ho dX2_waitLess_3 ?_
  refine lv_iconst (v := 1) hx hb dX2_waitLess_6 (by decide) ?_
  refine lv_isub hx hb dX2_waitLess_7 ?_
  refine va_mmax hx hb (hml.trans hl.1.symm) hown (hts _ tw_689) (hts _ tw_31) (hts _ tw_3) (hts _ tw_32) (Nat.le_of_ble_eq_true rfl) (Nat.le_of_ble_eq_true rfl) (Nat.zero_le _) (Nat.zero_le _) dX2_waitLess_8 ?_
  obtain ⟨x1, ex1, hf⟩ := vl_x hf
  rw [← ex1]
  refine pf_X2_57 F hP hS ho dX2_waitLess_11 (fun H locs hP hS => ?_)
  obtain ⟨σ2, eσ2, hf⟩ := vl_x hf
  rw [← eσ2] at hP
  exact g_vret B hP hS hf dX2_waitLess_14
theorem c_X2_waitLess (l : Launch) {E : cEv} (hI : gIj (cG E)) {o : Nat} (ho : o < 8) {σ σ' : St} {u : Unit} (hf : f_X2_waitLess o σ = some (u, σ')) : gMv l yX2_waitLess cX2_waitLess 1 rm_X2_waitLess [.ref (cAd E (46 + o))] (cG E) σ σ' :=
  g_entry (by decide) (Nat.le_of_ble_eq_true rfl) hI (fun p e s m args below meth c B hP hS ls hl => w_X2_waitLess_e ho B σ hf _ _ ls hP hS hl)
section SA
variable {p : Program} {l : Launch} {e : Env} {R : Room} {s : State} {m : MethodId} {args : Array Value} {below : List Frame} {meth : Method} {c : Code} {H : Heap} {locs : List Loc} {cells slots : Nat} {Q : State → Prop}
variable {cc : ByteArray} {pc nL : Nat} {ls : Array Slot} {rest : List Value} {E : cEv} {σ : St}
theorem gf_X2_30 (F : gFx p m c cc nL s args RX2 (cG E)) (hP : gW (cG E) σ H) {o : Nat} (ho : o < 8) (hdg : decode cc pc = .ok (.getfield 30, 3)) (kk : W p l e R s m args below meth c H locs cells slots Q (F0 m (pc + 3) ls (.int (σ (46 + o) 6) :: rest))) : W p l e R s m args below meth c H locs cells slots Q (F0 m pc ls (.ref (cAd E (46 + o)) :: rest)) :=
  g_get F hP (k := (46 + o)) (cin (by omega)) (ce_2 E _ ho) rfl inX2 6 (by decide) tw_189 rfl rfl hdg kk
theorem pf_X2_30 (F : gFx p m c cc nL s args RX2 (cG E)) (hP : gW (cG E) σ H) (hS : va_S (gA (cG E)) s.heap H locs) {o : Nat} (ho : o < 8) {x : Int32} (hdg : decode cc pc = .ok (.putfield 30, 3)) (kk : ∀ (H1 : Heap) (locs1 : List Loc), gW (cG E) (up2 σ (46 + o) 6 x) H1 → va_S (gA (cG E)) s.heap H1 locs1 → W p l e R s m args below meth c H1 locs1 cells slots Q (F0 m (pc + 3) ls rest)) : W p l e R s m args below meth c H locs cells slots Q (F0 m pc ls (.int x :: .ref (cAd E (46 + o)) :: rest)) :=
  g_put F hP hS (k := (46 + o)) (cin (by omega)) (ce_2 E _ ho) rfl inX2 tyX2 tyX2_ok nmX2 6 (by decide) tw_189 rfl rfl rfl rfl (Nat.le_of_ble_eq_true rfl) (x := x) (jj := 6) (ce_2 E _ ho) hdg kk
end SA
/-! PromisedSlots$Device.frameSent()V -/
def f_X2_frameSent (o : Nat) (σ : St) : Option (Unit × St) :=
  vl (up2 σ (46 + o) 6 ((σ (46 + o) 6) + (1 : Int32))) fun σ1 =>
  cl (f_X2_endFrame o σ1) fun r3 σ2 =>
  some ((), σ2)
abbrev rm_X2_frameSent : Room := { frames := 1, cells := 0, slots := 0, locals := 20 }
set_option maxHeartbeats 4000000 in
set_option maxRecDepth 100000 in
theorem w_X2_frameSent_e {p : Program} {l : Launch} {e : Env} {s : State} {m : MethodId} {args : Array Value} {below : List Frame} {meth : Method} {c : Code} {E : cEv} {u : Unit} {σ' : St} {o : Nat} (ho : o < 8) (B : gBx p m meth c cX2_frameSent 1 none s args RX2 (cG E)) (σ : St) (hf : f_X2_frameSent o σ = some (u, σ')) (H : Heap) (locs : List Loc) (ls : Array Slot) (hP : gW (cG E) σ H) (hS : va_S (gA (cG E)) s.heap H locs) (hl : lv_has ls 1 [(0, .ref (cAd E (46 + o)))]) : W p l e rm_X2_frameSent s m args below meth c H locs 0 0 (gQv below args s (cG E) σ') (F0 m 0 ls []) := by
  unfold f_X2_frameSent at hf
  obtain ⟨F, hr, hlk⟩ := id B
  have hx := F.1
  have hb := F.2.1
  have hml := F.2.2.1
  have hown := F.2.2.2.1
  have hts := F.2.2.2.2.1
  refine lv_aload_n hx hb dX2_frameSent_0 rfl (lv_at hl 0 rfl) ?_
  refine lv_dup hx hb dX2_frameSent_1 rfl ?_
  refine gf_X2_30 F hP ho dX2_frameSent_2 ?_
  refine lv_iconst (v := 1) hx hb dX2_frameSent_5 (by decide) ?_
  refine lv_iadd hx hb dX2_frameSent_6 ?_
  refine pf_X2_30 F hP hS ho dX2_frameSent_7 (fun H locs hP hS => ?_)
  obtain ⟨σ1, eσ1, hf⟩ := vl_x hf
  rw [← eσ1] at hP
  refine lv_aload_n hx hb dX2_frameSent_10 rfl (lv_at hl 0 rfl) ?_
  obtain ⟨r3, σ2, h4, hf⟩ := cl_e hf
  refine kc_X2_82 F hP hS ho h4 ⟨Nat.le_of_ble_eq_true rfl, Nat.le_of_ble_eq_true rfl⟩ hl.1 (Nat.le_of_ble_eq_true rfl) ⟨Nat.zero_le _, Nat.zero_le _⟩ dX2_frameSent_11 (fun H locs hP hS => ?_)
  exact g_vret B hP hS hf dX2_frameSent_14
theorem c_X2_frameSent (l : Launch) {E : cEv} (hI : gIj (cG E)) {o : Nat} (ho : o < 8) {σ σ' : St} {u : Unit} (hf : f_X2_frameSent o σ = some (u, σ')) : gMv l yX2_frameSent cX2_frameSent 1 rm_X2_frameSent [.ref (cAd E (46 + o))] (cG E) σ σ' :=
  g_entry (by decide) (Nat.le_of_ble_eq_true rfl) hI (fun p e s m args below meth c B hP hS ls hl => w_X2_frameSent_e ho B σ hf _ _ ls hP hS hl)
section SA
variable {p : Program} {l : Launch} {e : Env} {R : Room} {s : State} {m : MethodId} {args : Array Value} {below : List Frame} {meth : Method} {c : Code} {H : Heap} {locs : List Loc} {cells slots : Nat} {Q : State → Prop}
variable {cc : ByteArray} {pc nL : Nat} {ls : Array Slot} {rest : List Value} {E : cEv} {σ : St}
theorem gf_X2_54 (F : gFx p m c cc nL s args RX2 (cG E)) (hP : gW (cG E) σ H) {o : Nat} (ho : o < 8) (hdg : decode cc pc = .ok (.getfield 54, 3)) (kk : W p l e R s m args below meth c H locs cells slots Q (F0 m (pc + 3) ls (.int (σ (46 + o) 14) :: rest))) : W p l e R s m args below meth c H locs cells slots Q (F0 m pc ls (.ref (cAd E (46 + o)) :: rest)) :=
  g_get F hP (k := (46 + o)) (cin (by omega)) (ce_2 E _ ho) rfl inX2 14 (by decide) tw_200 rfl rfl hdg kk
theorem pf_X2_54 (F : gFx p m c cc nL s args RX2 (cG E)) (hP : gW (cG E) σ H) (hS : va_S (gA (cG E)) s.heap H locs) {o : Nat} (ho : o < 8) {x : Int32} (hdg : decode cc pc = .ok (.putfield 54, 3)) (kk : ∀ (H1 : Heap) (locs1 : List Loc), gW (cG E) (up2 σ (46 + o) 14 x) H1 → va_S (gA (cG E)) s.heap H1 locs1 → W p l e R s m args below meth c H1 locs1 cells slots Q (F0 m (pc + 3) ls rest)) : W p l e R s m args below meth c H locs cells slots Q (F0 m pc ls (.int x :: .ref (cAd E (46 + o)) :: rest)) :=
  g_put F hP hS (k := (46 + o)) (cin (by omega)) (ce_2 E _ ho) rfl inX2 tyX2 tyX2_ok nmX2 14 (by decide) tw_200 rfl rfl rfl rfl (Nat.le_of_ble_eq_true rfl) (x := x) (jj := 14) (ce_2 E _ ho) hdg kk
theorem gf_X2_51 (F : gFx p m c cc nL s args RX2 (cG E)) (hP : gW (cG E) σ H) {o : Nat} (ho : o < 8) (hdg : decode cc pc = .ok (.getfield 51, 3)) (kk : W p l e R s m args below meth c H locs cells slots Q (F0 m (pc + 3) ls (.int (σ (46 + o) 13) :: rest))) : W p l e R s m args below meth c H locs cells slots Q (F0 m pc ls (.ref (cAd E (46 + o)) :: rest)) :=
  g_get F hP (k := (46 + o)) (cin (by omega)) (ce_2 E _ ho) rfl inX2 13 (by decide) tw_199 rfl rfl hdg kk
end SA
/-! PromisedSlots$Device.foundHurt()Z -/
def f_X2_foundHurt (o : Nat) (σ : St) : Option (Int32 × St) :=
  vl (up2 σ (46 + o) 14 ((σ (46 + o) 14) + (1 : Int32))) fun σ1 =>
  vl (up2 σ1 (46 + o) 13 ((σ1 (46 + o) 13) + (1 : Int32))) fun σ2 =>
  if (σ2 (46 + o) 13) < (4 : Int32) then
    some ((1 : Int32), σ2)
  else
    cl (f_X2_giveUp o σ2) fun r5 σ4 =>
    some ((0 : Int32), σ4)
abbrev rm_X2_foundHurt : Room := { frames := 2, cells := 0, slots := 0, locals := 40 }
set_option maxHeartbeats 4000000 in
set_option maxRecDepth 100000 in
theorem w_X2_foundHurt_e {p : Program} {l : Launch} {e : Env} {s : State} {m : MethodId} {args : Array Value} {below : List Frame} {meth : Method} {c : Code} {E : cEv} {r : Int32} {σ' : St} {o : Nat} (ho : o < 8) (B : gBx p m meth c cX2_foundHurt 1 (some .boolean) s args RX2 (cG E)) (σ : St) (hf : f_X2_foundHurt o σ = some (r, σ')) (H : Heap) (locs : List Loc) (ls : Array Slot) (hP : gW (cG E) σ H) (hS : va_S (gA (cG E)) s.heap H locs) (hl : lv_has ls 1 [(0, .ref (cAd E (46 + o)))]) : W p l e rm_X2_foundHurt s m args below meth c H locs 0 0 (gQi below args s (cG E) r σ') (F0 m 0 ls []) := by
  unfold f_X2_foundHurt at hf
  obtain ⟨F, hr, hlk⟩ := id B
  have hx := F.1
  have hb := F.2.1
  have hml := F.2.2.1
  have hown := F.2.2.2.1
  have hts := F.2.2.2.2.1
  refine lv_aload_n hx hb dX2_foundHurt_0 rfl (lv_at hl 0 rfl) ?_
  refine lv_dup hx hb dX2_foundHurt_1 rfl ?_
  refine gf_X2_54 F hP ho dX2_foundHurt_2 ?_
  refine lv_iconst (v := 1) hx hb dX2_foundHurt_5 (by decide) ?_
  refine lv_iadd hx hb dX2_foundHurt_6 ?_
  refine pf_X2_54 F hP hS ho dX2_foundHurt_7 (fun H locs hP hS => ?_)
  obtain ⟨σ1, eσ1, hf⟩ := vl_x hf
  rw [← eσ1] at hP
  refine lv_aload_n hx hb dX2_foundHurt_10 rfl (lv_at hl 0 rfl) ?_
  refine lv_dup hx hb dX2_foundHurt_11 rfl ?_
  refine gf_X2_51 F hP ho dX2_foundHurt_12 ?_
  refine lv_iconst (v := 1) hx hb dX2_foundHurt_15 (by decide) ?_
  refine lv_iadd hx hb dX2_foundHurt_16 ?_
  refine pf_X2_51 F hP hS ho dX2_foundHurt_17 (fun H locs hP hS => ?_)
  obtain ⟨σ2, eσ2, hf⟩ := vl_x hf
  rw [← eσ2] at hP
  refine lv_aload_n hx hb dX2_foundHurt_20 rfl (lv_at hl 0 rfl) ?_
  refine gf_X2_51 F hP ho dX2_foundHurt_21 ?_
  refine lv_iconst (v := 4) hx hb dX2_foundHurt_24 (by decide) ?_
  refine lv_icmp_lt (tgt := 34) hx hb dX2_foundHurt_25 (by decide) (fun h3 => ?_) (fun h3 => ?_)
  · rw [if_pos h3] at hf
    refine lv_iconst (v := 1) hx hb dX2_foundHurt_34 (by decide) ?_
    exact g_zret B hP hS hf (by decide) dX2_foundHurt_35
  · rw [if_neg h3] at hf
    refine lv_aload_n hx hb dX2_foundHurt_28 rfl (lv_at hl 0 rfl) ?_
    obtain ⟨r5, σ4, h6, hf⟩ := cl_e hf
    refine kc_X2_79 F hP hS ho h6 ⟨Nat.le_of_ble_eq_true rfl, Nat.le_of_ble_eq_true rfl⟩ hl.1 (Nat.le_of_ble_eq_true rfl) ⟨Nat.zero_le _, Nat.zero_le _⟩ dX2_foundHurt_29 (fun H locs hP hS => ?_)
    refine lv_iconst (v := 0) hx hb dX2_foundHurt_32 (by decide) ?_
    exact g_zret B hP hS hf (by decide) dX2_foundHurt_33
theorem c_X2_foundHurt (l : Launch) {E : cEv} (hI : gIj (cG E)) {o : Nat} (ho : o < 8) {σ σ' : St} {r : Int32} (hf : f_X2_foundHurt o σ = some (r, σ')) : gMi l yX2_foundHurt cX2_foundHurt 1 .boolean rm_X2_foundHurt [.ref (cAd E (46 + o))] (cG E) σ r σ' :=
  g_entry (by decide) (Nat.le_of_ble_eq_true rfl) hI (fun p e s m args below meth c B hP hS ls hl => w_X2_foundHurt_e ho B σ hf _ _ ls hP hS hl)
section SA
variable {p : Program} {l : Launch} {e : Env} {R : Room} {s : State} {m : MethodId} {args : Array Value} {below : List Frame} {meth : Method} {c : Code} {H : Heap} {locs : List Loc} {cells slots : Nat} {Q : State → Prop}
variable {cc : ByteArray} {pc nL : Nat} {ls : Array Slot} {rest : List Value} {E : cEv} {σ : St}
theorem pf_X4_21 (F : gFx p m c cc nL s args RX4 (cG E)) (hP : gW (cG E) σ H) (hS : va_S (gA (cG E)) s.heap H locs) {o : Nat} (ho : o < 4) {x : Int32} (hdg : decode cc pc = .ok (.putfield 21, 3)) (kk : ∀ (H1 : Heap) (locs1 : List Loc), gW (cG E) (up2 σ (26 + o) 3 x) H1 → va_S (gA (cG E)) s.heap H1 locs1 → W p l e R s m args below meth c H1 locs1 cells slots Q (F0 m (pc + 3) ls rest)) : W p l e R s m args below meth c H locs cells slots Q (F0 m pc ls (.int x :: .ref (cAd E (26 + o)) :: rest)) :=
  g_put F hP hS (k := (26 + o)) (cin (by omega)) (ce_4 E _ ho) rfl inX4 tyX4 tyX4_ok nmX4 3 (by decide) tw_134 rfl rfl rfl rfl (Nat.le_of_ble_eq_true rfl) (x := x) (jj := 3) (ce_4 E _ ho) hdg kk
end SA
/-! PromisedSlots$Promises.clear()V -/
def f_X4_clear (o : Nat) (σ : St) : Option (Unit × St) :=
  vl (up2 σ (26 + o) 3 (0 : Int32)) fun σ1 =>
  some ((), σ1)
abbrev rm_X4_clear : Room := { frames := 0, cells := 0, slots := 0, locals := 0 }
set_option maxHeartbeats 4000000 in
set_option maxRecDepth 100000 in
theorem w_X4_clear_e {p : Program} {l : Launch} {e : Env} {s : State} {m : MethodId} {args : Array Value} {below : List Frame} {meth : Method} {c : Code} {E : cEv} {u : Unit} {σ' : St} {o : Nat} (ho : o < 4) (B : gBx p m meth c cX4_clear 1 none s args RX4 (cG E)) (σ : St) (hf : f_X4_clear o σ = some (u, σ')) (H : Heap) (locs : List Loc) (ls : Array Slot) (hP : gW (cG E) σ H) (hS : va_S (gA (cG E)) s.heap H locs) (hl : lv_has ls 1 [(0, .ref (cAd E (26 + o)))]) : W p l e rm_X4_clear s m args below meth c H locs 0 0 (gQv below args s (cG E) σ') (F0 m 0 ls []) := by
  unfold f_X4_clear at hf
  obtain ⟨F, hr, hlk⟩ := id B
  have hx := F.1
  have hb := F.2.1
  have hml := F.2.2.1
  have hown := F.2.2.2.1
  have hts := F.2.2.2.2.1
  refine lv_aload_n hx hb dX4_clear_0 rfl (lv_at hl 0 rfl) ?_
  refine lv_iconst (v := 0) hx hb dX4_clear_1 (by decide) ?_
  refine pf_X4_21 F hP hS ho dX4_clear_2 (fun H locs hP hS => ?_)
  obtain ⟨σ1, eσ1, hf⟩ := vl_x hf
  rw [← eσ1] at hP
  exact g_vret B hP hS hf dX4_clear_5
theorem c_X4_clear (l : Launch) {E : cEv} (hI : gIj (cG E)) {o : Nat} (ho : o < 4) {σ σ' : St} {u : Unit} (hf : f_X4_clear o σ = some (u, σ')) : gMv l yX4_clear cX4_clear 1 rm_X4_clear [.ref (cAd E (26 + o))] (cG E) σ σ' :=
  g_entry (by decide) (Nat.le_of_ble_eq_true rfl) hI (fun p e s m args below meth c B hP hS ls hl => w_X4_clear_e ho B σ hf _ _ ls hP hS hl)
section SA
variable {p : Program} {l : Launch} {e : Env} {R : Room} {s : State} {m : MethodId} {args : Array Value} {below : List Frame} {meth : Method} {c : Code} {H : Heap} {locs : List Loc} {cells slots : Nat} {Q : State → Prop}
variable {cc : ByteArray} {pc nL : Nat} {ls : Array Slot} {rest : List Value} {E : cEv} {σ : St}
theorem pf_X1_22 (F : gFx p m c cc nL s args RX1 (cG E)) (hP : gW (cG E) σ H) (hS : va_S (gA (cG E)) s.heap H locs) {o : Nat} (ho : o < 4) {x : Int32} (hdg : decode cc pc = .ok (.putfield 22, 3)) (kk : ∀ (H1 : Heap) (locs1 : List Loc), gW (cG E) (up2 σ (22 + o) 0 x) H1 → va_S (gA (cG E)) s.heap H1 locs1 → W p l e R s m args below meth c H1 locs1 cells slots Q (F0 m (pc + 3) ls rest)) : W p l e R s m args below meth c H locs cells slots Q (F0 m pc ls (.int x :: .ref (cAd E (22 + o)) :: rest)) :=
  g_put F hP hS (k := (22 + o)) (cin (by omega)) (ce_1 E _ ho) rfl inX1 tyX1 tyX1_ok nmX1 0 (by decide) tw_145 rfl rfl rfl rfl (Nat.le_of_ble_eq_true rfl) (x := x) (jj := 0) (ce_1 E _ ho) hdg kk
theorem pf_X1_26 (F : gFx p m c cc nL s args RX1 (cG E)) (hP : gW (cG E) σ H) (hS : va_S (gA (cG E)) s.heap H locs) {o : Nat} (ho : o < 4) {x : Int32} (hdg : decode cc pc = .ok (.putfield 26, 3)) (kk : ∀ (H1 : Heap) (locs1 : List Loc), gW (cG E) (up2 σ (22 + o) 1 x) H1 → va_S (gA (cG E)) s.heap H1 locs1 → W p l e R s m args below meth c H1 locs1 cells slots Q (F0 m (pc + 3) ls rest)) : W p l e R s m args below meth c H locs cells slots Q (F0 m pc ls (.int x :: .ref (cAd E (22 + o)) :: rest)) :=
  g_put F hP hS (k := (22 + o)) (cin (by omega)) (ce_1 E _ ho) rfl inX1 tyX1 tyX1_ok nmX1 1 (by decide) tw_146 rfl rfl rfl rfl (Nat.le_of_ble_eq_true rfl) (x := x) (jj := 1) (ce_1 E _ ho) hdg kk
theorem pf_X1_29 (F : gFx p m c cc nL s args RX1 (cG E)) (hP : gW (cG E) σ H) (hS : va_S (gA (cG E)) s.heap H locs) {o : Nat} (ho : o < 4) {x : Int32} (hdg : decode cc pc = .ok (.putfield 29, 3)) (kk : ∀ (H1 : Heap) (locs1 : List Loc), gW (cG E) (up2 σ (22 + o) 3 x) H1 → va_S (gA (cG E)) s.heap H1 locs1 → W p l e R s m args below meth c H1 locs1 cells slots Q (F0 m (pc + 3) ls rest)) : W p l e R s m args below meth c H locs cells slots Q (F0 m pc ls (.int x :: .ref (cAd E (22 + o)) :: rest)) :=
  g_put F hP hS (k := (22 + o)) (cin (by omega)) (ce_1 E _ ho) rfl inX1 tyX1 tyX1_ok nmX1 3 (by decide) tw_148 rfl rfl rfl rfl (Nat.le_of_ble_eq_true rfl) (x := x) (jj := 3) (ce_1 E _ ho) hdg kk
theorem pf_X1_32 (F : gFx p m c cc nL s args RX1 (cG E)) (hP : gW (cG E) σ H) (hS : va_S (gA (cG E)) s.heap H locs) {o : Nat} (ho : o < 4) {x : Int32} (hdg : decode cc pc = .ok (.putfield 32, 3)) (kk : ∀ (H1 : Heap) (locs1 : List Loc), gW (cG E) (up2 σ (22 + o) 2 x) H1 → va_S (gA (cG E)) s.heap H1 locs1 → W p l e R s m args below meth c H1 locs1 cells slots Q (F0 m (pc + 3) ls rest)) : W p l e R s m args below meth c H locs cells slots Q (F0 m pc ls (.int x :: .ref (cAd E (22 + o)) :: rest)) :=
  g_put F hP hS (k := (22 + o)) (cin (by omega)) (ce_1 E _ ho) rfl inX1 tyX1 tyX1_ok nmX1 2 (by decide) tw_147 rfl rfl rfl rfl (Nat.le_of_ble_eq_true rfl) (x := x) (jj := 2) (ce_1 E _ ho) hdg kk
theorem pf_X1_35 (F : gFx p m c cc nL s args RX1 (cG E)) (hP : gW (cG E) σ H) (hS : va_S (gA (cG E)) s.heap H locs) {o : Nat} (ho : o < 4) {x : Int32} (hdg : decode cc pc = .ok (.putfield 35, 3)) (kk : ∀ (H1 : Heap) (locs1 : List Loc), gW (cG E) (up2 σ (22 + o) 4 x) H1 → va_S (gA (cG E)) s.heap H1 locs1 → W p l e R s m args below meth c H1 locs1 cells slots Q (F0 m (pc + 3) ls rest)) : W p l e R s m args below meth c H locs cells slots Q (F0 m pc ls (.int x :: .ref (cAd E (22 + o)) :: rest)) :=
  g_put F hP hS (k := (22 + o)) (cin (by omega)) (ce_1 E _ ho) rfl inX1 tyX1 tyX1_ok nmX1 4 (by decide) tw_150 rfl rfl rfl rfl (Nat.le_of_ble_eq_true rfl) (x := x) (jj := 4) (ce_1 E _ ho) hdg kk
theorem gf_X1_12 (F : gFx p m c cc nL s args RX1 (cG E)) (hP : gW (cG E) σ H) {o : Nat} (ho : o < 4) (hdg : decode cc pc = .ok (.getfield 12, 3)) (kk : W p l e R s m args below meth c H locs cells slots Q (F0 m (pc + 3) ls (.ref (cAd E (26 + o)) :: rest))) : W p l e R s m args below meth c H locs cells slots Q (F0 m pc ls (.ref (cAd E (22 + o)) :: rest)) :=
  g_get F hP (k := (22 + o)) (cin (by omega)) (ce_1 E _ ho) rfl inX1 5 (by decide) tw_152 rfl rfl hdg kk
theorem kc_X1_38 (F : gFx p m c cc nL s args RX1 (cG E)) (hP : gW (cG E) σ H) (hS : va_S (gA (cG E)) s.heap H locs) {o : Nat} (ho : o < 4) {u : Unit} {σ' : St} (hf : f_X4_clear o σ = some (u, σ')) (hR : rm_X4_clear.frames + 1 ≤ R.frames ∧ 8 + (1 + 11) + rm_X4_clear.locals ≤ R.locals) (hsz : ls.size = nL) (hrest : (rest.map fun v => v.category).sum ≤ 8) (hcs : cells ≤ R.cells ∧ slots ≤ R.slots) (hdg : decode cc pc = .ok (.invokevirtual 38, 3)) (kk : ∀ (H1 : Heap) (locs1 : List Loc), gW (cG E) σ' H1 → va_S (gA (cG E)) s.heap H1 locs1 → W p l e R s m args below meth c H1 locs1 cells slots Q (F0 m (pc + 3) ls rest)) : W p l e R s m args below meth c H locs cells slots Q (F0 m pc ls (.ref (cAd E (26 + o)) :: rest)) :=
  g_callVv F hP hS (c_X4_clear l F.2.2.2.2.2.2.2 ho hf) (g_cwV (n := 0) F tw_410 tw_411 tw_412 tw_7 tw_413 (by decide +kernel) rfl rfl hR) (k := (26 + o)) (cin (by omega)) (ce_4 E _ ho) rfl (As := []) rfl hsz rfl hrest hdg hcs kk
end SA
/-! PromisedSlots$Coordinator.layAt(III)V -/
def f_X1_layAt (o : Nat) (p1 : Int32) (p2 : Int32) (p3 : Int32) (σ : St) : Option (Unit × St) :=
  vl (up2 σ (22 + o) 0 p1) fun σ1 =>
  vl (up2 σ1 (22 + o) 1 p2) fun σ2 =>
  vl (up2 σ2 (22 + o) 3 p3) fun σ3 =>
  vl (up2 σ3 (22 + o) 2 (0 : Int32)) fun σ4 =>
  vl (up2 σ4 (22 + o) 4 (0 : Int32)) fun σ5 =>
  cl (f_X4_clear o σ5) fun r7 σ6 =>
  some ((), σ6)
abbrev rm_X1_layAt : Room := { frames := 1, cells := 0, slots := 0, locals := 20 }
set_option maxHeartbeats 4000000 in
set_option maxRecDepth 100000 in
theorem w_X1_layAt_e {p : Program} {l : Launch} {e : Env} {s : State} {m : MethodId} {args : Array Value} {below : List Frame} {meth : Method} {c : Code} {E : cEv} {u : Unit} {σ' : St} {o : Nat} (ho : o < 4) (B : gBx p m meth c cX1_layAt 4 none s args RX1 (cG E)) (p1 : Int32) (p2 : Int32) (p3 : Int32) (σ : St) (hf : f_X1_layAt o p1 p2 p3 σ = some (u, σ')) (H : Heap) (locs : List Loc) (ls : Array Slot) (hP : gW (cG E) σ H) (hS : va_S (gA (cG E)) s.heap H locs) (hl : lv_has ls 4 [(0, .ref (cAd E (22 + o))), (1, .int p1), (2, .int p2), (3, .int p3)]) : W p l e rm_X1_layAt s m args below meth c H locs 0 0 (gQv below args s (cG E) σ') (F0 m 0 ls []) := by
  unfold f_X1_layAt at hf
  obtain ⟨F, hr, hlk⟩ := id B
  have hx := F.1
  have hb := F.2.1
  have hml := F.2.2.1
  have hown := F.2.2.2.1
  have hts := F.2.2.2.2.1
  refine lv_aload_n hx hb dX1_layAt_0 rfl (lv_at hl 0 rfl) ?_
  refine lv_iload_n hx hb dX1_layAt_1 rfl (lv_at hl 1 rfl) ?_
  refine pf_X1_22 F hP hS ho dX1_layAt_2 (fun H locs hP hS => ?_)
  obtain ⟨σ1, eσ1, hf⟩ := vl_x hf
  rw [← eσ1] at hP
  refine lv_aload_n hx hb dX1_layAt_5 rfl (lv_at hl 0 rfl) ?_
  refine lv_iload_n hx hb dX1_layAt_6 rfl (lv_at hl 2 rfl) ?_
  refine pf_X1_26 F hP hS ho dX1_layAt_7 (fun H locs hP hS => ?_)
  obtain ⟨σ2, eσ2, hf⟩ := vl_x hf
  rw [← eσ2] at hP
  refine lv_aload_n hx hb dX1_layAt_10 rfl (lv_at hl 0 rfl) ?_
  refine lv_iload_n hx hb dX1_layAt_11 rfl (lv_at hl 3 rfl) ?_
  refine pf_X1_29 F hP hS ho dX1_layAt_12 (fun H locs hP hS => ?_)
  obtain ⟨σ3, eσ3, hf⟩ := vl_x hf
  rw [← eσ3] at hP
  refine lv_aload_n hx hb dX1_layAt_15 rfl (lv_at hl 0 rfl) ?_
  refine lv_iconst (v := 0) hx hb dX1_layAt_16 (by decide) ?_
  refine pf_X1_32 F hP hS ho dX1_layAt_17 (fun H locs hP hS => ?_)
  obtain ⟨σ4, eσ4, hf⟩ := vl_x hf
  rw [← eσ4] at hP
  refine lv_aload_n hx hb dX1_layAt_20 rfl (lv_at hl 0 rfl) ?_
  refine lv_iconst (v := 0) hx hb dX1_layAt_21 (by decide) ?_
  refine pf_X1_35 F hP hS ho dX1_layAt_22 (fun H locs hP hS => ?_)
  obtain ⟨σ5, eσ5, hf⟩ := vl_x hf
  rw [← eσ5] at hP
  refine lv_aload_n hx hb dX1_layAt_25 rfl (lv_at hl 0 rfl) ?_
  refine gf_X1_12 F hP ho dX1_layAt_26 ?_
  obtain ⟨r7, σ6, h8, hf⟩ := cl_e hf
  refine kc_X1_38 F hP hS ho h8 ⟨Nat.le_of_ble_eq_true rfl, Nat.le_of_ble_eq_true rfl⟩ hl.1 (Nat.le_of_ble_eq_true rfl) ⟨Nat.zero_le _, Nat.zero_le _⟩ dX1_layAt_29 (fun H locs hP hS => ?_)
  exact g_vret B hP hS hf dX1_layAt_32
theorem c_X1_layAt (l : Launch) {E : cEv} (hI : gIj (cG E)) {o : Nat} (ho : o < 4) {p1 : Int32} {p2 : Int32} {p3 : Int32} {σ σ' : St} {u : Unit} (hf : f_X1_layAt o p1 p2 p3 σ = some (u, σ')) : gMv l yX1_layAt cX1_layAt 4 rm_X1_layAt [.ref (cAd E (22 + o)), .int p1, .int p2, .int p3] (cG E) σ σ' :=
  g_entry (by decide) (Nat.le_of_ble_eq_true rfl) hI (fun p e s m args below meth c B hP hS ls hl => w_X1_layAt_e ho B _ _ _ σ hf _ _ ls hP hS hl)
section SA
variable {p : Program} {l : Launch} {e : Env} {R : Room} {s : State} {m : MethodId} {args : Array Value} {below : List Frame} {meth : Method} {c : Code} {H : Heap} {locs : List Loc} {cells slots : Nat} {Q : State → Prop}
variable {cc : ByteArray} {pc nL : Nat} {ls : Array Slot} {rest : List Value} {E : cEv} {σ : St}
theorem gf_X1_32 (F : gFx p m c cc nL s args RX1 (cG E)) (hP : gW (cG E) σ H) {o : Nat} (ho : o < 4) (hdg : decode cc pc = .ok (.getfield 32, 3)) (kk : W p l e R s m args below meth c H locs cells slots Q (F0 m (pc + 3) ls (.int (σ (22 + o) 2) :: rest))) : W p l e R s m args below meth c H locs cells slots Q (F0 m pc ls (.ref (cAd E (22 + o)) :: rest)) :=
  g_get F hP (k := (22 + o)) (cin (by omega)) (ce_1 E _ ho) rfl inX1 2 (by decide) tw_147 rfl rfl hdg kk
end SA
/-! PromisedSlots$Coordinator.enlist(I)V -/
def f_X1_enlist (o : Nat) (p1 : Int32) (σ : St) : Option (Unit × St) :=
  vl (up2 σ (22 + o) 2 ((σ (22 + o) 2) ||| ((1 : Int32) <<< (p1 &&& 31)))) fun σ1 =>
  some ((), σ1)
abbrev rm_X1_enlist : Room := { frames := 0, cells := 0, slots := 0, locals := 0 }
set_option maxHeartbeats 4000000 in
set_option maxRecDepth 100000 in
theorem w_X1_enlist_e {p : Program} {l : Launch} {e : Env} {s : State} {m : MethodId} {args : Array Value} {below : List Frame} {meth : Method} {c : Code} {E : cEv} {u : Unit} {σ' : St} {o : Nat} (ho : o < 4) (B : gBx p m meth c cX1_enlist 2 none s args RX1 (cG E)) (p1 : Int32) (σ : St) (hf : f_X1_enlist o p1 σ = some (u, σ')) (H : Heap) (locs : List Loc) (ls : Array Slot) (hP : gW (cG E) σ H) (hS : va_S (gA (cG E)) s.heap H locs) (hl : lv_has ls 2 [(0, .ref (cAd E (22 + o))), (1, .int p1)]) : W p l e rm_X1_enlist s m args below meth c H locs 0 0 (gQv below args s (cG E) σ') (F0 m 0 ls []) := by
  unfold f_X1_enlist at hf
  obtain ⟨F, hr, hlk⟩ := id B
  have hx := F.1
  have hb := F.2.1
  have hml := F.2.2.1
  have hown := F.2.2.2.1
  have hts := F.2.2.2.2.1
  refine lv_aload_n hx hb dX1_enlist_0 rfl (lv_at hl 0 rfl) ?_
  refine lv_dup hx hb dX1_enlist_1 rfl ?_
  refine gf_X1_32 F hP ho dX1_enlist_2 ?_
  refine lv_iconst (v := 1) hx hb dX1_enlist_5 (by decide) ?_
  refine lv_iload_n hx hb dX1_enlist_6 rfl (lv_at hl 1 rfl) ?_
  refine lv_ishl hx hb dX1_enlist_7 ?_
  refine lv_ior hx hb dX1_enlist_8 ?_
  refine pf_X1_32 F hP hS ho dX1_enlist_9 (fun H locs hP hS => ?_)
  obtain ⟨σ1, eσ1, hf⟩ := vl_x hf
  rw [← eσ1] at hP
  exact g_vret B hP hS hf dX1_enlist_12
theorem c_X1_enlist (l : Launch) {E : cEv} (hI : gIj (cG E)) {o : Nat} (ho : o < 4) {p1 : Int32} {σ σ' : St} {u : Unit} (hf : f_X1_enlist o p1 σ = some (u, σ')) : gMv l yX1_enlist cX1_enlist 2 rm_X1_enlist [.ref (cAd E (22 + o)), .int p1] (cG E) σ σ' :=
  g_entry (by decide) (Nat.le_of_ble_eq_true rfl) hI (fun p e s m args below meth c B hP hS ls hl => w_X1_enlist_e ho B _ σ hf _ _ ls hP hS hl)
/-! PromisedSlots$Coordinator.lists(I)Z -/
def f_X1_lists (o : Nat) (p1 : Int32) (σ : St) : Option (Int32 × St) :=
  if ((σ (22 + o) 2) &&& ((1 : Int32) <<< (p1 &&& 31))) = 0 then
    some ((0 : Int32), σ)
  else
    some ((1 : Int32), σ)
abbrev rm_X1_lists : Room := { frames := 0, cells := 0, slots := 0, locals := 0 }
set_option maxHeartbeats 4000000 in
set_option maxRecDepth 100000 in
theorem w_X1_lists_e {p : Program} {l : Launch} {e : Env} {s : State} {m : MethodId} {args : Array Value} {below : List Frame} {meth : Method} {c : Code} {E : cEv} {r : Int32} {σ' : St} {o : Nat} (ho : o < 4) (B : gBx p m meth c cX1_lists 2 (some .boolean) s args RX1 (cG E)) (p1 : Int32) (σ : St) (hf : f_X1_lists o p1 σ = some (r, σ')) (H : Heap) (locs : List Loc) (ls : Array Slot) (hP : gW (cG E) σ H) (hS : va_S (gA (cG E)) s.heap H locs) (hl : lv_has ls 2 [(0, .ref (cAd E (22 + o))), (1, .int p1)]) : W p l e rm_X1_lists s m args below meth c H locs 0 0 (gQi below args s (cG E) r σ') (F0 m 0 ls []) := by
  unfold f_X1_lists at hf
  obtain ⟨F, hr, hlk⟩ := id B
  have hx := F.1
  have hb := F.2.1
  have hml := F.2.2.1
  have hown := F.2.2.2.1
  have hts := F.2.2.2.2.1
  refine lv_aload_n hx hb dX1_lists_0 rfl (lv_at hl 0 rfl) ?_
  refine gf_X1_32 F hP ho dX1_lists_1 ?_
  refine lv_iconst (v := 1) hx hb dX1_lists_4 (by decide) ?_
  refine lv_iload_n hx hb dX1_lists_5 rfl (lv_at hl 1 rfl) ?_
  refine lv_ishl hx hb dX1_lists_6 ?_
  refine lv_iand hx hb dX1_lists_7 ?_
  refine lv_if_eq (tgt := 15) hx hb dX1_lists_8 (by decide) (fun h1 => ?_) (fun h1 => ?_)
  · rw [if_pos h1] at hf
    refine lv_iconst (v := 0) hx hb dX1_lists_15 (by decide) ?_
    exact g_zret B hP hS hf (by decide) dX1_lists_16
  · rw [if_neg h1] at hf
    refine lv_iconst (v := 1) hx hb dX1_lists_11 (by decide) ?_
    refine lv_goto (tgt := 16) hx hb dX1_lists_12 (by decide) ?_
    exact g_zret B hP hS hf (by decide) dX1_lists_16
theorem c_X1_lists (l : Launch) {E : cEv} (hI : gIj (cG E)) {o : Nat} (ho : o < 4) {p1 : Int32} {σ σ' : St} {r : Int32} (hf : f_X1_lists o p1 σ = some (r, σ')) : gMi l yX1_lists cX1_lists 2 .boolean rm_X1_lists [.ref (cAd E (22 + o)), .int p1] (cG E) σ r σ' :=
  g_entry (by decide) (Nat.le_of_ble_eq_true rfl) hI (fun p e s m args below meth c B hP hS ls hl => w_X1_lists_e ho B _ σ hf _ _ ls hP hS hl)
section SA
variable {p : Program} {l : Launch} {e : Env} {R : Room} {s : State} {m : MethodId} {args : Array Value} {below : List Frame} {meth : Method} {c : Code} {H : Heap} {locs : List Loc} {cells slots : Nat} {Q : State → Prop}
variable {cc : ByteArray} {pc nL : Nat} {ls : Array Slot} {rest : List Value} {E : cEv} {σ : St}
theorem gf_X4_21 (F : gFx p m c cc nL s args RX4 (cG E)) (hP : gW (cG E) σ H) {o : Nat} (ho : o < 4) (hdg : decode cc pc = .ok (.getfield 21, 3)) (kk : W p l e R s m args below meth c H locs cells slots Q (F0 m (pc + 3) ls (.int (σ (26 + o) 3) :: rest))) : W p l e R s m args below meth c H locs cells slots Q (F0 m pc ls (.ref (cAd E (26 + o)) :: rest)) :=
  g_get F hP (k := (26 + o)) (cin (by omega)) (ce_4 E _ ho) rfl inX4 3 (by decide) tw_134 rfl rfl hdg kk
theorem gf_X4_9 (F : gFx p m c cc nL s args RX4 (cG E)) (hP : gW (cG E) σ H) {o : Nat} (ho : o < 4) (hdg : decode cc pc = .ok (.getfield 9, 3)) (kk : W p l e R s m args below meth c H locs cells slots Q (F0 m (pc + 3) ls (.ref (cAd E (30 + o)) :: rest))) : W p l e R s m args below meth c H locs cells slots Q (F0 m pc ls (.ref (cAd E (26 + o)) :: rest)) :=
  g_get F hP (k := (26 + o)) (cin (by omega)) (ce_4 E _ ho) rfl inX4 0 (by decide) tw_131 rfl rfl hdg kk
end SA
/-! PromisedSlots$Promises.placeOf(I)I -/
def b_X4_placeOf_2 (o : Nat) (K2 : (Int32 × Int32 × St → Option (Int32 × St))) (a1 : Int32) (a2 : Int32) (σ : St) : Option (Int32 × St) :=
  if (σ (26 + o) 3) ≤ a2 then
    some ((-4 : Int32), σ)
  else
    if (nI 7) ≤ a2 then
      some ((-4 : Int32), σ)
    else
      gd (ix a2 7) <|
      if (σ (30 + o) (nt a2)) = a1 then
        some (a2, σ)
      else
        vl (a2 + (1 : Int32)) fun x5 =>
        K2 (a1, x5, σ)
def f_X4_placeOf (o : Nat) (p1 : Int32) (σ : St) : Option (Int32 × St) :=
  lp (fun K a => b_X4_placeOf_2 o K a.1 a.2.1 a.2.2) FU (p1, (0 : Int32), σ)
abbrev rm_X4_placeOf : Room := { frames := 0, cells := 0, slots := 0, locals := 0 }
def P_X4_placeOf_2 (p : Program) (l : Launch) (e : Env) (s : State) (m : MethodId) (args : Array Value) (below : List Frame) (meth : Method) (c : Code) (E : cEv) (r : Int32) (σ' : St) (o : Nat) (a : Int32 × Int32 × St) : Prop := ∀ (H : Heap) (locs : List Loc) (ls : Array Slot), gW (cG E) a.2.2 H → va_S (gA (cG E)) s.heap H locs → lv_has ls 3 [(0, .ref (cAd E (26 + o))), (1, .int a.1), (2, .int a.2.1)] → W p l e rm_X4_placeOf s m args below meth c H locs 0 0 (gQi below args s (cG E) r σ') (F0 m 2 ls [])
set_option maxHeartbeats 4000000 in
set_option maxRecDepth 100000 in
theorem w_X4_placeOf_2 {p : Program} {l : Launch} {e : Env} {s : State} {m : MethodId} {args : Array Value} {below : List Frame} {meth : Method} {c : Code} {E : cEv} {r : Int32} {σ' : St} {o : Nat} (ho : o < 4) (B : gBx p m meth c cX4_placeOf 3 (some .int) s args RX4 (cG E)) {K2 : (Int32 × Int32 × St → Option (Int32 × St))} (hK2 : ∀ a, K2 a = some (r, σ') → P_X4_placeOf_2 p l e s m args below meth c E r σ' o a) (a1 : Int32) (a2 : Int32) (σ : St) (hf : b_X4_placeOf_2 o K2 a1 a2 σ = some (r, σ')) (H : Heap) (locs : List Loc) (ls : Array Slot) (hP : gW (cG E) σ H) (hS : va_S (gA (cG E)) s.heap H locs) (hl : lv_has ls 3 [(0, .ref (cAd E (26 + o))), (1, .int a1), (2, .int a2)]) : W p l e rm_X4_placeOf s m args below meth c H locs 0 0 (gQi below args s (cG E) r σ') (F0 m 2 ls []) := by
  unfold b_X4_placeOf_2 at hf
  obtain ⟨F, hr, hlk⟩ := id B
  have hx := F.1
  have hb := F.2.1
  have hml := F.2.2.1
  have hown := F.2.2.2.1
  have hts := F.2.2.2.2.1
  refine lv_iload_n hx hb dX4_placeOf_2 rfl (lv_at hl 2 rfl) ?_
  refine lv_aload_n hx hb dX4_placeOf_3 rfl (lv_at hl 0 rfl) ?_
  refine gf_X4_21 F hP ho dX4_placeOf_4 ?_
  refine lv_icmp_ge (tgt := 37) hx hb dX4_placeOf_7 (by decide) (fun h1 => ?_) (fun h1 => ?_)
  · rw [if_pos h1] at hf
    refine lv_bipush (v := (-4)) hx hb dX4_placeOf_37 (by decide) ?_
    exact g_iret B hP hS hf dX4_placeOf_39
  · rw [if_neg h1] at hf
    refine lv_iload_n hx hb dX4_placeOf_10 rfl (lv_at hl 2 rfl) ?_
    refine lv_aload_n hx hb dX4_placeOf_11 rfl (lv_at hl 0 rfl) ?_
    refine gf_X4_9 F hP ho dX4_placeOf_12 ?_
    refine c_alen F hP (ca_p (by have := ho; omega)) (cn_p (by have := ho; omega)) dX4_placeOf_15 ?_
    refine lv_icmp_ge (tgt := 37) hx hb dX4_placeOf_16 (by decide) (fun h2 => ?_) (fun h2 => ?_)
    · rw [if_pos h2] at hf
      refine lv_bipush (v := (-4)) hx hb dX4_placeOf_37 (by decide) ?_
      exact g_iret B hP hS hf dX4_placeOf_39
    · rw [if_neg h2] at hf
      refine lv_aload_n hx hb dX4_placeOf_19 rfl (lv_at hl 0 rfl) ?_
      refine gf_X4_9 F hP ho dX4_placeOf_20 ?_
      refine lv_iload_n hx hb dX4_placeOf_23 rfl (lv_at hl 2 rfl) ?_
      obtain ⟨h3, hf⟩ := gd_e hf
      refine c_iald F hP (ca_p (by have := ho; omega)) (cn_p (by have := ho; omega)) h3 dX4_placeOf_24 ?_
      refine lv_iload_n hx hb dX4_placeOf_25 rfl (lv_at hl 1 rfl) ?_
      refine lv_icmp_ne (tgt := 31) hx hb dX4_placeOf_26 (by decide) (fun h4 => ?_) (fun h4 => ?_)
      · rw [if_neg h4] at hf
        refine lv_iinc (v := a2 + (1 : Int32)) (lv' := [(2, .int (a2 + (1 : Int32))), (0, .ref (cAd E (26 + o))), (1, .int a1)]) hx hb dX4_placeOf_31 hl (k := 2) rfl rfl (by decide) rfl (fun ls hl => ?_)
        obtain ⟨x5, ex5, hf⟩ := vl_x hf
        rw [← ex5] at hl
        refine lv_goto (tgt := 2) hx hb dX4_placeOf_34 (by decide) ?_
        exact hK2 _ hf _ _ _ hP hS (lv_sub hl [1, 2, 0] rfl)
      · rw [if_pos h4] at hf
        refine lv_iload_n hx hb dX4_placeOf_29 rfl (lv_at hl 2 rfl) ?_
        exact g_iret B hP hS hf dX4_placeOf_30
set_option maxHeartbeats 4000000 in
set_option maxRecDepth 100000 in
theorem w_X4_placeOf_e {p : Program} {l : Launch} {e : Env} {s : State} {m : MethodId} {args : Array Value} {below : List Frame} {meth : Method} {c : Code} {E : cEv} {r : Int32} {σ' : St} {o : Nat} (ho : o < 4) (B : gBx p m meth c cX4_placeOf 3 (some .int) s args RX4 (cG E)) (p1 : Int32) (σ : St) (hf : f_X4_placeOf o p1 σ = some (r, σ')) (H : Heap) (locs : List Loc) (ls : Array Slot) (hP : gW (cG E) σ H) (hS : va_S (gA (cG E)) s.heap H locs) (hl : lv_has ls 3 [(0, .ref (cAd E (26 + o))), (1, .int p1)]) : W p l e rm_X4_placeOf s m args below meth c H locs 0 0 (gQi below args s (cG E) r σ') (F0 m 0 ls []) := by
  unfold f_X4_placeOf at hf
  obtain ⟨F, hr, hlk⟩ := id B
  have hx := F.1
  have hb := F.2.1
  have hml := F.2.2.1
  have hown := F.2.2.2.1
  have hts := F.2.2.2.2.1
  refine lv_iconst (v := 0) hx hb dX4_placeOf_0 (by decide) ?_
  refine lv_istore_n (lv' := [(2, .int (0 : Int32)), (0, .ref (cAd E (26 + o))), (1, .int p1)]) hx hb dX4_placeOf_1 rfl hl (by decide) rfl (fun ls hl => ?_)
  exact lp_w (P := P_X4_placeOf_2 p l e s m args below meth c E r σ' o) (fun K hK a ha => w_X4_placeOf_2 ho B hK a.1 a.2.1 a.2.2 ha) FU _ hf _ _ _ hP hS (lv_sub hl [1, 2, 0] rfl)
theorem c_X4_placeOf (l : Launch) {E : cEv} (hI : gIj (cG E)) {o : Nat} (ho : o < 4) {p1 : Int32} {σ σ' : St} {r : Int32} (hf : f_X4_placeOf o p1 σ = some (r, σ')) : gMi l yX4_placeOf cX4_placeOf 3 .int rm_X4_placeOf [.ref (cAd E (26 + o)), .int p1] (cG E) σ r σ' :=
  g_entry (by decide) (Nat.le_of_ble_eq_true rfl) hI (fun p e s m args below meth c B hP hS ls hl => w_X4_placeOf_e ho B _ σ hf _ _ ls hP hS hl)
section SA
variable {p : Program} {l : Launch} {e : Env} {R : Room} {s : State} {m : MethodId} {args : Array Value} {below : List Frame} {meth : Method} {c : Code} {H : Heap} {locs : List Loc} {cells slots : Nat} {Q : State → Prop}
variable {cc : ByteArray} {pc nL : Nat} {ls : Array Slot} {rest : List Value} {E : cEv} {σ : St}
theorem gf_X4_15 (F : gFx p m c cc nL s args RX4 (cG E)) (hP : gW (cG E) σ H) {o : Nat} (ho : o < 4) (hdg : decode cc pc = .ok (.getfield 15, 3)) (kk : W p l e R s m args below meth c H locs cells slots Q (F0 m (pc + 3) ls (.ref (cAd E (34 + o)) :: rest))) : W p l e R s m args below meth c H locs cells slots Q (F0 m pc ls (.ref (cAd E (26 + o)) :: rest)) :=
  g_get F hP (k := (26 + o)) (cin (by omega)) (ce_4 E _ ho) rfl inX4 1 (by decide) tw_132 rfl rfl hdg kk
end SA
/-! PromisedSlots$Promises.firstSlot(I)I -/
def b_X4_firstSlot_5 (o : Nat) (K5 : (Int32 × Int32 × Int32 × St → Option (Int32 × St))) (a1 : Int32) (a2 : Int32) (a3 : Int32) (σ : St) : Option (Int32 × St) :=
  if a1 < a3 then
    some (a2, σ)
  else
    if (σ (26 + o) 3) ≤ a3 then
      some (a2, σ)
    else
      if (nI 7) ≤ a3 then
        some (a2, σ)
      else
        gd (ix a3 7) <|
        vl (a2 - (σ (34 + o) (nt a3))) fun x5 =>
        vl (a3 + (1 : Int32)) fun x6 =>
        K5 (a1, x5, x6, σ)
def f_X4_firstSlot (o : Nat) (p1 : Int32) (σ : St) : Option (Int32 × St) :=
  lp (fun K a => b_X4_firstSlot_5 o K a.1 a.2.1 a.2.2.1 a.2.2.2) FU (p1, (16 : Int32), (0 : Int32), σ)
abbrev rm_X4_firstSlot : Room := { frames := 0, cells := 0, slots := 0, locals := 0 }
def P_X4_firstSlot_5 (p : Program) (l : Launch) (e : Env) (s : State) (m : MethodId) (args : Array Value) (below : List Frame) (meth : Method) (c : Code) (E : cEv) (r : Int32) (σ' : St) (o : Nat) (a : Int32 × Int32 × Int32 × St) : Prop := ∀ (H : Heap) (locs : List Loc) (ls : Array Slot), gW (cG E) a.2.2.2 H → va_S (gA (cG E)) s.heap H locs → lv_has ls 4 [(0, .ref (cAd E (26 + o))), (1, .int a.1), (2, .int a.2.1), (3, .int a.2.2.1)] → W p l e rm_X4_firstSlot s m args below meth c H locs 0 0 (gQi below args s (cG E) r σ') (F0 m 5 ls [])
set_option maxHeartbeats 4000000 in
set_option maxRecDepth 100000 in
theorem w_X4_firstSlot_5 {p : Program} {l : Launch} {e : Env} {s : State} {m : MethodId} {args : Array Value} {below : List Frame} {meth : Method} {c : Code} {E : cEv} {r : Int32} {σ' : St} {o : Nat} (ho : o < 4) (B : gBx p m meth c cX4_firstSlot 4 (some .int) s args RX4 (cG E)) {K5 : (Int32 × Int32 × Int32 × St → Option (Int32 × St))} (hK5 : ∀ a, K5 a = some (r, σ') → P_X4_firstSlot_5 p l e s m args below meth c E r σ' o a) (a1 : Int32) (a2 : Int32) (a3 : Int32) (σ : St) (hf : b_X4_firstSlot_5 o K5 a1 a2 a3 σ = some (r, σ')) (H : Heap) (locs : List Loc) (ls : Array Slot) (hP : gW (cG E) σ H) (hS : va_S (gA (cG E)) s.heap H locs) (hl : lv_has ls 4 [(0, .ref (cAd E (26 + o))), (1, .int a1), (2, .int a2), (3, .int a3)]) : W p l e rm_X4_firstSlot s m args below meth c H locs 0 0 (gQi below args s (cG E) r σ') (F0 m 5 ls []) := by
  unfold b_X4_firstSlot_5 at hf
  obtain ⟨F, hr, hlk⟩ := id B
  have hx := F.1
  have hb := F.2.1
  have hml := F.2.2.1
  have hown := F.2.2.2.1
  have hts := F.2.2.2.2.1
  refine lv_iload_n hx hb dX4_firstSlot_5 rfl (lv_at hl 3 rfl) ?_
  refine lv_iload_n hx hb dX4_firstSlot_6 rfl (lv_at hl 1 rfl) ?_
  refine lv_icmp_gt (tgt := 42) hx hb dX4_firstSlot_7 (by decide) (fun h1 => ?_) (fun h1 => ?_)
  · rw [if_pos h1] at hf
    refine lv_iload_n hx hb dX4_firstSlot_42 rfl (lv_at hl 2 rfl) ?_
    exact g_iret B hP hS hf dX4_firstSlot_43
  · rw [if_neg h1] at hf
    refine lv_iload_n hx hb dX4_firstSlot_10 rfl (lv_at hl 3 rfl) ?_
    refine lv_aload_n hx hb dX4_firstSlot_11 rfl (lv_at hl 0 rfl) ?_
    refine gf_X4_21 F hP ho dX4_firstSlot_12 ?_
    refine lv_icmp_ge (tgt := 42) hx hb dX4_firstSlot_15 (by decide) (fun h2 => ?_) (fun h2 => ?_)
    · rw [if_pos h2] at hf
      refine lv_iload_n hx hb dX4_firstSlot_42 rfl (lv_at hl 2 rfl) ?_
      exact g_iret B hP hS hf dX4_firstSlot_43
    · rw [if_neg h2] at hf
      refine lv_iload_n hx hb dX4_firstSlot_18 rfl (lv_at hl 3 rfl) ?_
      refine lv_aload_n hx hb dX4_firstSlot_19 rfl (lv_at hl 0 rfl) ?_
      refine gf_X4_15 F hP ho dX4_firstSlot_20 ?_
      refine c_alen F hP (ca_p (by have := ho; omega)) (cn_p (by have := ho; omega)) dX4_firstSlot_23 ?_
      refine lv_icmp_ge (tgt := 42) hx hb dX4_firstSlot_24 (by decide) (fun h3 => ?_) (fun h3 => ?_)
      · rw [if_pos h3] at hf
        refine lv_iload_n hx hb dX4_firstSlot_42 rfl (lv_at hl 2 rfl) ?_
        exact g_iret B hP hS hf dX4_firstSlot_43
      · rw [if_neg h3] at hf
        refine lv_iload_n hx hb dX4_firstSlot_27 rfl (lv_at hl 2 rfl) ?_
        refine lv_aload_n hx hb dX4_firstSlot_28 rfl (lv_at hl 0 rfl) ?_
        refine gf_X4_15 F hP ho dX4_firstSlot_29 ?_
        refine lv_iload_n hx hb dX4_firstSlot_32 rfl (lv_at hl 3 rfl) ?_
        obtain ⟨h4, hf⟩ := gd_e hf
        refine c_iald F hP (ca_p (by have := ho; omega)) (cn_p (by have := ho; omega)) h4 dX4_firstSlot_33 ?_
        refine lv_isub hx hb dX4_firstSlot_34 ?_
        obtain ⟨x5, ex5, hf⟩ := vl_x hf
        rw [← ex5]
        refine lv_istore_n (lv' := [(2, .int x5), (0, .ref (cAd E (26 + o))), (1, .int a1), (3, .int a3)]) hx hb dX4_firstSlot_35 rfl hl (by decide) rfl (fun ls hl => ?_)
        refine lv_iinc (v := a3 + (1 : Int32)) (lv' := [(3, .int (a3 + (1 : Int32))), (2, .int x5), (0, .ref (cAd E (26 + o))), (1, .int a1)]) hx hb dX4_firstSlot_36 hl (k := 3) rfl rfl (by decide) rfl (fun ls hl => ?_)
        obtain ⟨x6, ex6, hf⟩ := vl_x hf
        rw [← ex6] at hl
        refine lv_goto (tgt := 5) hx hb dX4_firstSlot_39 (by decide) ?_
        exact hK5 _ hf _ _ _ hP hS (lv_sub hl [2, 3, 1, 0] rfl)
set_option maxHeartbeats 4000000 in
set_option maxRecDepth 100000 in
theorem w_X4_firstSlot_e {p : Program} {l : Launch} {e : Env} {s : State} {m : MethodId} {args : Array Value} {below : List Frame} {meth : Method} {c : Code} {E : cEv} {r : Int32} {σ' : St} {o : Nat} (ho : o < 4) (B : gBx p m meth c cX4_firstSlot 4 (some .int) s args RX4 (cG E)) (p1 : Int32) (σ : St) (hf : f_X4_firstSlot o p1 σ = some (r, σ')) (H : Heap) (locs : List Loc) (ls : Array Slot) (hP : gW (cG E) σ H) (hS : va_S (gA (cG E)) s.heap H locs) (hl : lv_has ls 4 [(0, .ref (cAd E (26 + o))), (1, .int p1)]) : W p l e rm_X4_firstSlot s m args below meth c H locs 0 0 (gQi below args s (cG E) r σ') (F0 m 0 ls []) := by
  unfold f_X4_firstSlot at hf
  obtain ⟨F, hr, hlk⟩ := id B
  have hx := F.1
  have hb := F.2.1
  have hml := F.2.2.1
  have hown := F.2.2.2.1
  have hts := F.2.2.2.2.1
  refine lv_bipush (v := (16)) hx hb dX4_firstSlot_0 (by decide) ?_
  refine lv_istore_n (lv' := [(2, .int (16 : Int32)), (0, .ref (cAd E (26 + o))), (1, .int p1)]) hx hb dX4_firstSlot_2 rfl hl (by decide) rfl (fun ls hl => ?_)
  refine lv_iconst (v := 0) hx hb dX4_firstSlot_3 (by decide) ?_
  refine lv_istore_n (lv' := [(3, .int (0 : Int32)), (2, .int (16 : Int32)), (0, .ref (cAd E (26 + o))), (1, .int p1)]) hx hb dX4_firstSlot_4 rfl hl (by decide) rfl (fun ls hl => ?_)
  exact lp_w (P := P_X4_firstSlot_5 p l e s m args below meth c E r σ' o) (fun K hK a ha => w_X4_firstSlot_5 ho B hK a.1 a.2.1 a.2.2.1 a.2.2.2 ha) FU _ hf _ _ _ hP hS (lv_sub hl [2, 3, 1, 0] rfl)
theorem c_X4_firstSlot (l : Launch) {E : cEv} (hI : gIj (cG E)) {o : Nat} (ho : o < 4) {p1 : Int32} {σ σ' : St} {r : Int32} (hf : f_X4_firstSlot o p1 σ = some (r, σ')) : gMi l yX4_firstSlot cX4_firstSlot 4 .int rm_X4_firstSlot [.ref (cAd E (26 + o)), .int p1] (cG E) σ r σ' :=
  g_entry (by decide) (Nat.le_of_ble_eq_true rfl) hI (fun p e s m args below meth c B hP hS ls hl => w_X4_firstSlot_e ho B _ σ hf _ _ ls hP hS hl)
section SA
variable {p : Program} {l : Launch} {e : Env} {R : Room} {s : State} {m : MethodId} {args : Array Value} {below : List Frame} {meth : Method} {c : Code} {H : Heap} {locs : List Loc} {cells slots : Nat} {Q : State → Prop}
variable {cc : ByteArray} {pc nL : Nat} {ls : Array Slot} {rest : List Value} {E : cEv} {σ : St}
theorem kc_X4_25 (F : gFx p m c cc nL s args RX4 (cG E)) (hP : gW (cG E) σ H) (hS : va_S (gA (cG E)) s.heap H locs) {o : Nat} (ho : o < 4) {p1 : Int32} {r : Int32} {σ' : St} (hf : f_X4_firstSlot o p1 σ = some (r, σ')) (hR : rm_X4_firstSlot.frames + 1 ≤ R.frames ∧ 8 + (4 + 11) + rm_X4_firstSlot.locals ≤ R.locals) (hsz : ls.size = nL) (hrest : (rest.map fun v => v.category).sum ≤ 8) (hcs : cells ≤ R.cells ∧ slots ≤ R.slots) (hdg : decode cc pc = .ok (.invokevirtual 25, 3)) (kk : ∀ (H1 : Heap) (locs1 : List Loc), gW (cG E) σ' H1 → va_S (gA (cG E)) s.heap H1 locs1 → W p l e R s m args below meth c H1 locs1 cells slots Q (F0 m (pc + 3) ls (.int r :: rest))) : W p l e R s m args below meth c H locs cells slots Q (F0 m pc ls (.int p1 :: .ref (cAd E (26 + o)) :: rest)) :=
  g_callVi F hP hS (c_X4_firstSlot l F.2.2.2.2.2.2.2 ho hf) (g_cwV (n := 1) F tw_544 tw_545 tw_546 tw_7 tw_547 (by decide +kernel) rfl rfl hR) (k := (26 + o)) (cin (by omega)) (ce_4 E _ ho) rfl (As := [.int p1]) rfl hsz rfl hrest hdg hcs kk
theorem gf_X4_18 (F : gFx p m c cc nL s args RX4 (cG E)) (hP : gW (cG E) σ H) {o : Nat} (ho : o < 4) (hdg : decode cc pc = .ok (.getfield 18, 3)) (kk : W p l e R s m args below meth c H locs cells slots Q (F0 m (pc + 3) ls (.ref (cAd E (38 + o)) :: rest))) : W p l e R s m args below meth c H locs cells slots Q (F0 m pc ls (.ref (cAd E (26 + o)) :: rest)) :=
  g_get F hP (k := (26 + o)) (cin (by omega)) (ce_4 E _ ho) rfl inX4 2 (by decide) tw_133 rfl rfl hdg kk
end SA
/-! PromisedSlots$Promises.tell(II)I -/
def f_X4_tell (o : Nat) (p1 : Int32) (p2 : Int32) (σ : St) : Option (Int32 × St) :=
  if p1 < 0 then
    some ((-4 : Int32), σ)
  else
    if (σ (26 + o) 3) ≤ p1 then
      some ((-4 : Int32), σ)
    else
      if p1 < (nI 7) then
        if p2 = (0 : Int32) then
          gd (ix p1 7) <|
          some ((σ (30 + o) (nt p1)), σ)
        else if p2 = (1 : Int32) then
          cl (f_X4_firstSlot o p1 σ) fun r8 σ7 =>
          some (r8, σ7)
        else if p2 = (2 : Int32) then
          gd (ix p1 7) <|
          some ((σ (34 + o) (nt p1)), σ)
        else if p2 = (3 : Int32) then
          gd (ix p1 7) <|
          some ((σ (38 + o) (nt p1)), σ)
        else 
          some ((-1 : Int32), σ)
      else
        some ((-4 : Int32), σ)
abbrev rm_X4_tell : Room := { frames := 1, cells := 0, slots := 0, locals := 23 }
set_option maxHeartbeats 4000000 in
set_option maxRecDepth 100000 in
theorem w_X4_tell_e {p : Program} {l : Launch} {e : Env} {s : State} {m : MethodId} {args : Array Value} {below : List Frame} {meth : Method} {c : Code} {E : cEv} {r : Int32} {σ' : St} {o : Nat} (ho : o < 4) (B : gBx p m meth c cX4_tell 3 (some .int) s args RX4 (cG E)) (p1 : Int32) (p2 : Int32) (σ : St) (hf : f_X4_tell o p1 p2 σ = some (r, σ')) (H : Heap) (locs : List Loc) (ls : Array Slot) (hP : gW (cG E) σ H) (hS : va_S (gA (cG E)) s.heap H locs) (hl : lv_has ls 3 [(0, .ref (cAd E (26 + o))), (1, .int p1), (2, .int p2)]) : W p l e rm_X4_tell s m args below meth c H locs 0 0 (gQi below args s (cG E) r σ') (F0 m 0 ls []) := by
  unfold f_X4_tell at hf
  obtain ⟨F, hr, hlk⟩ := id B
  have hx := F.1
  have hb := F.2.1
  have hml := F.2.2.1
  have hown := F.2.2.2.1
  have hts := F.2.2.2.2.1
  refine lv_iload_n hx hb dX4_tell_0 rfl (lv_at hl 1 rfl) ?_
  refine lv_if_lt (tgt := 21) hx hb dX4_tell_1 (by decide) (fun h1 => ?_) (fun h1 => ?_)
  · rw [if_pos h1] at hf
    refine lv_bipush (v := (-4)) hx hb dX4_tell_21 (by decide) ?_
    exact g_iret B hP hS hf dX4_tell_23
  · rw [if_neg h1] at hf
    refine lv_iload_n hx hb dX4_tell_4 rfl (lv_at hl 1 rfl) ?_
    refine lv_aload_n hx hb dX4_tell_5 rfl (lv_at hl 0 rfl) ?_
    refine gf_X4_21 F hP ho dX4_tell_6 ?_
    refine lv_icmp_ge (tgt := 21) hx hb dX4_tell_9 (by decide) (fun h2 => ?_) (fun h2 => ?_)
    · rw [if_pos h2] at hf
      refine lv_bipush (v := (-4)) hx hb dX4_tell_21 (by decide) ?_
      exact g_iret B hP hS hf dX4_tell_23
    · rw [if_neg h2] at hf
      refine lv_iload_n hx hb dX4_tell_12 rfl (lv_at hl 1 rfl) ?_
      refine lv_aload_n hx hb dX4_tell_13 rfl (lv_at hl 0 rfl) ?_
      refine gf_X4_9 F hP ho dX4_tell_14 ?_
      refine c_alen F hP (ca_p (by have := ho; omega)) (cn_p (by have := ho; omega)) dX4_tell_17 ?_
      refine lv_icmp_lt (tgt := 24) hx hb dX4_tell_18 (by decide) (fun h3 => ?_) (fun h3 => ?_)
      · rw [if_pos h3] at hf
        refine lv_iload_n hx hb dX4_tell_24 rfl (lv_at hl 2 rfl) ?_
        by_cases h4 : p2 = (0 : Int32)
        · rw [if_pos h4] at hf
          refine lv_tableIn (tgt := 56) (off := 31) hx hb dX4_tell_25 (by rw [h4]; decide) (by rw [h4]; decide) (by rw [h4]; rfl) (by decide) ?_
          refine lv_aload_n hx hb dX4_tell_56 rfl (lv_at hl 0 rfl) ?_
          refine gf_X4_9 F hP ho dX4_tell_57 ?_
          refine lv_iload_n hx hb dX4_tell_60 rfl (lv_at hl 1 rfl) ?_
          obtain ⟨h5, hf⟩ := gd_e hf
          refine c_iald F hP (ca_p (by have := ho; omega)) (cn_p (by have := ho; omega)) h5 dX4_tell_61 ?_
          exact g_iret B hP hS hf dX4_tell_62
        rw [if_neg h4] at hf
        by_cases h6 : p2 = (1 : Int32)
        · rw [if_pos h6] at hf
          refine lv_tableIn (tgt := 63) (off := 38) hx hb dX4_tell_25 (by rw [h6]; decide) (by rw [h6]; decide) (by rw [h6]; rfl) (by decide) ?_
          refine lv_aload_n hx hb dX4_tell_63 rfl (lv_at hl 0 rfl) ?_
          refine lv_iload_n hx hb dX4_tell_64 rfl (lv_at hl 1 rfl) ?_
          obtain ⟨r8, σ7, h9, hf⟩ := cl_e hf
          refine kc_X4_25 F hP hS ho h9 ⟨Nat.le_of_ble_eq_true rfl, Nat.le_of_ble_eq_true rfl⟩ hl.1 (Nat.le_of_ble_eq_true rfl) ⟨Nat.zero_le _, Nat.zero_le _⟩ dX4_tell_65 (fun H locs hP hS => ?_)
          exact g_iret B hP hS hf dX4_tell_68
        rw [if_neg h6] at hf
        by_cases h10 : p2 = (2 : Int32)
        · rw [if_pos h10] at hf
          refine lv_tableIn (tgt := 69) (off := 44) hx hb dX4_tell_25 (by rw [h10]; decide) (by rw [h10]; decide) (by rw [h10]; rfl) (by decide) ?_
          refine lv_aload_n hx hb dX4_tell_69 rfl (lv_at hl 0 rfl) ?_
          refine gf_X4_15 F hP ho dX4_tell_70 ?_
          refine lv_iload_n hx hb dX4_tell_73 rfl (lv_at hl 1 rfl) ?_
          obtain ⟨h11, hf⟩ := gd_e hf
          refine c_iald F hP (ca_p (by have := ho; omega)) (cn_p (by have := ho; omega)) h11 dX4_tell_74 ?_
          exact g_iret B hP hS hf dX4_tell_75
        rw [if_neg h10] at hf
        by_cases h12 : p2 = (3 : Int32)
        · rw [if_pos h12] at hf
          refine lv_tableIn (tgt := 76) (off := 51) hx hb dX4_tell_25 (by rw [h12]; decide) (by rw [h12]; decide) (by rw [h12]; rfl) (by decide) ?_
          refine lv_aload_n hx hb dX4_tell_76 rfl (lv_at hl 0 rfl) ?_
          refine gf_X4_18 F hP ho dX4_tell_77 ?_
          refine lv_iload_n hx hb dX4_tell_80 rfl (lv_at hl 1 rfl) ?_
          obtain ⟨h13, hf⟩ := gd_e hf
          refine c_iald F hP (ca_p (by have := ho; omega)) (cn_p (by have := ho; omega)) h13 dX4_tell_81 ?_
          exact g_iret B hP hS hf dX4_tell_82
        rw [if_neg h12] at hf
        have nh4 := lv_neT h4 (show ((0 : Int32)).toInt = 0 by decide)
        have nh6 := lv_neT h6 (show ((1 : Int32)).toInt = 1 by decide)
        have nh10 := lv_neT h10 (show ((2 : Int32)).toInt = 2 by decide)
        have nh12 := lv_neT h12 (show ((3 : Int32)).toInt = 3 by decide)
        refine lv_tableOut (tgt := 83) hx hb dX4_tell_25 (by omega) (by decide) ?_
        refine lv_iconst (v := (-1)) hx hb dX4_tell_83 (by decide) ?_
        exact g_iret B hP hS hf dX4_tell_84
      · rw [if_neg h3] at hf
        refine lv_bipush (v := (-4)) hx hb dX4_tell_21 (by decide) ?_
        exact g_iret B hP hS hf dX4_tell_23
theorem c_X4_tell (l : Launch) {E : cEv} (hI : gIj (cG E)) {o : Nat} (ho : o < 4) {p1 : Int32} {p2 : Int32} {σ σ' : St} {r : Int32} (hf : f_X4_tell o p1 p2 σ = some (r, σ')) : gMi l yX4_tell cX4_tell 3 .int rm_X4_tell [.ref (cAd E (26 + o)), .int p1, .int p2] (cG E) σ r σ' :=
  g_entry (by decide) (Nat.le_of_ble_eq_true rfl) hI (fun p e s m args below meth c B hP hS ls hl => w_X4_tell_e ho B _ _ σ hf _ _ ls hP hS hl)
/-! PromisedSlots$Promises.removeAt(I)V -/
def b_X4_removeAt_17 (o : Nat) (K17 : (Int32 × St → Option (Unit × St))) (a2 : Int32) (σ : St) : Option (Unit × St) :=
  if (σ (26 + o) 3) ≤ a2 then
    vl (up2 σ (26 + o) 3 ((σ (26 + o) 3) - (1 : Int32))) fun σ5 =>
    some ((), σ5)
  else
    if (nI 7) ≤ a2 then
      vl (up2 σ (26 + o) 3 ((σ (26 + o) 3) - (1 : Int32))) fun σ7 =>
      some ((), σ7)
    else
      gd (ix a2 7) <|
      gd (ix (a2 - (1 : Int32)) 7) <|
      vl (up2 σ (30 + o) (nt (a2 - (1 : Int32))) (σ (30 + o) (nt a2))) fun σ10 =>
      gd (ix a2 7) <|
      gd (ix (a2 - (1 : Int32)) 7) <|
      vl (up2 σ10 (34 + o) (nt (a2 - (1 : Int32))) (σ10 (34 + o) (nt a2))) fun σ13 =>
      gd (ix a2 7) <|
      gd (ix (a2 - (1 : Int32)) 7) <|
      vl (up2 σ13 (38 + o) (nt (a2 - (1 : Int32))) (σ13 (38 + o) (nt a2))) fun σ16 =>
      vl (a2 + (1 : Int32)) fun x17 =>
      K17 (x17, σ16)
def f_X4_removeAt (o : Nat) (p1 : Int32) (σ : St) : Option (Unit × St) :=
  if p1 < 0 then
    some ((), σ)
  else
    if p1 < (σ (26 + o) 3) then
      vl (p1 + (1 : Int32)) fun x3 =>
      lp (fun K a => b_X4_removeAt_17 o K a.1 a.2) FU (x3, σ)
    else
      some ((), σ)
abbrev rm_X4_removeAt : Room := { frames := 0, cells := 0, slots := 0, locals := 0 }
def P_X4_removeAt_17 (p : Program) (l : Launch) (e : Env) (s : State) (m : MethodId) (args : Array Value) (below : List Frame) (meth : Method) (c : Code) (E : cEv) (σ' : St) (o : Nat) (a : Int32 × St) : Prop := ∀ (H : Heap) (locs : List Loc) (ls : Array Slot), gW (cG E) a.2 H → va_S (gA (cG E)) s.heap H locs → lv_has ls 3 [(0, .ref (cAd E (26 + o))), (2, .int a.1)] → W p l e rm_X4_removeAt s m args below meth c H locs 0 0 (gQv below args s (cG E) σ') (F0 m 17 ls [])
set_option maxHeartbeats 4000000 in
set_option maxRecDepth 100000 in
theorem w_X4_removeAt_17 {p : Program} {l : Launch} {e : Env} {s : State} {m : MethodId} {args : Array Value} {below : List Frame} {meth : Method} {c : Code} {E : cEv} {u : Unit} {σ' : St} {o : Nat} (ho : o < 4) (B : gBx p m meth c cX4_removeAt 3 none s args RX4 (cG E)) {K17 : (Int32 × St → Option (Unit × St))} (hK17 : ∀ a, K17 a = some (u, σ') → P_X4_removeAt_17 p l e s m args below meth c E σ' o a) (a2 : Int32) (σ : St) (hf : b_X4_removeAt_17 o K17 a2 σ = some (u, σ')) (H : Heap) (locs : List Loc) (ls : Array Slot) (hP : gW (cG E) σ H) (hS : va_S (gA (cG E)) s.heap H locs) (hl : lv_has ls 3 [(0, .ref (cAd E (26 + o))), (2, .int a2)]) : W p l e rm_X4_removeAt s m args below meth c H locs 0 0 (gQv below args s (cG E) σ') (F0 m 17 ls []) := by
  unfold b_X4_removeAt_17 at hf
  obtain ⟨F, hr, hlk⟩ := id B
  have hx := F.1
  have hb := F.2.1
  have hml := F.2.2.1
  have hown := F.2.2.2.1
  have hts := F.2.2.2.2.1
  refine lv_iload_n hx hb dX4_removeAt_17 rfl (lv_at hl 1 rfl) ?_
  refine lv_aload_n hx hb dX4_removeAt_18 rfl (lv_at hl 0 rfl) ?_
  refine gf_X4_21 F hP ho dX4_removeAt_19 ?_
  refine lv_icmp_ge (tgt := 82) hx hb dX4_removeAt_22 (by decide) (fun h4 => ?_) (fun h4 => ?_)
  · rw [if_pos h4] at hf
    refine lv_aload_n hx hb dX4_removeAt_82 rfl (lv_at hl 0 rfl) ?_
    refine lv_dup hx hb dX4_removeAt_83 rfl ?_
    refine gf_X4_21 F hP ho dX4_removeAt_84 ?_
    refine lv_iconst (v := 1) hx hb dX4_removeAt_87 (by decide) ?_
    refine lv_isub hx hb dX4_removeAt_88 ?_
    refine pf_X4_21 F hP hS ho dX4_removeAt_89 (fun H locs hP hS => ?_)
    obtain ⟨σ5, eσ5, hf⟩ := vl_x hf
    rw [← eσ5] at hP
    exact g_vret B hP hS hf dX4_removeAt_92
  · rw [if_neg h4] at hf
    refine lv_iload_n hx hb dX4_removeAt_25 rfl (lv_at hl 1 rfl) ?_
    refine lv_aload_n hx hb dX4_removeAt_26 rfl (lv_at hl 0 rfl) ?_
    refine gf_X4_9 F hP ho dX4_removeAt_27 ?_
    refine c_alen F hP (ca_p (by have := ho; omega)) (cn_p (by have := ho; omega)) dX4_removeAt_30 ?_
    refine lv_icmp_ge (tgt := 82) hx hb dX4_removeAt_31 (by decide) (fun h6 => ?_) (fun h6 => ?_)
    · rw [if_pos h6] at hf
      refine lv_aload_n hx hb dX4_removeAt_82 rfl (lv_at hl 0 rfl) ?_
      refine lv_dup hx hb dX4_removeAt_83 rfl ?_
      refine gf_X4_21 F hP ho dX4_removeAt_84 ?_
      refine lv_iconst (v := 1) hx hb dX4_removeAt_87 (by decide) ?_
      refine lv_isub hx hb dX4_removeAt_88 ?_
      refine pf_X4_21 F hP hS ho dX4_removeAt_89 (fun H locs hP hS => ?_)
      obtain ⟨σ7, eσ7, hf⟩ := vl_x hf
      rw [← eσ7] at hP
      exact g_vret B hP hS hf dX4_removeAt_92
    · rw [if_neg h6] at hf
      refine lv_aload_n hx hb dX4_removeAt_34 rfl (lv_at hl 0 rfl) ?_
      refine gf_X4_9 F hP ho dX4_removeAt_35 ?_
      refine lv_iload_n hx hb dX4_removeAt_38 rfl (lv_at hl 1 rfl) ?_
      refine lv_iconst (v := 1) hx hb dX4_removeAt_39 (by decide) ?_
      refine lv_isub hx hb dX4_removeAt_40 ?_
      refine lv_aload_n hx hb dX4_removeAt_41 rfl (lv_at hl 0 rfl) ?_
      refine gf_X4_9 F hP ho dX4_removeAt_42 ?_
      refine lv_iload_n hx hb dX4_removeAt_45 rfl (lv_at hl 1 rfl) ?_
      obtain ⟨h8, hf⟩ := gd_e hf
      refine c_iald F hP (ca_p (by have := ho; omega)) (cn_p (by have := ho; omega)) h8 dX4_removeAt_46 ?_
      obtain ⟨h9, hf⟩ := gd_e hf
      refine c_iast F hP hS (ca_p (by have := ho; omega)) (cn_p (by have := ho; omega)) h9 dX4_removeAt_47 (fun H locs hP hS => ?_)
      obtain ⟨σ10, eσ10, hf⟩ := vl_x hf
      rw [← eσ10] at hP
      refine lv_aload_n hx hb dX4_removeAt_48 rfl (lv_at hl 0 rfl) ?_
      refine gf_X4_15 F hP ho dX4_removeAt_49 ?_
      refine lv_iload_n hx hb dX4_removeAt_52 rfl (lv_at hl 1 rfl) ?_
      refine lv_iconst (v := 1) hx hb dX4_removeAt_53 (by decide) ?_
      refine lv_isub hx hb dX4_removeAt_54 ?_
      refine lv_aload_n hx hb dX4_removeAt_55 rfl (lv_at hl 0 rfl) ?_
      refine gf_X4_15 F hP ho dX4_removeAt_56 ?_
      refine lv_iload_n hx hb dX4_removeAt_59 rfl (lv_at hl 1 rfl) ?_
      obtain ⟨h11, hf⟩ := gd_e hf
      refine c_iald F hP (ca_p (by have := ho; omega)) (cn_p (by have := ho; omega)) h11 dX4_removeAt_60 ?_
      obtain ⟨h12, hf⟩ := gd_e hf
      refine c_iast F hP hS (ca_p (by have := ho; omega)) (cn_p (by have := ho; omega)) h12 dX4_removeAt_61 (fun H locs hP hS => ?_)
      obtain ⟨σ13, eσ13, hf⟩ := vl_x hf
      rw [← eσ13] at hP
      refine lv_aload_n hx hb dX4_removeAt_62 rfl (lv_at hl 0 rfl) ?_
      refine gf_X4_18 F hP ho dX4_removeAt_63 ?_
      refine lv_iload_n hx hb dX4_removeAt_66 rfl (lv_at hl 1 rfl) ?_
      refine lv_iconst (v := 1) hx hb dX4_removeAt_67 (by decide) ?_
      refine lv_isub hx hb dX4_removeAt_68 ?_
      refine lv_aload_n hx hb dX4_removeAt_69 rfl (lv_at hl 0 rfl) ?_
      refine gf_X4_18 F hP ho dX4_removeAt_70 ?_
      refine lv_iload_n hx hb dX4_removeAt_73 rfl (lv_at hl 1 rfl) ?_
      obtain ⟨h14, hf⟩ := gd_e hf
      refine c_iald F hP (ca_p (by have := ho; omega)) (cn_p (by have := ho; omega)) h14 dX4_removeAt_74 ?_
      obtain ⟨h15, hf⟩ := gd_e hf
      refine c_iast F hP hS (ca_p (by have := ho; omega)) (cn_p (by have := ho; omega)) h15 dX4_removeAt_75 (fun H locs hP hS => ?_)
      obtain ⟨σ16, eσ16, hf⟩ := vl_x hf
      rw [← eσ16] at hP
      refine lv_iinc (v := a2 + (1 : Int32)) (lv' := [(2, .int (a2 + (1 : Int32))), (0, .ref (cAd E (26 + o)))]) hx hb dX4_removeAt_76 hl (k := 1) rfl rfl (by decide) rfl (fun ls hl => ?_)
      obtain ⟨x17, ex17, hf⟩ := vl_x hf
      rw [← ex17] at hl
      refine lv_goto (tgt := 17) hx hb dX4_removeAt_79 (by decide) ?_
      exact hK17 _ hf _ _ _ hP hS (lv_sub hl [1, 0] rfl)
set_option maxHeartbeats 4000000 in
set_option maxRecDepth 100000 in
theorem w_X4_removeAt_e {p : Program} {l : Launch} {e : Env} {s : State} {m : MethodId} {args : Array Value} {below : List Frame} {meth : Method} {c : Code} {E : cEv} {u : Unit} {σ' : St} {o : Nat} (ho : o < 4) (B : gBx p m meth c cX4_removeAt 3 none s args RX4 (cG E)) (p1 : Int32) (σ : St) (hf : f_X4_removeAt o p1 σ = some (u, σ')) (H : Heap) (locs : List Loc) (ls : Array Slot) (hP : gW (cG E) σ H) (hS : va_S (gA (cG E)) s.heap H locs) (hl : lv_has ls 3 [(0, .ref (cAd E (26 + o))), (1, .int p1)]) : W p l e rm_X4_removeAt s m args below meth c H locs 0 0 (gQv below args s (cG E) σ') (F0 m 0 ls []) := by
  unfold f_X4_removeAt at hf
  obtain ⟨F, hr, hlk⟩ := id B
  have hx := F.1
  have hb := F.2.1
  have hml := F.2.2.1
  have hown := F.2.2.2.1
  have hts := F.2.2.2.2.1
  refine lv_iload_n hx hb dX4_removeAt_0 rfl (lv_at hl 1 rfl) ?_
  refine lv_if_lt (tgt := 12) hx hb dX4_removeAt_1 (by decide) (fun h1 => ?_) (fun h1 => ?_)
  · rw [if_pos h1] at hf
    exact g_vret B hP hS hf dX4_removeAt_12
  · rw [if_neg h1] at hf
    refine lv_iload_n hx hb dX4_removeAt_4 rfl (lv_at hl 1 rfl) ?_
    refine lv_aload_n hx hb dX4_removeAt_5 rfl (lv_at hl 0 rfl) ?_
    refine gf_X4_21 F hP ho dX4_removeAt_6 ?_
    refine lv_icmp_lt (tgt := 13) hx hb dX4_removeAt_9 (by decide) (fun h2 => ?_) (fun h2 => ?_)
    · rw [if_pos h2] at hf
      refine lv_iload_n hx hb dX4_removeAt_13 rfl (lv_at hl 1 rfl) ?_
      refine lv_iconst (v := 1) hx hb dX4_removeAt_14 (by decide) ?_
      refine lv_iadd hx hb dX4_removeAt_15 ?_
      obtain ⟨x3, ex3, hf⟩ := vl_x hf
      rw [← ex3]
      refine lv_istore_n (lv' := [(2, .int x3), (0, .ref (cAd E (26 + o))), (1, .int p1)]) hx hb dX4_removeAt_16 rfl hl (by decide) rfl (fun ls hl => ?_)
      exact lp_w (P := P_X4_removeAt_17 p l e s m args below meth c E σ' o) (fun K hK a ha => w_X4_removeAt_17 ho B hK a.1 a.2 ha) FU _ hf _ _ _ hP hS (lv_sub hl [1, 0] rfl)
    · rw [if_neg h2] at hf
      exact g_vret B hP hS hf dX4_removeAt_12
theorem c_X4_removeAt (l : Launch) {E : cEv} (hI : gIj (cG E)) {o : Nat} (ho : o < 4) {p1 : Int32} {σ σ' : St} {u : Unit} (hf : f_X4_removeAt o p1 σ = some (u, σ')) : gMv l yX4_removeAt cX4_removeAt 3 rm_X4_removeAt [.ref (cAd E (26 + o)), .int p1] (cG E) σ σ' :=
  g_entry (by decide) (Nat.le_of_ble_eq_true rfl) hI (fun p e s m args below meth c B hP hS ls hl => w_X4_removeAt_e ho B _ σ hf _ _ ls hP hS hl)
section SA
variable {p : Program} {l : Launch} {e : Env} {R : Room} {s : State} {m : MethodId} {args : Array Value} {below : List Frame} {meth : Method} {c : Code} {H : Heap} {locs : List Loc} {cells slots : Nat} {Q : State → Prop}
variable {cc : ByteArray} {pc nL : Nat} {ls : Array Slot} {rest : List Value} {E : cEv} {σ : St}
theorem kc_X4_29 (F : gFx p m c cc nL s args RX4 (cG E)) (hP : gW (cG E) σ H) (hS : va_S (gA (cG E)) s.heap H locs) {o : Nat} (ho : o < 4) {p1 : Int32} {r : Int32} {σ' : St} (hf : f_X4_placeOf o p1 σ = some (r, σ')) (hR : rm_X4_placeOf.frames + 1 ≤ R.frames ∧ 8 + (3 + 11) + rm_X4_placeOf.locals ≤ R.locals) (hsz : ls.size = nL) (hrest : (rest.map fun v => v.category).sum ≤ 8) (hcs : cells ≤ R.cells ∧ slots ≤ R.slots) (hdg : decode cc pc = .ok (.invokevirtual 29, 3)) (kk : ∀ (H1 : Heap) (locs1 : List Loc), gW (cG E) σ' H1 → va_S (gA (cG E)) s.heap H1 locs1 → W p l e R s m args below meth c H1 locs1 cells slots Q (F0 m (pc + 3) ls (.int r :: rest))) : W p l e R s m args below meth c H locs cells slots Q (F0 m pc ls (.int p1 :: .ref (cAd E (26 + o)) :: rest)) :=
  g_callVi F hP hS (c_X4_placeOf l F.2.2.2.2.2.2.2 ho hf) (g_cwV (n := 1) F tw_536 tw_537 tw_538 tw_7 tw_539 (by decide +kernel) rfl rfl hR) (k := (26 + o)) (cin (by omega)) (ce_4 E _ ho) rfl (As := [.int p1]) rfl hsz rfl hrest hdg hcs kk
theorem kc_X4_32 (F : gFx p m c cc nL s args RX4 (cG E)) (hP : gW (cG E) σ H) (hS : va_S (gA (cG E)) s.heap H locs) {o : Nat} (ho : o < 4) {p1 : Int32} {p2 : Int32} {r : Int32} {σ' : St} (hf : f_X4_tell o p1 p2 σ = some (r, σ')) (hR : rm_X4_tell.frames + 1 ≤ R.frames ∧ 8 + (3 + 11) + rm_X4_tell.locals ≤ R.locals) (hsz : ls.size = nL) (hrest : (rest.map fun v => v.category).sum ≤ 8) (hcs : cells ≤ R.cells ∧ slots ≤ R.slots) (hdg : decode cc pc = .ok (.invokevirtual 32, 3)) (kk : ∀ (H1 : Heap) (locs1 : List Loc), gW (cG E) σ' H1 → va_S (gA (cG E)) s.heap H1 locs1 → W p l e R s m args below meth c H1 locs1 cells slots Q (F0 m (pc + 3) ls (.int r :: rest))) : W p l e R s m args below meth c H locs cells slots Q (F0 m pc ls (.int p2 :: .int p1 :: .ref (cAd E (26 + o)) :: rest)) :=
  g_callVi F hP hS (c_X4_tell l F.2.2.2.2.2.2.2 ho hf) (g_cwV (n := 2) F tw_540 tw_541 tw_542 tw_7 tw_543 (by decide +kernel) rfl rfl hR) (k := (26 + o)) (cin (by omega)) (ce_4 E _ ho) rfl (As := [.int p1, .int p2]) rfl hsz rfl hrest hdg hcs kk
theorem kc_X4_36 (F : gFx p m c cc nL s args RX4 (cG E)) (hP : gW (cG E) σ H) (hS : va_S (gA (cG E)) s.heap H locs) {o : Nat} (ho : o < 4) {p1 : Int32} {u : Unit} {σ' : St} (hf : f_X4_removeAt o p1 σ = some (u, σ')) (hR : rm_X4_removeAt.frames + 1 ≤ R.frames ∧ 8 + (3 + 11) + rm_X4_removeAt.locals ≤ R.locals) (hsz : ls.size = nL) (hrest : (rest.map fun v => v.category).sum ≤ 8) (hcs : cells ≤ R.cells ∧ slots ≤ R.slots) (hdg : decode cc pc = .ok (.invokevirtual 36, 3)) (kk : ∀ (H1 : Heap) (locs1 : List Loc), gW (cG E) σ' H1 → va_S (gA (cG E)) s.heap H1 locs1 → W p l e R s m args below meth c H1 locs1 cells slots Q (F0 m (pc + 3) ls rest)) : W p l e R s m args below meth c H locs cells slots Q (F0 m pc ls (.int p1 :: .ref (cAd E (26 + o)) :: rest)) :=
  g_callVv F hP hS (c_X4_removeAt l F.2.2.2.2.2.2.2 ho hf) (g_cwV (n := 1) F tw_548 tw_550 ts_11 tw_7 tw_551 (by decide +kernel) rfl rfl hR) (k := (26 + o)) (cin (by omega)) (ce_4 E _ ho) rfl (As := [.int p1]) rfl hsz rfl hrest hdg hcs kk
end SA
/-! PromisedSlots$Promises.removeOf(I)I -/
def f_X4_removeOf (o : Nat) (p1 : Int32) (σ : St) : Option (Int32 × St) :=
  cl (f_X4_placeOf o p1 σ) fun r2 σ1 =>
  if r2 = (-4 : Int32) then
    cl (f_X4_removeAt o r2 σ1) fun r12 σ11 =>
    some ((0 : Int32), σ11)
  else
    cl (f_X4_tell o r2 (2 : Int32) σ1) fun r6 σ5 =>
    cl (f_X4_removeAt o r2 σ5) fun r9 σ8 =>
    some (r6, σ8)
abbrev rm_X4_removeOf : Room := { frames := 2, cells := 0, slots := 0, locals := 45 }
set_option maxHeartbeats 4000000 in
set_option maxRecDepth 100000 in
theorem w_X4_removeOf_e {p : Program} {l : Launch} {e : Env} {s : State} {m : MethodId} {args : Array Value} {below : List Frame} {meth : Method} {c : Code} {E : cEv} {r : Int32} {σ' : St} {o : Nat} (ho : o < 4) (B : gBx p m meth c cX4_removeOf 4 (some .int) s args RX4 (cG E)) (p1 : Int32) (σ : St) (hf : f_X4_removeOf o p1 σ = some (r, σ')) (H : Heap) (locs : List Loc) (ls : Array Slot) (hP : gW (cG E) σ H) (hS : va_S (gA (cG E)) s.heap H locs) (hl : lv_has ls 4 [(0, .ref (cAd E (26 + o))), (1, .int p1)]) : W p l e rm_X4_removeOf s m args below meth c H locs 0 0 (gQi below args s (cG E) r σ') (F0 m 0 ls []) := by
  unfold f_X4_removeOf at hf
  obtain ⟨F, hr, hlk⟩ := id B
  have hx := F.1
  have hb := F.2.1
  have hml := F.2.2.1
  have hown := F.2.2.2.1
  have hts := F.2.2.2.2.1
  refine lv_aload_n hx hb dX4_removeOf_0 rfl (lv_at hl 0 rfl) ?_
  refine lv_iload_n hx hb dX4_removeOf_1 rfl (lv_at hl 1 rfl) ?_
  obtain ⟨r2, σ1, h3, hf⟩ := cl_e hf
  refine kc_X4_29 F hP hS ho h3 ⟨Nat.le_of_ble_eq_true rfl, Nat.le_of_ble_eq_true rfl⟩ hl.1 (Nat.le_of_ble_eq_true rfl) ⟨Nat.zero_le _, Nat.zero_le _⟩ dX4_removeOf_2 (fun H locs hP hS => ?_)
  refine lv_istore_n (lv' := [(2, .int r2), (0, .ref (cAd E (26 + o))), (1, .int p1)]) hx hb dX4_removeOf_5 rfl hl (by decide) rfl (fun ls hl => ?_)
  refine lv_iload_n hx hb dX4_removeOf_6 rfl (lv_at hl 0 rfl) ?_
  refine lv_bipush (v := (-4)) hx hb dX4_removeOf_7 (by decide) ?_
  refine lv_icmp_ne (tgt := 16) hx hb dX4_removeOf_9 (by decide) (fun h4 => ?_) (fun h4 => ?_)
  · rw [if_neg h4] at hf
    refine lv_aload_n hx hb dX4_removeOf_16 rfl (lv_at hl 1 rfl) ?_
    refine lv_iload_n hx hb dX4_removeOf_17 rfl (lv_at hl 0 rfl) ?_
    refine lv_iconst (v := 2) hx hb dX4_removeOf_18 (by decide) ?_
    obtain ⟨r6, σ5, h7, hf⟩ := cl_e hf
    refine kc_X4_32 F hP hS ho h7 ⟨Nat.le_of_ble_eq_true rfl, Nat.le_of_ble_eq_true rfl⟩ hl.1 (Nat.le_of_ble_eq_true rfl) ⟨Nat.zero_le _, Nat.zero_le _⟩ dX4_removeOf_19 (fun H locs hP hS => ?_)
    refine lv_istore_n (lv' := [(3, .int r6), (2, .int r2), (0, .ref (cAd E (26 + o))), (1, .int p1)]) hx hb dX4_removeOf_22 rfl hl (by decide) rfl (fun ls hl => ?_)
    refine lv_aload_n hx hb dX4_removeOf_23 rfl (lv_at hl 2 rfl) ?_
    refine lv_iload_n hx hb dX4_removeOf_24 rfl (lv_at hl 1 rfl) ?_
    obtain ⟨r9, σ8, h10, hf⟩ := cl_e hf
    refine kc_X4_36 F hP hS ho h10 ⟨Nat.le_of_ble_eq_true rfl, Nat.le_of_ble_eq_true rfl⟩ hl.1 (Nat.le_of_ble_eq_true rfl) ⟨Nat.zero_le _, Nat.zero_le _⟩ dX4_removeOf_25 (fun H locs hP hS => ?_)
    refine lv_iload_n hx hb dX4_removeOf_28 rfl (lv_at hl 0 rfl) ?_
    exact g_iret B hP hS hf dX4_removeOf_29
  · rw [if_pos h4] at hf
    refine lv_iconst (v := 0) hx hb dX4_removeOf_12 (by decide) ?_
    refine lv_goto (tgt := 22) hx hb dX4_removeOf_13 (by decide) ?_
    refine lv_istore_n (lv' := [(3, .int (0 : Int32)), (2, .int r2), (0, .ref (cAd E (26 + o))), (1, .int p1)]) hx hb dX4_removeOf_22 rfl hl (by decide) rfl (fun ls hl => ?_)
    refine lv_aload_n hx hb dX4_removeOf_23 rfl (lv_at hl 2 rfl) ?_
    refine lv_iload_n hx hb dX4_removeOf_24 rfl (lv_at hl 1 rfl) ?_
    obtain ⟨r12, σ11, h13, hf⟩ := cl_e hf
    refine kc_X4_36 F hP hS ho h13 ⟨Nat.le_of_ble_eq_true rfl, Nat.le_of_ble_eq_true rfl⟩ hl.1 (Nat.le_of_ble_eq_true rfl) ⟨Nat.zero_le _, Nat.zero_le _⟩ dX4_removeOf_25 (fun H locs hP hS => ?_)
    refine lv_iload_n hx hb dX4_removeOf_28 rfl (lv_at hl 0 rfl) ?_
    exact g_iret B hP hS hf dX4_removeOf_29
theorem c_X4_removeOf (l : Launch) {E : cEv} (hI : gIj (cG E)) {o : Nat} (ho : o < 4) {p1 : Int32} {σ σ' : St} {r : Int32} (hf : f_X4_removeOf o p1 σ = some (r, σ')) : gMi l yX4_removeOf cX4_removeOf 4 .int rm_X4_removeOf [.ref (cAd E (26 + o)), .int p1] (cG E) σ r σ' :=
  g_entry (by decide) (Nat.le_of_ble_eq_true rfl) hI (fun p e s m args below meth c B hP hS ls hl => w_X4_removeOf_e ho B _ σ hf _ _ ls hP hS hl)
section SA
variable {p : Program} {l : Launch} {e : Env} {R : Room} {s : State} {m : MethodId} {args : Array Value} {below : List Frame} {meth : Method} {c : Code} {H : Heap} {locs : List Loc} {cells slots : Nat} {Q : State → Prop}
variable {cc : ByteArray} {pc nL : Nat} {ls : Array Slot} {rest : List Value} {E : cEv} {σ : St}
theorem kc_X1_41 (F : gFx p m c cc nL s args RX1 (cG E)) (hP : gW (cG E) σ H) (hS : va_S (gA (cG E)) s.heap H locs) {o : Nat} (ho : o < 4) {p1 : Int32} {r : Int32} {σ' : St} (hf : f_X4_removeOf o p1 σ = some (r, σ')) (hR : rm_X4_removeOf.frames + 1 ≤ R.frames ∧ 8 + (4 + 11) + rm_X4_removeOf.locals ≤ R.locals) (hsz : ls.size = nL) (hrest : (rest.map fun v => v.category).sum ≤ 8) (hcs : cells ≤ R.cells ∧ slots ≤ R.slots) (hdg : decode cc pc = .ok (.invokevirtual 41, 3)) (kk : ∀ (H1 : Heap) (locs1 : List Loc), gW (cG E) σ' H1 → va_S (gA (cG E)) s.heap H1 locs1 → W p l e R s m args below meth c H1 locs1 cells slots Q (F0 m (pc + 3) ls (.int r :: rest))) : W p l e R s m args below meth c H locs cells slots Q (F0 m pc ls (.int p1 :: .ref (cAd E (26 + o)) :: rest)) :=
  g_callVi F hP hS (c_X4_removeOf l F.2.2.2.2.2.2.2 ho hf) (g_cwV (n := 1) F tw_532 tw_533 tw_534 tw_7 tw_535 (by decide +kernel) rfl rfl hR) (k := (26 + o)) (cin (by omega)) (ce_4 E _ ho) rfl (As := [.int p1]) rfl hsz rfl hrest hdg hcs kk
end SA
/-! PromisedSlots$Coordinator.forget(I)V -/
def f_X1_forget (o : Nat) (p1 : Int32) (σ : St) : Option (Unit × St) :=
  vl (up2 σ (22 + o) 2 ((σ (22 + o) 2) &&& (((1 : Int32) <<< (p1 &&& 31)) ^^^ (-1 : Int32)))) fun σ1 =>
  cl (f_X4_removeOf o p1 σ1) fun r3 σ2 =>
  some ((), σ2)
abbrev rm_X1_forget : Room := { frames := 3, cells := 0, slots := 0, locals := 68 }
set_option maxHeartbeats 4000000 in
set_option maxRecDepth 100000 in
theorem w_X1_forget_e {p : Program} {l : Launch} {e : Env} {s : State} {m : MethodId} {args : Array Value} {below : List Frame} {meth : Method} {c : Code} {E : cEv} {u : Unit} {σ' : St} {o : Nat} (ho : o < 4) (B : gBx p m meth c cX1_forget 2 none s args RX1 (cG E)) (p1 : Int32) (σ : St) (hf : f_X1_forget o p1 σ = some (u, σ')) (H : Heap) (locs : List Loc) (ls : Array Slot) (hP : gW (cG E) σ H) (hS : va_S (gA (cG E)) s.heap H locs) (hl : lv_has ls 2 [(0, .ref (cAd E (22 + o))), (1, .int p1)]) : W p l e rm_X1_forget s m args below meth c H locs 0 0 (gQv below args s (cG E) σ') (F0 m 0 ls []) := by
  unfold f_X1_forget at hf
  obtain ⟨F, hr, hlk⟩ := id B
  have hx := F.1
  have hb := F.2.1
  have hml := F.2.2.1
  have hown := F.2.2.2.1
  have hts := F.2.2.2.2.1
  refine lv_aload_n hx hb dX1_forget_0 rfl (lv_at hl 0 rfl) ?_
  refine lv_dup hx hb dX1_forget_1 rfl ?_
  refine gf_X1_32 F hP ho dX1_forget_2 ?_
  refine lv_iconst (v := 1) hx hb dX1_forget_5 (by decide) ?_
  refine lv_iload_n hx hb dX1_forget_6 rfl (lv_at hl 1 rfl) ?_
  refine lv_ishl hx hb dX1_forget_7 ?_
  refine lv_iconst (v := (-1)) hx hb dX1_forget_8 (by decide) ?_
  refine lv_ixor hx hb dX1_forget_9 ?_
  refine lv_iand hx hb dX1_forget_10 ?_
  refine pf_X1_32 F hP hS ho dX1_forget_11 (fun H locs hP hS => ?_)
  obtain ⟨σ1, eσ1, hf⟩ := vl_x hf
  rw [← eσ1] at hP
  refine lv_aload_n hx hb dX1_forget_14 rfl (lv_at hl 0 rfl) ?_
  refine gf_X1_12 F hP ho dX1_forget_15 ?_
  refine lv_iload_n hx hb dX1_forget_18 rfl (lv_at hl 1 rfl) ?_
  obtain ⟨r3, σ2, h4, hf⟩ := cl_e hf
  refine kc_X1_41 F hP hS ho h4 ⟨Nat.le_of_ble_eq_true rfl, Nat.le_of_ble_eq_true rfl⟩ hl.1 (Nat.le_of_ble_eq_true rfl) ⟨Nat.zero_le _, Nat.zero_le _⟩ dX1_forget_19 (fun H locs hP hS => ?_)
  refine lv_pop hx hb dX1_forget_22 rfl ?_
  exact g_vret B hP hS hf dX1_forget_23
theorem c_X1_forget (l : Launch) {E : cEv} (hI : gIj (cG E)) {o : Nat} (ho : o < 4) {p1 : Int32} {σ σ' : St} {u : Unit} (hf : f_X1_forget o p1 σ = some (u, σ')) : gMv l yX1_forget cX1_forget 2 rm_X1_forget [.ref (cAd E (22 + o)), .int p1] (cG E) σ σ' :=
  g_entry (by decide) (Nat.le_of_ble_eq_true rfl) hI (fun p e s m args below meth c B hP hS ls hl => w_X1_forget_e ho B _ σ hf _ _ ls hP hS hl)
/-! PromisedSlots$Promises.sharedSlots()I -/
def f_X4_sharedSlots (o : Nat) (σ : St) : Option (Int32 × St) :=
  cl (f_X4_firstSlot o ((σ (26 + o) 3) - (1 : Int32)) σ) fun r2 σ1 =>
  some (r2, σ1)
abbrev rm_X4_sharedSlots : Room := { frames := 1, cells := 0, slots := 0, locals := 23 }
set_option maxHeartbeats 4000000 in
set_option maxRecDepth 100000 in
theorem w_X4_sharedSlots_e {p : Program} {l : Launch} {e : Env} {s : State} {m : MethodId} {args : Array Value} {below : List Frame} {meth : Method} {c : Code} {E : cEv} {r : Int32} {σ' : St} {o : Nat} (ho : o < 4) (B : gBx p m meth c cX4_sharedSlots 1 (some .int) s args RX4 (cG E)) (σ : St) (hf : f_X4_sharedSlots o σ = some (r, σ')) (H : Heap) (locs : List Loc) (ls : Array Slot) (hP : gW (cG E) σ H) (hS : va_S (gA (cG E)) s.heap H locs) (hl : lv_has ls 1 [(0, .ref (cAd E (26 + o)))]) : W p l e rm_X4_sharedSlots s m args below meth c H locs 0 0 (gQi below args s (cG E) r σ') (F0 m 0 ls []) := by
  unfold f_X4_sharedSlots at hf
  obtain ⟨F, hr, hlk⟩ := id B
  have hx := F.1
  have hb := F.2.1
  have hml := F.2.2.1
  have hown := F.2.2.2.1
  have hts := F.2.2.2.2.1
  refine lv_aload_n hx hb dX4_sharedSlots_0 rfl (lv_at hl 0 rfl) ?_
  refine lv_aload_n hx hb dX4_sharedSlots_1 rfl (lv_at hl 0 rfl) ?_
  refine gf_X4_21 F hP ho dX4_sharedSlots_2 ?_
  refine lv_iconst (v := 1) hx hb dX4_sharedSlots_5 (by decide) ?_
  refine lv_isub hx hb dX4_sharedSlots_6 ?_
  obtain ⟨r2, σ1, h3, hf⟩ := cl_e hf
  refine kc_X4_25 F hP hS ho h3 ⟨Nat.le_of_ble_eq_true rfl, Nat.le_of_ble_eq_true rfl⟩ hl.1 (Nat.le_of_ble_eq_true rfl) ⟨Nat.zero_le _, Nat.zero_le _⟩ dX4_sharedSlots_7 (fun H locs hP hS => ?_)
  exact g_iret B hP hS hf dX4_sharedSlots_10
theorem c_X4_sharedSlots (l : Launch) {E : cEv} (hI : gIj (cG E)) {o : Nat} (ho : o < 4) {σ σ' : St} {r : Int32} (hf : f_X4_sharedSlots o σ = some (r, σ')) : gMi l yX4_sharedSlots cX4_sharedSlots 1 .int rm_X4_sharedSlots [.ref (cAd E (26 + o))] (cG E) σ r σ' :=
  g_entry (by decide) (Nat.le_of_ble_eq_true rfl) hI (fun p e s m args below meth c B hP hS ls hl => w_X4_sharedSlots_e ho B σ hf _ _ ls hP hS hl)
section SA
variable {p : Program} {l : Launch} {e : Env} {R : Room} {s : State} {m : MethodId} {args : Array Value} {below : List Frame} {meth : Method} {c : Code} {H : Heap} {locs : List Loc} {cells slots : Nat} {Q : State → Prop}
variable {cc : ByteArray} {pc nL : Nat} {ls : Array Slot} {rest : List Value} {E : cEv} {σ : St}
theorem gf_X1_26 (F : gFx p m c cc nL s args RX1 (cG E)) (hP : gW (cG E) σ H) {o : Nat} (ho : o < 4) (hdg : decode cc pc = .ok (.getfield 26, 3)) (kk : W p l e R s m args below meth c H locs cells slots Q (F0 m (pc + 3) ls (.int (σ (22 + o) 1) :: rest))) : W p l e R s m args below meth c H locs cells slots Q (F0 m pc ls (.ref (cAd E (22 + o)) :: rest)) :=
  g_get F hP (k := (22 + o)) (cin (by omega)) (ce_1 E _ ho) rfl inX1 1 (by decide) tw_146 rfl rfl hdg kk
theorem gf_X1_22 (F : gFx p m c cc nL s args RX1 (cG E)) (hP : gW (cG E) σ H) {o : Nat} (ho : o < 4) (hdg : decode cc pc = .ok (.getfield 22, 3)) (kk : W p l e R s m args below meth c H locs cells slots Q (F0 m (pc + 3) ls (.int (σ (22 + o) 0) :: rest))) : W p l e R s m args below meth c H locs cells slots Q (F0 m pc ls (.ref (cAd E (22 + o)) :: rest)) :=
  g_get F hP (k := (22 + o)) (cin (by omega)) (ce_1 E _ ho) rfl inX1 0 (by decide) tw_145 rfl rfl hdg kk
theorem kc_X1_45 (F : gFx p m c cc nL s args RX1 (cG E)) (hP : gW (cG E) σ H) (hS : va_S (gA (cG E)) s.heap H locs) {o : Nat} (ho : o < 4) {r : Int32} {σ' : St} (hf : f_X4_sharedSlots o σ = some (r, σ')) (hR : rm_X4_sharedSlots.frames + 1 ≤ R.frames ∧ 8 + (1 + 11) + rm_X4_sharedSlots.locals ≤ R.locals) (hsz : ls.size = nL) (hrest : (rest.map fun v => v.category).sum ≤ 8) (hcs : cells ≤ R.cells ∧ slots ≤ R.slots) (hdg : decode cc pc = .ok (.invokevirtual 45, 3)) (kk : ∀ (H1 : Heap) (locs1 : List Loc), gW (cG E) σ' H1 → va_S (gA (cG E)) s.heap H1 locs1 → W p l e R s m args below meth c H1 locs1 cells slots Q (F0 m (pc + 3) ls (.int r :: rest))) : W p l e R s m args below meth c H locs cells slots Q (F0 m pc ls (.ref (cAd E (26 + o)) :: rest)) :=
  g_callVi F hP hS (c_X4_sharedSlots l F.2.2.2.2.2.2.2 ho hf) (g_cwV (n := 0) F tw_734 tw_586 tw_587 tw_7 tw_588 (by decide +kernel) rfl rfl hR) (k := (26 + o)) (cin (by omega)) (ce_4 E _ ho) rfl (As := []) rfl hsz rfl hrest hdg hcs kk
theorem gf_X1_29 (F : gFx p m c cc nL s args RX1 (cG E)) (hP : gW (cG E) σ H) {o : Nat} (ho : o < 4) (hdg : decode cc pc = .ok (.getfield 29, 3)) (kk : W p l e R s m args below meth c H locs cells slots Q (F0 m (pc + 3) ls (.int (σ (22 + o) 3) :: rest))) : W p l e R s m args below meth c H locs cells slots Q (F0 m pc ls (.ref (cAd E (22 + o)) :: rest)) :=
  g_get F hP (k := (22 + o)) (cin (by omega)) (ce_1 E _ ho) rfl inX1 3 (by decide) tw_148 rfl rfl hdg kk
theorem gf_X1_35 (F : gFx p m c cc nL s args RX1 (cG E)) (hP : gW (cG E) σ H) {o : Nat} (ho : o < 4) (hdg : decode cc pc = .ok (.getfield 35, 3)) (kk : W p l e R s m args below meth c H locs cells slots Q (F0 m (pc + 3) ls (.int (σ (22 + o) 4) :: rest))) : W p l e R s m args below meth c H locs cells slots Q (F0 m pc ls (.ref (cAd E (22 + o)) :: rest)) :=
  g_get F hP (k := (22 + o)) (cin (by omega)) (ce_1 E _ ho) rfl inX1 4 (by decide) tw_150 rfl rfl hdg kk
end SA
/-! PromisedSlots$Coordinator.tell(I)I -/
def f_X1_tell (o : Nat) (p1 : Int32) (σ : St) : Option (Int32 × St) :=
  if p1 = (0 : Int32) then
    some ((σ (22 + o) 1), σ)
  else if p1 = (1 : Int32) then
    some ((σ (22 + o) 0), σ)
  else if p1 = (2 : Int32) then
    cl (f_X4_sharedSlots o σ) fun r5 σ4 =>
    some (r5, σ4)
  else if p1 = (3 : Int32) then
    some ((σ (22 + o) 2), σ)
  else if p1 = (4 : Int32) then
    some ((σ (22 + o) 3), σ)
  else if p1 = (5 : Int32) then
    some ((σ (22 + o) 4), σ)
  else 
    some ((-1 : Int32), σ)
abbrev rm_X1_tell : Room := { frames := 2, cells := 0, slots := 0, locals := 43 }
set_option maxHeartbeats 4000000 in
set_option maxRecDepth 100000 in
theorem w_X1_tell_e {p : Program} {l : Launch} {e : Env} {s : State} {m : MethodId} {args : Array Value} {below : List Frame} {meth : Method} {c : Code} {E : cEv} {r : Int32} {σ' : St} {o : Nat} (ho : o < 4) (B : gBx p m meth c cX1_tell 2 (some .int) s args RX1 (cG E)) (p1 : Int32) (σ : St) (hf : f_X1_tell o p1 σ = some (r, σ')) (H : Heap) (locs : List Loc) (ls : Array Slot) (hP : gW (cG E) σ H) (hS : va_S (gA (cG E)) s.heap H locs) (hl : lv_has ls 2 [(0, .ref (cAd E (22 + o))), (1, .int p1)]) : W p l e rm_X1_tell s m args below meth c H locs 0 0 (gQi below args s (cG E) r σ') (F0 m 0 ls []) := by
  unfold f_X1_tell at hf
  obtain ⟨F, hr, hlk⟩ := id B
  have hx := F.1
  have hb := F.2.1
  have hml := F.2.2.1
  have hown := F.2.2.2.1
  have hts := F.2.2.2.2.1
  refine lv_iload_n hx hb dX1_tell_0 rfl (lv_at hl 1 rfl) ?_
  by_cases h1 : p1 = (0 : Int32)
  · rw [if_pos h1] at hf
    refine lv_tableIn (tgt := 40) (off := 39) hx hb dX1_tell_1 (by rw [h1]; decide) (by rw [h1]; decide) (by rw [h1]; rfl) (by decide) ?_
    refine lv_aload_n hx hb dX1_tell_40 rfl (lv_at hl 0 rfl) ?_
    refine gf_X1_26 F hP ho dX1_tell_41 ?_
    exact g_iret B hP hS hf dX1_tell_44
  rw [if_neg h1] at hf
  by_cases h2 : p1 = (1 : Int32)
  · rw [if_pos h2] at hf
    refine lv_tableIn (tgt := 45) (off := 44) hx hb dX1_tell_1 (by rw [h2]; decide) (by rw [h2]; decide) (by rw [h2]; rfl) (by decide) ?_
    refine lv_aload_n hx hb dX1_tell_45 rfl (lv_at hl 0 rfl) ?_
    refine gf_X1_22 F hP ho dX1_tell_46 ?_
    exact g_iret B hP hS hf dX1_tell_49
  rw [if_neg h2] at hf
  by_cases h3 : p1 = (2 : Int32)
  · rw [if_pos h3] at hf
    refine lv_tableIn (tgt := 50) (off := 49) hx hb dX1_tell_1 (by rw [h3]; decide) (by rw [h3]; decide) (by rw [h3]; rfl) (by decide) ?_
    refine lv_aload_n hx hb dX1_tell_50 rfl (lv_at hl 0 rfl) ?_
    refine gf_X1_12 F hP ho dX1_tell_51 ?_
    obtain ⟨r5, σ4, h6, hf⟩ := cl_e hf
    refine kc_X1_45 F hP hS ho h6 ⟨Nat.le_of_ble_eq_true rfl, Nat.le_of_ble_eq_true rfl⟩ hl.1 (Nat.le_of_ble_eq_true rfl) ⟨Nat.zero_le _, Nat.zero_le _⟩ dX1_tell_54 (fun H locs hP hS => ?_)
    exact g_iret B hP hS hf dX1_tell_57
  rw [if_neg h3] at hf
  by_cases h7 : p1 = (3 : Int32)
  · rw [if_pos h7] at hf
    refine lv_tableIn (tgt := 58) (off := 57) hx hb dX1_tell_1 (by rw [h7]; decide) (by rw [h7]; decide) (by rw [h7]; rfl) (by decide) ?_
    refine lv_aload_n hx hb dX1_tell_58 rfl (lv_at hl 0 rfl) ?_
    refine gf_X1_32 F hP ho dX1_tell_59 ?_
    exact g_iret B hP hS hf dX1_tell_62
  rw [if_neg h7] at hf
  by_cases h8 : p1 = (4 : Int32)
  · rw [if_pos h8] at hf
    refine lv_tableIn (tgt := 63) (off := 62) hx hb dX1_tell_1 (by rw [h8]; decide) (by rw [h8]; decide) (by rw [h8]; rfl) (by decide) ?_
    refine lv_aload_n hx hb dX1_tell_63 rfl (lv_at hl 0 rfl) ?_
    refine gf_X1_29 F hP ho dX1_tell_64 ?_
    exact g_iret B hP hS hf dX1_tell_67
  rw [if_neg h8] at hf
  by_cases h9 : p1 = (5 : Int32)
  · rw [if_pos h9] at hf
    refine lv_tableIn (tgt := 68) (off := 67) hx hb dX1_tell_1 (by rw [h9]; decide) (by rw [h9]; decide) (by rw [h9]; rfl) (by decide) ?_
    refine lv_aload_n hx hb dX1_tell_68 rfl (lv_at hl 0 rfl) ?_
    refine gf_X1_35 F hP ho dX1_tell_69 ?_
    exact g_iret B hP hS hf dX1_tell_72
  rw [if_neg h9] at hf
  have nh1 := lv_neT h1 (show ((0 : Int32)).toInt = 0 by decide)
  have nh2 := lv_neT h2 (show ((1 : Int32)).toInt = 1 by decide)
  have nh3 := lv_neT h3 (show ((2 : Int32)).toInt = 2 by decide)
  have nh7 := lv_neT h7 (show ((3 : Int32)).toInt = 3 by decide)
  have nh8 := lv_neT h8 (show ((4 : Int32)).toInt = 4 by decide)
  have nh9 := lv_neT h9 (show ((5 : Int32)).toInt = 5 by decide)
  refine lv_tableOut (tgt := 73) hx hb dX1_tell_1 (by omega) (by decide) ?_
  refine lv_iconst (v := (-1)) hx hb dX1_tell_73 (by decide) ?_
  exact g_iret B hP hS hf dX1_tell_74
theorem c_X1_tell (l : Launch) {E : cEv} (hI : gIj (cG E)) {o : Nat} (ho : o < 4) {p1 : Int32} {σ σ' : St} {r : Int32} (hf : f_X1_tell o p1 σ = some (r, σ')) : gMi l yX1_tell cX1_tell 2 .int rm_X1_tell [.ref (cAd E (22 + o)), .int p1] (cG E) σ r σ' :=
  g_entry (by decide) (Nat.le_of_ble_eq_true rfl) hI (fun p e s m args below meth c B hP hS ls hl => w_X1_tell_e ho B _ σ hf _ _ ls hP hS hl)
section SA
variable {p : Program} {l : Launch} {e : Env} {R : Room} {s : State} {m : MethodId} {args : Array Value} {below : List Frame} {meth : Method} {c : Code} {H : Heap} {locs : List Loc} {cells slots : Nat} {Q : State → Prop}
variable {cc : ByteArray} {pc nL : Nat} {ls : Array Slot} {rest : List Value} {E : cEv} {σ : St}
theorem pf_X2_15 (F : gFx p m c cc nL s args RX2 (cG E)) (hP : gW (cG E) σ H) (hS : va_S (gA (cG E)) s.heap H locs) {o : Nat} (ho : o < 8) {x : Int32} (hdg : decode cc pc = .ok (.putfield 15, 3)) (kk : ∀ (H1 : Heap) (locs1 : List Loc), gW (cG E) (up2 σ (46 + o) 1 x) H1 → va_S (gA (cG E)) s.heap H1 locs1 → W p l e R s m args below meth c H1 locs1 cells slots Q (F0 m (pc + 3) ls rest)) : W p l e R s m args below meth c H locs cells slots Q (F0 m pc ls (.int x :: .ref (cAd E (46 + o)) :: rest)) :=
  g_put F hP hS (k := (46 + o)) (cin (by omega)) (ce_2 E _ ho) rfl inX2 tyX2 tyX2_ok nmX2 1 (by decide) tw_180 rfl rfl rfl rfl (Nat.le_of_ble_eq_true rfl) (x := x) (jj := 1) (ce_2 E _ ho) hdg kk
theorem pf_X2_18 (F : gFx p m c cc nL s args RX2 (cG E)) (hP : gW (cG E) σ H) (hS : va_S (gA (cG E)) s.heap H locs) {o : Nat} (ho : o < 8) {x : Int32} (hdg : decode cc pc = .ok (.putfield 18, 3)) (kk : ∀ (H1 : Heap) (locs1 : List Loc), gW (cG E) (up2 σ (46 + o) 2 x) H1 → va_S (gA (cG E)) s.heap H1 locs1 → W p l e R s m args below meth c H1 locs1 cells slots Q (F0 m (pc + 3) ls rest)) : W p l e R s m args below meth c H locs cells slots Q (F0 m pc ls (.int x :: .ref (cAd E (46 + o)) :: rest)) :=
  g_put F hP hS (k := (46 + o)) (cin (by omega)) (ce_2 E _ ho) rfl inX2 tyX2 tyX2_ok nmX2 2 (by decide) tw_182 rfl rfl rfl rfl (Nat.le_of_ble_eq_true rfl) (x := x) (jj := 2) (ce_2 E _ ho) hdg kk
theorem pf_X2_21 (F : gFx p m c cc nL s args RX2 (cG E)) (hP : gW (cG E) σ H) (hS : va_S (gA (cG E)) s.heap H locs) {o : Nat} (ho : o < 8) {x : Int32} (hdg : decode cc pc = .ok (.putfield 21, 3)) (kk : ∀ (H1 : Heap) (locs1 : List Loc), gW (cG E) (up2 σ (46 + o) 3 x) H1 → va_S (gA (cG E)) s.heap H1 locs1 → W p l e R s m args below meth c H1 locs1 cells slots Q (F0 m (pc + 3) ls rest)) : W p l e R s m args below meth c H locs cells slots Q (F0 m pc ls (.int x :: .ref (cAd E (46 + o)) :: rest)) :=
  g_put F hP hS (k := (46 + o)) (cin (by omega)) (ce_2 E _ ho) rfl inX2 tyX2 tyX2_ok nmX2 3 (by decide) tw_183 rfl rfl rfl rfl (Nat.le_of_ble_eq_true rfl) (x := x) (jj := 3) (ce_2 E _ ho) hdg kk
theorem pf_X2_27 (F : gFx p m c cc nL s args RX2 (cG E)) (hP : gW (cG E) σ H) (hS : va_S (gA (cG E)) s.heap H locs) {o : Nat} (ho : o < 8) {x : Int32} (hdg : decode cc pc = .ok (.putfield 27, 3)) (kk : ∀ (H1 : Heap) (locs1 : List Loc), gW (cG E) (up2 σ (46 + o) 5 x) H1 → va_S (gA (cG E)) s.heap H1 locs1 → W p l e R s m args below meth c H1 locs1 cells slots Q (F0 m (pc + 3) ls rest)) : W p l e R s m args below meth c H locs cells slots Q (F0 m pc ls (.int x :: .ref (cAd E (46 + o)) :: rest)) :=
  g_put F hP hS (k := (46 + o)) (cin (by omega)) (ce_2 E _ ho) rfl inX2 tyX2 tyX2_ok nmX2 5 (by decide) tw_187 rfl rfl rfl rfl (Nat.le_of_ble_eq_true rfl) (x := x) (jj := 5) (ce_2 E _ ho) hdg kk
theorem pf_X2_36 (F : gFx p m c cc nL s args RX2 (cG E)) (hP : gW (cG E) σ H) (hS : va_S (gA (cG E)) s.heap H locs) {o : Nat} (ho : o < 8) {x : Int32} (hdg : decode cc pc = .ok (.putfield 36, 3)) (kk : ∀ (H1 : Heap) (locs1 : List Loc), gW (cG E) (up2 σ (46 + o) 8 x) H1 → va_S (gA (cG E)) s.heap H1 locs1 → W p l e R s m args below meth c H1 locs1 cells slots Q (F0 m (pc + 3) ls rest)) : W p l e R s m args below meth c H locs cells slots Q (F0 m pc ls (.int x :: .ref (cAd E (46 + o)) :: rest)) :=
  g_put F hP hS (k := (46 + o)) (cin (by omega)) (ce_2 E _ ho) rfl inX2 tyX2 tyX2_ok nmX2 8 (by decide) tw_191 rfl rfl rfl rfl (Nat.le_of_ble_eq_true rfl) (x := x) (jj := 8) (ce_2 E _ ho) hdg kk
theorem pf_X2_39 (F : gFx p m c cc nL s args RX2 (cG E)) (hP : gW (cG E) σ H) (hS : va_S (gA (cG E)) s.heap H locs) {o : Nat} (ho : o < 8) {x : Int32} (hdg : decode cc pc = .ok (.putfield 39, 3)) (kk : ∀ (H1 : Heap) (locs1 : List Loc), gW (cG E) (up2 σ (46 + o) 9 x) H1 → va_S (gA (cG E)) s.heap H1 locs1 → W p l e R s m args below meth c H1 locs1 cells slots Q (F0 m (pc + 3) ls rest)) : W p l e R s m args below meth c H locs cells slots Q (F0 m pc ls (.int x :: .ref (cAd E (46 + o)) :: rest)) :=
  g_put F hP hS (k := (46 + o)) (cin (by omega)) (ce_2 E _ ho) rfl inX2 tyX2 tyX2_ok nmX2 9 (by decide) tw_192 rfl rfl rfl rfl (Nat.le_of_ble_eq_true rfl) (x := x) (jj := 9) (ce_2 E _ ho) hdg kk
end SA
/-! PromisedSlots$Device.layAt(III)V -/
def f_X2_layAt (o : Nat) (p1 : Int32) (p2 : Int32) (p3 : Int32) (σ : St) : Option (Unit × St) :=
  vl (up2 σ (46 + o) 1 p1) fun σ1 =>
  vl (up2 σ1 (46 + o) 2 p2) fun σ2 =>
  vl (up2 σ2 (46 + o) 3 p3) fun σ3 =>
  vl (up2 σ3 (46 + o) 4 (0 : Int32)) fun σ4 =>
  vl (up2 σ4 (46 + o) 5 (0 : Int32)) fun σ5 =>
  vl (up2 σ5 (46 + o) 6 (0 : Int32)) fun σ6 =>
  vl (up2 σ6 (46 + o) 7 (0 : Int32)) fun σ7 =>
  vl (up2 σ7 (46 + o) 8 (0 : Int32)) fun σ8 =>
  vl (up2 σ8 (46 + o) 9 (0 : Int32)) fun σ9 =>
  vl (up2 σ9 (46 + o) 10 (0 : Int32)) fun σ10 =>
  vl (up2 σ10 (46 + o) 11 p3) fun σ11 =>
  vl (up2 σ11 (46 + o) 12 (0 : Int32)) fun σ12 =>
  vl (up2 σ12 (46 + o) 13 (0 : Int32)) fun σ13 =>
  vl (up2 σ13 (46 + o) 14 (0 : Int32)) fun σ14 =>
  some ((), σ14)
abbrev rm_X2_layAt : Room := { frames := 0, cells := 0, slots := 0, locals := 0 }
set_option maxHeartbeats 4000000 in
set_option maxRecDepth 100000 in
theorem w_X2_layAt_e {p : Program} {l : Launch} {e : Env} {s : State} {m : MethodId} {args : Array Value} {below : List Frame} {meth : Method} {c : Code} {E : cEv} {u : Unit} {σ' : St} {o : Nat} (ho : o < 8) (B : gBx p m meth c cX2_layAt 4 none s args RX2 (cG E)) (p1 : Int32) (p2 : Int32) (p3 : Int32) (σ : St) (hf : f_X2_layAt o p1 p2 p3 σ = some (u, σ')) (H : Heap) (locs : List Loc) (ls : Array Slot) (hP : gW (cG E) σ H) (hS : va_S (gA (cG E)) s.heap H locs) (hl : lv_has ls 4 [(0, .ref (cAd E (46 + o))), (1, .int p1), (2, .int p2), (3, .int p3)]) : W p l e rm_X2_layAt s m args below meth c H locs 0 0 (gQv below args s (cG E) σ') (F0 m 0 ls []) := by
  unfold f_X2_layAt at hf
  obtain ⟨F, hr, hlk⟩ := id B
  have hx := F.1
  have hb := F.2.1
  have hml := F.2.2.1
  have hown := F.2.2.2.1
  have hts := F.2.2.2.2.1
  refine lv_aload_n hx hb dX2_layAt_0 rfl (lv_at hl 0 rfl) ?_
  refine lv_iload_n hx hb dX2_layAt_1 rfl (lv_at hl 1 rfl) ?_
  refine pf_X2_15 F hP hS ho dX2_layAt_2 (fun H locs hP hS => ?_)
  obtain ⟨σ1, eσ1, hf⟩ := vl_x hf
  rw [← eσ1] at hP
  refine lv_aload_n hx hb dX2_layAt_5 rfl (lv_at hl 0 rfl) ?_
  refine lv_iload_n hx hb dX2_layAt_6 rfl (lv_at hl 2 rfl) ?_
  refine pf_X2_18 F hP hS ho dX2_layAt_7 (fun H locs hP hS => ?_)
  obtain ⟨σ2, eσ2, hf⟩ := vl_x hf
  rw [← eσ2] at hP
  refine lv_aload_n hx hb dX2_layAt_10 rfl (lv_at hl 0 rfl) ?_
  refine lv_iload_n hx hb dX2_layAt_11 rfl (lv_at hl 3 rfl) ?_
  refine pf_X2_21 F hP hS ho dX2_layAt_12 (fun H locs hP hS => ?_)
  obtain ⟨σ3, eσ3, hf⟩ := vl_x hf
  rw [← eσ3] at hP
  refine lv_aload_n hx hb dX2_layAt_15 rfl (lv_at hl 0 rfl) ?_
  refine lv_iconst (v := 0) hx hb dX2_layAt_16 (by decide) ?_
  refine pf_X2_24 F hP hS ho dX2_layAt_17 (fun H locs hP hS => ?_)
  obtain ⟨σ4, eσ4, hf⟩ := vl_x hf
  rw [← eσ4] at hP
  refine lv_aload_n hx hb dX2_layAt_20 rfl (lv_at hl 0 rfl) ?_
  refine lv_iconst (v := 0) hx hb dX2_layAt_21 (by decide) ?_
  refine pf_X2_27 F hP hS ho dX2_layAt_22 (fun H locs hP hS => ?_)
  obtain ⟨σ5, eσ5, hf⟩ := vl_x hf
  rw [← eσ5] at hP
  refine lv_aload_n hx hb dX2_layAt_25 rfl (lv_at hl 0 rfl) ?_
  refine lv_iconst (v := 0) hx hb dX2_layAt_26 (by decide) ?_
  refine pf_X2_30 F hP hS ho dX2_layAt_27 (fun H locs hP hS => ?_)
  obtain ⟨σ6, eσ6, hf⟩ := vl_x hf
  rw [← eσ6] at hP
  refine lv_aload_n hx hb dX2_layAt_30 rfl (lv_at hl 0 rfl) ?_
  refine lv_iconst (v := 0) hx hb dX2_layAt_31 (by decide) ?_
  refine pf_X2_33 F hP hS ho dX2_layAt_32 (fun H locs hP hS => ?_)
  obtain ⟨σ7, eσ7, hf⟩ := vl_x hf
  rw [← eσ7] at hP
  refine lv_aload_n hx hb dX2_layAt_35 rfl (lv_at hl 0 rfl) ?_
  refine lv_iconst (v := 0) hx hb dX2_layAt_36 (by decide) ?_
  refine pf_X2_36 F hP hS ho dX2_layAt_37 (fun H locs hP hS => ?_)
  obtain ⟨σ8, eσ8, hf⟩ := vl_x hf
  rw [← eσ8] at hP
  refine lv_aload_n hx hb dX2_layAt_40 rfl (lv_at hl 0 rfl) ?_
  refine lv_iconst (v := 0) hx hb dX2_layAt_41 (by decide) ?_
  refine pf_X2_39 F hP hS ho dX2_layAt_42 (fun H locs hP hS => ?_)
  obtain ⟨σ9, eσ9, hf⟩ := vl_x hf
  rw [← eσ9] at hP
  refine lv_aload_n hx hb dX2_layAt_45 rfl (lv_at hl 0 rfl) ?_
  refine lv_iconst (v := 0) hx hb dX2_layAt_46 (by decide) ?_
  refine pf_X2_42 F hP hS ho dX2_layAt_47 (fun H locs hP hS => ?_)
  obtain ⟨σ10, eσ10, hf⟩ := vl_x hf
  rw [← eσ10] at hP
  refine lv_aload_n hx hb dX2_layAt_50 rfl (lv_at hl 0 rfl) ?_
  refine lv_iload_n hx hb dX2_layAt_51 rfl (lv_at hl 3 rfl) ?_
  refine pf_X2_45 F hP hS ho dX2_layAt_52 (fun H locs hP hS => ?_)
  obtain ⟨σ11, eσ11, hf⟩ := vl_x hf
  rw [← eσ11] at hP
  refine lv_aload_n hx hb dX2_layAt_55 rfl (lv_at hl 0 rfl) ?_
  refine lv_iconst (v := 0) hx hb dX2_layAt_56 (by decide) ?_
  refine pf_X2_48 F hP hS ho dX2_layAt_57 (fun H locs hP hS => ?_)
  obtain ⟨σ12, eσ12, hf⟩ := vl_x hf
  rw [← eσ12] at hP
  refine lv_aload_n hx hb dX2_layAt_60 rfl (lv_at hl 0 rfl) ?_
  refine lv_iconst (v := 0) hx hb dX2_layAt_61 (by decide) ?_
  refine pf_X2_51 F hP hS ho dX2_layAt_62 (fun H locs hP hS => ?_)
  obtain ⟨σ13, eσ13, hf⟩ := vl_x hf
  rw [← eσ13] at hP
  refine lv_aload_n hx hb dX2_layAt_65 rfl (lv_at hl 0 rfl) ?_
  refine lv_iconst (v := 0) hx hb dX2_layAt_66 (by decide) ?_
  refine pf_X2_54 F hP hS ho dX2_layAt_67 (fun H locs hP hS => ?_)
  obtain ⟨σ14, eσ14, hf⟩ := vl_x hf
  rw [← eσ14] at hP
  exact g_vret B hP hS hf dX2_layAt_70
theorem c_X2_layAt (l : Launch) {E : cEv} (hI : gIj (cG E)) {o : Nat} (ho : o < 8) {p1 : Int32} {p2 : Int32} {p3 : Int32} {σ σ' : St} {u : Unit} (hf : f_X2_layAt o p1 p2 p3 σ = some (u, σ')) : gMv l yX2_layAt cX2_layAt 4 rm_X2_layAt [.ref (cAd E (46 + o)), .int p1, .int p2, .int p3] (cG E) σ σ' :=
  g_entry (by decide) (Nat.le_of_ble_eq_true rfl) hI (fun p e s m args below meth c B hP hS ls hl => w_X2_layAt_e ho B _ _ _ σ hf _ _ ls hP hS hl)
/-! PromisedSlots$Device.comeHome(I)V -/
def f_X2_comeHome (o : Nat) (p1 : Int32) (σ : St) : Option (Unit × St) :=
  vl (up2 σ (46 + o) 1 p1) fun σ1 =>
  vl (up2 σ1 (46 + o) 8 (0 : Int32)) fun σ2 =>
  some ((), σ2)
abbrev rm_X2_comeHome : Room := { frames := 0, cells := 0, slots := 0, locals := 0 }
set_option maxHeartbeats 4000000 in
set_option maxRecDepth 100000 in
theorem w_X2_comeHome_e {p : Program} {l : Launch} {e : Env} {s : State} {m : MethodId} {args : Array Value} {below : List Frame} {meth : Method} {c : Code} {E : cEv} {u : Unit} {σ' : St} {o : Nat} (ho : o < 8) (B : gBx p m meth c cX2_comeHome 2 none s args RX2 (cG E)) (p1 : Int32) (σ : St) (hf : f_X2_comeHome o p1 σ = some (u, σ')) (H : Heap) (locs : List Loc) (ls : Array Slot) (hP : gW (cG E) σ H) (hS : va_S (gA (cG E)) s.heap H locs) (hl : lv_has ls 2 [(0, .ref (cAd E (46 + o))), (1, .int p1)]) : W p l e rm_X2_comeHome s m args below meth c H locs 0 0 (gQv below args s (cG E) σ') (F0 m 0 ls []) := by
  unfold f_X2_comeHome at hf
  obtain ⟨F, hr, hlk⟩ := id B
  have hx := F.1
  have hb := F.2.1
  have hml := F.2.2.1
  have hown := F.2.2.2.1
  have hts := F.2.2.2.2.1
  refine lv_aload_n hx hb dX2_comeHome_0 rfl (lv_at hl 0 rfl) ?_
  refine lv_iload_n hx hb dX2_comeHome_1 rfl (lv_at hl 1 rfl) ?_
  refine pf_X2_15 F hP hS ho dX2_comeHome_2 (fun H locs hP hS => ?_)
  obtain ⟨σ1, eσ1, hf⟩ := vl_x hf
  rw [← eσ1] at hP
  refine lv_aload_n hx hb dX2_comeHome_5 rfl (lv_at hl 0 rfl) ?_
  refine lv_iconst (v := 0) hx hb dX2_comeHome_6 (by decide) ?_
  refine pf_X2_36 F hP hS ho dX2_comeHome_7 (fun H locs hP hS => ?_)
  obtain ⟨σ2, eσ2, hf⟩ := vl_x hf
  rw [← eσ2] at hP
  exact g_vret B hP hS hf dX2_comeHome_10
theorem c_X2_comeHome (l : Launch) {E : cEv} (hI : gIj (cG E)) {o : Nat} (ho : o < 8) {p1 : Int32} {σ σ' : St} {u : Unit} (hf : f_X2_comeHome o p1 σ = some (u, σ')) : gMv l yX2_comeHome cX2_comeHome 2 rm_X2_comeHome [.ref (cAd E (46 + o)), .int p1] (cG E) σ σ' :=
  g_entry (by decide) (Nat.le_of_ble_eq_true rfl) hI (fun p e s m args below meth c B hP hS ls hl => w_X2_comeHome_e ho B _ σ hf _ _ ls hP hS hl)
section SA
variable {p : Program} {l : Launch} {e : Env} {R : Room} {s : State} {m : MethodId} {args : Array Value} {below : List Frame} {meth : Method} {c : Code} {H : Heap} {locs : List Loc} {cells slots : Nat} {Q : State → Prop}
variable {cc : ByteArray} {pc nL : Nat} {ls : Array Slot} {rest : List Value} {E : cEv} {σ : St}
theorem gf_X2_15 (F : gFx p m c cc nL s args RX2 (cG E)) (hP : gW (cG E) σ H) {o : Nat} (ho : o < 8) (hdg : decode cc pc = .ok (.getfield 15, 3)) (kk : W p l e R s m args below meth c H locs cells slots Q (F0 m (pc + 3) ls (.int (σ (46 + o) 1) :: rest))) : W p l e R s m args below meth c H locs cells slots Q (F0 m pc ls (.ref (cAd E (46 + o)) :: rest)) :=
  g_get F hP (k := (46 + o)) (cin (by omega)) (ce_2 E _ ho) rfl inX2 1 (by decide) tw_180 rfl rfl hdg kk
end SA
/-! PromisedSlots$Device.isOrphan()Z -/
def f_X2_isOrphan (o : Nat) (σ : St) : Option (Int32 × St) :=
  if (σ (46 + o) 1) = (-4 : Int32) then
    some ((1 : Int32), σ)
  else
    some ((0 : Int32), σ)
abbrev rm_X2_isOrphan : Room := { frames := 0, cells := 0, slots := 0, locals := 0 }
set_option maxHeartbeats 4000000 in
set_option maxRecDepth 100000 in
theorem w_X2_isOrphan_e {p : Program} {l : Launch} {e : Env} {s : State} {m : MethodId} {args : Array Value} {below : List Frame} {meth : Method} {c : Code} {E : cEv} {r : Int32} {σ' : St} {o : Nat} (ho : o < 8) (B : gBx p m meth c cX2_isOrphan 1 (some .boolean) s args RX2 (cG E)) (σ : St) (hf : f_X2_isOrphan o σ = some (r, σ')) (H : Heap) (locs : List Loc) (ls : Array Slot) (hP : gW (cG E) σ H) (hS : va_S (gA (cG E)) s.heap H locs) (hl : lv_has ls 1 [(0, .ref (cAd E (46 + o)))]) : W p l e rm_X2_isOrphan s m args below meth c H locs 0 0 (gQi below args s (cG E) r σ') (F0 m 0 ls []) := by
  unfold f_X2_isOrphan at hf
  obtain ⟨F, hr, hlk⟩ := id B
  have hx := F.1
  have hb := F.2.1
  have hml := F.2.2.1
  have hown := F.2.2.2.1
  have hts := F.2.2.2.2.1
  refine lv_aload_n hx hb dX2_isOrphan_0 rfl (lv_at hl 0 rfl) ?_
  refine gf_X2_15 F hP ho dX2_isOrphan_1 ?_
  refine lv_bipush (v := (-4)) hx hb dX2_isOrphan_4 (by decide) ?_
  refine lv_icmp_ne (tgt := 13) hx hb dX2_isOrphan_6 (by decide) (fun h1 => ?_) (fun h1 => ?_)
  · rw [if_neg h1] at hf
    refine lv_iconst (v := 0) hx hb dX2_isOrphan_13 (by decide) ?_
    exact g_zret B hP hS hf (by decide) dX2_isOrphan_14
  · rw [if_pos h1] at hf
    refine lv_iconst (v := 1) hx hb dX2_isOrphan_9 (by decide) ?_
    refine lv_goto (tgt := 14) hx hb dX2_isOrphan_10 (by decide) ?_
    exact g_zret B hP hS hf (by decide) dX2_isOrphan_14
theorem c_X2_isOrphan (l : Launch) {E : cEv} (hI : gIj (cG E)) {o : Nat} (ho : o < 8) {σ σ' : St} {r : Int32} (hf : f_X2_isOrphan o σ = some (r, σ')) : gMi l yX2_isOrphan cX2_isOrphan 1 .boolean rm_X2_isOrphan [.ref (cAd E (46 + o))] (cG E) σ r σ' :=
  g_entry (by decide) (Nat.le_of_ble_eq_true rfl) hI (fun p e s m args below meth c B hP hS ls hl => w_X2_isOrphan_e ho B σ hf _ _ ls hP hS hl)
section SA
variable {p : Program} {l : Launch} {e : Env} {R : Room} {s : State} {m : MethodId} {args : Array Value} {below : List Frame} {meth : Method} {c : Code} {H : Heap} {locs : List Loc} {cells slots : Nat} {Q : State → Prop}
variable {cc : ByteArray} {pc nL : Nat} {ls : Array Slot} {rest : List Value} {E : cEv} {σ : St}
theorem gf_X2_39 (F : gFx p m c cc nL s args RX2 (cG E)) (hP : gW (cG E) σ H) {o : Nat} (ho : o < 8) (hdg : decode cc pc = .ok (.getfield 39, 3)) (kk : W p l e R s m args below meth c H locs cells slots Q (F0 m (pc + 3) ls (.int (σ (46 + o) 9) :: rest))) : W p l e R s m args below meth c H locs cells slots Q (F0 m pc ls (.ref (cAd E (46 + o)) :: rest)) :=
  g_get F hP (k := (46 + o)) (cin (by omega)) (ce_2 E _ ho) rfl inX2 9 (by decide) tw_192 rfl rfl hdg kk
theorem gf_X2_36 (F : gFx p m c cc nL s args RX2 (cG E)) (hP : gW (cG E) σ H) {o : Nat} (ho : o < 8) (hdg : decode cc pc = .ok (.getfield 36, 3)) (kk : W p l e R s m args below meth c H locs cells slots Q (F0 m (pc + 3) ls (.int (σ (46 + o) 8) :: rest))) : W p l e R s m args below meth c H locs cells slots Q (F0 m pc ls (.ref (cAd E (46 + o)) :: rest)) :=
  g_get F hP (k := (46 + o)) (cin (by omega)) (ce_2 E _ ho) rfl inX2 8 (by decide) tw_191 rfl rfl hdg kk
end SA
/-! PromisedSlots$Device.hearsBeacon()Z -/
def f_X2_hearsBeacon (o : Nat) (σ : St) : Option (Int32 × St) :=
  if (σ (46 + o) 9) = 0 then
    vl (up2 σ (46 + o) 8 (0 : Int32)) fun σ6 =>
    some ((1 : Int32), σ6)
  else
    vl (up2 σ (46 + o) 9 ((σ (46 + o) 9) - (1 : Int32))) fun σ2 =>
    vl (up2 σ2 (46 + o) 8 ((σ2 (46 + o) 8) + (1 : Int32))) fun σ3 =>
    if (σ3 (46 + o) 8) < (4 : Int32) then
      some ((0 : Int32), σ3)
    else
      vl (up2 σ3 (46 + o) 1 (-4 : Int32)) fun σ5 =>
      some ((0 : Int32), σ5)
abbrev rm_X2_hearsBeacon : Room := { frames := 0, cells := 0, slots := 0, locals := 0 }
set_option maxHeartbeats 4000000 in
set_option maxRecDepth 100000 in
theorem w_X2_hearsBeacon_e {p : Program} {l : Launch} {e : Env} {s : State} {m : MethodId} {args : Array Value} {below : List Frame} {meth : Method} {c : Code} {E : cEv} {r : Int32} {σ' : St} {o : Nat} (ho : o < 8) (B : gBx p m meth c cX2_hearsBeacon 1 (some .boolean) s args RX2 (cG E)) (σ : St) (hf : f_X2_hearsBeacon o σ = some (r, σ')) (H : Heap) (locs : List Loc) (ls : Array Slot) (hP : gW (cG E) σ H) (hS : va_S (gA (cG E)) s.heap H locs) (hl : lv_has ls 1 [(0, .ref (cAd E (46 + o)))]) : W p l e rm_X2_hearsBeacon s m args below meth c H locs 0 0 (gQi below args s (cG E) r σ') (F0 m 0 ls []) := by
  unfold f_X2_hearsBeacon at hf
  obtain ⟨F, hr, hlk⟩ := id B
  have hx := F.1
  have hb := F.2.1
  have hml := F.2.2.1
  have hown := F.2.2.2.1
  have hts := F.2.2.2.2.1
  refine lv_aload_n hx hb dX2_hearsBeacon_0 rfl (lv_at hl 0 rfl) ?_
  refine gf_X2_39 F hP ho dX2_hearsBeacon_1 ?_
  refine lv_if_ne (tgt := 14) hx hb dX2_hearsBeacon_4 (by decide) (fun h1 => ?_) (fun h1 => ?_)
  · rw [if_neg h1] at hf
    refine lv_aload_n hx hb dX2_hearsBeacon_14 rfl (lv_at hl 0 rfl) ?_
    refine lv_dup hx hb dX2_hearsBeacon_15 rfl ?_
    refine gf_X2_39 F hP ho dX2_hearsBeacon_16 ?_
    refine lv_iconst (v := 1) hx hb dX2_hearsBeacon_19 (by decide) ?_
    refine lv_isub hx hb dX2_hearsBeacon_20 ?_
    refine pf_X2_39 F hP hS ho dX2_hearsBeacon_21 (fun H locs hP hS => ?_)
    obtain ⟨σ2, eσ2, hf⟩ := vl_x hf
    rw [← eσ2] at hP
    refine lv_aload_n hx hb dX2_hearsBeacon_24 rfl (lv_at hl 0 rfl) ?_
    refine lv_dup hx hb dX2_hearsBeacon_25 rfl ?_
    refine gf_X2_36 F hP ho dX2_hearsBeacon_26 ?_
    refine lv_iconst (v := 1) hx hb dX2_hearsBeacon_29 (by decide) ?_
    refine lv_iadd hx hb dX2_hearsBeacon_30 ?_
    refine pf_X2_36 F hP hS ho dX2_hearsBeacon_31 (fun H locs hP hS => ?_)
    obtain ⟨σ3, eσ3, hf⟩ := vl_x hf
    rw [← eσ3] at hP
    refine lv_aload_n hx hb dX2_hearsBeacon_34 rfl (lv_at hl 0 rfl) ?_
    refine gf_X2_36 F hP ho dX2_hearsBeacon_35 ?_
    refine lv_iconst (v := 4) hx hb dX2_hearsBeacon_38 (by decide) ?_
    refine lv_icmp_lt (tgt := 48) hx hb dX2_hearsBeacon_39 (by decide) (fun h4 => ?_) (fun h4 => ?_)
    · rw [if_pos h4] at hf
      refine lv_iconst (v := 0) hx hb dX2_hearsBeacon_48 (by decide) ?_
      exact g_zret B hP hS hf (by decide) dX2_hearsBeacon_49
    · rw [if_neg h4] at hf
      refine lv_aload_n hx hb dX2_hearsBeacon_42 rfl (lv_at hl 0 rfl) ?_
      refine lv_bipush (v := (-4)) hx hb dX2_hearsBeacon_43 (by decide) ?_
      refine pf_X2_15 F hP hS ho dX2_hearsBeacon_45 (fun H locs hP hS => ?_)
      obtain ⟨σ5, eσ5, hf⟩ := vl_x hf
      rw [← eσ5] at hP
      refine lv_iconst (v := 0) hx hb dX2_hearsBeacon_48 (by decide) ?_
      exact g_zret B hP hS hf (by decide) dX2_hearsBeacon_49
  · rw [if_pos h1] at hf
    refine lv_aload_n hx hb dX2_hearsBeacon_7 rfl (lv_at hl 0 rfl) ?_
    refine lv_iconst (v := 0) hx hb dX2_hearsBeacon_8 (by decide) ?_
    refine pf_X2_36 F hP hS ho dX2_hearsBeacon_9 (fun H locs hP hS => ?_)
    obtain ⟨σ6, eσ6, hf⟩ := vl_x hf
    rw [← eσ6] at hP
    refine lv_iconst (v := 1) hx hb dX2_hearsBeacon_12 (by decide) ?_
    exact g_zret B hP hS hf (by decide) dX2_hearsBeacon_13
theorem c_X2_hearsBeacon (l : Launch) {E : cEv} (hI : gIj (cG E)) {o : Nat} (ho : o < 8) {σ σ' : St} {r : Int32} (hf : f_X2_hearsBeacon o σ = some (r, σ')) : gMi l yX2_hearsBeacon cX2_hearsBeacon 1 .boolean rm_X2_hearsBeacon [.ref (cAd E (46 + o))] (cG E) σ r σ' :=
  g_entry (by decide) (Nat.le_of_ble_eq_true rfl) hI (fun p e s m args below meth c B hP hS ls hl => w_X2_hearsBeacon_e ho B σ hf _ _ ls hP hS hl)
section SA
variable {p : Program} {l : Launch} {e : Env} {R : Room} {s : State} {m : MethodId} {args : Array Value} {below : List Frame} {meth : Method} {c : Code} {H : Heap} {locs : List Loc} {cells slots : Nat} {Q : State → Prop}
variable {cc : ByteArray} {pc nL : Nat} {ls : Array Slot} {rest : List Value} {E : cEv} {σ : St}
theorem gf_X2_85 (F : gFx p m c cc nL s args RX2 (cG E)) (hP : gW (cG E) σ H) {o : Nat} (ho : o < 8) (hdg : decode cc pc = .ok (.getfield 85, 3)) (kk : W p l e R s m args below meth c H locs cells slots Q (F0 m (pc + 3) ls (.int (σ (46 + o) 15) :: rest))) : W p l e R s m args below meth c H locs cells slots Q (F0 m pc ls (.ref (cAd E (46 + o)) :: rest)) :=
  g_get F hP (k := (46 + o)) (cin (by omega)) (ce_2 E _ ho) rfl inX2 15 (by decide) tw_202 rfl rfl hdg kk
theorem gf_X2_27 (F : gFx p m c cc nL s args RX2 (cG E)) (hP : gW (cG E) σ H) {o : Nat} (ho : o < 8) (hdg : decode cc pc = .ok (.getfield 27, 3)) (kk : W p l e R s m args below meth c H locs cells slots Q (F0 m (pc + 3) ls (.int (σ (46 + o) 5) :: rest))) : W p l e R s m args below meth c H locs cells slots Q (F0 m pc ls (.ref (cAd E (46 + o)) :: rest)) :=
  g_get F hP (k := (46 + o)) (cin (by omega)) (ce_2 E _ ho) rfl inX2 5 (by decide) tw_187 rfl rfl hdg kk
theorem gf_X2_9 (F : gFx p m c cc nL s args RX2 (cG E)) (hP : gW (cG E) σ H) {o : Nat} (ho : o < 8) (hdg : decode cc pc = .ok (.getfield 9, 3)) (kk : W p l e R s m args below meth c H locs cells slots Q (F0 m (pc + 3) ls (.int (σ (46 + o) 0) :: rest))) : W p l e R s m args below meth c H locs cells slots Q (F0 m pc ls (.ref (cAd E (46 + o)) :: rest)) :=
  g_get F hP (k := (46 + o)) (cin (by omega)) (ce_2 E _ ho) rfl inX2 0 (by decide) tw_178 rfl rfl hdg kk
end SA
/-! PromisedSlots$Device.sendPromised([III)I -/
def b_X2_sendPromised_51 (o : Nat) (p1 : Nat) (K51 : (Int32 × Int32 × Int32 × St → Option (Int32 × St))) (a4 : Int32) (a5 : Int32) (a6 : Int32) (σ : St) : Option (Int32 × St) :=
  if a5 ≤ a6 then
    vl (up2 σ (46 + o) 5 ((σ (46 + o) 5) - a4)) fun σ8 =>
    vl (up2 σ8 (46 + o) 6 ((σ8 (46 + o) 6) + a4)) fun σ9 =>
    some (a4, σ9)
  else
    gd (ix a6 (cn p1)) <|
    vl (up2 σ p1 (nt a6) ((10 : Int32) + (σ (46 + o) 0))) fun σ11 =>
    vl (a6 + (1 : Int32)) fun x12 =>
    K51 (a4, a5, x12, σ11)
def f_X2_sendPromised (o : Nat) (p1 : Nat) (p2 : Int32) (p3 : Int32) (σ : St) : Option (Int32 × St) :=
  if (σ (46 + o) 15) = 0 then
    some ((0 : Int32), σ)
  else
    vl (if (1 : Int32) < (σ (46 + o) 2) then (σ (46 + o) 2) else (1 : Int32)) fun x2 =>
    gd (¬ x2 = 0) <|
    vl (if (p3 / x2) < (σ (46 + o) 5) then (p3 / x2) else (σ (46 + o) 5)) fun x4 =>
    vl (if (nI (cn p1)) < (p2 + (x4 * (σ (46 + o) 2))) then (nI (cn p1)) else (p2 + (x4 * (σ (46 + o) 2)))) fun x5 =>
    vl (if (0 : Int32) < p2 then p2 else (0 : Int32)) fun x6 =>
    lp (fun K a => b_X2_sendPromised_51 o p1 K a.1 a.2.1 a.2.2.1 a.2.2.2) FU (x4, x5, x6, σ)
abbrev rm_X2_sendPromised : Room := { frames := 1, cells := 0, slots := 0, locals := 21 }
def P_X2_sendPromised_51 (p : Program) (l : Launch) (e : Env) (s : State) (m : MethodId) (args : Array Value) (below : List Frame) (meth : Method) (c : Code) (E : cEv) (r : Int32) (σ' : St) (o : Nat) (p1 : Nat) (a : Int32 × Int32 × Int32 × St) : Prop := ∀ (H : Heap) (locs : List Loc) (ls : Array Slot), gW (cG E) a.2.2.2 H → va_S (gA (cG E)) s.heap H locs → lv_has ls 7 [(0, .ref (cAd E (46 + o))), (1, .ref (cAd E p1)), (4, .int a.1), (5, .int a.2.1), (6, .int a.2.2.1)] → W p l e rm_X2_sendPromised s m args below meth c H locs 0 0 (gQi below args s (cG E) r σ') (F0 m 51 ls [])
set_option maxHeartbeats 4000000 in
set_option maxRecDepth 100000 in
theorem w_X2_sendPromised_51 {p : Program} {l : Launch} {e : Env} {s : State} {m : MethodId} {args : Array Value} {below : List Frame} {meth : Method} {c : Code} {E : cEv} {r : Int32} {σ' : St} {o : Nat} (ho : o < 8) {p1 : Nat} (hp1 : cArr p1) (B : gBx p m meth c cX2_sendPromised 7 (some .int) s args RX2 (cG E)) {K51 : (Int32 × Int32 × Int32 × St → Option (Int32 × St))} (hK51 : ∀ a, K51 a = some (r, σ') → P_X2_sendPromised_51 p l e s m args below meth c E r σ' o p1 a) (a4 : Int32) (a5 : Int32) (a6 : Int32) (σ : St) (hf : b_X2_sendPromised_51 o p1 K51 a4 a5 a6 σ = some (r, σ')) (H : Heap) (locs : List Loc) (ls : Array Slot) (hP : gW (cG E) σ H) (hS : va_S (gA (cG E)) s.heap H locs) (hl : lv_has ls 7 [(0, .ref (cAd E (46 + o))), (1, .ref (cAd E p1)), (4, .int a4), (5, .int a5), (6, .int a6)]) : W p l e rm_X2_sendPromised s m args below meth c H locs 0 0 (gQi below args s (cG E) r σ') (F0 m 51 ls []) := by
  unfold b_X2_sendPromised_51 at hf
  obtain ⟨F, hr, hlk⟩ := id B
  have hx := F.1
  have hb := F.2.1
  have hml := F.2.2.1
  have hown := F.2.2.2.1
  have hts := F.2.2.2.2.1
  refine lv_iload hx hb dX2_sendPromised_51 (lv_at hl 4 rfl) ?_
  refine lv_iload hx hb dX2_sendPromised_53 (lv_at hl 3 rfl) ?_
  refine lv_icmp_ge (tgt := 75) hx hb dX2_sendPromised_55 (by decide) (fun h7 => ?_) (fun h7 => ?_)
  · rw [if_pos h7] at hf
    refine lv_aload_n hx hb dX2_sendPromised_75 rfl (lv_at hl 0 rfl) ?_
    refine lv_dup hx hb dX2_sendPromised_76 rfl ?_
    refine gf_X2_27 F hP ho dX2_sendPromised_77 ?_
    refine lv_iload hx hb dX2_sendPromised_80 (lv_at hl 2 rfl) ?_
    refine lv_isub hx hb dX2_sendPromised_82 ?_
    refine pf_X2_27 F hP hS ho dX2_sendPromised_83 (fun H locs hP hS => ?_)
    obtain ⟨σ8, eσ8, hf⟩ := vl_x hf
    rw [← eσ8] at hP
    refine lv_aload_n hx hb dX2_sendPromised_86 rfl (lv_at hl 0 rfl) ?_
    refine lv_dup hx hb dX2_sendPromised_87 rfl ?_
    refine gf_X2_30 F hP ho dX2_sendPromised_88 ?_
    refine lv_iload hx hb dX2_sendPromised_91 (lv_at hl 2 rfl) ?_
    refine lv_iadd hx hb dX2_sendPromised_93 ?_
    refine pf_X2_30 F hP hS ho dX2_sendPromised_94 (fun H locs hP hS => ?_)
    obtain ⟨σ9, eσ9, hf⟩ := vl_x hf
    rw [← eσ9] at hP
    refine lv_iload hx hb dX2_sendPromised_97 (lv_at hl 2 rfl) ?_
    exact g_iret B hP hS hf dX2_sendPromised_99
  · rw [if_neg h7] at hf
    refine lv_aload_n hx hb dX2_sendPromised_58 rfl (lv_at hl 1 rfl) ?_
    refine lv_iload hx hb dX2_sendPromised_59 (lv_at hl 4 rfl) ?_
    refine lv_bipush (v := (10)) hx hb dX2_sendPromised_61 (by decide) ?_
    refine lv_aload_n hx hb dX2_sendPromised_63 rfl (lv_at hl 0 rfl) ?_
    refine gf_X2_9 F hP ho dX2_sendPromised_64 ?_
    refine lv_iadd hx hb dX2_sendPromised_67 ?_
    obtain ⟨h10, hf⟩ := gd_e hf
    refine c_iast F hP hS hp1 rfl h10 dX2_sendPromised_68 (fun H locs hP hS => ?_)
    obtain ⟨σ11, eσ11, hf⟩ := vl_x hf
    rw [← eσ11] at hP
    refine lv_iinc (v := a6 + (1 : Int32)) (lv' := [(6, .int (a6 + (1 : Int32))), (0, .ref (cAd E (46 + o))), (1, .ref (cAd E p1)), (4, .int a4), (5, .int a5)]) hx hb dX2_sendPromised_69 hl (k := 4) rfl rfl (by decide) rfl (fun ls hl => ?_)
    obtain ⟨x12, ex12, hf⟩ := vl_x hf
    rw [← ex12] at hl
    refine lv_goto (tgt := 51) hx hb dX2_sendPromised_72 (by decide) ?_
    exact hK51 _ hf _ _ _ hP hS (lv_sub hl [1, 2, 3, 4, 0] rfl)
set_option maxHeartbeats 4000000 in
set_option maxRecDepth 100000 in
theorem w_X2_sendPromised_e {p : Program} {l : Launch} {e : Env} {s : State} {m : MethodId} {args : Array Value} {below : List Frame} {meth : Method} {c : Code} {E : cEv} {r : Int32} {σ' : St} {o : Nat} (ho : o < 8) {p1 : Nat} (hp1 : cArr p1) (B : gBx p m meth c cX2_sendPromised 7 (some .int) s args RX2 (cG E)) (p2 : Int32) (p3 : Int32) (σ : St) (hf : f_X2_sendPromised o p1 p2 p3 σ = some (r, σ')) (H : Heap) (locs : List Loc) (ls : Array Slot) (hP : gW (cG E) σ H) (hS : va_S (gA (cG E)) s.heap H locs) (hl : lv_has ls 7 [(0, .ref (cAd E (46 + o))), (1, .ref (cAd E p1)), (2, .int p2), (3, .int p3)]) : W p l e rm_X2_sendPromised s m args below meth c H locs 0 0 (gQi below args s (cG E) r σ') (F0 m 0 ls []) := by
  unfold f_X2_sendPromised at hf
  obtain ⟨F, hr, hlk⟩ := id B
  have hx := F.1
  have hb := F.2.1
  have hml := F.2.2.1
  have hown := F.2.2.2.1
  have hts := F.2.2.2.2.1
  refine lv_aload_n hx hb dX2_sendPromised_0 rfl (lv_at hl 0 rfl) ?_
  refine gf_X2_85 F hP ho dX2_sendPromised_1 ?_
  refine lv_if_ne (tgt := 9) hx hb dX2_sendPromised_4 (by decide) (fun h1 => ?_) (fun h1 => ?_)
  · rw [if_neg h1] at hf
    refine lv_aload_n hx hb dX2_sendPromised_9 rfl (lv_at hl 0 rfl) ?_
    refine gf_X2_27 F hP ho dX2_sendPromised_10 ?_
    refine lv_iload_n hx hb dX2_sendPromised_13 rfl (lv_at hl 3 rfl) ?_
    refine lv_iconst (v := 1) hx hb dX2_sendPromised_14 (by decide) ?_
    refine lv_aload_n hx hb dX2_sendPromised_15 rfl (lv_at hl 0 rfl) ?_
    refine gf_X2_18 F hP ho dX2_sendPromised_16 ?_
    refine va_mmax hx hb (hml.trans hl.1.symm) hown (hts _ tw_689) (hts _ tw_31) (hts _ tw_3) (hts _ tw_32) (Nat.le_of_ble_eq_true rfl) (Nat.le_of_ble_eq_true rfl) (Nat.zero_le _) (Nat.zero_le _) dX2_sendPromised_19 ?_
    obtain ⟨x2, ex2, hf⟩ := vl_x hf
    rw [← ex2]
    obtain ⟨h3, hf⟩ := gd_e hf
    refine lv_idiv hx hb dX2_sendPromised_22 h3 ?_
    refine va_mmin hx hb (hml.trans hl.1.symm) hown (hts _ tw_676) (hts _ tw_355) (hts _ tw_3) (hts _ tw_356) (Nat.le_of_ble_eq_true rfl) (Nat.le_of_ble_eq_true rfl) (Nat.zero_le _) (Nat.zero_le _) dX2_sendPromised_23 ?_
    obtain ⟨x4, ex4, hf⟩ := vl_x hf
    rw [← ex4]
    refine lv_istore (lv' := [(4, .int x4), (0, .ref (cAd E (46 + o))), (1, .ref (cAd E p1)), (2, .int p2), (3, .int p3)]) hx hb dX2_sendPromised_26 hl (by decide) rfl (fun ls hl => ?_)
    refine lv_iload_n hx hb dX2_sendPromised_28 rfl (lv_at hl 3 rfl) ?_
    refine lv_iload hx hb dX2_sendPromised_29 (lv_at hl 0 rfl) ?_
    refine lv_aload_n hx hb dX2_sendPromised_31 rfl (lv_at hl 1 rfl) ?_
    refine gf_X2_18 F hP ho dX2_sendPromised_32 ?_
    refine lv_imul hx hb dX2_sendPromised_35 ?_
    refine lv_iadd hx hb dX2_sendPromised_36 ?_
    refine lv_aload_n hx hb dX2_sendPromised_37 rfl (lv_at hl 2 rfl) ?_
    refine c_alen F hP hp1 rfl dX2_sendPromised_38 ?_
    refine va_mmin hx hb (hml.trans hl.1.symm) hown (hts _ tw_676) (hts _ tw_355) (hts _ tw_3) (hts _ tw_356) (Nat.le_of_ble_eq_true rfl) (Nat.le_of_ble_eq_true rfl) (Nat.zero_le _) (Nat.zero_le _) dX2_sendPromised_39 ?_
    obtain ⟨x5, ex5, hf⟩ := vl_x hf
    rw [← ex5]
    refine lv_istore (lv' := [(5, .int x5), (4, .int x4), (0, .ref (cAd E (46 + o))), (1, .ref (cAd E p1)), (2, .int p2), (3, .int p3)]) hx hb dX2_sendPromised_42 hl (by decide) rfl (fun ls hl => ?_)
    refine lv_iconst (v := 0) hx hb dX2_sendPromised_44 (by decide) ?_
    refine lv_iload_n hx hb dX2_sendPromised_45 rfl (lv_at hl 4 rfl) ?_
    refine va_mmax hx hb (hml.trans hl.1.symm) hown (hts _ tw_689) (hts _ tw_31) (hts _ tw_3) (hts _ tw_32) (Nat.le_of_ble_eq_true rfl) (Nat.le_of_ble_eq_true rfl) (Nat.zero_le _) (Nat.zero_le _) dX2_sendPromised_46 ?_
    obtain ⟨x6, ex6, hf⟩ := vl_x hf
    rw [← ex6]
    refine lv_istore (lv' := [(6, .int x6), (5, .int x5), (4, .int x4), (0, .ref (cAd E (46 + o))), (1, .ref (cAd E p1)), (2, .int p2), (3, .int p3)]) hx hb dX2_sendPromised_49 hl (by decide) rfl (fun ls hl => ?_)
    exact lp_w (P := P_X2_sendPromised_51 p l e s m args below meth c E r σ' o p1) (fun K hK a ha => w_X2_sendPromised_51 ho hp1 B hK a.1 a.2.1 a.2.2.1 a.2.2.2 ha) FU _ hf _ _ _ hP hS (lv_sub hl [3, 4, 2, 1, 0] rfl)
  · rw [if_pos h1] at hf
    refine lv_iconst (v := 0) hx hb dX2_sendPromised_7 (by decide) ?_
    exact g_iret B hP hS hf dX2_sendPromised_8
theorem c_X2_sendPromised (l : Launch) {E : cEv} (hI : gIj (cG E)) {o : Nat} (ho : o < 8) {p1 : Nat} (hp1 : cArr p1) {p2 : Int32} {p3 : Int32} {σ σ' : St} {r : Int32} (hf : f_X2_sendPromised o p1 p2 p3 σ = some (r, σ')) : gMi l yX2_sendPromised cX2_sendPromised 7 .int rm_X2_sendPromised [.ref (cAd E (46 + o)), .ref (cAd E p1), .int p2, .int p3] (cG E) σ r σ' :=
  g_entry (by decide) (Nat.le_of_ble_eq_true rfl) hI (fun p e s m args below meth c B hP hS ls hl => w_X2_sendPromised_e ho hp1 B _ _ σ hf _ _ ls hP hS hl)
section SA
variable {p : Program} {l : Launch} {e : Env} {R : Room} {s : State} {m : MethodId} {args : Array Value} {below : List Frame} {meth : Method} {c : Code} {H : Heap} {locs : List Loc} {cells slots : Nat} {Q : State → Prop}
variable {cc : ByteArray} {pc nL : Nat} {ls : Array Slot} {rest : List Value} {E : cEv} {σ : St}
theorem gf_X2_42 (F : gFx p m c cc nL s args RX2 (cG E)) (hP : gW (cG E) σ H) {o : Nat} (ho : o < 8) (hdg : decode cc pc = .ok (.getfield 42, 3)) (kk : W p l e R s m args below meth c H locs cells slots Q (F0 m (pc + 3) ls (.int (σ (46 + o) 10) :: rest))) : W p l e R s m args below meth c H locs cells slots Q (F0 m pc ls (.ref (cAd E (46 + o)) :: rest)) :=
  g_get F hP (k := (46 + o)) (cin (by omega)) (ce_2 E _ ho) rfl inX2 10 (by decide) tw_194 rfl rfl hdg kk
end SA
/-! PromisedSlots$Device.tell(I)I -/
def f_X2_tell (o : Nat) (p1 : Int32) (σ : St) : Option (Int32 × St) :=
  if p1 = (0 : Int32) then
    some ((σ (46 + o) 1), σ)
  else if p1 = (1 : Int32) then
    some ((σ (46 + o) 2), σ)
  else if p1 = (2 : Int32) then
    some ((σ (46 + o) 3), σ)
  else if p1 = (3 : Int32) then
    some ((σ (46 + o) 4), σ)
  else if p1 = (4 : Int32) then
    some ((σ (46 + o) 5), σ)
  else if p1 = (5 : Int32) then
    some ((σ (46 + o) 6), σ)
  else if p1 = (6 : Int32) then
    some ((σ (46 + o) 7), σ)
  else if p1 = (7 : Int32) then
    some ((σ (46 + o) 8), σ)
  else if p1 = (8 : Int32) then
    some ((σ (46 + o) 9), σ)
  else if p1 = (9 : Int32) then
    some ((σ (46 + o) 10), σ)
  else if p1 = (10 : Int32) then
    some ((σ (46 + o) 11), σ)
  else if p1 = (11 : Int32) then
    some ((σ (46 + o) 12), σ)
  else if p1 = (12 : Int32) then
    some ((σ (46 + o) 13), σ)
  else if p1 = (13 : Int32) then
    some ((σ (46 + o) 14), σ)
  else 
    some ((-1 : Int32), σ)
abbrev rm_X2_tell : Room := { frames := 0, cells := 0, slots := 0, locals := 0 }
set_option maxHeartbeats 4000000 in
set_option maxRecDepth 100000 in
theorem w_X2_tell_e {p : Program} {l : Launch} {e : Env} {s : State} {m : MethodId} {args : Array Value} {below : List Frame} {meth : Method} {c : Code} {E : cEv} {r : Int32} {σ' : St} {o : Nat} (ho : o < 8) (B : gBx p m meth c cX2_tell 2 (some .int) s args RX2 (cG E)) (p1 : Int32) (σ : St) (hf : f_X2_tell o p1 σ = some (r, σ')) (H : Heap) (locs : List Loc) (ls : Array Slot) (hP : gW (cG E) σ H) (hS : va_S (gA (cG E)) s.heap H locs) (hl : lv_has ls 2 [(0, .ref (cAd E (46 + o))), (1, .int p1)]) : W p l e rm_X2_tell s m args below meth c H locs 0 0 (gQi below args s (cG E) r σ') (F0 m 0 ls []) := by
  unfold f_X2_tell at hf
  obtain ⟨F, hr, hlk⟩ := id B
  have hx := F.1
  have hb := F.2.1
  have hml := F.2.2.1
  have hown := F.2.2.2.1
  have hts := F.2.2.2.2.1
  refine lv_iload_n hx hb dX2_tell_0 rfl (lv_at hl 1 rfl) ?_
  by_cases h1 : p1 = (0 : Int32)
  · rw [if_pos h1] at hf
    refine lv_tableIn (tgt := 72) (off := 71) hx hb dX2_tell_1 (by rw [h1]; decide) (by rw [h1]; decide) (by rw [h1]; rfl) (by decide) ?_
    refine lv_aload_n hx hb dX2_tell_72 rfl (lv_at hl 0 rfl) ?_
    refine gf_X2_15 F hP ho dX2_tell_73 ?_
    exact g_iret B hP hS hf dX2_tell_76
  rw [if_neg h1] at hf
  by_cases h2 : p1 = (1 : Int32)
  · rw [if_pos h2] at hf
    refine lv_tableIn (tgt := 77) (off := 76) hx hb dX2_tell_1 (by rw [h2]; decide) (by rw [h2]; decide) (by rw [h2]; rfl) (by decide) ?_
    refine lv_aload_n hx hb dX2_tell_77 rfl (lv_at hl 0 rfl) ?_
    refine gf_X2_18 F hP ho dX2_tell_78 ?_
    exact g_iret B hP hS hf dX2_tell_81
  rw [if_neg h2] at hf
  by_cases h3 : p1 = (2 : Int32)
  · rw [if_pos h3] at hf
    refine lv_tableIn (tgt := 82) (off := 81) hx hb dX2_tell_1 (by rw [h3]; decide) (by rw [h3]; decide) (by rw [h3]; rfl) (by decide) ?_
    refine lv_aload_n hx hb dX2_tell_82 rfl (lv_at hl 0 rfl) ?_
    refine gf_X2_21 F hP ho dX2_tell_83 ?_
    exact g_iret B hP hS hf dX2_tell_86
  rw [if_neg h3] at hf
  by_cases h4 : p1 = (3 : Int32)
  · rw [if_pos h4] at hf
    refine lv_tableIn (tgt := 87) (off := 86) hx hb dX2_tell_1 (by rw [h4]; decide) (by rw [h4]; decide) (by rw [h4]; rfl) (by decide) ?_
    refine lv_aload_n hx hb dX2_tell_87 rfl (lv_at hl 0 rfl) ?_
    refine gf_X2_24 F hP ho dX2_tell_88 ?_
    exact g_iret B hP hS hf dX2_tell_91
  rw [if_neg h4] at hf
  by_cases h5 : p1 = (4 : Int32)
  · rw [if_pos h5] at hf
    refine lv_tableIn (tgt := 92) (off := 91) hx hb dX2_tell_1 (by rw [h5]; decide) (by rw [h5]; decide) (by rw [h5]; rfl) (by decide) ?_
    refine lv_aload_n hx hb dX2_tell_92 rfl (lv_at hl 0 rfl) ?_
    refine gf_X2_27 F hP ho dX2_tell_93 ?_
    exact g_iret B hP hS hf dX2_tell_96
  rw [if_neg h5] at hf
  by_cases h6 : p1 = (5 : Int32)
  · rw [if_pos h6] at hf
    refine lv_tableIn (tgt := 97) (off := 96) hx hb dX2_tell_1 (by rw [h6]; decide) (by rw [h6]; decide) (by rw [h6]; rfl) (by decide) ?_
    refine lv_aload_n hx hb dX2_tell_97 rfl (lv_at hl 0 rfl) ?_
    refine gf_X2_30 F hP ho dX2_tell_98 ?_
    exact g_iret B hP hS hf dX2_tell_101
  rw [if_neg h6] at hf
  by_cases h7 : p1 = (6 : Int32)
  · rw [if_pos h7] at hf
    refine lv_tableIn (tgt := 102) (off := 101) hx hb dX2_tell_1 (by rw [h7]; decide) (by rw [h7]; decide) (by rw [h7]; rfl) (by decide) ?_
    refine lv_aload_n hx hb dX2_tell_102 rfl (lv_at hl 0 rfl) ?_
    refine gf_X2_33 F hP ho dX2_tell_103 ?_
    exact g_iret B hP hS hf dX2_tell_106
  rw [if_neg h7] at hf
  by_cases h8 : p1 = (7 : Int32)
  · rw [if_pos h8] at hf
    refine lv_tableIn (tgt := 107) (off := 106) hx hb dX2_tell_1 (by rw [h8]; decide) (by rw [h8]; decide) (by rw [h8]; rfl) (by decide) ?_
    refine lv_aload_n hx hb dX2_tell_107 rfl (lv_at hl 0 rfl) ?_
    refine gf_X2_36 F hP ho dX2_tell_108 ?_
    exact g_iret B hP hS hf dX2_tell_111
  rw [if_neg h8] at hf
  by_cases h9 : p1 = (8 : Int32)
  · rw [if_pos h9] at hf
    refine lv_tableIn (tgt := 112) (off := 111) hx hb dX2_tell_1 (by rw [h9]; decide) (by rw [h9]; decide) (by rw [h9]; rfl) (by decide) ?_
    refine lv_aload_n hx hb dX2_tell_112 rfl (lv_at hl 0 rfl) ?_
    refine gf_X2_39 F hP ho dX2_tell_113 ?_
    exact g_iret B hP hS hf dX2_tell_116
  rw [if_neg h9] at hf
  by_cases h10 : p1 = (9 : Int32)
  · rw [if_pos h10] at hf
    refine lv_tableIn (tgt := 117) (off := 116) hx hb dX2_tell_1 (by rw [h10]; decide) (by rw [h10]; decide) (by rw [h10]; rfl) (by decide) ?_
    refine lv_aload_n hx hb dX2_tell_117 rfl (lv_at hl 0 rfl) ?_
    refine gf_X2_42 F hP ho dX2_tell_118 ?_
    exact g_iret B hP hS hf dX2_tell_121
  rw [if_neg h10] at hf
  by_cases h11 : p1 = (10 : Int32)
  · rw [if_pos h11] at hf
    refine lv_tableIn (tgt := 122) (off := 121) hx hb dX2_tell_1 (by rw [h11]; decide) (by rw [h11]; decide) (by rw [h11]; rfl) (by decide) ?_
    refine lv_aload_n hx hb dX2_tell_122 rfl (lv_at hl 0 rfl) ?_
    refine gf_X2_45 F hP ho dX2_tell_123 ?_
    exact g_iret B hP hS hf dX2_tell_126
  rw [if_neg h11] at hf
  by_cases h12 : p1 = (11 : Int32)
  · rw [if_pos h12] at hf
    refine lv_tableIn (tgt := 127) (off := 126) hx hb dX2_tell_1 (by rw [h12]; decide) (by rw [h12]; decide) (by rw [h12]; rfl) (by decide) ?_
    refine lv_aload_n hx hb dX2_tell_127 rfl (lv_at hl 0 rfl) ?_
    refine gf_X2_48 F hP ho dX2_tell_128 ?_
    exact g_iret B hP hS hf dX2_tell_131
  rw [if_neg h12] at hf
  by_cases h13 : p1 = (12 : Int32)
  · rw [if_pos h13] at hf
    refine lv_tableIn (tgt := 132) (off := 131) hx hb dX2_tell_1 (by rw [h13]; decide) (by rw [h13]; decide) (by rw [h13]; rfl) (by decide) ?_
    refine lv_aload_n hx hb dX2_tell_132 rfl (lv_at hl 0 rfl) ?_
    refine gf_X2_51 F hP ho dX2_tell_133 ?_
    exact g_iret B hP hS hf dX2_tell_136
  rw [if_neg h13] at hf
  by_cases h14 : p1 = (13 : Int32)
  · rw [if_pos h14] at hf
    refine lv_tableIn (tgt := 137) (off := 136) hx hb dX2_tell_1 (by rw [h14]; decide) (by rw [h14]; decide) (by rw [h14]; rfl) (by decide) ?_
    refine lv_aload_n hx hb dX2_tell_137 rfl (lv_at hl 0 rfl) ?_
    refine gf_X2_54 F hP ho dX2_tell_138 ?_
    exact g_iret B hP hS hf dX2_tell_141
  rw [if_neg h14] at hf
  have nh1 := lv_neT h1 (show ((0 : Int32)).toInt = 0 by decide)
  have nh2 := lv_neT h2 (show ((1 : Int32)).toInt = 1 by decide)
  have nh3 := lv_neT h3 (show ((2 : Int32)).toInt = 2 by decide)
  have nh4 := lv_neT h4 (show ((3 : Int32)).toInt = 3 by decide)
  have nh5 := lv_neT h5 (show ((4 : Int32)).toInt = 4 by decide)
  have nh6 := lv_neT h6 (show ((5 : Int32)).toInt = 5 by decide)
  have nh7 := lv_neT h7 (show ((6 : Int32)).toInt = 6 by decide)
  have nh8 := lv_neT h8 (show ((7 : Int32)).toInt = 7 by decide)
  have nh9 := lv_neT h9 (show ((8 : Int32)).toInt = 8 by decide)
  have nh10 := lv_neT h10 (show ((9 : Int32)).toInt = 9 by decide)
  have nh11 := lv_neT h11 (show ((10 : Int32)).toInt = 10 by decide)
  have nh12 := lv_neT h12 (show ((11 : Int32)).toInt = 11 by decide)
  have nh13 := lv_neT h13 (show ((12 : Int32)).toInt = 12 by decide)
  have nh14 := lv_neT h14 (show ((13 : Int32)).toInt = 13 by decide)
  refine lv_tableOut (tgt := 142) hx hb dX2_tell_1 (by omega) (by decide) ?_
  refine lv_iconst (v := (-1)) hx hb dX2_tell_142 (by decide) ?_
  exact g_iret B hP hS hf dX2_tell_143
theorem c_X2_tell (l : Launch) {E : cEv} (hI : gIj (cG E)) {o : Nat} (ho : o < 8) {p1 : Int32} {σ σ' : St} {r : Int32} (hf : f_X2_tell o p1 σ = some (r, σ')) : gMi l yX2_tell cX2_tell 2 .int rm_X2_tell [.ref (cAd E (46 + o)), .int p1] (cG E) σ r σ' :=
  g_entry (by decide) (Nat.le_of_ble_eq_true rfl) hI (fun p e s m args below meth c B hP hS ls hl => w_X2_tell_e ho B _ σ hf _ _ ls hP hS hl)
section SA
variable {p : Program} {l : Launch} {e : Env} {R : Room} {s : State} {m : MethodId} {args : Array Value} {below : List Frame} {meth : Method} {c : Code} {H : Heap} {locs : List Loc} {cells slots : Nat} {Q : State → Prop}
variable {cc : ByteArray} {pc nL : Nat} {ls : Array Slot} {rest : List Value} {E : cEv} {σ : St}
theorem gf_X3_34 (F : gFx p m c cc nL s args RX3 (cG E)) (hP : gW (cG E) σ H) {o : Nat} (ho : o = 8 ∨ o = 14) (hdg : decode cc pc = .ok (.getfield 34, 3)) (kk : W p l e R s m args below meth c H locs cells slots Q (F0 m (pc + 3) ls (.int (σ o 5) :: rest))) : W p l e R s m args below meth c H locs cells slots Q (F0 m pc ls (.ref (cAd E o) :: rest)) :=
  g_get F hP (k := o) (cin (by omega)) (ce_3 E _ ho) rfl inX3 5 (by decide) tw_82 rfl rfl hdg kk
theorem gf_X3_9 (F : gFx p m c cc nL s args RX3 (cG E)) (hP : gW (cG E) σ H) {o : Nat} (ho : o = 8 ∨ o = 14) (hdg : decode cc pc = .ok (.getfield 9, 3)) (kk : W p l e R s m args below meth c H locs cells slots Q (F0 m (pc + 3) ls (.ref (cAd E (o + 1)) :: rest))) : W p l e R s m args below meth c H locs cells slots Q (F0 m pc ls (.ref (cAd E o) :: rest)) :=
  g_get F hP (k := o) (cin (by omega)) (ce_3 E _ ho) rfl inX3 7 (by decide) tw_88 rfl rfl hdg kk
theorem gf_X3_15 (F : gFx p m c cc nL s args RX3 (cG E)) (hP : gW (cG E) σ H) {o : Nat} (ho : o = 8 ∨ o = 14) (hdg : decode cc pc = .ok (.getfield 15, 3)) (kk : W p l e R s m args below meth c H locs cells slots Q (F0 m (pc + 3) ls (.ref (cAd E (o + 2)) :: rest))) : W p l e R s m args below meth c H locs cells slots Q (F0 m pc ls (.ref (cAd E o) :: rest)) :=
  g_get F hP (k := o) (cin (by omega)) (ce_3 E _ ho) rfl inX3 8 (by decide) tw_89 rfl rfl hdg kk
theorem pf_X3_34 (F : gFx p m c cc nL s args RX3 (cG E)) (hP : gW (cG E) σ H) (hS : va_S (gA (cG E)) s.heap H locs) {o : Nat} (ho : o = 8 ∨ o = 14) {x : Int32} (hdg : decode cc pc = .ok (.putfield 34, 3)) (kk : ∀ (H1 : Heap) (locs1 : List Loc), gW (cG E) (up2 σ o 5 x) H1 → va_S (gA (cG E)) s.heap H1 locs1 → W p l e R s m args below meth c H1 locs1 cells slots Q (F0 m (pc + 3) ls rest)) : W p l e R s m args below meth c H locs cells slots Q (F0 m pc ls (.int x :: .ref (cAd E o) :: rest)) :=
  g_put F hP hS (k := o) (cin (by omega)) (ce_3 E _ ho) rfl inX3 tyX3 tyX3_ok nmX3 5 (by decide) tw_82 rfl rfl rfl rfl (Nat.le_of_ble_eq_true rfl) (x := x) (jj := 5) (ce_3 E _ ho) hdg kk
end SA
/-! PromisedSlots$Layout.addCoordinator(II)V -/
def f_X3_addCoordinator (o : Nat) (p1 : Int32) (p2 : Int32) (σ : St) : Option (Unit × St) :=
  vl (σ o 5) fun x1 =>
  if x1 < 0 then
    some ((), σ)
  else
    if (4 : Int32) ≤ x1 then
      some ((), σ)
    else
      gd (ix x1 4) <|
      vl (up2 σ (o + 1) (nt x1) p1) fun σ5 =>
      gd (ix x1 4) <|
      vl (up2 σ5 (o + 2) (nt x1) p2) fun σ7 =>
      vl (up2 σ7 o 5 ((σ7 o 5) + (1 : Int32))) fun σ8 =>
      some ((), σ8)
abbrev rm_X3_addCoordinator : Room := { frames := 0, cells := 0, slots := 0, locals := 0 }
set_option maxHeartbeats 4000000 in
set_option maxRecDepth 100000 in
theorem w_X3_addCoordinator_e {p : Program} {l : Launch} {e : Env} {s : State} {m : MethodId} {args : Array Value} {below : List Frame} {meth : Method} {c : Code} {E : cEv} {u : Unit} {σ' : St} {o : Nat} (ho : o = 8 ∨ o = 14) (B : gBx p m meth c cX3_addCoordinator 4 none s args RX3 (cG E)) (p1 : Int32) (p2 : Int32) (σ : St) (hf : f_X3_addCoordinator o p1 p2 σ = some (u, σ')) (H : Heap) (locs : List Loc) (ls : Array Slot) (hP : gW (cG E) σ H) (hS : va_S (gA (cG E)) s.heap H locs) (hl : lv_has ls 4 [(0, .ref (cAd E o)), (1, .int p1), (2, .int p2)]) : W p l e rm_X3_addCoordinator s m args below meth c H locs 0 0 (gQv below args s (cG E) σ') (F0 m 0 ls []) := by
  unfold f_X3_addCoordinator at hf
  obtain ⟨F, hr, hlk⟩ := id B
  have hx := F.1
  have hb := F.2.1
  have hml := F.2.2.1
  have hown := F.2.2.2.1
  have hts := F.2.2.2.2.1
  refine lv_aload_n hx hb dX3_addCoordinator_0 rfl (lv_at hl 0 rfl) ?_
  refine gf_X3_34 F hP ho dX3_addCoordinator_1 ?_
  obtain ⟨x1, ex1, hf⟩ := vl_x hf
  rw [← ex1]
  refine lv_istore_n (lv' := [(3, .int x1), (0, .ref (cAd E o)), (1, .int p1), (2, .int p2)]) hx hb dX3_addCoordinator_4 rfl hl (by decide) rfl (fun ls hl => ?_)
  refine lv_iload_n hx hb dX3_addCoordinator_5 rfl (lv_at hl 0 rfl) ?_
  refine lv_if_lt (tgt := 38) hx hb dX3_addCoordinator_6 (by decide) (fun h2 => ?_) (fun h2 => ?_)
  · rw [if_pos h2] at hf
    exact g_vret B hP hS hf dX3_addCoordinator_38
  · rw [if_neg h2] at hf
    refine lv_iload_n hx hb dX3_addCoordinator_9 rfl (lv_at hl 0 rfl) ?_
    refine lv_iconst (v := 4) hx hb dX3_addCoordinator_10 (by decide) ?_
    refine lv_icmp_ge (tgt := 38) hx hb dX3_addCoordinator_11 (by decide) (fun h3 => ?_) (fun h3 => ?_)
    · rw [if_pos h3] at hf
      exact g_vret B hP hS hf dX3_addCoordinator_38
    · rw [if_neg h3] at hf
      refine lv_aload_n hx hb dX3_addCoordinator_14 rfl (lv_at hl 1 rfl) ?_
      refine gf_X3_9 F hP ho dX3_addCoordinator_15 ?_
      refine lv_iload_n hx hb dX3_addCoordinator_18 rfl (lv_at hl 0 rfl) ?_
      refine lv_iload_n hx hb dX3_addCoordinator_19 rfl (lv_at hl 2 rfl) ?_
      obtain ⟨h4, hf⟩ := gd_e hf
      refine c_iast F hP hS (ca_l ho (by decide) (by decide)) (cn_l1 ho) h4 dX3_addCoordinator_20 (fun H locs hP hS => ?_)
      obtain ⟨σ5, eσ5, hf⟩ := vl_x hf
      rw [← eσ5] at hP
      refine lv_aload_n hx hb dX3_addCoordinator_21 rfl (lv_at hl 1 rfl) ?_
      refine gf_X3_15 F hP ho dX3_addCoordinator_22 ?_
      refine lv_iload_n hx hb dX3_addCoordinator_25 rfl (lv_at hl 0 rfl) ?_
      refine lv_iload_n hx hb dX3_addCoordinator_26 rfl (lv_at hl 3 rfl) ?_
      obtain ⟨h6, hf⟩ := gd_e hf
      refine c_iast F hP hS (ca_l ho (by decide) (by decide)) (cn_l2 ho) h6 dX3_addCoordinator_27 (fun H locs hP hS => ?_)
      obtain ⟨σ7, eσ7, hf⟩ := vl_x hf
      rw [← eσ7] at hP
      refine lv_aload_n hx hb dX3_addCoordinator_28 rfl (lv_at hl 1 rfl) ?_
      refine lv_dup hx hb dX3_addCoordinator_29 rfl ?_
      refine gf_X3_34 F hP ho dX3_addCoordinator_30 ?_
      refine lv_iconst (v := 1) hx hb dX3_addCoordinator_33 (by decide) ?_
      refine lv_iadd hx hb dX3_addCoordinator_34 ?_
      refine pf_X3_34 F hP hS ho dX3_addCoordinator_35 (fun H locs hP hS => ?_)
      obtain ⟨σ8, eσ8, hf⟩ := vl_x hf
      rw [← eσ8] at hP
      exact g_vret B hP hS hf dX3_addCoordinator_38
theorem c_X3_addCoordinator (l : Launch) {E : cEv} (hI : gIj (cG E)) {o : Nat} (ho : o = 8 ∨ o = 14) {p1 : Int32} {p2 : Int32} {σ σ' : St} {u : Unit} (hf : f_X3_addCoordinator o p1 p2 σ = some (u, σ')) : gMv l yX3_addCoordinator cX3_addCoordinator 4 rm_X3_addCoordinator [.ref (cAd E o), .int p1, .int p2] (cG E) σ σ' :=
  g_entry (by decide) (Nat.le_of_ble_eq_true rfl) hI (fun p e s m args below meth c B hP hS ls hl => w_X3_addCoordinator_e ho B _ _ σ hf _ _ ls hP hS hl)
section SA
variable {p : Program} {l : Launch} {e : Env} {R : Room} {s : State} {m : MethodId} {args : Array Value} {below : List Frame} {meth : Method} {c : Code} {H : Heap} {locs : List Loc} {cells slots : Nat} {Q : State → Prop}
variable {cc : ByteArray} {pc nL : Nat} {ls : Array Slot} {rest : List Value} {E : cEv} {σ : St}
theorem pf_X3_27 (F : gFx p m c cc nL s args RX3 (cG E)) (hP : gW (cG E) σ H) (hS : va_S (gA (cG E)) s.heap H locs) {o : Nat} (ho : o = 8 ∨ o = 14) {x : Int32} (hdg : decode cc pc = .ok (.putfield 27, 3)) (kk : ∀ (H1 : Heap) (locs1 : List Loc), gW (cG E) (up2 σ o 4 x) H1 → va_S (gA (cG E)) s.heap H1 locs1 → W p l e R s m args below meth c H1 locs1 cells slots Q (F0 m (pc + 3) ls rest)) : W p l e R s m args below meth c H locs cells slots Q (F0 m pc ls (.int x :: .ref (cAd E o) :: rest)) :=
  g_put F hP hS (k := o) (cin (by omega)) (ce_3 E _ ho) rfl inX3 tyX3 tyX3_ok nmX3 4 (by decide) tw_79 rfl rfl rfl rfl (Nat.le_of_ble_eq_true rfl) (x := x) (jj := 4) (ce_3 E _ ho) hdg kk
theorem pf_X3_31 (F : gFx p m c cc nL s args RX3 (cG E)) (hP : gW (cG E) σ H) (hS : va_S (gA (cG E)) s.heap H locs) {o : Nat} (ho : o = 8 ∨ o = 14) {x : Int32} (hdg : decode cc pc = .ok (.putfield 31, 3)) (kk : ∀ (H1 : Heap) (locs1 : List Loc), gW (cG E) (up2 σ o 6 x) H1 → va_S (gA (cG E)) s.heap H1 locs1 → W p l e R s m args below meth c H1 locs1 cells slots Q (F0 m (pc + 3) ls rest)) : W p l e R s m args below meth c H locs cells slots Q (F0 m pc ls (.int x :: .ref (cAd E o) :: rest)) :=
  g_put F hP hS (k := o) (cin (by omega)) (ce_3 E _ ho) rfl inX3 tyX3 tyX3_ok nmX3 6 (by decide) tw_85 rfl rfl rfl rfl (Nat.le_of_ble_eq_true rfl) (x := x) (jj := 6) (ce_3 E _ ho) hdg kk
theorem kc_X3_37 (F : gFx p m c cc nL s args RX3 (cG E)) (hP : gW (cG E) σ H) (hS : va_S (gA (cG E)) s.heap H locs) {o : Nat} (ho : o = 8 ∨ o = 14) {p1 : Int32} {p2 : Int32} {u : Unit} {σ' : St} (hf : f_X3_addCoordinator o p1 p2 σ = some (u, σ')) (hR : rm_X3_addCoordinator.frames + 1 ≤ R.frames ∧ 8 + (4 + 11) + rm_X3_addCoordinator.locals ≤ R.locals) (hsz : ls.size = nL) (hrest : (rest.map fun v => v.category).sum ≤ 8) (hcs : cells ≤ R.cells ∧ slots ≤ R.slots) (hdg : decode cc pc = .ok (.invokevirtual 37, 3)) (kk : ∀ (H1 : Heap) (locs1 : List Loc), gW (cG E) σ' H1 → va_S (gA (cG E)) s.heap H1 locs1 → W p l e R s m args below meth c H1 locs1 cells slots Q (F0 m (pc + 3) ls rest)) : W p l e R s m args below meth c H locs cells slots Q (F0 m pc ls (.int p2 :: .int p1 :: .ref (cAd E o) :: rest)) :=
  g_callVv F hP hS (c_X3_addCoordinator l F.2.2.2.2.2.2.2 ho hf) (g_cwV (n := 2) F tw_334 tw_335 tw_336 tw_5 tw_337 (by decide +kernel) rfl rfl hR) (k := o) (cin (by omega)) (ce_3 E _ ho) rfl (As := [.int p1, .int p2]) rfl hsz rfl hrest hdg hcs kk
end SA
/-! PromisedSlots$Layout.clear()V -/
def f_X3_clear (o : Nat) (σ : St) : Option (Unit × St) :=
  vl (up2 σ o 4 (4 : Int32)) fun σ1 =>
  vl (up2 σ1 o 6 (0 : Int32)) fun σ2 =>
  vl (up2 σ2 o 5 (0 : Int32)) fun σ3 =>
  cl (f_X3_addCoordinator o (-4 : Int32) (0 : Int32) σ3) fun r5 σ4 =>
  some ((), σ4)
abbrev rm_X3_clear : Room := { frames := 1, cells := 0, slots := 0, locals := 23 }
set_option maxHeartbeats 4000000 in
set_option maxRecDepth 100000 in
theorem w_X3_clear_e {p : Program} {l : Launch} {e : Env} {s : State} {m : MethodId} {args : Array Value} {below : List Frame} {meth : Method} {c : Code} {E : cEv} {u : Unit} {σ' : St} {o : Nat} (ho : o = 8 ∨ o = 14) (B : gBx p m meth c cX3_clear 1 none s args RX3 (cG E)) (σ : St) (hf : f_X3_clear o σ = some (u, σ')) (H : Heap) (locs : List Loc) (ls : Array Slot) (hP : gW (cG E) σ H) (hS : va_S (gA (cG E)) s.heap H locs) (hl : lv_has ls 1 [(0, .ref (cAd E o))]) : W p l e rm_X3_clear s m args below meth c H locs 0 0 (gQv below args s (cG E) σ') (F0 m 0 ls []) := by
  unfold f_X3_clear at hf
  obtain ⟨F, hr, hlk⟩ := id B
  have hx := F.1
  have hb := F.2.1
  have hml := F.2.2.1
  have hown := F.2.2.2.1
  have hts := F.2.2.2.2.1
  refine lv_aload_n hx hb dX3_clear_0 rfl (lv_at hl 0 rfl) ?_
  refine lv_iconst (v := 4) hx hb dX3_clear_1 (by decide) ?_
  refine pf_X3_27 F hP hS ho dX3_clear_2 (fun H locs hP hS => ?_)
  obtain ⟨σ1, eσ1, hf⟩ := vl_x hf
  rw [← eσ1] at hP
  refine lv_aload_n hx hb dX3_clear_5 rfl (lv_at hl 0 rfl) ?_
  refine lv_iconst (v := 0) hx hb dX3_clear_6 (by decide) ?_
  refine pf_X3_31 F hP hS ho dX3_clear_7 (fun H locs hP hS => ?_)
  obtain ⟨σ2, eσ2, hf⟩ := vl_x hf
  rw [← eσ2] at hP
  refine lv_aload_n hx hb dX3_clear_10 rfl (lv_at hl 0 rfl) ?_
  refine lv_iconst (v := 0) hx hb dX3_clear_11 (by decide) ?_
  refine pf_X3_34 F hP hS ho dX3_clear_12 (fun H locs hP hS => ?_)
  obtain ⟨σ3, eσ3, hf⟩ := vl_x hf
  rw [← eσ3] at hP
  refine lv_aload_n hx hb dX3_clear_15 rfl (lv_at hl 0 rfl) ?_
  refine lv_bipush (v := (-4)) hx hb dX3_clear_16 (by decide) ?_
  refine lv_iconst (v := 0) hx hb dX3_clear_18 (by decide) ?_
  obtain ⟨r5, σ4, h6, hf⟩ := cl_e hf
  refine kc_X3_37 F hP hS ho h6 ⟨Nat.le_of_ble_eq_true rfl, Nat.le_of_ble_eq_true rfl⟩ hl.1 (Nat.le_of_ble_eq_true rfl) ⟨Nat.zero_le _, Nat.zero_le _⟩ dX3_clear_19 (fun H locs hP hS => ?_)
  exact g_vret B hP hS hf dX3_clear_22
theorem c_X3_clear (l : Launch) {E : cEv} (hI : gIj (cG E)) {o : Nat} (ho : o = 8 ∨ o = 14) {σ σ' : St} {u : Unit} (hf : f_X3_clear o σ = some (u, σ')) : gMv l yX3_clear cX3_clear 1 rm_X3_clear [.ref (cAd E o)] (cG E) σ σ' :=
  g_entry (by decide) (Nat.le_of_ble_eq_true rfl) hI (fun p e s m args below meth c B hP hS ls hl => w_X3_clear_e ho B σ hf _ _ ls hP hS hl)
section SA
variable {p : Program} {l : Launch} {e : Env} {R : Room} {s : State} {m : MethodId} {args : Array Value} {below : List Frame} {meth : Method} {c : Code} {H : Heap} {locs : List Loc} {cells slots : Nat} {Q : State → Prop}
variable {cc : ByteArray} {pc nL : Nat} {ls : Array Slot} {rest : List Value} {E : cEv} {σ : St}
theorem pf_X3_41 (F : gFx p m c cc nL s args RX3 (cG E)) (hP : gW (cG E) σ H) (hS : va_S (gA (cG E)) s.heap H locs) {o : Nat} (ho : o = 8 ∨ o = 14) {x : Int32} (hdg : decode cc pc = .ok (.putfield 41, 3)) (kk : ∀ (H1 : Heap) (locs1 : List Loc), gW (cG E) (up2 σ o 0 x) H1 → va_S (gA (cG E)) s.heap H1 locs1 → W p l e R s m args below meth c H1 locs1 cells slots Q (F0 m (pc + 3) ls rest)) : W p l e R s m args below meth c H locs cells slots Q (F0 m pc ls (.int x :: .ref (cAd E o) :: rest)) :=
  g_put F hP hS (k := o) (cin (by omega)) (ce_3 E _ ho) rfl inX3 tyX3 tyX3_ok nmX3 0 (by decide) tw_70 rfl rfl rfl rfl (Nat.le_of_ble_eq_true rfl) (x := x) (jj := 0) (ce_3 E _ ho) hdg kk
theorem pf_X3_44 (F : gFx p m c cc nL s args RX3 (cG E)) (hP : gW (cG E) σ H) (hS : va_S (gA (cG E)) s.heap H locs) {o : Nat} (ho : o = 8 ∨ o = 14) {x : Int32} (hdg : decode cc pc = .ok (.putfield 44, 3)) (kk : ∀ (H1 : Heap) (locs1 : List Loc), gW (cG E) (up2 σ o 1 x) H1 → va_S (gA (cG E)) s.heap H1 locs1 → W p l e R s m args below meth c H1 locs1 cells slots Q (F0 m (pc + 3) ls rest)) : W p l e R s m args below meth c H locs cells slots Q (F0 m pc ls (.int x :: .ref (cAd E o) :: rest)) :=
  g_put F hP hS (k := o) (cin (by omega)) (ce_3 E _ ho) rfl inX3 tyX3 tyX3_ok nmX3 1 (by decide) tw_73 rfl rfl rfl rfl (Nat.le_of_ble_eq_true rfl) (x := x) (jj := 1) (ce_3 E _ ho) hdg kk
theorem pf_X3_47 (F : gFx p m c cc nL s args RX3 (cG E)) (hP : gW (cG E) σ H) (hS : va_S (gA (cG E)) s.heap H locs) {o : Nat} (ho : o = 8 ∨ o = 14) {x : Int32} (hdg : decode cc pc = .ok (.putfield 47, 3)) (kk : ∀ (H1 : Heap) (locs1 : List Loc), gW (cG E) (up2 σ o 2 x) H1 → va_S (gA (cG E)) s.heap H1 locs1 → W p l e R s m args below meth c H1 locs1 cells slots Q (F0 m (pc + 3) ls rest)) : W p l e R s m args below meth c H locs cells slots Q (F0 m pc ls (.int x :: .ref (cAd E o) :: rest)) :=
  g_put F hP hS (k := o) (cin (by omega)) (ce_3 E _ ho) rfl inX3 tyX3 tyX3_ok nmX3 2 (by decide) tw_75 rfl rfl rfl rfl (Nat.le_of_ble_eq_true rfl) (x := x) (jj := 2) (ce_3 E _ ho) hdg kk
theorem pf_X3_50 (F : gFx p m c cc nL s args RX3 (cG E)) (hP : gW (cG E) σ H) (hS : va_S (gA (cG E)) s.heap H locs) {o : Nat} (ho : o = 8 ∨ o = 14) {x : Int32} (hdg : decode cc pc = .ok (.putfield 50, 3)) (kk : ∀ (H1 : Heap) (locs1 : List Loc), gW (cG E) (up2 σ o 3 x) H1 → va_S (gA (cG E)) s.heap H1 locs1 → W p l e R s m args below meth c H1 locs1 cells slots Q (F0 m (pc + 3) ls rest)) : W p l e R s m args below meth c H locs cells slots Q (F0 m pc ls (.int x :: .ref (cAd E o) :: rest)) :=
  g_put F hP hS (k := o) (cin (by omega)) (ce_3 E _ ho) rfl inX3 tyX3 tyX3_ok nmX3 3 (by decide) tw_77 rfl rfl rfl rfl (Nat.le_of_ble_eq_true rfl) (x := x) (jj := 3) (ce_3 E _ ho) hdg kk
end SA
/-! PromisedSlots$Layout.setOrders(III)V -/
def f_X3_setOrders (o : Nat) (p1 : Int32) (p2 : Int32) (p3 : Int32) (σ : St) : Option (Unit × St) :=
  vl (up2 σ o 0 ((48 : Int32) <<< (p1 &&& 31))) fun σ1 =>
  vl (up2 σ1 o 1 ((48 : Int32) <<< (p2 &&& 31))) fun σ2 =>
  vl (up2 σ2 o 2 ((3 : Int32) <<< (p2 &&& 31))) fun σ3 =>
  vl (up2 σ3 o 3 p3) fun σ4 =>
  some ((), σ4)
abbrev rm_X3_setOrders : Room := { frames := 0, cells := 0, slots := 0, locals := 0 }
set_option maxHeartbeats 4000000 in
set_option maxRecDepth 100000 in
theorem w_X3_setOrders_e {p : Program} {l : Launch} {e : Env} {s : State} {m : MethodId} {args : Array Value} {below : List Frame} {meth : Method} {c : Code} {E : cEv} {u : Unit} {σ' : St} {o : Nat} (ho : o = 8 ∨ o = 14) (B : gBx p m meth c cX3_setOrders 4 none s args RX3 (cG E)) (p1 : Int32) (p2 : Int32) (p3 : Int32) (σ : St) (hf : f_X3_setOrders o p1 p2 p3 σ = some (u, σ')) (H : Heap) (locs : List Loc) (ls : Array Slot) (hP : gW (cG E) σ H) (hS : va_S (gA (cG E)) s.heap H locs) (hl : lv_has ls 4 [(0, .ref (cAd E o)), (1, .int p1), (2, .int p2), (3, .int p3)]) : W p l e rm_X3_setOrders s m args below meth c H locs 0 0 (gQv below args s (cG E) σ') (F0 m 0 ls []) := by
  unfold f_X3_setOrders at hf
  obtain ⟨F, hr, hlk⟩ := id B
  have hx := F.1
  have hb := F.2.1
  have hml := F.2.2.1
  have hown := F.2.2.2.1
  have hts := F.2.2.2.2.1
  refine lv_aload_n hx hb dX3_setOrders_0 rfl (lv_at hl 0 rfl) ?_
  refine lv_bipush (v := (48)) hx hb dX3_setOrders_1 (by decide) ?_
  refine lv_iload_n hx hb dX3_setOrders_3 rfl (lv_at hl 1 rfl) ?_
  refine lv_ishl hx hb dX3_setOrders_4 ?_
  refine pf_X3_41 F hP hS ho dX3_setOrders_5 (fun H locs hP hS => ?_)
  obtain ⟨σ1, eσ1, hf⟩ := vl_x hf
  rw [← eσ1] at hP
  refine lv_aload_n hx hb dX3_setOrders_8 rfl (lv_at hl 0 rfl) ?_
  refine lv_bipush (v := (48)) hx hb dX3_setOrders_9 (by decide) ?_
  refine lv_iload_n hx hb dX3_setOrders_11 rfl (lv_at hl 2 rfl) ?_
  refine lv_ishl hx hb dX3_setOrders_12 ?_
  refine pf_X3_44 F hP hS ho dX3_setOrders_13 (fun H locs hP hS => ?_)
  obtain ⟨σ2, eσ2, hf⟩ := vl_x hf
  rw [← eσ2] at hP
  refine lv_aload_n hx hb dX3_setOrders_16 rfl (lv_at hl 0 rfl) ?_
  refine lv_iconst (v := 3) hx hb dX3_setOrders_17 (by decide) ?_
  refine lv_iload_n hx hb dX3_setOrders_18 rfl (lv_at hl 2 rfl) ?_
  refine lv_ishl hx hb dX3_setOrders_19 ?_
  refine pf_X3_47 F hP hS ho dX3_setOrders_20 (fun H locs hP hS => ?_)
  obtain ⟨σ3, eσ3, hf⟩ := vl_x hf
  rw [← eσ3] at hP
  refine lv_aload_n hx hb dX3_setOrders_23 rfl (lv_at hl 0 rfl) ?_
  refine lv_iload_n hx hb dX3_setOrders_24 rfl (lv_at hl 3 rfl) ?_
  refine pf_X3_50 F hP hS ho dX3_setOrders_25 (fun H locs hP hS => ?_)
  obtain ⟨σ4, eσ4, hf⟩ := vl_x hf
  rw [← eσ4] at hP
  exact g_vret B hP hS hf dX3_setOrders_28
theorem c_X3_setOrders (l : Launch) {E : cEv} (hI : gIj (cG E)) {o : Nat} (ho : o = 8 ∨ o = 14) {p1 : Int32} {p2 : Int32} {p3 : Int32} {σ σ' : St} {u : Unit} (hf : f_X3_setOrders o p1 p2 p3 σ = some (u, σ')) : gMv l yX3_setOrders cX3_setOrders 4 rm_X3_setOrders [.ref (cAd E o), .int p1, .int p2, .int p3] (cG E) σ σ' :=
  g_entry (by decide) (Nat.le_of_ble_eq_true rfl) hI (fun p e s m args below meth c B hP hS ls hl => w_X3_setOrders_e ho B _ _ _ σ hf _ _ ls hP hS hl)
/-! PromisedSlots$Layout.startAt(I)I -/
def f_X3_startAt (o : Nat) (p1 : Int32) (σ : St) : Option (Int32 × St) :=
  if p1 < 0 then
    some ((0 : Int32), σ)
  else
    if (σ o 5) ≤ p1 then
      some ((0 : Int32), σ)
    else
      if (nI 4) ≤ p1 then
        some ((0 : Int32), σ)
      else
        gd (ix p1 4) <|
        some ((σ (o + 2) (nt p1)), σ)
abbrev rm_X3_startAt : Room := { frames := 0, cells := 0, slots := 0, locals := 0 }
set_option maxHeartbeats 4000000 in
set_option maxRecDepth 100000 in
theorem w_X3_startAt_e {p : Program} {l : Launch} {e : Env} {s : State} {m : MethodId} {args : Array Value} {below : List Frame} {meth : Method} {c : Code} {E : cEv} {r : Int32} {σ' : St} {o : Nat} (ho : o = 8 ∨ o = 14) (B : gBx p m meth c cX3_startAt 2 (some .int) s args RX3 (cG E)) (p1 : Int32) (σ : St) (hf : f_X3_startAt o p1 σ = some (r, σ')) (H : Heap) (locs : List Loc) (ls : Array Slot) (hP : gW (cG E) σ H) (hS : va_S (gA (cG E)) s.heap H locs) (hl : lv_has ls 2 [(0, .ref (cAd E o)), (1, .int p1)]) : W p l e rm_X3_startAt s m args below meth c H locs 0 0 (gQi below args s (cG E) r σ') (F0 m 0 ls []) := by
  unfold f_X3_startAt at hf
  obtain ⟨F, hr, hlk⟩ := id B
  have hx := F.1
  have hb := F.2.1
  have hml := F.2.2.1
  have hown := F.2.2.2.1
  have hts := F.2.2.2.2.1
  refine lv_iload_n hx hb dX3_startAt_0 rfl (lv_at hl 1 rfl) ?_
  refine lv_if_lt (tgt := 30) hx hb dX3_startAt_1 (by decide) (fun h1 => ?_) (fun h1 => ?_)
  · rw [if_pos h1] at hf
    refine lv_iconst (v := 0) hx hb dX3_startAt_30 (by decide) ?_
    exact g_iret B hP hS hf dX3_startAt_31
  · rw [if_neg h1] at hf
    refine lv_iload_n hx hb dX3_startAt_4 rfl (lv_at hl 1 rfl) ?_
    refine lv_aload_n hx hb dX3_startAt_5 rfl (lv_at hl 0 rfl) ?_
    refine gf_X3_34 F hP ho dX3_startAt_6 ?_
    refine lv_icmp_ge (tgt := 30) hx hb dX3_startAt_9 (by decide) (fun h2 => ?_) (fun h2 => ?_)
    · rw [if_pos h2] at hf
      refine lv_iconst (v := 0) hx hb dX3_startAt_30 (by decide) ?_
      exact g_iret B hP hS hf dX3_startAt_31
    · rw [if_neg h2] at hf
      refine lv_iload_n hx hb dX3_startAt_12 rfl (lv_at hl 1 rfl) ?_
      refine lv_aload_n hx hb dX3_startAt_13 rfl (lv_at hl 0 rfl) ?_
      refine gf_X3_15 F hP ho dX3_startAt_14 ?_
      refine c_alen F hP (ca_l ho (by decide) (by decide)) (cn_l2 ho) dX3_startAt_17 ?_
      refine lv_icmp_ge (tgt := 30) hx hb dX3_startAt_18 (by decide) (fun h3 => ?_) (fun h3 => ?_)
      · rw [if_pos h3] at hf
        refine lv_iconst (v := 0) hx hb dX3_startAt_30 (by decide) ?_
        exact g_iret B hP hS hf dX3_startAt_31
      · rw [if_neg h3] at hf
        refine lv_aload_n hx hb dX3_startAt_21 rfl (lv_at hl 0 rfl) ?_
        refine gf_X3_15 F hP ho dX3_startAt_22 ?_
        refine lv_iload_n hx hb dX3_startAt_25 rfl (lv_at hl 1 rfl) ?_
        obtain ⟨h4, hf⟩ := gd_e hf
        refine c_iald F hP (ca_l ho (by decide) (by decide)) (cn_l2 ho) h4 dX3_startAt_26 ?_
        refine lv_goto (tgt := 31) hx hb dX3_startAt_27 (by decide) ?_
        exact g_iret B hP hS hf dX3_startAt_31
theorem c_X3_startAt (l : Launch) {E : cEv} (hI : gIj (cG E)) {o : Nat} (ho : o = 8 ∨ o = 14) {p1 : Int32} {σ σ' : St} {r : Int32} (hf : f_X3_startAt o p1 σ = some (r, σ')) : gMi l yX3_startAt cX3_startAt 2 .int rm_X3_startAt [.ref (cAd E o), .int p1] (cG E) σ r σ' :=
  g_entry (by decide) (Nat.le_of_ble_eq_true rfl) hI (fun p e s m args below meth c B hP hS ls hl => w_X3_startAt_e ho B _ σ hf _ _ ls hP hS hl)
section SA
variable {p : Program} {l : Launch} {e : Env} {R : Room} {s : State} {m : MethodId} {args : Array Value} {below : List Frame} {meth : Method} {c : Code} {H : Heap} {locs : List Loc} {cells slots : Nat} {Q : State → Prop}
variable {cc : ByteArray} {pc nL : Nat} {ls : Array Slot} {rest : List Value} {E : cEv} {σ : St}
theorem kc_X3_53 (F : gFx p m c cc nL s args RX3 (cG E)) (hP : gW (cG E) σ H) (hS : va_S (gA (cG E)) s.heap H locs) {o : Nat} (ho : o = 8 ∨ o = 14) {p1 : Int32} {r : Int32} {σ' : St} (hf : f_X3_startAt o p1 σ = some (r, σ')) (hR : rm_X3_startAt.frames + 1 ≤ R.frames ∧ 8 + (2 + 11) + rm_X3_startAt.locals ≤ R.locals) (hsz : ls.size = nL) (hrest : (rest.map fun v => v.category).sum ≤ 8) (hcs : cells ≤ R.cells ∧ slots ≤ R.slots) (hdg : decode cc pc = .ok (.invokevirtual 53, 3)) (kk : ∀ (H1 : Heap) (locs1 : List Loc), gW (cG E) σ' H1 → va_S (gA (cG E)) s.heap H1 locs1 → W p l e R s m args below meth c H1 locs1 cells slots Q (F0 m (pc + 3) ls (.int r :: rest))) : W p l e R s m args below meth c H locs cells slots Q (F0 m pc ls (.int p1 :: .ref (cAd E o) :: rest)) :=
  g_callVi F hP hS (c_X3_startAt l F.2.2.2.2.2.2.2 ho hf) (g_cwV (n := 1) F tw_373 tw_374 tw_375 tw_5 tw_376 (by decide +kernel) rfl rfl hR) (k := o) (cin (by omega)) (ce_3 E _ ho) rfl (As := [.int p1]) rfl hsz rfl hrest hdg hcs kk
theorem gf_X3_41 (F : gFx p m c cc nL s args RX3 (cG E)) (hP : gW (cG E) σ H) {o : Nat} (ho : o = 8 ∨ o = 14) (hdg : decode cc pc = .ok (.getfield 41, 3)) (kk : W p l e R s m args below meth c H locs cells slots Q (F0 m (pc + 3) ls (.int (σ o 0) :: rest))) : W p l e R s m args below meth c H locs cells slots Q (F0 m pc ls (.ref (cAd E o) :: rest)) :=
  g_get F hP (k := o) (cin (by omega)) (ce_3 E _ ho) rfl inX3 0 (by decide) tw_70 rfl rfl hdg kk
end SA
/-! PromisedSlots$Layout.startBehind(II)I -/
def f_X3_startBehind (o : Nat) (p1 : Int32) (p2 : Int32) (σ : St) : Option (Int32 × St) :=
  cl (f_X3_startAt o p1 σ) fun r2 σ1 =>
  vl (r2 + p2) fun x4 =>
  if x4 < (σ1 o 0) then
    some (x4, σ1)
  else
    some ((x4 - (σ1 o 0)), σ1)
abbrev rm_X3_startBehind : Room := { frames := 1, cells := 0, slots := 0, locals := 21 }
set_option maxHeartbeats 4000000 in
set_option maxRecDepth 100000 in
theorem w_X3_startBehind_e {p : Program} {l : Launch} {e : Env} {s : State} {m : MethodId} {args : Array Value} {below : List Frame} {meth : Method} {c : Code} {E : cEv} {r : Int32} {σ' : St} {o : Nat} (ho : o = 8 ∨ o = 14) (B : gBx p m meth c cX3_startBehind 4 (some .int) s args RX3 (cG E)) (p1 : Int32) (p2 : Int32) (σ : St) (hf : f_X3_startBehind o p1 p2 σ = some (r, σ')) (H : Heap) (locs : List Loc) (ls : Array Slot) (hP : gW (cG E) σ H) (hS : va_S (gA (cG E)) s.heap H locs) (hl : lv_has ls 4 [(0, .ref (cAd E o)), (1, .int p1), (2, .int p2)]) : W p l e rm_X3_startBehind s m args below meth c H locs 0 0 (gQi below args s (cG E) r σ') (F0 m 0 ls []) := by
  unfold f_X3_startBehind at hf
  obtain ⟨F, hr, hlk⟩ := id B
  have hx := F.1
  have hb := F.2.1
  have hml := F.2.2.1
  have hown := F.2.2.2.1
  have hts := F.2.2.2.2.1
  refine lv_aload_n hx hb dX3_startBehind_0 rfl (lv_at hl 0 rfl) ?_
  refine lv_iload_n hx hb dX3_startBehind_1 rfl (lv_at hl 1 rfl) ?_
  obtain ⟨r2, σ1, h3, hf⟩ := cl_e hf
  refine kc_X3_53 F hP hS ho h3 ⟨Nat.le_of_ble_eq_true rfl, Nat.le_of_ble_eq_true rfl⟩ hl.1 (Nat.le_of_ble_eq_true rfl) ⟨Nat.zero_le _, Nat.zero_le _⟩ dX3_startBehind_2 (fun H locs hP hS => ?_)
  refine lv_iload_n hx hb dX3_startBehind_5 rfl (lv_at hl 2 rfl) ?_
  refine lv_iadd hx hb dX3_startBehind_6 ?_
  obtain ⟨x4, ex4, hf⟩ := vl_x hf
  rw [← ex4]
  refine lv_istore_n (lv' := [(3, .int x4), (0, .ref (cAd E o)), (1, .int p1), (2, .int p2)]) hx hb dX3_startBehind_7 rfl hl (by decide) rfl (fun ls hl => ?_)
  refine lv_iload_n hx hb dX3_startBehind_8 rfl (lv_at hl 0 rfl) ?_
  refine lv_aload_n hx hb dX3_startBehind_9 rfl (lv_at hl 1 rfl) ?_
  refine gf_X3_41 F hP ho dX3_startBehind_10 ?_
  refine lv_icmp_lt (tgt := 25) hx hb dX3_startBehind_13 (by decide) (fun h5 => ?_) (fun h5 => ?_)
  · rw [if_pos h5] at hf
    refine lv_iload_n hx hb dX3_startBehind_25 rfl (lv_at hl 0 rfl) ?_
    exact g_iret B hP hS hf dX3_startBehind_26
  · rw [if_neg h5] at hf
    refine lv_iload_n hx hb dX3_startBehind_16 rfl (lv_at hl 0 rfl) ?_
    refine lv_aload_n hx hb dX3_startBehind_17 rfl (lv_at hl 1 rfl) ?_
    refine gf_X3_41 F hP ho dX3_startBehind_18 ?_
    refine lv_isub hx hb dX3_startBehind_21 ?_
    refine lv_goto (tgt := 26) hx hb dX3_startBehind_22 (by decide) ?_
    exact g_iret B hP hS hf dX3_startBehind_26
theorem c_X3_startBehind (l : Launch) {E : cEv} (hI : gIj (cG E)) {o : Nat} (ho : o = 8 ∨ o = 14) {p1 : Int32} {p2 : Int32} {σ σ' : St} {r : Int32} (hf : f_X3_startBehind o p1 p2 σ = some (r, σ')) : gMi l yX3_startBehind cX3_startBehind 4 .int rm_X3_startBehind [.ref (cAd E o), .int p1, .int p2] (cG E) σ r σ' :=
  g_entry (by decide) (Nat.le_of_ble_eq_true rfl) hI (fun p e s m args below meth c B hP hS ls hl => w_X3_startBehind_e ho B _ _ σ hf _ _ ls hP hS hl)
section SA
variable {p : Program} {l : Launch} {e : Env} {R : Room} {s : State} {m : MethodId} {args : Array Value} {below : List Frame} {meth : Method} {c : Code} {H : Heap} {locs : List Loc} {cells slots : Nat} {Q : State → Prop}
variable {cc : ByteArray} {pc nL : Nat} {ls : Array Slot} {rest : List Value} {E : cEv} {σ : St}
theorem gf_X3_44 (F : gFx p m c cc nL s args RX3 (cG E)) (hP : gW (cG E) σ H) {o : Nat} (ho : o = 8 ∨ o = 14) (hdg : decode cc pc = .ok (.getfield 44, 3)) (kk : W p l e R s m args below meth c H locs cells slots Q (F0 m (pc + 3) ls (.int (σ o 1) :: rest))) : W p l e R s m args below meth c H locs cells slots Q (F0 m pc ls (.ref (cAd E o) :: rest)) :=
  g_get F hP (k := o) (cin (by omega)) (ce_3 E _ ho) rfl inX3 1 (by decide) tw_73 rfl rfl hdg kk
end SA
/-! PromisedSlots$Layout.clashOf(I)I -/
def b_X3_clashOf_2 (o : Nat) (K2 : (Int32 × Int32 × St → Option (Int32 × St))) (a1 : Int32) (a2 : Int32) (σ : St) : Option (Int32 × St) :=
  if (σ o 5) ≤ a2 then
    some ((-4 : Int32), σ)
  else
    if (nI 4) ≤ a2 then
      some ((-4 : Int32), σ)
    else
      gd (ix a2 4) <|
      vl (if 0 ≤ (a1 - (σ (o + 2) (nt a2))) then (a1 - (σ (o + 2) (nt a2))) else 0 - (a1 - (σ (o + 2) (nt a2)))) fun x4 =>
      if x4 < (σ o 1) then
        some (a2, σ)
      else
        if (σ o 1) ≤ ((σ o 0) - x4) then
          vl (a2 + (1 : Int32)) fun x7 =>
          K2 (a1, x7, σ)
        else
          some (a2, σ)
def f_X3_clashOf (o : Nat) (p1 : Int32) (σ : St) : Option (Int32 × St) :=
  lp (fun K a => b_X3_clashOf_2 o K a.1 a.2.1 a.2.2) FU (p1, (0 : Int32), σ)
abbrev rm_X3_clashOf : Room := { frames := 1, cells := 0, slots := 0, locals := 21 }
def P_X3_clashOf_2 (p : Program) (l : Launch) (e : Env) (s : State) (m : MethodId) (args : Array Value) (below : List Frame) (meth : Method) (c : Code) (E : cEv) (r : Int32) (σ' : St) (o : Nat) (a : Int32 × Int32 × St) : Prop := ∀ (H : Heap) (locs : List Loc) (ls : Array Slot), gW (cG E) a.2.2 H → va_S (gA (cG E)) s.heap H locs → lv_has ls 4 [(0, .ref (cAd E o)), (1, .int a.1), (2, .int a.2.1)] → W p l e rm_X3_clashOf s m args below meth c H locs 0 0 (gQi below args s (cG E) r σ') (F0 m 2 ls [])
set_option maxHeartbeats 4000000 in
set_option maxRecDepth 100000 in
theorem w_X3_clashOf_2 {p : Program} {l : Launch} {e : Env} {s : State} {m : MethodId} {args : Array Value} {below : List Frame} {meth : Method} {c : Code} {E : cEv} {r : Int32} {σ' : St} {o : Nat} (ho : o = 8 ∨ o = 14) (B : gBx p m meth c cX3_clashOf 4 (some .int) s args RX3 (cG E)) {K2 : (Int32 × Int32 × St → Option (Int32 × St))} (hK2 : ∀ a, K2 a = some (r, σ') → P_X3_clashOf_2 p l e s m args below meth c E r σ' o a) (a1 : Int32) (a2 : Int32) (σ : St) (hf : b_X3_clashOf_2 o K2 a1 a2 σ = some (r, σ')) (H : Heap) (locs : List Loc) (ls : Array Slot) (hP : gW (cG E) σ H) (hS : va_S (gA (cG E)) s.heap H locs) (hl : lv_has ls 4 [(0, .ref (cAd E o)), (1, .int a1), (2, .int a2)]) : W p l e rm_X3_clashOf s m args below meth c H locs 0 0 (gQi below args s (cG E) r σ') (F0 m 2 ls []) := by
  unfold b_X3_clashOf_2 at hf
  obtain ⟨F, hr, hlk⟩ := id B
  have hx := F.1
  have hb := F.2.1
  have hml := F.2.2.1
  have hown := F.2.2.2.1
  have hts := F.2.2.2.2.1
  refine lv_iload_n hx hb dX3_clashOf_2 rfl (lv_at hl 2 rfl) ?_
  refine lv_aload_n hx hb dX3_clashOf_3 rfl (lv_at hl 0 rfl) ?_
  refine gf_X3_34 F hP ho dX3_clashOf_4 ?_
  refine lv_icmp_ge (tgt := 60) hx hb dX3_clashOf_7 (by decide) (fun h1 => ?_) (fun h1 => ?_)
  · rw [if_pos h1] at hf
    refine lv_bipush (v := (-4)) hx hb dX3_clashOf_60 (by decide) ?_
    exact g_iret B hP hS hf dX3_clashOf_62
  · rw [if_neg h1] at hf
    refine lv_iload_n hx hb dX3_clashOf_10 rfl (lv_at hl 2 rfl) ?_
    refine lv_aload_n hx hb dX3_clashOf_11 rfl (lv_at hl 0 rfl) ?_
    refine gf_X3_15 F hP ho dX3_clashOf_12 ?_
    refine c_alen F hP (ca_l ho (by decide) (by decide)) (cn_l2 ho) dX3_clashOf_15 ?_
    refine lv_icmp_ge (tgt := 60) hx hb dX3_clashOf_16 (by decide) (fun h2 => ?_) (fun h2 => ?_)
    · rw [if_pos h2] at hf
      refine lv_bipush (v := (-4)) hx hb dX3_clashOf_60 (by decide) ?_
      exact g_iret B hP hS hf dX3_clashOf_62
    · rw [if_neg h2] at hf
      refine lv_iload_n hx hb dX3_clashOf_19 rfl (lv_at hl 1 rfl) ?_
      refine lv_aload_n hx hb dX3_clashOf_20 rfl (lv_at hl 0 rfl) ?_
      refine gf_X3_15 F hP ho dX3_clashOf_21 ?_
      refine lv_iload_n hx hb dX3_clashOf_24 rfl (lv_at hl 2 rfl) ?_
      obtain ⟨h3, hf⟩ := gd_e hf
      refine c_iald F hP (ca_l ho (by decide) (by decide)) (cn_l2 ho) h3 dX3_clashOf_25 ?_
      refine lv_isub hx hb dX3_clashOf_26 ?_
      refine va_mabs hx hb (hml.trans hl.1.symm) hown (hts _ tw_381) (hts _ tw_382) (hts _ tw_3) (hts _ tw_383) (Nat.le_of_ble_eq_true rfl) (Nat.le_of_ble_eq_true rfl) (Nat.zero_le _) (Nat.zero_le _) dX3_clashOf_27 ?_
      obtain ⟨x4, ex4, hf⟩ := vl_x hf
      rw [← ex4]
      refine lv_istore_n (lv' := [(3, .int x4), (0, .ref (cAd E o)), (1, .int a1), (2, .int a2)]) hx hb dX3_clashOf_30 rfl hl (by decide) rfl (fun ls hl => ?_)
      refine lv_iload_n hx hb dX3_clashOf_31 rfl (lv_at hl 0 rfl) ?_
      refine lv_aload_n hx hb dX3_clashOf_32 rfl (lv_at hl 1 rfl) ?_
      refine gf_X3_44 F hP ho dX3_clashOf_33 ?_
      refine lv_icmp_lt (tgt := 52) hx hb dX3_clashOf_36 (by decide) (fun h5 => ?_) (fun h5 => ?_)
      · rw [if_pos h5] at hf
        refine lv_iload_n hx hb dX3_clashOf_52 rfl (lv_at hl 3 rfl) ?_
        exact g_iret B hP hS hf dX3_clashOf_53
      · rw [if_neg h5] at hf
        refine lv_aload_n hx hb dX3_clashOf_39 rfl (lv_at hl 1 rfl) ?_
        refine gf_X3_41 F hP ho dX3_clashOf_40 ?_
        refine lv_iload_n hx hb dX3_clashOf_43 rfl (lv_at hl 0 rfl) ?_
        refine lv_isub hx hb dX3_clashOf_44 ?_
        refine lv_aload_n hx hb dX3_clashOf_45 rfl (lv_at hl 1 rfl) ?_
        refine gf_X3_44 F hP ho dX3_clashOf_46 ?_
        refine lv_icmp_ge (tgt := 54) hx hb dX3_clashOf_49 (by decide) (fun h6 => ?_) (fun h6 => ?_)
        · rw [if_pos h6] at hf
          refine lv_iinc (v := a2 + (1 : Int32)) (lv' := [(2, .int (a2 + (1 : Int32))), (3, .int x4), (0, .ref (cAd E o)), (1, .int a1)]) hx hb dX3_clashOf_54 hl (k := 3) rfl rfl (by decide) rfl (fun ls hl => ?_)
          obtain ⟨x7, ex7, hf⟩ := vl_x hf
          rw [← ex7] at hl
          refine lv_goto (tgt := 2) hx hb dX3_clashOf_57 (by decide) ?_
          exact hK2 _ hf _ _ _ hP hS (lv_sub hl [2, 3, 0] rfl)
        · rw [if_neg h6] at hf
          refine lv_iload_n hx hb dX3_clashOf_52 rfl (lv_at hl 3 rfl) ?_
          exact g_iret B hP hS hf dX3_clashOf_53
set_option maxHeartbeats 4000000 in
set_option maxRecDepth 100000 in
theorem w_X3_clashOf_e {p : Program} {l : Launch} {e : Env} {s : State} {m : MethodId} {args : Array Value} {below : List Frame} {meth : Method} {c : Code} {E : cEv} {r : Int32} {σ' : St} {o : Nat} (ho : o = 8 ∨ o = 14) (B : gBx p m meth c cX3_clashOf 4 (some .int) s args RX3 (cG E)) (p1 : Int32) (σ : St) (hf : f_X3_clashOf o p1 σ = some (r, σ')) (H : Heap) (locs : List Loc) (ls : Array Slot) (hP : gW (cG E) σ H) (hS : va_S (gA (cG E)) s.heap H locs) (hl : lv_has ls 4 [(0, .ref (cAd E o)), (1, .int p1)]) : W p l e rm_X3_clashOf s m args below meth c H locs 0 0 (gQi below args s (cG E) r σ') (F0 m 0 ls []) := by
  unfold f_X3_clashOf at hf
  obtain ⟨F, hr, hlk⟩ := id B
  have hx := F.1
  have hb := F.2.1
  have hml := F.2.2.1
  have hown := F.2.2.2.1
  have hts := F.2.2.2.2.1
  refine lv_iconst (v := 0) hx hb dX3_clashOf_0 (by decide) ?_
  refine lv_istore_n (lv' := [(2, .int (0 : Int32)), (0, .ref (cAd E o)), (1, .int p1)]) hx hb dX3_clashOf_1 rfl hl (by decide) rfl (fun ls hl => ?_)
  exact lp_w (P := P_X3_clashOf_2 p l e s m args below meth c E r σ' o) (fun K hK a ha => w_X3_clashOf_2 ho B hK a.1 a.2.1 a.2.2 ha) FU _ hf _ _ _ hP hS (lv_sub hl [1, 2, 0] rfl)
theorem c_X3_clashOf (l : Launch) {E : cEv} (hI : gIj (cG E)) {o : Nat} (ho : o = 8 ∨ o = 14) {p1 : Int32} {σ σ' : St} {r : Int32} (hf : f_X3_clashOf o p1 σ = some (r, σ')) : gMi l yX3_clashOf cX3_clashOf 4 .int rm_X3_clashOf [.ref (cAd E o), .int p1] (cG E) σ r σ' :=
  g_entry (by decide) (Nat.le_of_ble_eq_true rfl) hI (fun p e s m args below meth c B hP hS ls hl => w_X3_clashOf_e ho B _ σ hf _ _ ls hP hS hl)
section SA
variable {p : Program} {l : Launch} {e : Env} {R : Room} {s : State} {m : MethodId} {args : Array Value} {below : List Frame} {meth : Method} {c : Code} {H : Heap} {locs : List Loc} {cells slots : Nat} {Q : State → Prop}
variable {cc : ByteArray} {pc nL : Nat} {ls : Array Slot} {rest : List Value} {E : cEv} {σ : St}
theorem gf_X3_31 (F : gFx p m c cc nL s args RX3 (cG E)) (hP : gW (cG E) σ H) {o : Nat} (ho : o = 8 ∨ o = 14) (hdg : decode cc pc = .ok (.getfield 31, 3)) (kk : W p l e R s m args below meth c H locs cells slots Q (F0 m (pc + 3) ls (.int (σ o 6) :: rest))) : W p l e R s m args below meth c H locs cells slots Q (F0 m pc ls (.ref (cAd E o) :: rest)) :=
  g_get F hP (k := o) (cin (by omega)) (ce_3 E _ ho) rfl inX3 6 (by decide) tw_85 rfl rfl hdg kk
theorem gf_X3_18 (F : gFx p m c cc nL s args RX3 (cG E)) (hP : gW (cG E) σ H) {o : Nat} (ho : o = 8 ∨ o = 14) (hdg : decode cc pc = .ok (.getfield 18, 3)) (kk : W p l e R s m args below meth c H locs cells slots Q (F0 m (pc + 3) ls (.ref (cAd E (o + 3)) :: rest))) : W p l e R s m args below meth c H locs cells slots Q (F0 m pc ls (.ref (cAd E o) :: rest)) :=
  g_get F hP (k := o) (cin (by omega)) (ce_3 E _ ho) rfl inX3 9 (by decide) tw_90 rfl rfl hdg kk
theorem gf_X3_21 (F : gFx p m c cc nL s args RX3 (cG E)) (hP : gW (cG E) σ H) {o : Nat} (ho : o = 8 ∨ o = 14) (hdg : decode cc pc = .ok (.getfield 21, 3)) (kk : W p l e R s m args below meth c H locs cells slots Q (F0 m (pc + 3) ls (.ref (cAd E (o + 4)) :: rest))) : W p l e R s m args below meth c H locs cells slots Q (F0 m pc ls (.ref (cAd E o) :: rest)) :=
  g_get F hP (k := o) (cin (by omega)) (ce_3 E _ ho) rfl inX3 10 (by decide) tw_91 rfl rfl hdg kk
theorem gf_X3_24 (F : gFx p m c cc nL s args RX3 (cG E)) (hP : gW (cG E) σ H) {o : Nat} (ho : o = 8 ∨ o = 14) (hdg : decode cc pc = .ok (.getfield 24, 3)) (kk : W p l e R s m args below meth c H locs cells slots Q (F0 m (pc + 3) ls (.ref (cAd E (o + 5)) :: rest))) : W p l e R s m args below meth c H locs cells slots Q (F0 m pc ls (.ref (cAd E o) :: rest)) :=
  g_get F hP (k := o) (cin (by omega)) (ce_3 E _ ho) rfl inX3 11 (by decide) tw_92 rfl rfl hdg kk
end SA
/-! PromisedSlots$Layout.addDevice(III)V -/
def f_X3_addDevice (o : Nat) (p1 : Int32) (p2 : Int32) (p3 : Int32) (σ : St) : Option (Unit × St) :=
  vl (σ o 6) fun x1 =>
  if x1 < 0 then
    some ((), σ)
  else
    if (8 : Int32) ≤ x1 then
      some ((), σ)
    else
      gd (ix x1 8) <|
      vl (up2 σ (o + 3) (nt x1) p1) fun σ5 =>
      gd (ix x1 8) <|
      vl (up2 σ5 (o + 4) (nt x1) p2) fun σ7 =>
      gd (ix x1 8) <|
      vl (up2 σ7 (o + 5) (nt x1) p3) fun σ9 =>
      vl (up2 σ9 o 6 ((σ9 o 6) + (1 : Int32))) fun σ10 =>
      some ((), σ10)
abbrev rm_X3_addDevice : Room := { frames := 0, cells := 0, slots := 0, locals := 0 }
set_option maxHeartbeats 4000000 in
set_option maxRecDepth 100000 in
theorem w_X3_addDevice_e {p : Program} {l : Launch} {e : Env} {s : State} {m : MethodId} {args : Array Value} {below : List Frame} {meth : Method} {c : Code} {E : cEv} {u : Unit} {σ' : St} {o : Nat} (ho : o = 8 ∨ o = 14) (B : gBx p m meth c cX3_addDevice 5 none s args RX3 (cG E)) (p1 : Int32) (p2 : Int32) (p3 : Int32) (σ : St) (hf : f_X3_addDevice o p1 p2 p3 σ = some (u, σ')) (H : Heap) (locs : List Loc) (ls : Array Slot) (hP : gW (cG E) σ H) (hS : va_S (gA (cG E)) s.heap H locs) (hl : lv_has ls 5 [(0, .ref (cAd E o)), (1, .int p1), (2, .int p2), (3, .int p3)]) : W p l e rm_X3_addDevice s m args below meth c H locs 0 0 (gQv below args s (cG E) σ') (F0 m 0 ls []) := by
  unfold f_X3_addDevice at hf
  obtain ⟨F, hr, hlk⟩ := id B
  have hx := F.1
  have hb := F.2.1
  have hml := F.2.2.1
  have hown := F.2.2.2.1
  have hts := F.2.2.2.2.1
  refine lv_aload_n hx hb dX3_addDevice_0 rfl (lv_at hl 0 rfl) ?_
  refine gf_X3_31 F hP ho dX3_addDevice_1 ?_
  obtain ⟨x1, ex1, hf⟩ := vl_x hf
  rw [← ex1]
  refine lv_istore (lv' := [(4, .int x1), (0, .ref (cAd E o)), (1, .int p1), (2, .int p2), (3, .int p3)]) hx hb dX3_addDevice_4 hl (by decide) rfl (fun ls hl => ?_)
  refine lv_iload hx hb dX3_addDevice_6 (lv_at hl 0 rfl) ?_
  refine lv_if_lt (tgt := 52) hx hb dX3_addDevice_8 (by decide) (fun h2 => ?_) (fun h2 => ?_)
  · rw [if_pos h2] at hf
    exact g_vret B hP hS hf dX3_addDevice_52
  · rw [if_neg h2] at hf
    refine lv_iload hx hb dX3_addDevice_11 (lv_at hl 0 rfl) ?_
    refine lv_bipush (v := (8)) hx hb dX3_addDevice_13 (by decide) ?_
    refine lv_icmp_ge (tgt := 52) hx hb dX3_addDevice_15 (by decide) (fun h3 => ?_) (fun h3 => ?_)
    · rw [if_pos h3] at hf
      exact g_vret B hP hS hf dX3_addDevice_52
    · rw [if_neg h3] at hf
      refine lv_aload_n hx hb dX3_addDevice_18 rfl (lv_at hl 1 rfl) ?_
      refine gf_X3_18 F hP ho dX3_addDevice_19 ?_
      refine lv_iload hx hb dX3_addDevice_22 (lv_at hl 0 rfl) ?_
      refine lv_iload_n hx hb dX3_addDevice_24 rfl (lv_at hl 2 rfl) ?_
      obtain ⟨h4, hf⟩ := gd_e hf
      refine c_iast F hP hS (ca_l ho (by decide) (by decide)) (cn_l3 ho) h4 dX3_addDevice_25 (fun H locs hP hS => ?_)
      obtain ⟨σ5, eσ5, hf⟩ := vl_x hf
      rw [← eσ5] at hP
      refine lv_aload_n hx hb dX3_addDevice_26 rfl (lv_at hl 1 rfl) ?_
      refine gf_X3_21 F hP ho dX3_addDevice_27 ?_
      refine lv_iload hx hb dX3_addDevice_30 (lv_at hl 0 rfl) ?_
      refine lv_iload_n hx hb dX3_addDevice_32 rfl (lv_at hl 3 rfl) ?_
      obtain ⟨h6, hf⟩ := gd_e hf
      refine c_iast F hP hS (ca_l ho (by decide) (by decide)) (cn_l4 ho) h6 dX3_addDevice_33 (fun H locs hP hS => ?_)
      obtain ⟨σ7, eσ7, hf⟩ := vl_x hf
      rw [← eσ7] at hP
      refine lv_aload_n hx hb dX3_addDevice_34 rfl (lv_at hl 1 rfl) ?_
      refine gf_X3_24 F hP ho dX3_addDevice_35 ?_
      refine lv_iload hx hb dX3_addDevice_38 (lv_at hl 0 rfl) ?_
      refine lv_iload_n hx hb dX3_addDevice_40 rfl (lv_at hl 4 rfl) ?_
      obtain ⟨h8, hf⟩ := gd_e hf
      refine c_iast F hP hS (ca_l ho (by decide) (by decide)) (cn_l5 ho) h8 dX3_addDevice_41 (fun H locs hP hS => ?_)
      obtain ⟨σ9, eσ9, hf⟩ := vl_x hf
      rw [← eσ9] at hP
      refine lv_aload_n hx hb dX3_addDevice_42 rfl (lv_at hl 1 rfl) ?_
      refine lv_dup hx hb dX3_addDevice_43 rfl ?_
      refine gf_X3_31 F hP ho dX3_addDevice_44 ?_
      refine lv_iconst (v := 1) hx hb dX3_addDevice_47 (by decide) ?_
      refine lv_iadd hx hb dX3_addDevice_48 ?_
      refine pf_X3_31 F hP hS ho dX3_addDevice_49 (fun H locs hP hS => ?_)
      obtain ⟨σ10, eσ10, hf⟩ := vl_x hf
      rw [← eσ10] at hP
      exact g_vret B hP hS hf dX3_addDevice_52
theorem c_X3_addDevice (l : Launch) {E : cEv} (hI : gIj (cG E)) {o : Nat} (ho : o = 8 ∨ o = 14) {p1 : Int32} {p2 : Int32} {p3 : Int32} {σ σ' : St} {u : Unit} (hf : f_X3_addDevice o p1 p2 p3 σ = some (u, σ')) : gMv l yX3_addDevice cX3_addDevice 5 rm_X3_addDevice [.ref (cAd E o), .int p1, .int p2, .int p3] (cG E) σ σ' :=
  g_entry (by decide) (Nat.le_of_ble_eq_true rfl) hI (fun p e s m args below meth c B hP hS ls hl => w_X3_addDevice_e ho B _ _ _ σ hf _ _ ls hP hS hl)
/-! PromisedSlots$Layout.parentAt(I)I -/
def f_X3_parentAt (o : Nat) (p1 : Int32) (σ : St) : Option (Int32 × St) :=
  if p1 < 0 then
    some ((-4 : Int32), σ)
  else
    if (σ o 5) ≤ p1 then
      some ((-4 : Int32), σ)
    else
      if (nI 4) ≤ p1 then
        some ((-4 : Int32), σ)
      else
        gd (ix p1 4) <|
        some ((σ (o + 1) (nt p1)), σ)
abbrev rm_X3_parentAt : Room := { frames := 0, cells := 0, slots := 0, locals := 0 }
set_option maxHeartbeats 4000000 in
set_option maxRecDepth 100000 in
theorem w_X3_parentAt_e {p : Program} {l : Launch} {e : Env} {s : State} {m : MethodId} {args : Array Value} {below : List Frame} {meth : Method} {c : Code} {E : cEv} {r : Int32} {σ' : St} {o : Nat} (ho : o = 8 ∨ o = 14) (B : gBx p m meth c cX3_parentAt 2 (some .int) s args RX3 (cG E)) (p1 : Int32) (σ : St) (hf : f_X3_parentAt o p1 σ = some (r, σ')) (H : Heap) (locs : List Loc) (ls : Array Slot) (hP : gW (cG E) σ H) (hS : va_S (gA (cG E)) s.heap H locs) (hl : lv_has ls 2 [(0, .ref (cAd E o)), (1, .int p1)]) : W p l e rm_X3_parentAt s m args below meth c H locs 0 0 (gQi below args s (cG E) r σ') (F0 m 0 ls []) := by
  unfold f_X3_parentAt at hf
  obtain ⟨F, hr, hlk⟩ := id B
  have hx := F.1
  have hb := F.2.1
  have hml := F.2.2.1
  have hown := F.2.2.2.1
  have hts := F.2.2.2.2.1
  refine lv_iload_n hx hb dX3_parentAt_0 rfl (lv_at hl 1 rfl) ?_
  refine lv_if_lt (tgt := 30) hx hb dX3_parentAt_1 (by decide) (fun h1 => ?_) (fun h1 => ?_)
  · rw [if_pos h1] at hf
    refine lv_bipush (v := (-4)) hx hb dX3_parentAt_30 (by decide) ?_
    exact g_iret B hP hS hf dX3_parentAt_32
  · rw [if_neg h1] at hf
    refine lv_iload_n hx hb dX3_parentAt_4 rfl (lv_at hl 1 rfl) ?_
    refine lv_aload_n hx hb dX3_parentAt_5 rfl (lv_at hl 0 rfl) ?_
    refine gf_X3_34 F hP ho dX3_parentAt_6 ?_
    refine lv_icmp_ge (tgt := 30) hx hb dX3_parentAt_9 (by decide) (fun h2 => ?_) (fun h2 => ?_)
    · rw [if_pos h2] at hf
      refine lv_bipush (v := (-4)) hx hb dX3_parentAt_30 (by decide) ?_
      exact g_iret B hP hS hf dX3_parentAt_32
    · rw [if_neg h2] at hf
      refine lv_iload_n hx hb dX3_parentAt_12 rfl (lv_at hl 1 rfl) ?_
      refine lv_aload_n hx hb dX3_parentAt_13 rfl (lv_at hl 0 rfl) ?_
      refine gf_X3_9 F hP ho dX3_parentAt_14 ?_
      refine c_alen F hP (ca_l ho (by decide) (by decide)) (cn_l1 ho) dX3_parentAt_17 ?_
      refine lv_icmp_ge (tgt := 30) hx hb dX3_parentAt_18 (by decide) (fun h3 => ?_) (fun h3 => ?_)
      · rw [if_pos h3] at hf
        refine lv_bipush (v := (-4)) hx hb dX3_parentAt_30 (by decide) ?_
        exact g_iret B hP hS hf dX3_parentAt_32
      · rw [if_neg h3] at hf
        refine lv_aload_n hx hb dX3_parentAt_21 rfl (lv_at hl 0 rfl) ?_
        refine gf_X3_9 F hP ho dX3_parentAt_22 ?_
        refine lv_iload_n hx hb dX3_parentAt_25 rfl (lv_at hl 1 rfl) ?_
        obtain ⟨h4, hf⟩ := gd_e hf
        refine c_iald F hP (ca_l ho (by decide) (by decide)) (cn_l1 ho) h4 dX3_parentAt_26 ?_
        refine lv_goto (tgt := 32) hx hb dX3_parentAt_27 (by decide) ?_
        exact g_iret B hP hS hf dX3_parentAt_32
theorem c_X3_parentAt (l : Launch) {E : cEv} (hI : gIj (cG E)) {o : Nat} (ho : o = 8 ∨ o = 14) {p1 : Int32} {σ σ' : St} {r : Int32} (hf : f_X3_parentAt o p1 σ = some (r, σ')) : gMi l yX3_parentAt cX3_parentAt 2 .int rm_X3_parentAt [.ref (cAd E o), .int p1] (cG E) σ r σ' :=
  g_entry (by decide) (Nat.le_of_ble_eq_true rfl) hI (fun p e s m args below meth c B hP hS ls hl => w_X3_parentAt_e ho B _ σ hf _ _ ls hP hS hl)
/-! PromisedSlots$Layout.homeAt(I)I -/
def f_X3_homeAt (o : Nat) (p1 : Int32) (σ : St) : Option (Int32 × St) :=
  if p1 < 0 then
    some ((-4 : Int32), σ)
  else
    if (σ o 6) ≤ p1 then
      some ((-4 : Int32), σ)
    else
      if (nI 8) ≤ p1 then
        some ((-4 : Int32), σ)
      else
        gd (ix p1 8) <|
        some ((σ (o + 3) (nt p1)), σ)
abbrev rm_X3_homeAt : Room := { frames := 0, cells := 0, slots := 0, locals := 0 }
set_option maxHeartbeats 4000000 in
set_option maxRecDepth 100000 in
theorem w_X3_homeAt_e {p : Program} {l : Launch} {e : Env} {s : State} {m : MethodId} {args : Array Value} {below : List Frame} {meth : Method} {c : Code} {E : cEv} {r : Int32} {σ' : St} {o : Nat} (ho : o = 8 ∨ o = 14) (B : gBx p m meth c cX3_homeAt 2 (some .int) s args RX3 (cG E)) (p1 : Int32) (σ : St) (hf : f_X3_homeAt o p1 σ = some (r, σ')) (H : Heap) (locs : List Loc) (ls : Array Slot) (hP : gW (cG E) σ H) (hS : va_S (gA (cG E)) s.heap H locs) (hl : lv_has ls 2 [(0, .ref (cAd E o)), (1, .int p1)]) : W p l e rm_X3_homeAt s m args below meth c H locs 0 0 (gQi below args s (cG E) r σ') (F0 m 0 ls []) := by
  unfold f_X3_homeAt at hf
  obtain ⟨F, hr, hlk⟩ := id B
  have hx := F.1
  have hb := F.2.1
  have hml := F.2.2.1
  have hown := F.2.2.2.1
  have hts := F.2.2.2.2.1
  refine lv_iload_n hx hb dX3_homeAt_0 rfl (lv_at hl 1 rfl) ?_
  refine lv_if_lt (tgt := 30) hx hb dX3_homeAt_1 (by decide) (fun h1 => ?_) (fun h1 => ?_)
  · rw [if_pos h1] at hf
    refine lv_bipush (v := (-4)) hx hb dX3_homeAt_30 (by decide) ?_
    exact g_iret B hP hS hf dX3_homeAt_32
  · rw [if_neg h1] at hf
    refine lv_iload_n hx hb dX3_homeAt_4 rfl (lv_at hl 1 rfl) ?_
    refine lv_aload_n hx hb dX3_homeAt_5 rfl (lv_at hl 0 rfl) ?_
    refine gf_X3_31 F hP ho dX3_homeAt_6 ?_
    refine lv_icmp_ge (tgt := 30) hx hb dX3_homeAt_9 (by decide) (fun h2 => ?_) (fun h2 => ?_)
    · rw [if_pos h2] at hf
      refine lv_bipush (v := (-4)) hx hb dX3_homeAt_30 (by decide) ?_
      exact g_iret B hP hS hf dX3_homeAt_32
    · rw [if_neg h2] at hf
      refine lv_iload_n hx hb dX3_homeAt_12 rfl (lv_at hl 1 rfl) ?_
      refine lv_aload_n hx hb dX3_homeAt_13 rfl (lv_at hl 0 rfl) ?_
      refine gf_X3_18 F hP ho dX3_homeAt_14 ?_
      refine c_alen F hP (ca_l ho (by decide) (by decide)) (cn_l3 ho) dX3_homeAt_17 ?_
      refine lv_icmp_ge (tgt := 30) hx hb dX3_homeAt_18 (by decide) (fun h3 => ?_) (fun h3 => ?_)
      · rw [if_pos h3] at hf
        refine lv_bipush (v := (-4)) hx hb dX3_homeAt_30 (by decide) ?_
        exact g_iret B hP hS hf dX3_homeAt_32
      · rw [if_neg h3] at hf
        refine lv_aload_n hx hb dX3_homeAt_21 rfl (lv_at hl 0 rfl) ?_
        refine gf_X3_18 F hP ho dX3_homeAt_22 ?_
        refine lv_iload_n hx hb dX3_homeAt_25 rfl (lv_at hl 1 rfl) ?_
        obtain ⟨h4, hf⟩ := gd_e hf
        refine c_iald F hP (ca_l ho (by decide) (by decide)) (cn_l3 ho) h4 dX3_homeAt_26 ?_
        refine lv_goto (tgt := 32) hx hb dX3_homeAt_27 (by decide) ?_
        exact g_iret B hP hS hf dX3_homeAt_32
theorem c_X3_homeAt (l : Launch) {E : cEv} (hI : gIj (cG E)) {o : Nat} (ho : o = 8 ∨ o = 14) {p1 : Int32} {σ σ' : St} {r : Int32} (hf : f_X3_homeAt o p1 σ = some (r, σ')) : gMi l yX3_homeAt cX3_homeAt 2 .int rm_X3_homeAt [.ref (cAd E o), .int p1] (cG E) σ r σ' :=
  g_entry (by decide) (Nat.le_of_ble_eq_true rfl) hI (fun p e s m args below meth c B hP hS ls hl => w_X3_homeAt_e ho B _ σ hf _ _ ls hP hS hl)
/-! PromisedSlots$Layout.lengthAt(I)I -/
def f_X3_lengthAt (o : Nat) (p1 : Int32) (σ : St) : Option (Int32 × St) :=
  if p1 < 0 then
    some ((1 : Int32), σ)
  else
    if (σ o 6) ≤ p1 then
      some ((1 : Int32), σ)
    else
      if (nI 8) ≤ p1 then
        some ((1 : Int32), σ)
      else
        gd (ix p1 8) <|
        some ((σ (o + 4) (nt p1)), σ)
abbrev rm_X3_lengthAt : Room := { frames := 0, cells := 0, slots := 0, locals := 0 }
set_option maxHeartbeats 4000000 in
set_option maxRecDepth 100000 in
theorem w_X3_lengthAt_e {p : Program} {l : Launch} {e : Env} {s : State} {m : MethodId} {args : Array Value} {below : List Frame} {meth : Method} {c : Code} {E : cEv} {r : Int32} {σ' : St} {o : Nat} (ho : o = 8 ∨ o = 14) (B : gBx p m meth c cX3_lengthAt 2 (some .int) s args RX3 (cG E)) (p1 : Int32) (σ : St) (hf : f_X3_lengthAt o p1 σ = some (r, σ')) (H : Heap) (locs : List Loc) (ls : Array Slot) (hP : gW (cG E) σ H) (hS : va_S (gA (cG E)) s.heap H locs) (hl : lv_has ls 2 [(0, .ref (cAd E o)), (1, .int p1)]) : W p l e rm_X3_lengthAt s m args below meth c H locs 0 0 (gQi below args s (cG E) r σ') (F0 m 0 ls []) := by
  unfold f_X3_lengthAt at hf
  obtain ⟨F, hr, hlk⟩ := id B
  have hx := F.1
  have hb := F.2.1
  have hml := F.2.2.1
  have hown := F.2.2.2.1
  have hts := F.2.2.2.2.1
  refine lv_iload_n hx hb dX3_lengthAt_0 rfl (lv_at hl 1 rfl) ?_
  refine lv_if_lt (tgt := 30) hx hb dX3_lengthAt_1 (by decide) (fun h1 => ?_) (fun h1 => ?_)
  · rw [if_pos h1] at hf
    refine lv_iconst (v := 1) hx hb dX3_lengthAt_30 (by decide) ?_
    exact g_iret B hP hS hf dX3_lengthAt_31
  · rw [if_neg h1] at hf
    refine lv_iload_n hx hb dX3_lengthAt_4 rfl (lv_at hl 1 rfl) ?_
    refine lv_aload_n hx hb dX3_lengthAt_5 rfl (lv_at hl 0 rfl) ?_
    refine gf_X3_31 F hP ho dX3_lengthAt_6 ?_
    refine lv_icmp_ge (tgt := 30) hx hb dX3_lengthAt_9 (by decide) (fun h2 => ?_) (fun h2 => ?_)
    · rw [if_pos h2] at hf
      refine lv_iconst (v := 1) hx hb dX3_lengthAt_30 (by decide) ?_
      exact g_iret B hP hS hf dX3_lengthAt_31
    · rw [if_neg h2] at hf
      refine lv_iload_n hx hb dX3_lengthAt_12 rfl (lv_at hl 1 rfl) ?_
      refine lv_aload_n hx hb dX3_lengthAt_13 rfl (lv_at hl 0 rfl) ?_
      refine gf_X3_21 F hP ho dX3_lengthAt_14 ?_
      refine c_alen F hP (ca_l ho (by decide) (by decide)) (cn_l4 ho) dX3_lengthAt_17 ?_
      refine lv_icmp_ge (tgt := 30) hx hb dX3_lengthAt_18 (by decide) (fun h3 => ?_) (fun h3 => ?_)
      · rw [if_pos h3] at hf
        refine lv_iconst (v := 1) hx hb dX3_lengthAt_30 (by decide) ?_
        exact g_iret B hP hS hf dX3_lengthAt_31
      · rw [if_neg h3] at hf
        refine lv_aload_n hx hb dX3_lengthAt_21 rfl (lv_at hl 0 rfl) ?_
        refine gf_X3_21 F hP ho dX3_lengthAt_22 ?_
        refine lv_iload_n hx hb dX3_lengthAt_25 rfl (lv_at hl 1 rfl) ?_
        obtain ⟨h4, hf⟩ := gd_e hf
        refine c_iald F hP (ca_l ho (by decide) (by decide)) (cn_l4 ho) h4 dX3_lengthAt_26 ?_
        refine lv_goto (tgt := 31) hx hb dX3_lengthAt_27 (by decide) ?_
        exact g_iret B hP hS hf dX3_lengthAt_31
theorem c_X3_lengthAt (l : Launch) {E : cEv} (hI : gIj (cG E)) {o : Nat} (ho : o = 8 ∨ o = 14) {p1 : Int32} {σ σ' : St} {r : Int32} (hf : f_X3_lengthAt o p1 σ = some (r, σ')) : gMi l yX3_lengthAt cX3_lengthAt 2 .int rm_X3_lengthAt [.ref (cAd E o), .int p1] (cG E) σ r σ' :=
  g_entry (by decide) (Nat.le_of_ble_eq_true rfl) hI (fun p e s m args below meth c B hP hS ls hl => w_X3_lengthAt_e ho B _ σ hf _ _ ls hP hS hl)
/-! PromisedSlots$Layout.exponentAt(I)I -/
def f_X3_exponentAt (o : Nat) (p1 : Int32) (σ : St) : Option (Int32 × St) :=
  if p1 < 0 then
    some ((0 : Int32), σ)
  else
    if (σ o 6) ≤ p1 then
      some ((0 : Int32), σ)
    else
      if (nI 8) ≤ p1 then
        some ((0 : Int32), σ)
      else
        gd (ix p1 8) <|
        some ((σ (o + 5) (nt p1)), σ)
abbrev rm_X3_exponentAt : Room := { frames := 0, cells := 0, slots := 0, locals := 0 }
set_option maxHeartbeats 4000000 in
set_option maxRecDepth 100000 in
theorem w_X3_exponentAt_e {p : Program} {l : Launch} {e : Env} {s : State} {m : MethodId} {args : Array Value} {below : List Frame} {meth : Method} {c : Code} {E : cEv} {r : Int32} {σ' : St} {o : Nat} (ho : o = 8 ∨ o = 14) (B : gBx p m meth c cX3_exponentAt 2 (some .int) s args RX3 (cG E)) (p1 : Int32) (σ : St) (hf : f_X3_exponentAt o p1 σ = some (r, σ')) (H : Heap) (locs : List Loc) (ls : Array Slot) (hP : gW (cG E) σ H) (hS : va_S (gA (cG E)) s.heap H locs) (hl : lv_has ls 2 [(0, .ref (cAd E o)), (1, .int p1)]) : W p l e rm_X3_exponentAt s m args below meth c H locs 0 0 (gQi below args s (cG E) r σ') (F0 m 0 ls []) := by
  unfold f_X3_exponentAt at hf
  obtain ⟨F, hr, hlk⟩ := id B
  have hx := F.1
  have hb := F.2.1
  have hml := F.2.2.1
  have hown := F.2.2.2.1
  have hts := F.2.2.2.2.1
  refine lv_iload_n hx hb dX3_exponentAt_0 rfl (lv_at hl 1 rfl) ?_
  refine lv_if_lt (tgt := 30) hx hb dX3_exponentAt_1 (by decide) (fun h1 => ?_) (fun h1 => ?_)
  · rw [if_pos h1] at hf
    refine lv_iconst (v := 0) hx hb dX3_exponentAt_30 (by decide) ?_
    exact g_iret B hP hS hf dX3_exponentAt_31
  · rw [if_neg h1] at hf
    refine lv_iload_n hx hb dX3_exponentAt_4 rfl (lv_at hl 1 rfl) ?_
    refine lv_aload_n hx hb dX3_exponentAt_5 rfl (lv_at hl 0 rfl) ?_
    refine gf_X3_31 F hP ho dX3_exponentAt_6 ?_
    refine lv_icmp_ge (tgt := 30) hx hb dX3_exponentAt_9 (by decide) (fun h2 => ?_) (fun h2 => ?_)
    · rw [if_pos h2] at hf
      refine lv_iconst (v := 0) hx hb dX3_exponentAt_30 (by decide) ?_
      exact g_iret B hP hS hf dX3_exponentAt_31
    · rw [if_neg h2] at hf
      refine lv_iload_n hx hb dX3_exponentAt_12 rfl (lv_at hl 1 rfl) ?_
      refine lv_aload_n hx hb dX3_exponentAt_13 rfl (lv_at hl 0 rfl) ?_
      refine gf_X3_24 F hP ho dX3_exponentAt_14 ?_
      refine c_alen F hP (ca_l ho (by decide) (by decide)) (cn_l5 ho) dX3_exponentAt_17 ?_
      refine lv_icmp_ge (tgt := 30) hx hb dX3_exponentAt_18 (by decide) (fun h3 => ?_) (fun h3 => ?_)
      · rw [if_pos h3] at hf
        refine lv_iconst (v := 0) hx hb dX3_exponentAt_30 (by decide) ?_
        exact g_iret B hP hS hf dX3_exponentAt_31
      · rw [if_neg h3] at hf
        refine lv_aload_n hx hb dX3_exponentAt_21 rfl (lv_at hl 0 rfl) ?_
        refine gf_X3_24 F hP ho dX3_exponentAt_22 ?_
        refine lv_iload_n hx hb dX3_exponentAt_25 rfl (lv_at hl 1 rfl) ?_
        obtain ⟨h4, hf⟩ := gd_e hf
        refine c_iald F hP (ca_l ho (by decide) (by decide)) (cn_l5 ho) h4 dX3_exponentAt_26 ?_
        refine lv_goto (tgt := 31) hx hb dX3_exponentAt_27 (by decide) ?_
        exact g_iret B hP hS hf dX3_exponentAt_31
theorem c_X3_exponentAt (l : Launch) {E : cEv} (hI : gIj (cG E)) {o : Nat} (ho : o = 8 ∨ o = 14) {p1 : Int32} {σ σ' : St} {r : Int32} (hf : f_X3_exponentAt o p1 σ = some (r, σ')) : gMi l yX3_exponentAt cX3_exponentAt 2 .int rm_X3_exponentAt [.ref (cAd E o), .int p1] (cG E) σ r σ' :=
  g_entry (by decide) (Nat.le_of_ble_eq_true rfl) hI (fun p e s m args below meth c B hP hS ls hl => w_X3_exponentAt_e ho B _ σ hf _ _ ls hP hS hl)
/-! PromisedSlots$Layout.firstBeacon(II)I -/
def f_X3_firstBeacon (o : Nat) (p1 : Int32) (p2 : Int32) (σ : St) : Option (Int32 × St) :=
  if p1 < p2 then
    vl (if (1 : Int32) < (σ o 0) then (σ o 0) else (1 : Int32)) fun x2 =>
    gd (¬ x2 = 0) <|
    vl ((((p2 - p1) + (σ o 0)) - (1 : Int32)) / x2) fun x4 =>
    some ((p1 + (x4 * (σ o 0))), σ)
  else
    some (p1, σ)
abbrev rm_X3_firstBeacon : Room := { frames := 1, cells := 0, slots := 0, locals := 21 }
set_option maxHeartbeats 4000000 in
set_option maxRecDepth 100000 in
theorem w_X3_firstBeacon_e {p : Program} {l : Launch} {e : Env} {s : State} {m : MethodId} {args : Array Value} {below : List Frame} {meth : Method} {c : Code} {E : cEv} {r : Int32} {σ' : St} {o : Nat} (ho : o = 8 ∨ o = 14) (B : gBx p m meth c cX3_firstBeacon 4 (some .int) s args RX3 (cG E)) (p1 : Int32) (p2 : Int32) (σ : St) (hf : f_X3_firstBeacon o p1 p2 σ = some (r, σ')) (H : Heap) (locs : List Loc) (ls : Array Slot) (hP : gW (cG E) σ H) (hS : va_S (gA (cG E)) s.heap H locs) (hl : lv_has ls 4 [(0, .ref (cAd E o)), (1, .int p1), (2, .int p2)]) : W p l e rm_X3_firstBeacon s m args below meth c H locs 0 0 (gQi below args s (cG E) r σ') (F0 m 0 ls []) := by
  unfold f_X3_firstBeacon at hf
  obtain ⟨F, hr, hlk⟩ := id B
  have hx := F.1
  have hb := F.2.1
  have hml := F.2.2.1
  have hown := F.2.2.2.1
  have hts := F.2.2.2.2.1
  refine lv_iload_n hx hb dX3_firstBeacon_0 rfl (lv_at hl 2 rfl) ?_
  refine lv_iload_n hx hb dX3_firstBeacon_1 rfl (lv_at hl 1 rfl) ?_
  refine lv_icmp_gt (tgt := 7) hx hb dX3_firstBeacon_2 (by decide) (fun h1 => ?_) (fun h1 => ?_)
  · rw [if_pos h1] at hf
    refine lv_iload_n hx hb dX3_firstBeacon_7 rfl (lv_at hl 2 rfl) ?_
    refine lv_iload_n hx hb dX3_firstBeacon_8 rfl (lv_at hl 1 rfl) ?_
    refine lv_isub hx hb dX3_firstBeacon_9 ?_
    refine lv_aload_n hx hb dX3_firstBeacon_10 rfl (lv_at hl 0 rfl) ?_
    refine gf_X3_41 F hP ho dX3_firstBeacon_11 ?_
    refine lv_iadd hx hb dX3_firstBeacon_14 ?_
    refine lv_iconst (v := 1) hx hb dX3_firstBeacon_15 (by decide) ?_
    refine lv_isub hx hb dX3_firstBeacon_16 ?_
    refine lv_iconst (v := 1) hx hb dX3_firstBeacon_17 (by decide) ?_
    refine lv_aload_n hx hb dX3_firstBeacon_18 rfl (lv_at hl 0 rfl) ?_
    refine gf_X3_41 F hP ho dX3_firstBeacon_19 ?_
    refine va_mmax hx hb (hml.trans hl.1.symm) hown (hts _ tw_510) (hts _ tw_31) (hts _ tw_3) (hts _ tw_32) (Nat.le_of_ble_eq_true rfl) (Nat.le_of_ble_eq_true rfl) (Nat.zero_le _) (Nat.zero_le _) dX3_firstBeacon_22 ?_
    obtain ⟨x2, ex2, hf⟩ := vl_x hf
    rw [← ex2]
    obtain ⟨h3, hf⟩ := gd_e hf
    refine lv_idiv hx hb dX3_firstBeacon_25 h3 ?_
    obtain ⟨x4, ex4, hf⟩ := vl_x hf
    rw [← ex4]
    refine lv_istore_n (lv' := [(3, .int x4), (0, .ref (cAd E o)), (1, .int p1), (2, .int p2)]) hx hb dX3_firstBeacon_26 rfl hl (by decide) rfl (fun ls hl => ?_)
    refine lv_iload_n hx hb dX3_firstBeacon_27 rfl (lv_at hl 2 rfl) ?_
    refine lv_iload_n hx hb dX3_firstBeacon_28 rfl (lv_at hl 0 rfl) ?_
    refine lv_aload_n hx hb dX3_firstBeacon_29 rfl (lv_at hl 1 rfl) ?_
    refine gf_X3_41 F hP ho dX3_firstBeacon_30 ?_
    refine lv_imul hx hb dX3_firstBeacon_33 ?_
    refine lv_iadd hx hb dX3_firstBeacon_34 ?_
    exact g_iret B hP hS hf dX3_firstBeacon_35
  · rw [if_neg h1] at hf
    refine lv_iload_n hx hb dX3_firstBeacon_5 rfl (lv_at hl 1 rfl) ?_
    exact g_iret B hP hS hf dX3_firstBeacon_6
theorem c_X3_firstBeacon (l : Launch) {E : cEv} (hI : gIj (cG E)) {o : Nat} (ho : o = 8 ∨ o = 14) {p1 : Int32} {p2 : Int32} {σ σ' : St} {r : Int32} (hf : f_X3_firstBeacon o p1 p2 σ = some (r, σ')) : gMi l yX3_firstBeacon cX3_firstBeacon 4 .int rm_X3_firstBeacon [.ref (cAd E o), .int p1, .int p2] (cG E) σ r σ' :=
  g_entry (by decide) (Nat.le_of_ble_eq_true rfl) hI (fun p e s m args below meth c B hP hS ls hl => w_X3_firstBeacon_e ho B _ _ σ hf _ _ ls hP hS hl)
/-! PromisedSlots$Promises.add(II)V -/
def f_X4_add (o : Nat) (p1 : Int32) (p2 : Int32) (σ : St) : Option (Unit × St) :=
  if (7 : Int32) ≤ (σ (26 + o) 3) then
    some ((), σ)
  else
    gd (ix (σ (26 + o) 3) 7) <|
    vl (up2 σ (30 + o) (nt (σ (26 + o) 3)) p1) fun σ3 =>
    gd (ix (σ3 (26 + o) 3) 7) <|
    vl (up2 σ3 (34 + o) (nt (σ3 (26 + o) 3)) p2) fun σ5 =>
    gd (ix (σ5 (26 + o) 3) 7) <|
    vl (up2 σ5 (38 + o) (nt (σ5 (26 + o) 3)) (0 : Int32)) fun σ7 =>
    vl (up2 σ7 (26 + o) 3 ((σ7 (26 + o) 3) + (1 : Int32))) fun σ8 =>
    some ((), σ8)
abbrev rm_X4_add : Room := { frames := 0, cells := 0, slots := 0, locals := 0 }
set_option maxHeartbeats 4000000 in
set_option maxRecDepth 100000 in
theorem w_X4_add_e {p : Program} {l : Launch} {e : Env} {s : State} {m : MethodId} {args : Array Value} {below : List Frame} {meth : Method} {c : Code} {E : cEv} {u : Unit} {σ' : St} {o : Nat} (ho : o < 4) (B : gBx p m meth c cX4_add 3 none s args RX4 (cG E)) (p1 : Int32) (p2 : Int32) (σ : St) (hf : f_X4_add o p1 p2 σ = some (u, σ')) (H : Heap) (locs : List Loc) (ls : Array Slot) (hP : gW (cG E) σ H) (hS : va_S (gA (cG E)) s.heap H locs) (hl : lv_has ls 3 [(0, .ref (cAd E (26 + o))), (1, .int p1), (2, .int p2)]) : W p l e rm_X4_add s m args below meth c H locs 0 0 (gQv below args s (cG E) σ') (F0 m 0 ls []) := by
  unfold f_X4_add at hf
  obtain ⟨F, hr, hlk⟩ := id B
  have hx := F.1
  have hb := F.2.1
  have hml := F.2.2.1
  have hown := F.2.2.2.1
  have hts := F.2.2.2.2.1
  refine lv_aload_n hx hb dX4_add_0 rfl (lv_at hl 0 rfl) ?_
  refine gf_X4_21 F hP ho dX4_add_1 ?_
  refine lv_bipush (v := (7)) hx hb dX4_add_4 (by decide) ?_
  refine lv_icmp_ge (tgt := 49) hx hb dX4_add_6 (by decide) (fun h1 => ?_) (fun h1 => ?_)
  · rw [if_pos h1] at hf
    exact g_vret B hP hS hf dX4_add_49
  · rw [if_neg h1] at hf
    refine lv_aload_n hx hb dX4_add_9 rfl (lv_at hl 0 rfl) ?_
    refine gf_X4_9 F hP ho dX4_add_10 ?_
    refine lv_aload_n hx hb dX4_add_13 rfl (lv_at hl 0 rfl) ?_
    refine gf_X4_21 F hP ho dX4_add_14 ?_
    refine lv_iload_n hx hb dX4_add_17 rfl (lv_at hl 1 rfl) ?_
    obtain ⟨h2, hf⟩ := gd_e hf
    refine c_iast F hP hS (ca_p (by have := ho; omega)) (cn_p (by have := ho; omega)) h2 dX4_add_18 (fun H locs hP hS => ?_)
    obtain ⟨σ3, eσ3, hf⟩ := vl_x hf
    rw [← eσ3] at hP
    refine lv_aload_n hx hb dX4_add_19 rfl (lv_at hl 0 rfl) ?_
    refine gf_X4_15 F hP ho dX4_add_20 ?_
    refine lv_aload_n hx hb dX4_add_23 rfl (lv_at hl 0 rfl) ?_
    refine gf_X4_21 F hP ho dX4_add_24 ?_
    refine lv_iload_n hx hb dX4_add_27 rfl (lv_at hl 2 rfl) ?_
    obtain ⟨h4, hf⟩ := gd_e hf
    refine c_iast F hP hS (ca_p (by have := ho; omega)) (cn_p (by have := ho; omega)) h4 dX4_add_28 (fun H locs hP hS => ?_)
    obtain ⟨σ5, eσ5, hf⟩ := vl_x hf
    rw [← eσ5] at hP
    refine lv_aload_n hx hb dX4_add_29 rfl (lv_at hl 0 rfl) ?_
    refine gf_X4_18 F hP ho dX4_add_30 ?_
    refine lv_aload_n hx hb dX4_add_33 rfl (lv_at hl 0 rfl) ?_
    refine gf_X4_21 F hP ho dX4_add_34 ?_
    refine lv_iconst (v := 0) hx hb dX4_add_37 (by decide) ?_
    obtain ⟨h6, hf⟩ := gd_e hf
    refine c_iast F hP hS (ca_p (by have := ho; omega)) (cn_p (by have := ho; omega)) h6 dX4_add_38 (fun H locs hP hS => ?_)
    obtain ⟨σ7, eσ7, hf⟩ := vl_x hf
    rw [← eσ7] at hP
    refine lv_aload_n hx hb dX4_add_39 rfl (lv_at hl 0 rfl) ?_
    refine lv_dup hx hb dX4_add_40 rfl ?_
    refine gf_X4_21 F hP ho dX4_add_41 ?_
    refine lv_iconst (v := 1) hx hb dX4_add_44 (by decide) ?_
    refine lv_iadd hx hb dX4_add_45 ?_
    refine pf_X4_21 F hP hS ho dX4_add_46 (fun H locs hP hS => ?_)
    obtain ⟨σ8, eσ8, hf⟩ := vl_x hf
    rw [← eσ8] at hP
    exact g_vret B hP hS hf dX4_add_49
theorem c_X4_add (l : Launch) {E : cEv} (hI : gIj (cG E)) {o : Nat} (ho : o < 4) {p1 : Int32} {p2 : Int32} {σ σ' : St} {u : Unit} (hf : f_X4_add o p1 p2 σ = some (u, σ')) : gMv l yX4_add cX4_add 3 rm_X4_add [.ref (cAd E (26 + o)), .int p1, .int p2] (cG E) σ σ' :=
  g_entry (by decide) (Nat.le_of_ble_eq_true rfl) hI (fun p e s m args below meth c B hP hS ls hl => w_X4_add_e ho B _ _ σ hf _ _ ls hP hS hl)
/-! PromisedSlots$Promises.removeIdle(I)V -/
def b_X4_removeIdle_7 (o : Nat) (K7 : (Int32 × Int32 × St → Option (Unit × St))) (a1 : Int32) (a2 : Int32) (σ : St) : Option (Unit × St) :=
  if a2 < 0 then
    some ((), σ)
  else
    cl (f_X4_tell o a2 (3 : Int32) σ) fun r4 σ3 =>
    if r4 < a1 then
      vl (a2 + (-1 : Int32)) fun x7 =>
      K7 (a1, x7, σ3)
    else
      cl (f_X4_removeAt o a2 σ3) fun r9 σ8 =>
      vl (a2 + (-1 : Int32)) fun x11 =>
      K7 (a1, x11, σ8)
def f_X4_removeIdle (o : Nat) (p1 : Int32) (σ : St) : Option (Unit × St) :=
  vl ((σ (26 + o) 3) - (1 : Int32)) fun x1 =>
  lp (fun K a => b_X4_removeIdle_7 o K a.1 a.2.1 a.2.2) FU (p1, x1, σ)
abbrev rm_X4_removeIdle : Room := { frames := 2, cells := 0, slots := 0, locals := 45 }
def P_X4_removeIdle_7 (p : Program) (l : Launch) (e : Env) (s : State) (m : MethodId) (args : Array Value) (below : List Frame) (meth : Method) (c : Code) (E : cEv) (σ' : St) (o : Nat) (a : Int32 × Int32 × St) : Prop := ∀ (H : Heap) (locs : List Loc) (ls : Array Slot), gW (cG E) a.2.2 H → va_S (gA (cG E)) s.heap H locs → lv_has ls 3 [(0, .ref (cAd E (26 + o))), (1, .int a.1), (2, .int a.2.1)] → W p l e rm_X4_removeIdle s m args below meth c H locs 0 0 (gQv below args s (cG E) σ') (F0 m 7 ls [])
set_option maxHeartbeats 4000000 in
set_option maxRecDepth 100000 in
theorem w_X4_removeIdle_7 {p : Program} {l : Launch} {e : Env} {s : State} {m : MethodId} {args : Array Value} {below : List Frame} {meth : Method} {c : Code} {E : cEv} {u : Unit} {σ' : St} {o : Nat} (ho : o < 4) (B : gBx p m meth c cX4_removeIdle 3 none s args RX4 (cG E)) {K7 : (Int32 × Int32 × St → Option (Unit × St))} (hK7 : ∀ a, K7 a = some (u, σ') → P_X4_removeIdle_7 p l e s m args below meth c E σ' o a) (a1 : Int32) (a2 : Int32) (σ : St) (hf : b_X4_removeIdle_7 o K7 a1 a2 σ = some (u, σ')) (H : Heap) (locs : List Loc) (ls : Array Slot) (hP : gW (cG E) σ H) (hS : va_S (gA (cG E)) s.heap H locs) (hl : lv_has ls 3 [(0, .ref (cAd E (26 + o))), (1, .int a1), (2, .int a2)]) : W p l e rm_X4_removeIdle s m args below meth c H locs 0 0 (gQv below args s (cG E) σ') (F0 m 7 ls []) := by
  unfold b_X4_removeIdle_7 at hf
  obtain ⟨F, hr, hlk⟩ := id B
  have hx := F.1
  have hb := F.2.1
  have hml := F.2.2.1
  have hown := F.2.2.2.1
  have hts := F.2.2.2.2.1
  refine lv_iload_n hx hb dX4_removeIdle_7 rfl (lv_at hl 2 rfl) ?_
  refine lv_if_lt (tgt := 32) hx hb dX4_removeIdle_8 (by decide) (fun h2 => ?_) (fun h2 => ?_)
  · rw [if_pos h2] at hf
    exact g_vret B hP hS hf dX4_removeIdle_32
  · rw [if_neg h2] at hf
    refine lv_aload_n hx hb dX4_removeIdle_11 rfl (lv_at hl 0 rfl) ?_
    refine lv_iload_n hx hb dX4_removeIdle_12 rfl (lv_at hl 2 rfl) ?_
    refine lv_iconst (v := 3) hx hb dX4_removeIdle_13 (by decide) ?_
    obtain ⟨r4, σ3, h5, hf⟩ := cl_e hf
    refine kc_X4_32 F hP hS ho h5 ⟨Nat.le_of_ble_eq_true rfl, Nat.le_of_ble_eq_true rfl⟩ hl.1 (Nat.le_of_ble_eq_true rfl) ⟨Nat.zero_le _, Nat.zero_le _⟩ dX4_removeIdle_14 (fun H locs hP hS => ?_)
    refine lv_iload_n hx hb dX4_removeIdle_17 rfl (lv_at hl 1 rfl) ?_
    refine lv_icmp_lt (tgt := 26) hx hb dX4_removeIdle_18 (by decide) (fun h6 => ?_) (fun h6 => ?_)
    · rw [if_pos h6] at hf
      refine lv_iinc (v := a2 + (-1 : Int32)) (lv' := [(2, .int (a2 + (-1 : Int32))), (0, .ref (cAd E (26 + o))), (1, .int a1)]) hx hb dX4_removeIdle_26 hl (k := 2) rfl rfl (by decide) rfl (fun ls hl => ?_)
      obtain ⟨x7, ex7, hf⟩ := vl_x hf
      rw [← ex7] at hl
      refine lv_goto (tgt := 7) hx hb dX4_removeIdle_29 (by decide) ?_
      exact hK7 _ hf _ _ _ hP hS (lv_sub hl [1, 2, 0] rfl)
    · rw [if_neg h6] at hf
      refine lv_aload_n hx hb dX4_removeIdle_21 rfl (lv_at hl 0 rfl) ?_
      refine lv_iload_n hx hb dX4_removeIdle_22 rfl (lv_at hl 2 rfl) ?_
      obtain ⟨r9, σ8, h10, hf⟩ := cl_e hf
      refine kc_X4_36 F hP hS ho h10 ⟨Nat.le_of_ble_eq_true rfl, Nat.le_of_ble_eq_true rfl⟩ hl.1 (Nat.le_of_ble_eq_true rfl) ⟨Nat.zero_le _, Nat.zero_le _⟩ dX4_removeIdle_23 (fun H locs hP hS => ?_)
      refine lv_iinc (v := a2 + (-1 : Int32)) (lv' := [(2, .int (a2 + (-1 : Int32))), (0, .ref (cAd E (26 + o))), (1, .int a1)]) hx hb dX4_removeIdle_26 hl (k := 2) rfl rfl (by decide) rfl (fun ls hl => ?_)
      obtain ⟨x11, ex11, hf⟩ := vl_x hf
      rw [← ex11] at hl
      refine lv_goto (tgt := 7) hx hb dX4_removeIdle_29 (by decide) ?_
      exact hK7 _ hf _ _ _ hP hS (lv_sub hl [1, 2, 0] rfl)
set_option maxHeartbeats 4000000 in
set_option maxRecDepth 100000 in
theorem w_X4_removeIdle_e {p : Program} {l : Launch} {e : Env} {s : State} {m : MethodId} {args : Array Value} {below : List Frame} {meth : Method} {c : Code} {E : cEv} {u : Unit} {σ' : St} {o : Nat} (ho : o < 4) (B : gBx p m meth c cX4_removeIdle 3 none s args RX4 (cG E)) (p1 : Int32) (σ : St) (hf : f_X4_removeIdle o p1 σ = some (u, σ')) (H : Heap) (locs : List Loc) (ls : Array Slot) (hP : gW (cG E) σ H) (hS : va_S (gA (cG E)) s.heap H locs) (hl : lv_has ls 3 [(0, .ref (cAd E (26 + o))), (1, .int p1)]) : W p l e rm_X4_removeIdle s m args below meth c H locs 0 0 (gQv below args s (cG E) σ') (F0 m 0 ls []) := by
  unfold f_X4_removeIdle at hf
  obtain ⟨F, hr, hlk⟩ := id B
  have hx := F.1
  have hb := F.2.1
  have hml := F.2.2.1
  have hown := F.2.2.2.1
  have hts := F.2.2.2.2.1
  refine lv_aload_n hx hb dX4_removeIdle_0 rfl (lv_at hl 0 rfl) ?_
  refine gf_X4_21 F hP ho dX4_removeIdle_1 ?_
  refine lv_iconst (v := 1) hx hb dX4_removeIdle_4 (by decide) ?_
  refine lv_isub hx hb dX4_removeIdle_5 ?_
  obtain ⟨x1, ex1, hf⟩ := vl_x hf
  rw [← ex1]
  refine lv_istore_n (lv' := [(2, .int x1), (0, .ref (cAd E (26 + o))), (1, .int p1)]) hx hb dX4_removeIdle_6 rfl hl (by decide) rfl (fun ls hl => ?_)
  exact lp_w (P := P_X4_removeIdle_7 p l e s m args below meth c E σ' o) (fun K hK a ha => w_X4_removeIdle_7 ho B hK a.1 a.2.1 a.2.2 ha) FU _ hf _ _ _ hP hS (lv_sub hl [1, 2, 0] rfl)
theorem c_X4_removeIdle (l : Launch) {E : cEv} (hI : gIj (cG E)) {o : Nat} (ho : o < 4) {p1 : Int32} {σ σ' : St} {u : Unit} (hf : f_X4_removeIdle o p1 σ = some (u, σ')) : gMv l yX4_removeIdle cX4_removeIdle 3 rm_X4_removeIdle [.ref (cAd E (26 + o)), .int p1] (cG E) σ σ' :=
  g_entry (by decide) (Nat.le_of_ble_eq_true rfl) hI (fun p e s m args below meth c B hP hS ls hl => w_X4_removeIdle_e ho B _ σ hf _ _ ls hP hS hl)
/-! PromisedSlots$Promises.noteUse(IZ)V -/
def f_X4_noteUse (o : Nat) (p1 : Int32) (p2 : Int32) (σ : St) : Option (Unit × St) :=
  if p1 < 0 then
    some ((), σ)
  else
    if (σ (26 + o) 3) ≤ p1 then
      some ((), σ)
    else
      if (nI 7) ≤ p1 then
        some ((), σ)
      else
        if p2 = 0 then
          gd (ix p1 7) <|
          gd (ix p1 7) <|
          vl (up2 σ (38 + o) (nt p1) ((σ (38 + o) (nt p1)) + (1 : Int32))) fun σ7 =>
          some ((), σ7)
        else
          gd (ix p1 7) <|
          vl (up2 σ (38 + o) (nt p1) (0 : Int32)) fun σ9 =>
          some ((), σ9)
abbrev rm_X4_noteUse : Room := { frames := 0, cells := 0, slots := 0, locals := 0 }
set_option maxHeartbeats 4000000 in
set_option maxRecDepth 100000 in
theorem w_X4_noteUse_e {p : Program} {l : Launch} {e : Env} {s : State} {m : MethodId} {args : Array Value} {below : List Frame} {meth : Method} {c : Code} {E : cEv} {u : Unit} {σ' : St} {o : Nat} (ho : o < 4) (B : gBx p m meth c cX4_noteUse 3 none s args RX4 (cG E)) (p1 : Int32) (p2 : Int32) (σ : St) (hf : f_X4_noteUse o p1 p2 σ = some (u, σ')) (H : Heap) (locs : List Loc) (ls : Array Slot) (hP : gW (cG E) σ H) (hS : va_S (gA (cG E)) s.heap H locs) (hl : lv_has ls 3 [(0, .ref (cAd E (26 + o))), (1, .int p1), (2, .int p2)]) : W p l e rm_X4_noteUse s m args below meth c H locs 0 0 (gQv below args s (cG E) σ') (F0 m 0 ls []) := by
  unfold f_X4_noteUse at hf
  obtain ⟨F, hr, hlk⟩ := id B
  have hx := F.1
  have hb := F.2.1
  have hml := F.2.2.1
  have hown := F.2.2.2.1
  have hts := F.2.2.2.2.1
  refine lv_iload_n hx hb dX4_noteUse_0 rfl (lv_at hl 1 rfl) ?_
  refine lv_if_lt (tgt := 43) hx hb dX4_noteUse_1 (by decide) (fun h1 => ?_) (fun h1 => ?_)
  · rw [if_pos h1] at hf
    exact g_vret B hP hS hf dX4_noteUse_43
  · rw [if_neg h1] at hf
    refine lv_iload_n hx hb dX4_noteUse_4 rfl (lv_at hl 1 rfl) ?_
    refine lv_aload_n hx hb dX4_noteUse_5 rfl (lv_at hl 0 rfl) ?_
    refine gf_X4_21 F hP ho dX4_noteUse_6 ?_
    refine lv_icmp_ge (tgt := 43) hx hb dX4_noteUse_9 (by decide) (fun h2 => ?_) (fun h2 => ?_)
    · rw [if_pos h2] at hf
      exact g_vret B hP hS hf dX4_noteUse_43
    · rw [if_neg h2] at hf
      refine lv_iload_n hx hb dX4_noteUse_12 rfl (lv_at hl 1 rfl) ?_
      refine lv_aload_n hx hb dX4_noteUse_13 rfl (lv_at hl 0 rfl) ?_
      refine gf_X4_18 F hP ho dX4_noteUse_14 ?_
      refine c_alen F hP (ca_p (by have := ho; omega)) (cn_p (by have := ho; omega)) dX4_noteUse_17 ?_
      refine lv_icmp_ge (tgt := 43) hx hb dX4_noteUse_18 (by decide) (fun h3 => ?_) (fun h3 => ?_)
      · rw [if_pos h3] at hf
        exact g_vret B hP hS hf dX4_noteUse_43
      · rw [if_neg h3] at hf
        refine lv_aload_n hx hb dX4_noteUse_21 rfl (lv_at hl 0 rfl) ?_
        refine gf_X4_18 F hP ho dX4_noteUse_22 ?_
        refine lv_iload_n hx hb dX4_noteUse_25 rfl (lv_at hl 1 rfl) ?_
        refine lv_iload_n hx hb dX4_noteUse_26 rfl (lv_at hl 2 rfl) ?_
        refine lv_if_eq (tgt := 34) hx hb dX4_noteUse_27 (by decide) (fun h4 => ?_) (fun h4 => ?_)
        · rw [if_pos h4] at hf
          refine lv_aload_n hx hb dX4_noteUse_34 rfl (lv_at hl 0 rfl) ?_
          refine gf_X4_18 F hP ho dX4_noteUse_35 ?_
          refine lv_iload_n hx hb dX4_noteUse_38 rfl (lv_at hl 1 rfl) ?_
          obtain ⟨h5, hf⟩ := gd_e hf
          refine c_iald F hP (ca_p (by have := ho; omega)) (cn_p (by have := ho; omega)) h5 dX4_noteUse_39 ?_
          refine lv_iconst (v := 1) hx hb dX4_noteUse_40 (by decide) ?_
          refine lv_iadd hx hb dX4_noteUse_41 ?_
          obtain ⟨h6, hf⟩ := gd_e hf
          refine c_iast F hP hS (ca_p (by have := ho; omega)) (cn_p (by have := ho; omega)) h6 dX4_noteUse_42 (fun H locs hP hS => ?_)
          obtain ⟨σ7, eσ7, hf⟩ := vl_x hf
          rw [← eσ7] at hP
          exact g_vret B hP hS hf dX4_noteUse_43
        · rw [if_neg h4] at hf
          refine lv_iconst (v := 0) hx hb dX4_noteUse_30 (by decide) ?_
          refine lv_goto (tgt := 42) hx hb dX4_noteUse_31 (by decide) ?_
          obtain ⟨h8, hf⟩ := gd_e hf
          refine c_iast F hP hS (ca_p (by have := ho; omega)) (cn_p (by have := ho; omega)) h8 dX4_noteUse_42 (fun H locs hP hS => ?_)
          obtain ⟨σ9, eσ9, hf⟩ := vl_x hf
          rw [← eσ9] at hP
          exact g_vret B hP hS hf dX4_noteUse_43
theorem c_X4_noteUse (l : Launch) {E : cEv} (hI : gIj (cG E)) {o : Nat} (ho : o < 4) {p1 : Int32} {p2 : Int32} {σ σ' : St} {u : Unit} (hf : f_X4_noteUse o p1 p2 σ = some (u, σ')) : gMv l yX4_noteUse cX4_noteUse 3 rm_X4_noteUse [.ref (cAd E (26 + o)), .int p1, .int p2] (cG E) σ σ' :=
  g_entry (by decide) (Nat.le_of_ble_eq_true rfl) hI (fun p e s m args below meth c B hP hS ls hl => w_X4_noteUse_e ho B _ _ σ hf _ _ ls hP hS hl)
section SA
variable {p : Program} {l : Launch} {e : Env} {R : Room} {s : State} {m : MethodId} {args : Array Value} {below : List Frame} {meth : Method} {c : Code} {H : Heap} {locs : List Loc} {cells slots : Nat} {Q : State → Prop}
variable {cc : ByteArray} {pc nL : Nat} {ls : Array Slot} {rest : List Value} {E : cEv} {σ : St}
theorem gf_X6_21 (F : gFx p m c cc nL s args RX6 (cG E)) (hP : gW (cG E) σ H) {o : Nat} (ho : o = 1 ∨ o = 4) (hdg : decode cc pc = .ok (.getfield 21, 3)) (kk : W p l e R s m args below meth c H locs cells slots Q (F0 m (pc + 3) ls (.int (σ o 1) :: rest))) : W p l e R s m args below meth c H locs cells slots Q (F0 m pc ls (.ref (cAd E o) :: rest)) :=
  g_get F hP (k := o) (cin (by omega)) (ce_6 E _ ho) rfl inX6 1 (by decide) tw_34 rfl rfl hdg kk
theorem gf_X6_15 (F : gFx p m c cc nL s args RX6 (cG E)) (hP : gW (cG E) σ H) {o : Nat} (ho : o = 1 ∨ o = 4) (hdg : decode cc pc = .ok (.getfield 15, 3)) (kk : W p l e R s m args below meth c H locs cells slots Q (F0 m (pc + 3) ls (.ref (cAd E (o + 1)) :: rest))) : W p l e R s m args below meth c H locs cells slots Q (F0 m pc ls (.ref (cAd E o) :: rest)) :=
  g_get F hP (k := o) (cin (by omega)) (ce_6 E _ ho) rfl inX6 0 (by decide) tw_33 rfl rfl hdg kk
end SA
/-! PromisedSlots$Row.at(I)I -/
def f_X6_at (o : Nat) (p1 : Int32) (σ : St) : Option (Int32 × St) :=
  if p1 < 0 then
    some ((-4 : Int32), σ)
  else
    if (σ o 1) ≤ p1 then
      some ((-4 : Int32), σ)
    else
      if (nI (cn (o + 1))) ≤ p1 then
        some ((-4 : Int32), σ)
      else
        gd (ix p1 (cn (o + 1))) <|
        some ((σ (o + 1) (nt p1)), σ)
abbrev rm_X6_at : Room := { frames := 0, cells := 0, slots := 0, locals := 0 }
set_option maxHeartbeats 4000000 in
set_option maxRecDepth 100000 in
theorem w_X6_at_e {p : Program} {l : Launch} {e : Env} {s : State} {m : MethodId} {args : Array Value} {below : List Frame} {meth : Method} {c : Code} {E : cEv} {r : Int32} {σ' : St} {o : Nat} (ho : o = 1 ∨ o = 4) (B : gBx p m meth c cX6_at 2 (some .int) s args RX6 (cG E)) (p1 : Int32) (σ : St) (hf : f_X6_at o p1 σ = some (r, σ')) (H : Heap) (locs : List Loc) (ls : Array Slot) (hP : gW (cG E) σ H) (hS : va_S (gA (cG E)) s.heap H locs) (hl : lv_has ls 2 [(0, .ref (cAd E o)), (1, .int p1)]) : W p l e rm_X6_at s m args below meth c H locs 0 0 (gQi below args s (cG E) r σ') (F0 m 0 ls []) := by
  unfold f_X6_at at hf
  obtain ⟨F, hr, hlk⟩ := id B
  have hx := F.1
  have hb := F.2.1
  have hml := F.2.2.1
  have hown := F.2.2.2.1
  have hts := F.2.2.2.2.1
  refine lv_iload_n hx hb dX6_at_0 rfl (lv_at hl 1 rfl) ?_
  refine lv_if_lt (tgt := 30) hx hb dX6_at_1 (by decide) (fun h1 => ?_) (fun h1 => ?_)
  · rw [if_pos h1] at hf
    refine lv_bipush (v := (-4)) hx hb dX6_at_30 (by decide) ?_
    exact g_iret B hP hS hf dX6_at_32
  · rw [if_neg h1] at hf
    refine lv_iload_n hx hb dX6_at_4 rfl (lv_at hl 1 rfl) ?_
    refine lv_aload_n hx hb dX6_at_5 rfl (lv_at hl 0 rfl) ?_
    refine gf_X6_21 F hP ho dX6_at_6 ?_
    refine lv_icmp_ge (tgt := 30) hx hb dX6_at_9 (by decide) (fun h2 => ?_) (fun h2 => ?_)
    · rw [if_pos h2] at hf
      refine lv_bipush (v := (-4)) hx hb dX6_at_30 (by decide) ?_
      exact g_iret B hP hS hf dX6_at_32
    · rw [if_neg h2] at hf
      refine lv_iload_n hx hb dX6_at_12 rfl (lv_at hl 1 rfl) ?_
      refine lv_aload_n hx hb dX6_at_13 rfl (lv_at hl 0 rfl) ?_
      refine gf_X6_15 F hP ho dX6_at_14 ?_
      refine c_alen F hP (ca_r ho) rfl dX6_at_17 ?_
      refine lv_icmp_ge (tgt := 30) hx hb dX6_at_18 (by decide) (fun h3 => ?_) (fun h3 => ?_)
      · rw [if_pos h3] at hf
        refine lv_bipush (v := (-4)) hx hb dX6_at_30 (by decide) ?_
        exact g_iret B hP hS hf dX6_at_32
      · rw [if_neg h3] at hf
        refine lv_aload_n hx hb dX6_at_21 rfl (lv_at hl 0 rfl) ?_
        refine gf_X6_15 F hP ho dX6_at_22 ?_
        refine lv_iload_n hx hb dX6_at_25 rfl (lv_at hl 1 rfl) ?_
        obtain ⟨h4, hf⟩ := gd_e hf
        refine c_iald F hP (ca_r ho) rfl h4 dX6_at_26 ?_
        refine lv_goto (tgt := 32) hx hb dX6_at_27 (by decide) ?_
        exact g_iret B hP hS hf dX6_at_32
theorem c_X6_at (l : Launch) {E : cEv} (hI : gIj (cG E)) {o : Nat} (ho : o = 1 ∨ o = 4) {p1 : Int32} {σ σ' : St} {r : Int32} (hf : f_X6_at o p1 σ = some (r, σ')) : gMi l yX6_at cX6_at 2 .int rm_X6_at [.ref (cAd E o), .int p1] (cG E) σ r σ' :=
  g_entry (by decide) (Nat.le_of_ble_eq_true rfl) hI (fun p e s m args below meth c B hP hS ls hl => w_X6_at_e ho B _ σ hf _ _ ls hP hS hl)
section SA
variable {p : Program} {l : Launch} {e : Env} {R : Room} {s : State} {m : MethodId} {args : Array Value} {below : List Frame} {meth : Method} {c : Code} {H : Heap} {locs : List Loc} {cells slots : Nat} {Q : State → Prop}
variable {cc : ByteArray} {pc nL : Nat} {ls : Array Slot} {rest : List Value} {E : cEv} {σ : St}
theorem pf_X6_21 (F : gFx p m c cc nL s args RX6 (cG E)) (hP : gW (cG E) σ H) (hS : va_S (gA (cG E)) s.heap H locs) {o : Nat} (ho : o = 1 ∨ o = 4) {x : Int32} (hdg : decode cc pc = .ok (.putfield 21, 3)) (kk : ∀ (H1 : Heap) (locs1 : List Loc), gW (cG E) (up2 σ o 1 x) H1 → va_S (gA (cG E)) s.heap H1 locs1 → W p l e R s m args below meth c H1 locs1 cells slots Q (F0 m (pc + 3) ls rest)) : W p l e R s m args below meth c H locs cells slots Q (F0 m pc ls (.int x :: .ref (cAd E o) :: rest)) :=
  g_put F hP hS (k := o) (cin (by omega)) (ce_6 E _ ho) rfl inX6 tyX6 tyX6_ok nmX6 1 (by decide) tw_34 rfl rfl rfl rfl (Nat.le_of_ble_eq_true rfl) (x := x) (jj := 1) (ce_6 E _ ho) hdg kk
end SA
/-! PromisedSlots$Row.append(I)Z -/
def f_X6_append (o : Nat) (p1 : Int32) (σ : St) : Option (Int32 × St) :=
  if (σ o 1) < (nI (cn (o + 1))) then
    gd (ix (σ o 1) (cn (o + 1))) <|
    vl (up2 σ (o + 1) (nt (σ o 1)) p1) fun σ3 =>
    vl (up2 σ3 o 1 ((σ3 o 1) + (1 : Int32))) fun σ4 =>
    some ((1 : Int32), σ4)
  else
    some ((0 : Int32), σ)
abbrev rm_X6_append : Room := { frames := 0, cells := 0, slots := 0, locals := 0 }
set_option maxHeartbeats 4000000 in
set_option maxRecDepth 100000 in
theorem w_X6_append_e {p : Program} {l : Launch} {e : Env} {s : State} {m : MethodId} {args : Array Value} {below : List Frame} {meth : Method} {c : Code} {E : cEv} {r : Int32} {σ' : St} {o : Nat} (ho : o = 1 ∨ o = 4) (B : gBx p m meth c cX6_append 2 (some .boolean) s args RX6 (cG E)) (p1 : Int32) (σ : St) (hf : f_X6_append o p1 σ = some (r, σ')) (H : Heap) (locs : List Loc) (ls : Array Slot) (hP : gW (cG E) σ H) (hS : va_S (gA (cG E)) s.heap H locs) (hl : lv_has ls 2 [(0, .ref (cAd E o)), (1, .int p1)]) : W p l e rm_X6_append s m args below meth c H locs 0 0 (gQi below args s (cG E) r σ') (F0 m 0 ls []) := by
  unfold f_X6_append at hf
  obtain ⟨F, hr, hlk⟩ := id B
  have hx := F.1
  have hb := F.2.1
  have hml := F.2.2.1
  have hown := F.2.2.2.1
  have hts := F.2.2.2.2.1
  refine lv_aload_n hx hb dX6_append_0 rfl (lv_at hl 0 rfl) ?_
  refine gf_X6_21 F hP ho dX6_append_1 ?_
  refine lv_aload_n hx hb dX6_append_4 rfl (lv_at hl 0 rfl) ?_
  refine gf_X6_15 F hP ho dX6_append_5 ?_
  refine c_alen F hP (ca_r ho) rfl dX6_append_8 ?_
  refine lv_icmp_lt (tgt := 14) hx hb dX6_append_9 (by decide) (fun h1 => ?_) (fun h1 => ?_)
  · rw [if_pos h1] at hf
    refine lv_aload_n hx hb dX6_append_14 rfl (lv_at hl 0 rfl) ?_
    refine gf_X6_15 F hP ho dX6_append_15 ?_
    refine lv_aload_n hx hb dX6_append_18 rfl (lv_at hl 0 rfl) ?_
    refine gf_X6_21 F hP ho dX6_append_19 ?_
    refine lv_iload_n hx hb dX6_append_22 rfl (lv_at hl 1 rfl) ?_
    obtain ⟨h2, hf⟩ := gd_e hf
    refine c_iast F hP hS (ca_r ho) rfl h2 dX6_append_23 (fun H locs hP hS => ?_)
    obtain ⟨σ3, eσ3, hf⟩ := vl_x hf
    rw [← eσ3] at hP
    refine lv_aload_n hx hb dX6_append_24 rfl (lv_at hl 0 rfl) ?_
    refine lv_dup hx hb dX6_append_25 rfl ?_
    refine gf_X6_21 F hP ho dX6_append_26 ?_
    refine lv_iconst (v := 1) hx hb dX6_append_29 (by decide) ?_
    refine lv_iadd hx hb dX6_append_30 ?_
    refine pf_X6_21 F hP hS ho dX6_append_31 (fun H locs hP hS => ?_)
    obtain ⟨σ4, eσ4, hf⟩ := vl_x hf
    rw [← eσ4] at hP
    refine lv_iconst (v := 1) hx hb dX6_append_34 (by decide) ?_
    exact g_zret B hP hS hf (by decide) dX6_append_35
  · rw [if_neg h1] at hf
    refine lv_iconst (v := 0) hx hb dX6_append_12 (by decide) ?_
    exact g_zret B hP hS hf (by decide) dX6_append_13
theorem c_X6_append (l : Launch) {E : cEv} (hI : gIj (cG E)) {o : Nat} (ho : o = 1 ∨ o = 4) {p1 : Int32} {σ σ' : St} {r : Int32} (hf : f_X6_append o p1 σ = some (r, σ')) : gMi l yX6_append cX6_append 2 .boolean rm_X6_append [.ref (cAd E o), .int p1] (cG E) σ r σ' :=
  g_entry (by decide) (Nat.le_of_ble_eq_true rfl) hI (fun p e s m args below meth c B hP hS ls hl => w_X6_append_e ho B _ σ hf _ _ ls hP hS hl)
/-! PromisedSlots$Row.clear()V -/
def f_X6_clear (o : Nat) (σ : St) : Option (Unit × St) :=
  vl (up2 σ o 1 (0 : Int32)) fun σ1 =>
  some ((), σ1)
abbrev rm_X6_clear : Room := { frames := 0, cells := 0, slots := 0, locals := 0 }
set_option maxHeartbeats 4000000 in
set_option maxRecDepth 100000 in
theorem w_X6_clear_e {p : Program} {l : Launch} {e : Env} {s : State} {m : MethodId} {args : Array Value} {below : List Frame} {meth : Method} {c : Code} {E : cEv} {u : Unit} {σ' : St} {o : Nat} (ho : o = 1 ∨ o = 4) (B : gBx p m meth c cX6_clear 1 none s args RX6 (cG E)) (σ : St) (hf : f_X6_clear o σ = some (u, σ')) (H : Heap) (locs : List Loc) (ls : Array Slot) (hP : gW (cG E) σ H) (hS : va_S (gA (cG E)) s.heap H locs) (hl : lv_has ls 1 [(0, .ref (cAd E o))]) : W p l e rm_X6_clear s m args below meth c H locs 0 0 (gQv below args s (cG E) σ') (F0 m 0 ls []) := by
  unfold f_X6_clear at hf
  obtain ⟨F, hr, hlk⟩ := id B
  have hx := F.1
  have hb := F.2.1
  have hml := F.2.2.1
  have hown := F.2.2.2.1
  have hts := F.2.2.2.2.1
  refine lv_aload_n hx hb dX6_clear_0 rfl (lv_at hl 0 rfl) ?_
  refine lv_iconst (v := 0) hx hb dX6_clear_1 (by decide) ?_
  refine pf_X6_21 F hP hS ho dX6_clear_2 (fun H locs hP hS => ?_)
  obtain ⟨σ1, eσ1, hf⟩ := vl_x hf
  rw [← eσ1] at hP
  exact g_vret B hP hS hf dX6_clear_5
theorem c_X6_clear (l : Launch) {E : cEv} (hI : gIj (cG E)) {o : Nat} (ho : o = 1 ∨ o = 4) {σ σ' : St} {u : Unit} (hf : f_X6_clear o σ = some (u, σ')) : gMv l yX6_clear cX6_clear 1 rm_X6_clear [.ref (cAd E o)] (cG E) σ σ' :=
  g_entry (by decide) (Nat.le_of_ble_eq_true rfl) hI (fun p e s m args below meth c B hP hS ls hl => w_X6_clear_e ho B σ hf _ _ ls hP hS hl)
/-! java/util/Arrays.fill([II)V -/
def b_J7_fill_53178_5 (p1 : Nat) (K5 : (Int32 × Int32 × Int32 × St → Option (Unit × St))) (a1 : Int32) (a2 : Int32) (a3 : Int32) (σ : St) : Option (Unit × St) :=
  if a3 ≤ a2 then
    some ((), σ)
  else
    gd (ix a2 (cn p1)) <|
    vl (up2 σ p1 (nt a2) a1) fun σ4 =>
    vl (a2 + (1 : Int32)) fun x5 =>
    K5 (a1, x5, a3, σ4)
def f_J7_fill_53178 (p1 : Nat) (p2 : Int32) (σ : St) : Option (Unit × St) :=
  vl (nI (cn p1)) fun x1 =>
  lp (fun K a => b_J7_fill_53178_5 p1 K a.1 a.2.1 a.2.2.1 a.2.2.2) FU (p2, (0 : Int32), x1, σ)
abbrev rm_J7_fill_53178 : Room := { frames := 0, cells := 0, slots := 0, locals := 0 }
def P_J7_fill_53178_5 (p : Program) (l : Launch) (e : Env) (s : State) (m : MethodId) (args : Array Value) (below : List Frame) (meth : Method) (c : Code) (E : cEv) (σ' : St) (p1 : Nat) (a : Int32 × Int32 × Int32 × St) : Prop := ∀ (H : Heap) (locs : List Loc) (ls : Array Slot), gW (cG E) a.2.2.2 H → va_S (gA (cG E)) s.heap H locs → lv_has ls 4 [(0, .ref (cAd E p1)), (1, .int a.1), (2, .int a.2.1), (3, .int a.2.2.1)] → W p l e rm_J7_fill_53178 s m args below meth c H locs 0 0 (gQv below args s (cG E) σ') (F0 m 5 ls [])
set_option maxHeartbeats 4000000 in
set_option maxRecDepth 100000 in
theorem w_J7_fill_53178_5 {p : Program} {l : Launch} {e : Env} {s : State} {m : MethodId} {args : Array Value} {below : List Frame} {meth : Method} {c : Code} {E : cEv} {u : Unit} {σ' : St} {p1 : Nat} (hp1 : cArr p1) (B : gBx p m meth c cJ7_fill_53178 4 none s args RJ7 (cG E)) {K5 : (Int32 × Int32 × Int32 × St → Option (Unit × St))} (hK5 : ∀ a, K5 a = some (u, σ') → P_J7_fill_53178_5 p l e s m args below meth c E σ' p1 a) (a1 : Int32) (a2 : Int32) (a3 : Int32) (σ : St) (hf : b_J7_fill_53178_5 p1 K5 a1 a2 a3 σ = some (u, σ')) (H : Heap) (locs : List Loc) (ls : Array Slot) (hP : gW (cG E) σ H) (hS : va_S (gA (cG E)) s.heap H locs) (hl : lv_has ls 4 [(0, .ref (cAd E p1)), (1, .int a1), (2, .int a2), (3, .int a3)]) : W p l e rm_J7_fill_53178 s m args below meth c H locs 0 0 (gQv below args s (cG E) σ') (F0 m 5 ls []) := by
  unfold b_J7_fill_53178_5 at hf
  obtain ⟨F, hr, hlk⟩ := id B
  have hx := F.1
  have hb := F.2.1
  have hml := F.2.2.1
  have hown := F.2.2.2.1
  have hts := F.2.2.2.2.1
  refine lv_iload_n hx hb dJ7_fill_53178_5 rfl (lv_at hl 2 rfl) ?_
  refine lv_iload_n hx hb dJ7_fill_53178_6 rfl (lv_at hl 3 rfl) ?_
  refine lv_icmp_ge (tgt := 20) hx hb dJ7_fill_53178_7 (by decide) (fun h2 => ?_) (fun h2 => ?_)
  · rw [if_pos h2] at hf
    exact g_vret B hP hS hf dJ7_fill_53178_20
  · rw [if_neg h2] at hf
    refine lv_aload_n hx hb dJ7_fill_53178_10 rfl (lv_at hl 0 rfl) ?_
    refine lv_iload_n hx hb dJ7_fill_53178_11 rfl (lv_at hl 2 rfl) ?_
    refine lv_iload_n hx hb dJ7_fill_53178_12 rfl (lv_at hl 1 rfl) ?_
    obtain ⟨h3, hf⟩ := gd_e hf
    refine c_iast F hP hS hp1 rfl h3 dJ7_fill_53178_13 (fun H locs hP hS => ?_)
    obtain ⟨σ4, eσ4, hf⟩ := vl_x hf
    rw [← eσ4] at hP
    refine lv_iinc (v := a2 + (1 : Int32)) (lv' := [(2, .int (a2 + (1 : Int32))), (0, .ref (cAd E p1)), (1, .int a1), (3, .int a3)]) hx hb dJ7_fill_53178_14 hl (k := 2) rfl rfl (by decide) rfl (fun ls hl => ?_)
    obtain ⟨x5, ex5, hf⟩ := vl_x hf
    rw [← ex5] at hl
    refine lv_goto (tgt := 5) hx hb dJ7_fill_53178_17 (by decide) ?_
    exact hK5 _ hf _ _ _ hP hS (lv_sub hl [1, 2, 0, 3] rfl)
set_option maxHeartbeats 4000000 in
set_option maxRecDepth 100000 in
theorem w_J7_fill_53178_e {p : Program} {l : Launch} {e : Env} {s : State} {m : MethodId} {args : Array Value} {below : List Frame} {meth : Method} {c : Code} {E : cEv} {u : Unit} {σ' : St} {p1 : Nat} (hp1 : cArr p1) (B : gBx p m meth c cJ7_fill_53178 4 none s args RJ7 (cG E)) (p2 : Int32) (σ : St) (hf : f_J7_fill_53178 p1 p2 σ = some (u, σ')) (H : Heap) (locs : List Loc) (ls : Array Slot) (hP : gW (cG E) σ H) (hS : va_S (gA (cG E)) s.heap H locs) (hl : lv_has ls 4 [(0, .ref (cAd E p1)), (1, .int p2)]) : W p l e rm_J7_fill_53178 s m args below meth c H locs 0 0 (gQv below args s (cG E) σ') (F0 m 0 ls []) := by
  unfold f_J7_fill_53178 at hf
  obtain ⟨F, hr, hlk⟩ := id B
  have hx := F.1
  have hb := F.2.1
  have hml := F.2.2.1
  have hown := F.2.2.2.1
  have hts := F.2.2.2.2.1
  refine lv_iconst (v := 0) hx hb dJ7_fill_53178_0 (by decide) ?_
  refine lv_istore_n (lv' := [(2, .int (0 : Int32)), (0, .ref (cAd E p1)), (1, .int p2)]) hx hb dJ7_fill_53178_1 rfl hl (by decide) rfl (fun ls hl => ?_)
  refine lv_aload_n hx hb dJ7_fill_53178_2 rfl (lv_at hl 1 rfl) ?_
  refine c_alen F hP hp1 rfl dJ7_fill_53178_3 ?_
  obtain ⟨x1, ex1, hf⟩ := vl_x hf
  rw [← ex1]
  refine lv_istore_n (lv' := [(3, .int x1), (2, .int (0 : Int32)), (0, .ref (cAd E p1)), (1, .int p2)]) hx hb dJ7_fill_53178_4 rfl hl (by decide) rfl (fun ls hl => ?_)
  exact lp_w (P := P_J7_fill_53178_5 p l e s m args below meth c E σ' p1) (fun K hK a ha => w_J7_fill_53178_5 hp1 B hK a.1 a.2.1 a.2.2.1 a.2.2.2 ha) FU _ hf _ _ _ hP hS (lv_sub hl [2, 3, 1, 0] rfl)
theorem c_J7_fill_53178 (l : Launch) {E : cEv} (hI : gIj (cG E)) {p1 : Nat} (hp1 : cArr p1) {p2 : Int32} {σ σ' : St} {u : Unit} (hf : f_J7_fill_53178 p1 p2 σ = some (u, σ')) : gMv l yJ7_fill_53178 cJ7_fill_53178 4 rm_J7_fill_53178 [.ref (cAd E p1), .int p2] (cG E) σ σ' :=
  g_entry (by decide) (Nat.le_of_ble_eq_true rfl) hI (fun p e s m args below meth c B hP hS ls hl => w_J7_fill_53178_e hp1 B _ σ hf _ _ ls hP hS hl)
