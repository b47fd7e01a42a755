section SC
variable {p : Program} {l : Launch} {e : Env} {R : Room} {s : State} {m : MethodId} {args : Array Value} {below : List Frame} {meth : Method} {c : Code} {H : Heap} {locs : List Loc} {cells slots : Nat} {Q : State → Prop}
variable {cc : ByteArray} {pc nL : Nat} {ls : Array Slot} {rest : List Value} {E : cEv} {σ : St}
theorem gf_X7_33 (F : gFx p m c cc nL s args RX7 (cG E)) (hP : gW (cG E) σ H) (hdg : decode cc pc = .ok (.getfield 33, 3)) (kk : W p l e R s m args below meth c H locs cells slots Q (F0 m (pc + 3) ls (.ref (cAd E (lay (σ 0 6))) :: rest))) : W p l e R s m args below meth c H locs cells slots Q (F0 m pc ls (.ref (cAd E 0) :: rest)) :=
  g_get F hP (k := 0) (cin (by omega)) (ce_7 E _) rfl inX7 6 (by decide) tw_448 rfl rfl hdg kk
theorem gf_X7_110 (F : gFx p m c cc nL s args RX7 (cG E)) (hP : gW (cG E) σ H) {o : Nat} (ho : o = 8 ∨ o = 14) (hdg : decode cc pc = .ok (.getfield 110, 3)) (kk : W p l e R s m args below meth c H locs cells slots Q (F0 m (pc + 3) ls (.int (σ o 5) :: rest))) : W p l e R s m args below meth c H locs cells slots Q (F0 m pc ls (.ref (cAd E o) :: rest)) :=
  g_getN F hP (k := o) (cin (by omega)) (ce_3 E _ ho) rfl inX3 5 (by decide) tw_84 rfl rfl hdg kk
theorem gf_X7_42 (F : gFx p m c cc nL s args RX7 (cG E)) (hP : gW (cG E) σ H) (hdg : decode cc pc = .ok (.getfield 42, 3)) (kk : W p l e R s m args below meth c H locs cells slots Q (F0 m (pc + 3) ls (.ref (cAd E 20) :: rest))) : W p l e R s m args below meth c H locs cells slots Q (F0 m pc ls (.ref (cAd E 0) :: rest)) :=
  g_get F hP (k := 0) (cin (by omega)) (ce_7 E _) rfl inX7 3 (by decide) tw_445 rfl rfl hdg kk
end SC
/-! PromisedSlots.coordinatorAt(I)LPromisedSlots$Coordinator; -/
def f_X7_coordinatorAt (p1 : Int32) (σ : St) : Option ((Option Nat) × St) :=
  if p1 < 0 then
    some (none, σ)
  else
    if (σ (lay (σ 0 6)) 5) ≤ p1 then
      some (none, σ)
    else
      if (4 : Int32) ≤ p1 then
        some (none, σ)
      else
        gd (ix p1 4) <|
        vl (nt p1) fun d5 =>
        some (some d5, σ)
abbrev rm_X7_coordinatorAt : Room := { frames := 0, cells := 0, slots := 0, locals := 0 }
set_option maxHeartbeats 4000000 in
set_option maxRecDepth 100000 in
theorem w_X7_coordinatorAt_e {p : Program} {l : Launch} {e : Env} {s : State} {m : MethodId} {args : Array Value} {below : List Frame} {meth : Method} {c : Code} {E : cEv} {r : Option Nat} {σ' : St} (B : gBx p m meth c cX7_coordinatorAt 2 (some (.object "PromisedSlots$Coordinator")) s args RX7 (cG E)) (p1 : Int32) (σ : St) (hf : f_X7_coordinatorAt p1 σ = some (r, σ')) (H : Heap) (locs : List Loc) (ls : Array Slot) (hP : gW (cG E) σ H) (hS : va_S (gA (cG E)) s.heap H locs) (hl : lv_has ls 2 [(0, .ref (cAd E 0)), (1, .int p1)]) : W p l e rm_X7_coordinatorAt s m args below meth c H locs 0 0 (gQq below args s (cG E) 22 r σ') (F0 m 0 ls []) := by
  unfold f_X7_coordinatorAt at hf
  obtain ⟨F, hr, hlk⟩ := id B
  have hx := F.1
  have hb := F.2.1
  have hml := F.2.2.1
  have hown := F.2.2.2.1
  have hts := F.2.2.2.2.1
  refine lv_iload_n hx hb dX7_coordinatorAt_0 rfl (lv_at hl 1 rfl) ?_
  refine lv_if_lt (tgt := 33) hx hb dX7_coordinatorAt_1 (by decide) (fun h1 => ?_) (fun h1 => ?_)
  · rw [if_pos h1] at hf
    refine lv_null hx hb dX7_coordinatorAt_33 ?_
    exact g_aretN B hP hS hf dX7_coordinatorAt_34
  · rw [if_neg h1] at hf
    refine lv_iload_n hx hb dX7_coordinatorAt_4 rfl (lv_at hl 1 rfl) ?_
    refine lv_aload_n hx hb dX7_coordinatorAt_5 rfl (lv_at hl 0 rfl) ?_
    refine gf_X7_33 F hP dX7_coordinatorAt_6 ?_
    refine gf_X7_110 F hP (lay_ok _) dX7_coordinatorAt_9 ?_
    refine lv_icmp_ge (tgt := 33) hx hb dX7_coordinatorAt_12 (by decide) (fun h2 => ?_) (fun h2 => ?_)
    · rw [if_pos h2] at hf
      refine lv_null hx hb dX7_coordinatorAt_33 ?_
      exact g_aretN B hP hS hf dX7_coordinatorAt_34
    · rw [if_neg h2] at hf
      refine lv_iload_n hx hb dX7_coordinatorAt_15 rfl (lv_at hl 1 rfl) ?_
      refine lv_aload_n hx hb dX7_coordinatorAt_16 rfl (lv_at hl 0 rfl) ?_
      refine gf_X7_42 F hP dX7_coordinatorAt_17 ?_
      refine c_alenC F hP dX7_coordinatorAt_20 ?_
      refine lv_icmp_ge (tgt := 33) hx hb dX7_coordinatorAt_21 (by decide) (fun h3 => ?_) (fun h3 => ?_)
      · rw [if_pos h3] at hf
        refine lv_null hx hb dX7_coordinatorAt_33 ?_
        exact g_aretN B hP hS hf dX7_coordinatorAt_34
      · rw [if_neg h3] at hf
        refine lv_aload_n hx hb dX7_coordinatorAt_24 rfl (lv_at hl 0 rfl) ?_
        refine gf_X7_42 F hP dX7_coordinatorAt_25 ?_
        refine lv_iload_n hx hb dX7_coordinatorAt_28 rfl (lv_at hl 1 rfl) ?_
        obtain ⟨h4, hf⟩ := gd_e hf
        refine c_aldC F hP h4 dX7_coordinatorAt_29 ?_
        have h6 := ix_lt h4
        obtain ⟨d5, ed5, hf⟩ := vl_x hf
        rw [← ed5] at h6 ⊢
        refine lv_goto (tgt := 34) hx hb dX7_coordinatorAt_30 (by decide) ?_
        exact g_aretS B hP hS hf dX7_coordinatorAt_34
theorem c_X7_coordinatorAt (l : Launch) {E : cEv} (hI : gIj (cG E)) {p1 : Int32} {σ σ' : St} {r : Option Nat} (hf : f_X7_coordinatorAt p1 σ = some (r, σ')) : gMq l yX7_coordinatorAt cX7_coordinatorAt 2 (.object "PromisedSlots$Coordinator") rm_X7_coordinatorAt [.ref (cAd E 0), .int p1] (cG E) σ 22 r σ' :=
  g_entry (by decide) (Nat.le_of_ble_eq_true rfl) hI (fun p e s m args below meth c B hP hS ls hl => w_X7_coordinatorAt_e B _ σ hf _ _ ls hP hS hl)
section SC
variable {p : Program} {l : Launch} {e : Env} {R : Room} {s : State} {m : MethodId} {args : Array Value} {below : List Frame} {meth : Method} {c : Code} {H : Heap} {locs : List Loc} {cells slots : Nat} {Q : State → Prop}
variable {cc : ByteArray} {pc nL : Nat} {ls : Array Slot} {rest : List Value} {E : cEv} {σ : St}
theorem gf_X7_37 (F : gFx p m c cc nL s args RX7 (cG E)) (hP : gW (cG E) σ H) (hdg : decode cc pc = .ok (.getfield 37, 3)) (kk : W p l e R s m args below meth c H locs cells slots Q (F0 m (pc + 3) ls (.ref (cAd E (lay (σ 0 7))) :: rest))) : W p l e R s m args below meth c H locs cells slots Q (F0 m pc ls (.ref (cAd E 0) :: rest)) :=
  g_get F hP (k := 0) (cin (by omega)) (ce_7 E _) rfl inX7 7 (by decide) tw_449 rfl rfl hdg kk
theorem pf_X7_33 (F : gFx p m c cc nL s args RX7 (cG E)) (hP : gW (cG E) σ H) (hS : va_S (gA (cG E)) s.heap H locs) {b : Nat} (hb : b = 8 ∨ b = 14) (hdg : decode cc pc = .ok (.putfield 33, 3)) (kk : ∀ (H1 : Heap) (locs1 : List Loc), gW (cG E) (up2 σ 0 6 (layC b)) H1 → va_S (gA (cG E)) s.heap H1 locs1 → W p l e R s m args below meth c H1 locs1 cells slots Q (F0 m (pc + 3) ls rest)) : W p l e R s m args below meth c H locs cells slots Q (F0 m pc ls (.ref (cAd E b) :: .ref (cAd E 0) :: rest)) :=
  g_put F hP hS (k := 0) (cin (by omega)) (ce_7 E _) rfl inX7 tyX7 tyX7_ok nmX7 6 (by decide) tw_448 rfl rfl rfl rfl (Nat.le_of_ble_eq_true rfl) (x := (layC b)) (jj := 6) (by show cCe E 0 _ = _; rw [ce_7]; simp [upd, layC_ok hb]) hdg kk
theorem pf_X7_37 (F : gFx p m c cc nL s args RX7 (cG E)) (hP : gW (cG E) σ H) (hS : va_S (gA (cG E)) s.heap H locs) {b : Nat} (hb : b = 8 ∨ b = 14) (hdg : decode cc pc = .ok (.putfield 37, 3)) (kk : ∀ (H1 : Heap) (locs1 : List Loc), gW (cG E) (up2 σ 0 7 (layC b)) H1 → va_S (gA (cG E)) s.heap H1 locs1 → W p l e R s m args below meth c H1 locs1 cells slots Q (F0 m (pc + 3) ls rest)) : W p l e R s m args below meth c H locs cells slots Q (F0 m pc ls (.ref (cAd E b) :: .ref (cAd E 0) :: rest)) :=
  g_put F hP hS (k := 0) (cin (by omega)) (ce_7 E _) rfl inX7 tyX7 tyX7_ok nmX7 7 (by decide) tw_449 rfl rfl rfl rfl (Nat.le_of_ble_eq_true rfl) (x := (layC b)) (jj := 7) (by show cCe E 0 _ = _; rw [ce_7]; simp [upd, layC_ok hb]) hdg kk
theorem gf_X7_49 (F : gFx p m c cc nL s args RX7 (cG E)) (hP : gW (cG E) σ H) (hdg : decode cc pc = .ok (.getfield 49, 3)) (kk : W p l e R s m args below meth c H locs cells slots Q (F0 m (pc + 3) ls (.ref (cAd E 21) :: rest))) : W p l e R s m args below meth c H locs cells slots Q (F0 m pc ls (.ref (cAd E 0) :: rest)) :=
  g_get F hP (k := 0) (cin (by omega)) (ce_7 E _) rfl inX7 4 (by decide) tw_446 rfl rfl hdg kk
theorem gf_X7_59 (F : gFx p m c cc nL s args RX7 (cG E)) (hP : gW (cG E) σ H) (hdg : decode cc pc = .ok (.getfield 59, 3)) (kk : W p l e R s m args below meth c H locs cells slots Q (F0 m (pc + 3) ls (.ref (cAd E 6) :: rest))) : W p l e R s m args below meth c H locs cells slots Q (F0 m pc ls (.ref (cAd E 0) :: rest)) :=
  g_get F hP (k := 0) (cin (by omega)) (ce_7 E _) rfl inX7 5 (by decide) tw_447 rfl rfl hdg kk
theorem pf_X7_135 (F : gFx p m c cc nL s args RX7 (cG E)) (hP : gW (cG E) σ H) (hS : va_S (gA (cG E)) s.heap H locs) {x : Int32} (hdg : decode cc pc = .ok (.putfield 135, 3)) (kk : ∀ (H1 : Heap) (locs1 : List Loc), gW (cG E) (up2 σ 6 2 x) H1 → va_S (gA (cG E)) s.heap H1 locs1 → W p l e R s m args below meth c H1 locs1 cells slots Q (F0 m (pc + 3) ls rest)) : W p l e R s m args below meth c H locs cells slots Q (F0 m pc ls (.int x :: .ref (cAd E 6) :: rest)) :=
  g_putN F hP hS (k := 6) (cin (by omega)) (ce_0 E _) rfl inX0 tyX0 tyX0_ok nmX0 1 (by decide) tw_260 rfl rfl rfl rfl (Nat.le_of_ble_eq_true rfl) (x := x) (jj := 2) (ce_0 E _) hdg kk
theorem pf_X7_124 (F : gFx p m c cc nL s args RX7 (cG E)) (hP : gW (cG E) σ H) (hS : va_S (gA (cG E)) s.heap H locs) {x : Int32} (hdg : decode cc pc = .ok (.putfield 124, 3)) (kk : ∀ (H1 : Heap) (locs1 : List Loc), gW (cG E) (up2 σ 0 8 x) H1 → va_S (gA (cG E)) s.heap H1 locs1 → W p l e R s m args below meth c H1 locs1 cells slots Q (F0 m (pc + 3) ls rest)) : W p l e R s m args below meth c H locs cells slots Q (F0 m pc ls (.int x :: .ref (cAd E 0) :: rest)) :=
  g_put F hP hS (k := 0) (cin (by omega)) (ce_7 E _) rfl inX7 tyX7 tyX7_ok nmX7 8 (by decide) tw_450 rfl rfl rfl rfl (Nat.le_of_ble_eq_true rfl) (x := x) (jj := 8) (ce_7 E _) hdg kk
theorem pf_X7_229 (F : gFx p m c cc nL s args RX7 (cG E)) (hP : gW (cG E) σ H) (hS : va_S (gA (cG E)) s.heap H locs) {x : Int32} (hdg : decode cc pc = .ok (.putfield 229, 3)) (kk : ∀ (H1 : Heap) (locs1 : List Loc), gW (cG E) (up2 σ 0 9 x) H1 → va_S (gA (cG E)) s.heap H1 locs1 → W p l e R s m args below meth c H1 locs1 cells slots Q (F0 m (pc + 3) ls rest)) : W p l e R s m args below meth c H locs cells slots Q (F0 m pc ls (.int x :: .ref (cAd E 0) :: rest)) :=
  g_put F hP hS (k := 0) (cin (by omega)) (ce_7 E _) rfl inX7 tyX7 tyX7_ok nmX7 9 (by decide) tw_451 rfl rfl rfl rfl (Nat.le_of_ble_eq_true rfl) (x := x) (jj := 9) (ce_7 E _) hdg kk
theorem kc_X7_244 (F : gFx p m c cc nL s args RX7 (cG E)) (hP : gW (cG E) σ H) (hS : va_S (gA (cG E)) s.heap H locs) {o : Nat} (ho : o = 8 ∨ o = 14) {p1 : Int32} {r : Int32} {σ' : St} (hf : f_X3_homeAt o p1 σ = some (r, σ')) (hR : rm_X3_homeAt.frames + 1 ≤ R.frames ∧ 8 + (2 + 11) + rm_X3_homeAt.locals ≤ R.locals) (hsz : ls.size = nL) (hrest : (rest.map fun v => v.category).sum ≤ 8) (hcs : cells ≤ R.cells ∧ slots ≤ R.slots) (hdg : decode cc pc = .ok (.invokevirtual 244, 3)) (kk : ∀ (H1 : Heap) (locs1 : List Loc), gW (cG E) σ' H1 → va_S (gA (cG E)) s.heap H1 locs1 → W p l e R s m args below meth c H1 locs1 cells slots Q (F0 m (pc + 3) ls (.int r :: rest))) : W p l e R s m args below meth c H locs cells slots Q (F0 m pc ls (.int p1 :: .ref (cAd E o) :: rest)) :=
  g_callVi F hP hS (c_X3_homeAt l F.2.2.2.2.2.2.2 ho hf) (g_cwV (n := 1) F tw_414 tw_415 tw_416 tw_5 tw_417 (by decide +kernel) rfl rfl hR) (k := o) (cin (by omega)) (ce_3 E _ ho) rfl (As := [.int p1]) rfl hsz rfl hrest hdg hcs kk
theorem kc_X7_247 (F : gFx p m c cc nL s args RX7 (cG E)) (hP : gW (cG E) σ H) (hS : va_S (gA (cG E)) s.heap H locs) {o : Nat} (ho : o = 8 ∨ o = 14) {p1 : Int32} {r : Int32} {σ' : St} (hf : f_X3_lengthAt o p1 σ = some (r, σ')) (hR : rm_X3_lengthAt.frames + 1 ≤ R.frames ∧ 8 + (2 + 11) + rm_X3_lengthAt.locals ≤ R.locals) (hsz : ls.size = nL) (hrest : (rest.map fun v => v.category).sum ≤ 8) (hcs : cells ≤ R.cells ∧ slots ≤ R.slots) (hdg : decode cc pc = .ok (.invokevirtual 247, 3)) (kk : ∀ (H1 : Heap) (locs1 : List Loc), gW (cG E) σ' H1 → va_S (gA (cG E)) s.heap H1 locs1 → W p l e R s m args below meth c H1 locs1 cells slots Q (F0 m (pc + 3) ls (.int r :: rest))) : W p l e R s m args below meth c H locs cells slots Q (F0 m pc ls (.int p1 :: .ref (cAd E o) :: rest)) :=
  g_callVi F hP hS (c_X3_lengthAt l F.2.2.2.2.2.2.2 ho hf) (g_cwV (n := 1) F tw_418 tw_419 tw_420 tw_5 tw_421 (by decide +kernel) rfl rfl hR) (k := o) (cin (by omega)) (ce_3 E _ ho) rfl (As := [.int p1]) rfl hsz rfl hrest hdg hcs kk
theorem kc_X7_250 (F : gFx p m c cc nL s args RX7 (cG E)) (hP : gW (cG E) σ H) (hS : va_S (gA (cG E)) s.heap H locs) {o : Nat} (ho : o = 8 ∨ o = 14) {p1 : Int32} {r : Int32} {σ' : St} (hf : f_X3_exponentAt o p1 σ = some (r, σ')) (hR : rm_X3_exponentAt.frames + 1 ≤ R.frames ∧ 8 + (2 + 11) + rm_X3_exponentAt.locals ≤ R.locals) (hsz : ls.size = nL) (hrest : (rest.map fun v => v.category).sum ≤ 8) (hcs : cells ≤ R.cells ∧ slots ≤ R.slots) (hdg : decode cc pc = .ok (.invokevirtual 250, 3)) (kk : ∀ (H1 : Heap) (locs1 : List Loc), gW (cG E) σ' H1 → va_S (gA (cG E)) s.heap H1 locs1 → W p l e R s m args below meth c H1 locs1 cells slots Q (F0 m (pc + 3) ls (.int r :: rest))) : W p l e R s m args below meth c H locs cells slots Q (F0 m pc ls (.int p1 :: .ref (cAd E o) :: rest)) :=
  g_callVi F hP hS (c_X3_exponentAt l F.2.2.2.2.2.2.2 ho hf) (g_cwV (n := 1) F tw_422 tw_423 tw_424 tw_5 tw_425 (by decide +kernel) rfl rfl hR) (k := o) (cin (by omega)) (ce_3 E _ ho) rfl (As := [.int p1]) rfl hsz rfl hrest hdg hcs kk
theorem kc_X7_253 (F : gFx p m c cc nL s args RX7 (cG E)) (hP : gW (cG E) σ H) (hS : va_S (gA (cG E)) s.heap H locs) {o : Nat} (ho : o < 8) {p1 : Int32} {p2 : Int32} {p3 : Int32} {u : Unit} {σ' : St} (hf : f_X2_layAt o p1 p2 p3 σ = some (u, σ')) (hR : rm_X2_layAt.frames + 1 ≤ R.frames ∧ 8 + (4 + 11) + rm_X2_layAt.locals ≤ R.locals) (hsz : ls.size = nL) (hrest : (rest.map fun v => v.category).sum ≤ 8) (hcs : cells ≤ R.cells ∧ slots ≤ R.slots) (hdg : decode cc pc = .ok (.invokevirtual 253, 3)) (kk : ∀ (H1 : Heap) (locs1 : List Loc), gW (cG E) σ' H1 → va_S (gA (cG E)) s.heap H1 locs1 → W p l e R s m args below meth c H1 locs1 cells slots Q (F0 m (pc + 3) ls rest)) : W p l e R s m args below meth c H locs cells slots Q (F0 m pc ls (.int p3 :: .int p2 :: .int p1 :: .ref (cAd E (46 + o)) :: rest)) :=
  g_callVv F hP hS (c_X2_layAt l F.2.2.2.2.2.2.2 ho hf) (g_cwV (n := 3) F tw_426 tw_427 tw_428 tw_8 tw_429 (by decide +kernel) rfl rfl hR) (k := (46 + o)) (cin (by omega)) (ce_2 E _ ho) rfl (As := [.int p1, .int p2, .int p3]) rfl hsz rfl hrest hdg hcs kk
theorem gf_X7_142 (F : gFx p m c cc nL s args RX7 (cG E)) (hP : gW (cG E) σ H) {o : Nat} (ho : o < 8) (hdg : decode cc pc = .ok (.getfield 142, 3)) (kk : W p l e R s m args below meth c H locs cells slots Q (F0 m (pc + 3) ls (.int (σ (46 + o) 1) :: rest))) : W p l e R s m args below meth c H locs cells slots Q (F0 m pc ls (.ref (cAd E (46 + o)) :: rest)) :=
  g_getN F hP (k := (46 + o)) (cin (by omega)) (ce_2 E _ ho) rfl inX2 1 (by decide) tw_181 rfl rfl hdg kk
theorem kc_X7_103 (F : gFx p m c cc nL s args RX7 (cG E)) (hP : gW (cG E) σ H) (hS : va_S (gA (cG E)) s.heap H locs) {p1 : Int32} {r : Option Nat} {σ' : St} (hf : f_X7_coordinatorAt p1 σ = some (r, σ')) (hR : rm_X7_coordinatorAt.frames + 1 ≤ R.frames ∧ 8 + (2 + 11) + rm_X7_coordinatorAt.locals ≤ R.locals) (hsz : ls.size = nL) (hrest : (rest.map fun v => v.category).sum ≤ 8) (hcs : cells ≤ R.cells ∧ slots ≤ R.slots) (hdg : decode cc pc = .ok (.invokevirtual 103, 3)) (kn : r = none → ∀ (H1 : Heap) (locs1 : List Loc), gW (cG E) σ' H1 → va_S (gA (cG E)) s.heap H1 locs1 → W p l e R s m args below meth c H1 locs1 cells slots Q (F0 m (pc + 3) ls (.null :: rest))) (ks : ∀ d, r = some d → ∀ (H1 : Heap) (locs1 : List Loc), gW (cG E) σ' H1 → va_S (gA (cG E)) s.heap H1 locs1 → W p l e R s m args below meth c H1 locs1 cells slots Q (F0 m (pc + 3) ls (.ref (cAd E (22 + d)) :: rest))) : W p l e R s m args below meth c H locs cells slots Q (F0 m pc ls (.int p1 :: .ref (cAd E 0) :: rest)) :=
  g_callVq F hP hS (c_X7_coordinatorAt l F.2.2.2.2.2.2.2 hf) (g_cwV (n := 1) F tw_430 tw_432 ts_8 tw_1 tw_433 (by decide +kernel) rfl rfl hR) (k := 0) (cin (by omega)) (ce_7 E _) rfl (As := [.int p1]) rfl hsz rfl hrest hdg hcs kn ks
theorem kc_X7_151 (F : gFx p m c cc nL s args RX7 (cG E)) (hP : gW (cG E) σ H) (hS : va_S (gA (cG E)) s.heap H locs) {o : Nat} (ho : o < 4) {p1 : Int32} {u : Unit} {σ' : St} (hf : f_X1_enlist o p1 σ = some (u, σ')) (hR : rm_X1_enlist.frames + 1 ≤ R.frames ∧ 8 + (2 + 11) + rm_X1_enlist.locals ≤ R.locals) (hsz : ls.size = nL) (hrest : (rest.map fun v => v.category).sum ≤ 8) (hcs : cells ≤ R.cells ∧ slots ≤ R.slots) (hdg : decode cc pc = .ok (.invokevirtual 151, 3)) (kk : ∀ (H1 : Heap) (locs1 : List Loc), gW (cG E) σ' H1 → va_S (gA (cG E)) s.heap H1 locs1 → W p l e R s m args below meth c H1 locs1 cells slots Q (F0 m (pc + 3) ls rest)) : W p l e R s m args below meth c H locs cells slots Q (F0 m pc ls (.int p1 :: .ref (cAd E (22 + o)) :: rest)) :=
  g_callVv F hP hS (c_X1_enlist l F.2.2.2.2.2.2.2 ho hf) (g_cwV (n := 1) F tw_434 tw_435 tw_436 tw_6 tw_437 (by decide +kernel) rfl rfl hR) (k := (22 + o)) (cin (by omega)) (ce_1 E _ ho) rfl (As := [.int p1]) rfl hsz rfl hrest hdg hcs kk
theorem kc_X7_238 (F : gFx p m c cc nL s args RX7 (cG E)) (hP : gW (cG E) σ H) (hS : va_S (gA (cG E)) s.heap H locs) {o : Nat} (ho : o = 8 ∨ o = 14) {p1 : Int32} {r : Int32} {σ' : St} (hf : f_X3_startAt o p1 σ = some (r, σ')) (hR : rm_X3_startAt.frames + 1 ≤ R.frames ∧ 8 + (2 + 11) + rm_X3_startAt.locals ≤ R.locals) (hsz : ls.size = nL) (hrest : (rest.map fun v => v.category).sum ≤ 8) (hcs : cells ≤ R.cells ∧ slots ≤ R.slots) (hdg : decode cc pc = .ok (.invokevirtual 238, 3)) (kk : ∀ (H1 : Heap) (locs1 : List Loc), gW (cG E) σ' H1 → va_S (gA (cG E)) s.heap H1 locs1 → W p l e R s m args below meth c H1 locs1 cells slots Q (F0 m (pc + 3) ls (.int r :: rest))) : W p l e R s m args below meth c H locs cells slots Q (F0 m pc ls (.int p1 :: .ref (cAd E o) :: rest)) :=
  g_callVi F hP hS (c_X3_startAt l F.2.2.2.2.2.2.2 ho hf) (g_cwV (n := 1) F tw_401 tw_374 tw_375 tw_5 tw_376 (by decide +kernel) rfl rfl hR) (k := o) (cin (by omega)) (ce_3 E _ ho) rfl (As := [.int p1]) rfl hsz rfl hrest hdg hcs kk
theorem kc_X7_241 (F : gFx p m c cc nL s args RX7 (cG E)) (hP : gW (cG E) σ H) (hS : va_S (gA (cG E)) s.heap H locs) {o : Nat} (ho : o = 8 ∨ o = 14) {p1 : Int32} {r : Int32} {σ' : St} (hf : f_X3_parentAt o p1 σ = some (r, σ')) (hR : rm_X3_parentAt.frames + 1 ≤ R.frames ∧ 8 + (2 + 11) + rm_X3_parentAt.locals ≤ R.locals) (hsz : ls.size = nL) (hrest : (rest.map fun v => v.category).sum ≤ 8) (hcs : cells ≤ R.cells ∧ slots ≤ R.slots) (hdg : decode cc pc = .ok (.invokevirtual 241, 3)) (kk : ∀ (H1 : Heap) (locs1 : List Loc), gW (cG E) σ' H1 → va_S (gA (cG E)) s.heap H1 locs1 → W p l e R s m args below meth c H1 locs1 cells slots Q (F0 m (pc + 3) ls (.int r :: rest))) : W p l e R s m args below meth c H locs cells slots Q (F0 m pc ls (.int p1 :: .ref (cAd E o) :: rest)) :=
  g_callVi F hP hS (c_X3_parentAt l F.2.2.2.2.2.2.2 ho hf) (g_cwV (n := 1) F tw_402 tw_403 tw_404 tw_5 tw_405 (by decide +kernel) rfl rfl hR) (k := o) (cin (by omega)) (ce_3 E _ ho) rfl (As := [.int p1]) rfl hsz rfl hrest hdg hcs kk
theorem kc_X7_130 (F : gFx p m c cc nL s args RX7 (cG E)) (hP : gW (cG E) σ H) (hS : va_S (gA (cG E)) s.heap H locs) {o : Nat} (ho : o < 4) {p1 : Int32} {p2 : Int32} {p3 : Int32} {u : Unit} {σ' : St} (hf : f_X1_layAt o p1 p2 p3 σ = some (u, σ')) (hR : rm_X1_layAt.frames + 1 ≤ R.frames ∧ 8 + (4 + 11) + rm_X1_layAt.locals ≤ R.locals) (hsz : ls.size = nL) (hrest : (rest.map fun v => v.category).sum ≤ 8) (hcs : cells ≤ R.cells ∧ slots ≤ R.slots) (hdg : decode cc pc = .ok (.invokevirtual 130, 3)) (kk : ∀ (H1 : Heap) (locs1 : List Loc), gW (cG E) σ' H1 → va_S (gA (cG E)) s.heap H1 locs1 → W p l e R s m args below meth c H1 locs1 cells slots Q (F0 m (pc + 3) ls rest)) : W p l e R s m args below meth c H locs cells slots Q (F0 m pc ls (.int p3 :: .int p2 :: .int p1 :: .ref (cAd E (22 + o)) :: rest)) :=
  g_callVv F hP hS (c_X1_layAt l F.2.2.2.2.2.2.2 ho hf) (g_cwV (n := 3) F tw_406 tw_407 tw_408 tw_6 tw_409 (by decide +kernel) rfl rfl hR) (k := (22 + o)) (cin (by omega)) (ce_1 E _ ho) rfl (As := [.int p1, .int p2, .int p3]) rfl hsz rfl hrest hdg hcs kk
end SC
/-! PromisedSlots.takeLayout()V -/
def b_X7_takeLayout_65 (K65 : (Int32 × St → Option (Unit × St))) (a2 : Int32) (σ : St) : Option (Unit × St) :=
  if (8 : Int32) ≤ a2 then
    vl (up2 σ 6 2 (1 : Int32)) fun σ5 =>
    vl (up2 σ5 0 8 (0 : Int32)) fun σ6 =>
    vl (up2 σ6 0 9 (0 : Int32)) fun σ7 =>
    some ((), σ7)
  else
    gd (ix a2 8) <|
    vl (nt a2) fun d9 =>
    cl (f_X3_homeAt (lay (σ 0 6)) a2 σ) fun r12 σ11 =>
    cl (f_X3_lengthAt (lay (σ11 0 6)) a2 σ11) fun r15 σ14 =>
    cl (f_X3_exponentAt (lay (σ14 0 6)) a2 σ14) fun r18 σ17 =>
    cl (f_X2_layAt d9 r12 r15 r18 σ17) fun r21 σ20 =>
    gd (ix a2 8) <|
    vl (nt a2) fun d24 =>
    cl (f_X7_coordinatorAt (σ20 (46 + d24) 1) σ20) fun r27 σ26 =>
    oc r27 (
      vl (a2 + (1 : Int32)) fun x31 =>
      K65 (x31, σ26)) (fun d30 => gd (d30 < 4) <|
      cl (f_X1_enlist d30 a2 σ26) fun r34 σ33 =>
      vl (a2 + (1 : Int32)) fun x36 =>
      K65 (x36, σ33))
def b_X7_takeLayout_20 (K20 : (Int32 × St → Option (Unit × St))) (a2 : Int32) (σ : St) : Option (Unit × St) :=
  if (4 : Int32) ≤ a2 then
    lp (fun K a => b_X7_takeLayout_65 K a.1 a.2) FU ((0 : Int32), σ)
  else
    cl (f_X3_startAt (lay (σ 0 6)) a2 σ) fun r38 σ37 =>
    gd (ix a2 4) <|
    vl (nt a2) fun d41 =>
    cl (f_X3_parentAt (lay (σ37 0 6)) a2 σ37) fun r44 σ43 =>
    cl (f_X1_layAt d41 r44 r38 r38 σ43) fun r47 σ46 =>
    vl (a2 + (1 : Int32)) fun x49 =>
    K20 (x49, σ46)
def f_X7_takeLayout (σ : St) : Option (Unit × St) :=
  vl (up2 σ 0 6 (layC (lay (σ 0 7)))) fun σ1 =>
  vl (up2 σ1 0 7 (layC (lay (σ 0 6)))) fun σ2 =>
  lp (fun K a => b_X7_takeLayout_20 K a.1 a.2) FU ((0 : Int32), σ2)
abbrev rm_X7_takeLayout : Room := { frames := 2, cells := 0, slots := 0, locals := 43 }
def P_X7_takeLayout_20 (p : Program) (l : Launch) (e : Env) (s : State) (m : MethodId) (args : Array Value) (below : List Frame) (meth : Method) (c : Code) (E : cEv) (σ' : St) (a : Int32 × St) : Prop := ∀ (H : Heap) (locs : List Loc) (ls : Array Slot), gW (cG E) a.2 H → va_S (gA (cG E)) s.heap H locs → lv_has ls 4 [(0, .ref (cAd E 0)), (2, .int a.1)] → W p l e rm_X7_takeLayout s m args below meth c H locs 0 0 (gQv below args s (cG E) σ') (F0 m 20 ls [])
def P_X7_takeLayout_65 (p : Program) (l : Launch) (e : Env) (s : State) (m : MethodId) (args : Array Value) (below : List Frame) (meth : Method) (c : Code) (E : cEv) (σ' : St) (a : Int32 × St) : Prop := ∀ (H : Heap) (locs : List Loc) (ls : Array Slot), gW (cG E) a.2 H → va_S (gA (cG E)) s.heap H locs → lv_has ls 4 [(0, .ref (cAd E 0)), (2, .int a.1)] → W p l e rm_X7_takeLayout s m args below meth c H locs 0 0 (gQv below args s (cG E) σ') (F0 m 65 ls [])
set_option maxHeartbeats 4000000 in
set_option maxRecDepth 100000 in
theorem w_X7_takeLayout_65 {p : Program} {l : Launch} {e : Env} {s : State} {m : MethodId} {args : Array Value} {below : List Frame} {meth : Method} {c : Code} {E : cEv} {u : Unit} {σ' : St} (B : gBx p m meth c cX7_takeLayout 4 none s args RX7 (cG E)) {K65 : (Int32 × St → Option (Unit × St))} (hK65 : ∀ a, K65 a = some (u, σ') → P_X7_takeLayout_65 p l e s m args below meth c E σ' a) (a2 : Int32) (σ : St) (hf : b_X7_takeLayout_65 K65 a2 σ = some (u, σ')) (H : Heap) (locs : List Loc) (ls : Array Slot) (hP : gW (cG E) σ H) (hS : va_S (gA (cG E)) s.heap H locs) (hl : lv_has ls 4 [(0, .ref (cAd E 0)), (2, .int a2)]) : W p l e rm_X7_takeLayout s m args below meth c H locs 0 0 (gQv below args s (cG E) σ') (F0 m 65 ls []) := by
  unfold b_X7_takeLayout_65 at hf
  obtain ⟨F, hr, hlk⟩ := id B
  have hx := F.1
  have hb := F.2.1
  have hml := F.2.2.1
  have hown := F.2.2.2.1
  have hts := F.2.2.2.2.1
  refine lv_iload_n hx hb dX7_takeLayout_65 rfl (lv_at hl 1 rfl) ?_
  refine lv_aload_n hx hb dX7_takeLayout_66 rfl (lv_at hl 0 rfl) ?_
  refine gf_X7_49 F hP dX7_takeLayout_67 ?_
  refine c_alenD F hP dX7_takeLayout_70 ?_
  refine lv_icmp_ge (tgt := 136) hx hb dX7_takeLayout_71 (by decide) (fun h4 => ?_) (fun h4 => ?_)
  · rw [if_pos h4] at hf
    refine lv_aload_n hx hb dX7_takeLayout_136 rfl (lv_at hl 0 rfl) ?_
    refine gf_X7_59 F hP dX7_takeLayout_137 ?_
    refine lv_iconst (v := 1) hx hb dX7_takeLayout_140 (by decide) ?_
    refine pf_X7_135 F hP hS dX7_takeLayout_141 (fun H locs hP hS => ?_)
    obtain ⟨σ5, eσ5, hf⟩ := vl_x hf
    rw [← eσ5] at hP
    refine lv_aload_n hx hb dX7_takeLayout_144 rfl (lv_at hl 0 rfl) ?_
    refine lv_iconst (v := 0) hx hb dX7_takeLayout_145 (by decide) ?_
    refine pf_X7_124 F hP hS dX7_takeLayout_146 (fun H locs hP hS => ?_)
    obtain ⟨σ6, eσ6, hf⟩ := vl_x hf
    rw [← eσ6] at hP
    refine lv_aload_n hx hb dX7_takeLayout_149 rfl (lv_at hl 0 rfl) ?_
    refine lv_iconst (v := 0) hx hb dX7_takeLayout_150 (by decide) ?_
    refine pf_X7_229 F hP hS dX7_takeLayout_151 (fun H locs hP hS => ?_)
    obtain ⟨σ7, eσ7, hf⟩ := vl_x hf
    rw [← eσ7] at hP
    exact g_vret B hP hS hf dX7_takeLayout_154
  · rw [if_neg h4] at hf
    refine lv_aload_n hx hb dX7_takeLayout_74 rfl (lv_at hl 0 rfl) ?_
    refine gf_X7_49 F hP dX7_takeLayout_75 ?_
    refine lv_iload_n hx hb dX7_takeLayout_78 rfl (lv_at hl 1 rfl) ?_
    obtain ⟨h8, hf⟩ := gd_e hf
    refine c_aldD F hP h8 dX7_takeLayout_79 ?_
    have h10 := ix_lt h8
    obtain ⟨d9, ed9, hf⟩ := vl_x hf
    rw [← ed9] at h10 ⊢
    refine lv_aload_n hx hb dX7_takeLayout_80 rfl (lv_at hl 0 rfl) ?_
    refine gf_X7_33 F hP dX7_takeLayout_81 ?_
    refine lv_iload_n hx hb dX7_takeLayout_84 rfl (lv_at hl 1 rfl) ?_
    obtain ⟨r12, σ11, h13, hf⟩ := cl_e hf
    refine kc_X7_244 F hP hS (lay_ok _) h13 ⟨Nat.le_of_ble_eq_true rfl, Nat.le_of_ble_eq_true rfl⟩ hl.1 (Nat.le_of_ble_eq_true rfl) ⟨Nat.zero_le _, Nat.zero_le _⟩ dX7_takeLayout_85 (fun H locs hP hS => ?_)
    refine lv_aload_n hx hb dX7_takeLayout_88 rfl (lv_at hl 0 rfl) ?_
    refine gf_X7_33 F hP dX7_takeLayout_89 ?_
    refine lv_iload_n hx hb dX7_takeLayout_92 rfl (lv_at hl 1 rfl) ?_
    obtain ⟨r15, σ14, h16, hf⟩ := cl_e hf
    refine kc_X7_247 F hP hS (lay_ok _) h16 ⟨Nat.le_of_ble_eq_true rfl, Nat.le_of_ble_eq_true rfl⟩ hl.1 (Nat.le_of_ble_eq_true rfl) ⟨Nat.zero_le _, Nat.zero_le _⟩ dX7_takeLayout_93 (fun H locs hP hS => ?_)
    refine lv_aload_n hx hb dX7_takeLayout_96 rfl (lv_at hl 0 rfl) ?_
    refine gf_X7_33 F hP dX7_takeLayout_97 ?_
    refine lv_iload_n hx hb dX7_takeLayout_100 rfl (lv_at hl 1 rfl) ?_
    obtain ⟨r18, σ17, h19, hf⟩ := cl_e hf
    refine kc_X7_250 F hP hS (lay_ok _) h19 ⟨Nat.le_of_ble_eq_true rfl, Nat.le_of_ble_eq_true rfl⟩ hl.1 (Nat.le_of_ble_eq_true rfl) ⟨Nat.zero_le _, Nat.zero_le _⟩ dX7_takeLayout_101 (fun H locs hP hS => ?_)
    obtain ⟨r21, σ20, h22, hf⟩ := cl_e hf
    refine kc_X7_253 F hP hS h10 h22 ⟨Nat.le_of_ble_eq_true rfl, Nat.le_of_ble_eq_true rfl⟩ hl.1 (Nat.le_of_ble_eq_true rfl) ⟨Nat.zero_le _, Nat.zero_le _⟩ dX7_takeLayout_104 (fun H locs hP hS => ?_)
    refine lv_aload_n hx hb dX7_takeLayout_107 rfl (lv_at hl 0 rfl) ?_
    refine lv_aload_n hx hb dX7_takeLayout_108 rfl (lv_at hl 0 rfl) ?_
    refine gf_X7_49 F hP dX7_takeLayout_109 ?_
    refine lv_iload_n hx hb dX7_takeLayout_112 rfl (lv_at hl 1 rfl) ?_
    obtain ⟨h23, hf⟩ := gd_e hf
    refine c_aldD F hP h23 dX7_takeLayout_113 ?_
    have h25 := ix_lt h23
    obtain ⟨d24, ed24, hf⟩ := vl_x hf
    rw [← ed24] at h25 ⊢
    refine gf_X7_142 F hP h25 dX7_takeLayout_114 ?_
    obtain ⟨r27, σ26, h28, hf⟩ := cl_e hf
    refine kc_X7_103 F hP hS h28 ⟨Nat.le_of_ble_eq_true rfl, Nat.le_of_ble_eq_true rfl⟩ hl.1 (Nat.le_of_ble_eq_true rfl) ⟨Nat.zero_le _, Nat.zero_le _⟩ dX7_takeLayout_117 (fun e29 H locs hP hS => ?_) (fun d30 e29 H locs hP hS => ?_)
    · subst e29
      replace hf := oc_n hf
      refine lv_astore_nN (lv' := [(3, .null), (0, .ref (cAd E 0)), (2, .int a2)]) hx hb dX7_takeLayout_120 rfl hl (by decide) rfl (fun ls hl => ?_)
      refine lv_aload_nN hx hb dX7_takeLayout_121 rfl (lv_at hl 0 rfl) ?_
      refine lv_ifnullN (tgt := 130) hx hb dX7_takeLayout_122 (by decide) ?_
      refine lv_iinc (v := a2 + (1 : Int32)) (lv' := [(2, .int (a2 + (1 : Int32))), (3, .null), (0, .ref (cAd E 0))]) hx hb dX7_takeLayout_130 hl (k := 2) rfl rfl (by decide) rfl (fun ls hl => ?_)
      obtain ⟨x31, ex31, hf⟩ := vl_x hf
      rw [← ex31] at hl
      refine lv_goto (tgt := 65) hx hb dX7_takeLayout_133 (by decide) ?_
      exact hK65 _ hf _ _ _ hP hS (lv_sub hl [2, 0] rfl)
    · subst e29
      replace hf := oc_s hf
      obtain ⟨h32, hf⟩ := gd_e hf
      refine lv_astore_n (lv' := [(3, .ref (cAd E (22 + d30))), (0, .ref (cAd E 0)), (2, .int a2)]) hx hb dX7_takeLayout_120 rfl hl (by decide) rfl (fun ls hl => ?_)
      refine lv_aload_n hx hb dX7_takeLayout_121 rfl (lv_at hl 0 rfl) ?_
      refine lv_ifnull hx hb dX7_takeLayout_122 ?_
      refine lv_aload_n hx hb dX7_takeLayout_125 rfl (lv_at hl 0 rfl) ?_
      refine lv_iload_n hx hb dX7_takeLayout_126 rfl (lv_at hl 2 rfl) ?_
      obtain ⟨r34, σ33, h35, hf⟩ := cl_e hf
      refine kc_X7_151 F hP hS h32 h35 ⟨Nat.le_of_ble_eq_true rfl, Nat.le_of_ble_eq_true rfl⟩ hl.1 (Nat.le_of_ble_eq_true rfl) ⟨Nat.zero_le _, Nat.zero_le _⟩ dX7_takeLayout_127 (fun H locs hP hS => ?_)
      refine lv_iinc (v := a2 + (1 : Int32)) (lv' := [(2, .int (a2 + (1 : Int32))), (3, .ref (cAd E (22 + d30))), (0, .ref (cAd E 0))]) hx hb dX7_takeLayout_130 hl (k := 2) rfl rfl (by decide) rfl (fun ls hl => ?_)
      obtain ⟨x36, ex36, hf⟩ := vl_x hf
      rw [← ex36] at hl
      refine lv_goto (tgt := 65) hx hb dX7_takeLayout_133 (by decide) ?_
      exact hK65 _ hf _ _ _ hP hS (lv_sub hl [2, 0] rfl)
set_option maxHeartbeats 4000000 in
set_option maxRecDepth 100000 in
theorem w_X7_takeLayout_20 {p : Program} {l : Launch} {e : Env} {s : State} {m : MethodId} {args : Array Value} {below : List Frame} {meth : Method} {c : Code} {E : cEv} {u : Unit} {σ' : St} (B : gBx p m meth c cX7_takeLayout 4 none s args RX7 (cG E)) {K20 : (Int32 × St → Option (Unit × St))} (hK20 : ∀ a, K20 a = some (u, σ') → P_X7_takeLayout_20 p l e s m args below meth c E σ' a) (a2 : Int32) (σ : St) (hf : b_X7_takeLayout_20 K20 a2 σ = some (u, σ')) (H : Heap) (locs : List Loc) (ls : Array Slot) (hP : gW (cG E) σ H) (hS : va_S (gA (cG E)) s.heap H locs) (hl : lv_has ls 4 [(0, .ref (cAd E 0)), (2, .int a2)]) : W p l e rm_X7_takeLayout s m args below meth c H locs 0 0 (gQv below args s (cG E) σ') (F0 m 20 ls []) := by
  unfold b_X7_takeLayout_20 at hf
  obtain ⟨F, hr, hlk⟩ := id B
  have hx := F.1
  have hb := F.2.1
  have hml := F.2.2.1
  have hown := F.2.2.2.1
  have hts := F.2.2.2.2.1
  refine lv_iload_n hx hb dX7_takeLayout_20 rfl (lv_at hl 1 rfl) ?_
  refine lv_aload_n hx hb dX7_takeLayout_21 rfl (lv_at hl 0 rfl) ?_
  refine gf_X7_42 F hP dX7_takeLayout_22 ?_
  refine c_alenC F hP dX7_takeLayout_25 ?_
  refine lv_icmp_ge (tgt := 63) hx hb dX7_takeLayout_26 (by decide) (fun h3 => ?_) (fun h3 => ?_)
  · rw [if_pos h3] at hf
    refine lv_iconst (v := 0) hx hb dX7_takeLayout_63 (by decide) ?_
    refine lv_istore_n (lv' := [(2, .int (0 : Int32)), (0, .ref (cAd E 0))]) hx hb dX7_takeLayout_64 rfl hl (by decide) rfl (fun ls hl => ?_)
    exact lp_w (P := P_X7_takeLayout_65 p l e s m args below meth c E σ') (fun K hK a ha => w_X7_takeLayout_65 B hK a.1 a.2 ha) FU _ hf _ _ _ hP hS (lv_sub hl [1, 0] rfl)
  · rw [if_neg h3] at hf
    refine lv_aload_n hx hb dX7_takeLayout_29 rfl (lv_at hl 0 rfl) ?_
    refine gf_X7_33 F hP dX7_takeLayout_30 ?_
    refine lv_iload_n hx hb dX7_takeLayout_33 rfl (lv_at hl 1 rfl) ?_
    obtain ⟨r38, σ37, h39, hf⟩ := cl_e hf
    refine kc_X7_238 F hP hS (lay_ok _) h39 ⟨Nat.le_of_ble_eq_true rfl, Nat.le_of_ble_eq_true rfl⟩ hl.1 (Nat.le_of_ble_eq_true rfl) ⟨Nat.zero_le _, Nat.zero_le _⟩ dX7_takeLayout_34 (fun H locs hP hS => ?_)
    refine lv_istore_n (lv' := [(3, .int r38), (0, .ref (cAd E 0)), (2, .int a2)]) hx hb dX7_takeLayout_37 rfl hl (by decide) rfl (fun ls hl => ?_)
    refine lv_aload_n hx hb dX7_takeLayout_38 rfl (lv_at hl 1 rfl) ?_
    refine gf_X7_42 F hP dX7_takeLayout_39 ?_
    refine lv_iload_n hx hb dX7_takeLayout_42 rfl (lv_at hl 2 rfl) ?_
    obtain ⟨h40, hf⟩ := gd_e hf
    refine c_aldC F hP h40 dX7_takeLayout_43 ?_
    have h42 := ix_lt h40
    obtain ⟨d41, ed41, hf⟩ := vl_x hf
    rw [← ed41] at h42 ⊢
    refine lv_aload_n hx hb dX7_takeLayout_44 rfl (lv_at hl 1 rfl) ?_
    refine gf_X7_33 F hP dX7_takeLayout_45 ?_
    refine lv_iload_n hx hb dX7_takeLayout_48 rfl (lv_at hl 2 rfl) ?_
    obtain ⟨r44, σ43, h45, hf⟩ := cl_e hf
    refine kc_X7_241 F hP hS (lay_ok _) h45 ⟨Nat.le_of_ble_eq_true rfl, Nat.le_of_ble_eq_true rfl⟩ hl.1 (Nat.le_of_ble_eq_true rfl) ⟨Nat.zero_le _, Nat.zero_le _⟩ dX7_takeLayout_49 (fun H locs hP hS => ?_)
    refine lv_iload_n hx hb dX7_takeLayout_52 rfl (lv_at hl 0 rfl) ?_
    refine lv_iload_n hx hb dX7_takeLayout_53 rfl (lv_at hl 0 rfl) ?_
    obtain ⟨r47, σ46, h48, hf⟩ := cl_e hf
    refine kc_X7_130 F hP hS h42 h48 ⟨Nat.le_of_ble_eq_true rfl, Nat.le_of_ble_eq_true rfl⟩ hl.1 (Nat.le_of_ble_eq_true rfl) ⟨Nat.zero_le _, Nat.zero_le _⟩ dX7_takeLayout_54 (fun H locs hP hS => ?_)
    refine lv_iinc (v := a2 + (1 : Int32)) (lv' := [(2, .int (a2 + (1 : Int32))), (3, .int r38), (0, .ref (cAd E 0))]) hx hb dX7_takeLayout_57 hl (k := 2) rfl rfl (by decide) rfl (fun ls hl => ?_)
    obtain ⟨x49, ex49, hf⟩ := vl_x hf
    rw [← ex49] at hl
    refine lv_goto (tgt := 20) hx hb dX7_takeLayout_60 (by decide) ?_
    exact hK20 _ hf _ _ _ hP hS (lv_sub hl [2, 0] rfl)
set_option maxHeartbeats 4000000 in
set_option maxRecDepth 100000 in
theorem w_X7_takeLayout_e {p : Program} {l : Launch} {e : Env} {s : State} {m : MethodId} {args : Array Value} {below : List Frame} {meth : Method} {c : Code} {E : cEv} {u : Unit} {σ' : St} (B : gBx p m meth c cX7_takeLayout 4 none s args RX7 (cG E)) (σ : St) (hf : f_X7_takeLayout σ = some (u, σ')) (H : Heap) (locs : List Loc) (ls : Array Slot) (hP : gW (cG E) σ H) (hS : va_S (gA (cG E)) s.heap H locs) (hl : lv_has ls 4 [(0, .ref (cAd E 0))]) : W p l e rm_X7_takeLayout s m args below meth c H locs 0 0 (gQv below args s (cG E) σ') (F0 m 0 ls []) := by
  unfold f_X7_takeLayout at hf
  obtain ⟨F, hr, hlk⟩ := id B
  have hx := F.1
  have hb := F.2.1
  have hml := F.2.2.1
  have hown := F.2.2.2.1
  have hts := F.2.2.2.2.1
  refine lv_aload_n hx hb dX7_takeLayout_0 rfl (lv_at hl 0 rfl) ?_
  refine gf_X7_33 F hP dX7_takeLayout_1 ?_
  refine lv_astore_n (lv' := [(1, .ref (cAd E (lay (σ 0 6)))), (0, .ref (cAd E 0))]) hx hb dX7_takeLayout_4 rfl hl (by decide) rfl (fun ls hl => ?_)
  refine lv_aload_n hx hb dX7_takeLayout_5 rfl (lv_at hl 1 rfl) ?_
  refine lv_aload_n hx hb dX7_takeLayout_6 rfl (lv_at hl 1 rfl) ?_
  refine gf_X7_37 F hP dX7_takeLayout_7 ?_
  refine pf_X7_33 F hP hS (lay_ok _) dX7_takeLayout_10 (fun H locs hP hS => ?_)
  obtain ⟨σ1, eσ1, hf⟩ := vl_x hf
  rw [← eσ1] at hP
  refine lv_aload_n hx hb dX7_takeLayout_13 rfl (lv_at hl 1 rfl) ?_
  refine lv_aload_n hx hb dX7_takeLayout_14 rfl (lv_at hl 0 rfl) ?_
  refine pf_X7_37 F hP hS (lay_ok _) dX7_takeLayout_15 (fun H locs hP hS => ?_)
  obtain ⟨σ2, eσ2, hf⟩ := vl_x hf
  rw [← eσ2] at hP
  refine lv_iconst (v := 0) hx hb dX7_takeLayout_18 (by decide) ?_
  refine lv_istore_n (lv' := [(2, .int (0 : Int32)), (1, .ref (cAd E (lay (σ 0 6)))), (0, .ref (cAd E 0))]) hx hb dX7_takeLayout_19 rfl hl (by decide) rfl (fun ls hl => ?_)
  exact lp_w (P := P_X7_takeLayout_20 p l e s m args below meth c E σ') (fun K hK a ha => w_X7_takeLayout_20 B hK a.1 a.2 ha) FU _ hf _ _ _ hP hS (lv_sub hl [2, 0] rfl)
theorem c_X7_takeLayout (l : Launch) {E : cEv} (hI : gIj (cG E)) {σ σ' : St} {u : Unit} (hf : f_X7_takeLayout σ = some (u, σ')) : gMv l yX7_takeLayout cX7_takeLayout 4 rm_X7_takeLayout [.ref (cAd E 0)] (cG E) σ σ' :=
  g_entry (by decide) (Nat.le_of_ble_eq_true rfl) hI (fun p e s m args below meth c B hP hS ls hl => w_X7_takeLayout_e B σ hf _ _ ls hP hS hl)
section SC
variable {p : Program} {l : Launch} {e : Env} {R : Room} {s : State} {m : MethodId} {args : Array Value} {below : List Frame} {meth : Method} {c : Code} {H : Heap} {locs : List Loc} {cells slots : Nat} {Q : State → Prop}
variable {cc : ByteArray} {pc nL : Nat} {ls : Array Slot} {rest : List Value} {E : cEv} {σ : St}
theorem gf_X7_14 (F : gFx p m c cc nL s args RX7 (cG E)) (hP : gW (cG E) σ H) (hdg : decode cc pc = .ok (.getfield 14, 3)) (kk : W p l e R s m args below meth c H locs cells slots Q (F0 m (pc + 3) ls (.ref (cAd E 1) :: rest))) : W p l e R s m args below meth c H locs cells slots Q (F0 m pc ls (.ref (cAd E 0) :: rest)) :=
  g_get F hP (k := 0) (cin (by omega)) (ce_7 E _) rfl inX7 0 (by decide) tw_442 rfl rfl hdg kk
theorem kc_X7_75 (F : gFx p m c cc nL s args RX7 (cG E)) (hP : gW (cG E) σ H) (hS : va_S (gA (cG E)) s.heap H locs) {o : Nat} (ho : o = 1 ∨ o = 4) {p1 : Int32} {r : Int32} {σ' : St} (hf : f_X6_append o p1 σ = some (r, σ')) (hR : rm_X6_append.frames + 1 ≤ R.frames ∧ 8 + (2 + 11) + rm_X6_append.locals ≤ R.locals) (hsz : ls.size = nL) (hrest : (rest.map fun v => v.category).sum ≤ 8) (hcs : cells ≤ R.cells ∧ slots ≤ R.slots) (hdg : decode cc pc = .ok (.invokevirtual 75, 3)) (kk : ∀ (H1 : Heap) (locs1 : List Loc), gW (cG E) σ' H1 → va_S (gA (cG E)) s.heap H1 locs1 → W p l e R s m args below meth c H1 locs1 cells slots Q (F0 m (pc + 3) ls (.int r :: rest))) : W p l e R s m args below meth c H locs cells slots Q (F0 m pc ls (.int p1 :: .ref (cAd E o) :: rest)) :=
  g_callVi F hP hS (c_X6_append l F.2.2.2.2.2.2.2 ho hf) (g_cwV (n := 1) F tw_322 tw_323 tw_324 tw_2 tw_325 (by decide +kernel) rfl rfl hR) (k := o) (cin (by omega)) (ce_6 E _ ho) rfl (As := [.int p1]) rfl hsz rfl hrest hdg hcs kk
theorem gf_X7_89 (F : gFx p m c cc nL s args RX7 (cG E)) (hP : gW (cG E) σ H) {o : Nat} (ho : o = 1 ∨ o = 4) (hdg : decode cc pc = .ok (.getfield 89, 3)) (kk : W p l e R s m args below meth c H locs cells slots Q (F0 m (pc + 3) ls (.int (σ o 1) :: rest))) : W p l e R s m args below meth c H locs cells slots Q (F0 m pc ls (.ref (cAd E o) :: rest)) :=
  g_getN F hP (k := o) (cin (by omega)) (ce_6 E _ ho) rfl inX6 1 (by decide) tw_35 rfl rfl hdg kk
end SC
/-! PromisedSlots.write(I)I -/
def f_X7_write (p1 : Int32) (σ : St) : Option (Int32 × St) :=
  if p1 < (32 : Int32) then
    some ((-1 : Int32), σ)
  else
    if p1 ≤ (126 : Int32) then
      cl (f_X6_append 1 p1 σ) fun r4 σ3 =>
      if r4 = 0 then
        some ((-3 : Int32), σ3)
      else
        some ((σ3 1 1), σ3)
    else
      some ((-1 : Int32), σ)
abbrev rm_X7_write : Room := { frames := 1, cells := 0, slots := 0, locals := 21 }
set_option maxHeartbeats 4000000 in
set_option maxRecDepth 100000 in
theorem w_X7_write_e {p : Program} {l : Launch} {e : Env} {s : State} {m : MethodId} {args : Array Value} {below : List Frame} {meth : Method} {c : Code} {E : cEv} {r : Int32} {σ' : St} (B : gBx p m meth c cX7_write 2 (some .int) s args RX7 (cG E)) (p1 : Int32) (σ : St) (hf : f_X7_write p1 σ = some (r, σ')) (H : Heap) (locs : List Loc) (ls : Array Slot) (hP : gW (cG E) σ H) (hS : va_S (gA (cG E)) s.heap H locs) (hl : lv_has ls 2 [(0, .ref (cAd E 0)), (1, .int p1)]) : W p l e rm_X7_write s m args below meth c H locs 0 0 (gQi below args s (cG E) r σ') (F0 m 0 ls []) := by
  unfold f_X7_write at hf
  obtain ⟨F, hr, hlk⟩ := id B
  have hx := F.1
  have hb := F.2.1
  have hml := F.2.2.1
  have hown := F.2.2.2.1
  have hts := F.2.2.2.2.1
  refine lv_iload_n hx hb dX7_write_0 rfl (lv_at hl 1 rfl) ?_
  refine lv_bipush (v := (32)) hx hb dX7_write_1 (by decide) ?_
  refine lv_icmp_lt (tgt := 12) hx hb dX7_write_3 (by decide) (fun h1 => ?_) (fun h1 => ?_)
  · rw [if_pos h1] at hf
    refine lv_iconst (v := (-1)) hx hb dX7_write_12 (by decide) ?_
    exact g_iret B hP hS hf dX7_write_13
  · rw [if_neg h1] at hf
    refine lv_iload_n hx hb dX7_write_6 rfl (lv_at hl 1 rfl) ?_
    refine lv_bipush (v := (126)) hx hb dX7_write_7 (by decide) ?_
    refine lv_icmp_le (tgt := 14) hx hb dX7_write_9 (by decide) (fun h2 => ?_) (fun h2 => ?_)
    · rw [if_pos h2] at hf
      refine lv_aload_n hx hb dX7_write_14 rfl (lv_at hl 0 rfl) ?_
      refine gf_X7_14 F hP dX7_write_15 ?_
      refine lv_iload_n hx hb dX7_write_18 rfl (lv_at hl 1 rfl) ?_
      obtain ⟨r4, σ3, h5, hf⟩ := cl_e hf
      refine kc_X7_75 F hP hS (Or.inl rfl) h5 ⟨Nat.le_of_ble_eq_true rfl, Nat.le_of_ble_eq_true rfl⟩ hl.1 (Nat.le_of_ble_eq_true rfl) ⟨Nat.zero_le _, Nat.zero_le _⟩ dX7_write_19 (fun H locs hP hS => ?_)
      refine lv_if_eq (tgt := 35) hx hb dX7_write_22 (by decide) (fun h6 => ?_) (fun h6 => ?_)
      · rw [if_pos h6] at hf
        refine lv_bipush (v := (-3)) hx hb dX7_write_35 (by decide) ?_
        exact g_iret B hP hS hf dX7_write_37
      · rw [if_neg h6] at hf
        refine lv_aload_n hx hb dX7_write_25 rfl (lv_at hl 0 rfl) ?_
        refine gf_X7_14 F hP dX7_write_26 ?_
        refine gf_X7_89 F hP (Or.inl rfl) dX7_write_29 ?_
        refine lv_goto (tgt := 37) hx hb dX7_write_32 (by decide) ?_
        exact g_iret B hP hS hf dX7_write_37
    · rw [if_neg h2] at hf
      refine lv_iconst (v := (-1)) hx hb dX7_write_12 (by decide) ?_
      exact g_iret B hP hS hf dX7_write_13
theorem c_X7_write (l : Launch) {E : cEv} (hI : gIj (cG E)) {p1 : Int32} {σ σ' : St} {r : Int32} (hf : f_X7_write p1 σ = some (r, σ')) : gMi l yX7_write cX7_write 2 .int rm_X7_write [.ref (cAd E 0), .int p1] (cG E) σ r σ' :=
  g_entry (by decide) (Nat.le_of_ble_eq_true rfl) hI (fun p e s m args below meth c B hP hS ls hl => w_X7_write_e B _ σ hf _ _ ls hP hS hl)
section SC
variable {p : Program} {l : Launch} {e : Env} {R : Room} {s : State} {m : MethodId} {args : Array Value} {below : List Frame} {meth : Method} {c : Code} {H : Heap} {locs : List Loc} {cells slots : Nat} {Q : State → Prop}
variable {cc : ByteArray} {pc nL : Nat} {ls : Array Slot} {rest : List Value} {E : cEv} {σ : St}
theorem kc_X7_86 (F : gFx p m c cc nL s args RX7 (cG E)) (hP : gW (cG E) σ H) (hS : va_S (gA (cG E)) s.heap H locs) {o : Nat} (ho : o = 1 ∨ o = 4) {u : Unit} {σ' : St} (hf : f_X6_clear o σ = some (u, σ')) (hR : rm_X6_clear.frames + 1 ≤ R.frames ∧ 8 + (1 + 11) + rm_X6_clear.locals ≤ R.locals) (hsz : ls.size = nL) (hrest : (rest.map fun v => v.category).sum ≤ 8) (hcs : cells ≤ R.cells ∧ slots ≤ R.slots) (hdg : decode cc pc = .ok (.invokevirtual 86, 3)) (kk : ∀ (H1 : Heap) (locs1 : List Loc), gW (cG E) σ' H1 → va_S (gA (cG E)) s.heap H1 locs1 → W p l e R s m args below meth c H1 locs1 cells slots Q (F0 m (pc + 3) ls rest)) : W p l e R s m args below meth c H locs cells slots Q (F0 m pc ls (.ref (cAd E o) :: rest)) :=
  g_callVv F hP hS (c_X6_clear l F.2.2.2.2.2.2.2 ho hf) (g_cwV (n := 0) F tw_438 tw_439 tw_440 tw_2 tw_441 (by decide +kernel) rfl rfl hR) (k := o) (cin (by omega)) (ce_6 E _ ho) rfl (As := []) rfl hsz rfl hrest hdg hcs kk
end SC
/-! PromisedSlots.wipe()I -/
def f_X7_wipe (σ : St) : Option (Int32 × St) :=
  vl (σ 1 1) fun x1 =>
  cl (f_X6_clear 1 σ) fun r3 σ2 =>
  some (x1, σ2)
abbrev rm_X7_wipe : Room := { frames := 1, cells := 0, slots := 0, locals := 20 }
set_option maxHeartbeats 4000000 in
set_option maxRecDepth 100000 in
theorem w_X7_wipe_e {p : Program} {l : Launch} {e : Env} {s : State} {m : MethodId} {args : Array Value} {below : List Frame} {meth : Method} {c : Code} {E : cEv} {r : Int32} {σ' : St} (B : gBx p m meth c cX7_wipe 2 (some .int) s args RX7 (cG E)) (σ : St) (hf : f_X7_wipe σ = some (r, σ')) (H : Heap) (locs : List Loc) (ls : Array Slot) (hP : gW (cG E) σ H) (hS : va_S (gA (cG E)) s.heap H locs) (hl : lv_has ls 2 [(0, .ref (cAd E 0))]) : W p l e rm_X7_wipe s m args below meth c H locs 0 0 (gQi below args s (cG E) r σ') (F0 m 0 ls []) := by
  unfold f_X7_wipe at hf
  obtain ⟨F, hr, hlk⟩ := id B
  have hx := F.1
  have hb := F.2.1
  have hml := F.2.2.1
  have hown := F.2.2.2.1
  have hts := F.2.2.2.2.1
  refine lv_aload_n hx hb dX7_wipe_0 rfl (lv_at hl 0 rfl) ?_
  refine gf_X7_14 F hP dX7_wipe_1 ?_
  refine gf_X7_89 F hP (Or.inl rfl) dX7_wipe_4 ?_
  obtain ⟨x1, ex1, hf⟩ := vl_x hf
  rw [← ex1]
  refine lv_istore_n (lv' := [(1, .int x1), (0, .ref (cAd E 0))]) hx hb dX7_wipe_7 rfl hl (by decide) rfl (fun ls hl => ?_)
  refine lv_aload_n hx hb dX7_wipe_8 rfl (lv_at hl 1 rfl) ?_
  refine gf_X7_14 F hP dX7_wipe_9 ?_
  obtain ⟨r3, σ2, h4, hf⟩ := cl_e hf
  refine kc_X7_86 F hP hS (Or.inl rfl) h4 ⟨Nat.le_of_ble_eq_true rfl, Nat.le_of_ble_eq_true rfl⟩ hl.1 (Nat.le_of_ble_eq_true rfl) ⟨Nat.zero_le _, Nat.zero_le _⟩ dX7_wipe_12 (fun H locs hP hS => ?_)
  refine lv_iload_n hx hb dX7_wipe_15 rfl (lv_at hl 0 rfl) ?_
  exact g_iret B hP hS hf dX7_wipe_16
theorem c_X7_wipe (l : Launch) {E : cEv} (hI : gIj (cG E)) {σ σ' : St} {r : Int32} (hf : f_X7_wipe σ = some (r, σ')) : gMi l yX7_wipe cX7_wipe 2 .int rm_X7_wipe [.ref (cAd E 0)] (cG E) σ r σ' :=
  g_entry (by decide) (Nat.le_of_ble_eq_true rfl) hI (fun p e s m args below meth c B hP hS ls hl => w_X7_wipe_e B σ hf _ _ ls hP hS hl)
section SC
variable {p : Program} {l : Launch} {e : Env} {R : Room} {s : State} {m : MethodId} {args : Array Value} {below : List Frame} {meth : Method} {c : Code} {H : Heap} {locs : List Loc} {cells slots : Nat} {Q : State → Prop}
variable {cc : ByteArray} {pc nL : Nat} {ls : Array Slot} {rest : List Value} {E : cEv} {σ : St}
theorem gf_X7_23 (F : gFx p m c cc nL s args RX7 (cG E)) (hP : gW (cG E) σ H) (hdg : decode cc pc = .ok (.getfield 23, 3)) (kk : W p l e R s m args below meth c H locs cells slots Q (F0 m (pc + 3) ls (.ref (cAd E 3) :: rest))) : W p l e R s m args below meth c H locs cells slots Q (F0 m pc ls (.ref (cAd E 0) :: rest)) :=
  g_get F hP (k := 0) (cin (by omega)) (ce_7 E _) rfl inX7 1 (by decide) tw_443 rfl rfl hdg kk
theorem kc_X7_79 (F : gFx p m c cc nL s args RX7 (cG E)) (hP : gW (cG E) σ H) (hS : va_S (gA (cG E)) s.heap H locs) {p1 : Nat} (hp1 : p1 = 8 ∨ p1 = 14) {r : Int32} {σ' : St} (hf : f_X5_readInto p1 σ = some (r, σ')) (hR : rm_X5_readInto.frames + 1 ≤ R.frames ∧ 8 + (4 + 11) + rm_X5_readInto.locals ≤ R.locals) (hsz : ls.size = nL) (hrest : (rest.map fun v => v.category).sum ≤ 8) (hcs : cells ≤ R.cells ∧ slots ≤ R.slots) (hdg : decode cc pc = .ok (.invokevirtual 79, 3)) (kk : ∀ (H1 : Heap) (locs1 : List Loc), gW (cG E) σ' H1 → va_S (gA (cG E)) s.heap H1 locs1 → W p l e R s m args below meth c H1 locs1 cells slots Q (F0 m (pc + 3) ls (.int r :: rest))) : W p l e R s m args below meth c H locs cells slots Q (F0 m pc ls (.ref (cAd E p1) :: .ref (cAd E 3) :: rest)) :=
  g_callVi F hP hS (c_X5_readInto l F.2.2.2.2.2.2.2 hp1 hf) (g_cwV (n := 1) F tw_326 tw_327 tw_328 tw_4 tw_329 (by decide +kernel) rfl rfl hR) (k := 3) (cin (by omega)) (ce_5 E _) rfl (As := [.ref (cAd E p1)]) rfl hsz rfl hrest hdg hcs kk
theorem gf_X7_27 (F : gFx p m c cc nL s args RX7 (cG E)) (hP : gW (cG E) σ H) (hdg : decode cc pc = .ok (.getfield 27, 3)) (kk : W p l e R s m args below meth c H locs cells slots Q (F0 m (pc + 3) ls (.ref (cAd E 4) :: rest))) : W p l e R s m args below meth c H locs cells slots Q (F0 m pc ls (.ref (cAd E 0) :: rest)) :=
  g_get F hP (k := 0) (cin (by omega)) (ce_7 E _) rfl inX7 2 (by decide) tw_444 rfl rfl hdg kk
theorem gf_X7_232 (F : gFx p m c cc nL s args RX7 (cG E)) (hP : gW (cG E) σ H) (hdg : decode cc pc = .ok (.getfield 232, 3)) (kk : W p l e R s m args below meth c H locs cells slots Q (F0 m (pc + 3) ls (.int (σ 3 2) :: rest))) : W p l e R s m args below meth c H locs cells slots Q (F0 m pc ls (.ref (cAd E 3) :: rest)) :=
  g_getN F hP (k := 3) (cin (by omega)) (ce_5 E _) rfl inX5 2 (by decide) tw_52 rfl rfl hdg kk
theorem gf_X7_235 (F : gFx p m c cc nL s args RX7 (cG E)) (hP : gW (cG E) σ H) (hdg : decode cc pc = .ok (.getfield 235, 3)) (kk : W p l e R s m args below meth c H locs cells slots Q (F0 m (pc + 3) ls (.int (σ 3 3) :: rest))) : W p l e R s m args below meth c H locs cells slots Q (F0 m pc ls (.ref (cAd E 3) :: rest)) :=
  g_getN F hP (k := 3) (cin (by omega)) (ce_5 E _) rfl inX5 3 (by decide) tw_54 rfl rfl hdg kk
end SC
/-! PromisedSlots.faultOfText()I -/
def f_X7_faultOfText (σ : St) : Option (Int32 × St) :=
  cl (f_X5_readInto (lay (σ 0 7)) σ) fun r2 σ1 =>
  if r2 = (-4 : Int32) then
    some (r2, σ1)
  else
    cl (f_X6_append 4 (1 : Int32) σ1) fun r6 σ5 =>
    cl (f_X6_append 4 (σ5 3 2) σ5) fun r9 σ8 =>
    if (σ8 3 2) = (13 : Int32) then
      cl (f_X6_append 4 ((20 : Int32) + (σ8 3 3)) σ8) fun r13 σ12 =>
      some (r2, σ12)
    else
      some (r2, σ8)
abbrev rm_X7_faultOfText : Room := { frames := 5, cells := 0, slots := 0, locals := 117 }
set_option maxHeartbeats 4000000 in
set_option maxRecDepth 100000 in
theorem w_X7_faultOfText_e {p : Program} {l : Launch} {e : Env} {s : State} {m : MethodId} {args : Array Value} {below : List Frame} {meth : Method} {c : Code} {E : cEv} {r : Int32} {σ' : St} (B : gBx p m meth c cX7_faultOfText 2 (some .int) s args RX7 (cG E)) (σ : St) (hf : f_X7_faultOfText σ = some (r, σ')) (H : Heap) (locs : List Loc) (ls : Array Slot) (hP : gW (cG E) σ H) (hS : va_S (gA (cG E)) s.heap H locs) (hl : lv_has ls 2 [(0, .ref (cAd E 0))]) : W p l e rm_X7_faultOfText s m args below meth c H locs 0 0 (gQi below args s (cG E) r σ') (F0 m 0 ls []) := by
  unfold f_X7_faultOfText at hf
  obtain ⟨F, hr, hlk⟩ := id B
  have hx := F.1
  have hb := F.2.1
  have hml := F.2.2.1
  have hown := F.2.2.2.1
  have hts := F.2.2.2.2.1
  refine lv_aload_n hx hb dX7_faultOfText_0 rfl (lv_at hl 0 rfl) ?_
  refine gf_X7_23 F hP dX7_faultOfText_1 ?_
  refine lv_aload_n hx hb dX7_faultOfText_4 rfl (lv_at hl 0 rfl) ?_
  refine gf_X7_37 F hP dX7_faultOfText_5 ?_
  obtain ⟨r2, σ1, h3, hf⟩ := cl_e hf
  refine kc_X7_79 F hP hS (lay_ok _) h3 ⟨Nat.le_of_ble_eq_true rfl, Nat.le_of_ble_eq_true rfl⟩ hl.1 (Nat.le_of_ble_eq_true rfl) ⟨Nat.zero_le _, Nat.zero_le _⟩ dX7_faultOfText_8 (fun H locs hP hS => ?_)
  refine lv_istore_n (lv' := [(1, .int r2), (0, .ref (cAd E 0))]) hx hb dX7_faultOfText_11 rfl hl (by decide) rfl (fun ls hl => ?_)
  refine lv_iload_n hx hb dX7_faultOfText_12 rfl (lv_at hl 0 rfl) ?_
  refine lv_bipush (v := (-4)) hx hb dX7_faultOfText_13 (by decide) ?_
  refine lv_icmp_eq (tgt := 72) hx hb dX7_faultOfText_15 (by decide) (fun h4 => ?_) (fun h4 => ?_)
  · rw [if_pos h4] at hf
    refine lv_iload_n hx hb dX7_faultOfText_72 rfl (lv_at hl 0 rfl) ?_
    exact g_iret B hP hS hf dX7_faultOfText_73
  · rw [if_neg h4] at hf
    refine lv_aload_n hx hb dX7_faultOfText_18 rfl (lv_at hl 1 rfl) ?_
    refine gf_X7_27 F hP dX7_faultOfText_19 ?_
    refine lv_iconst (v := 1) hx hb dX7_faultOfText_22 (by decide) ?_
    obtain ⟨r6, σ5, h7, hf⟩ := cl_e hf
    refine kc_X7_75 F hP hS (Or.inr rfl) h7 ⟨Nat.le_of_ble_eq_true rfl, Nat.le_of_ble_eq_true rfl⟩ hl.1 (Nat.le_of_ble_eq_true rfl) ⟨Nat.zero_le _, Nat.zero_le _⟩ dX7_faultOfText_23 (fun H locs hP hS => ?_)
    refine lv_pop hx hb dX7_faultOfText_26 rfl ?_
    refine lv_aload_n hx hb dX7_faultOfText_27 rfl (lv_at hl 1 rfl) ?_
    refine gf_X7_27 F hP dX7_faultOfText_28 ?_
    refine lv_aload_n hx hb dX7_faultOfText_31 rfl (lv_at hl 1 rfl) ?_
    refine gf_X7_23 F hP dX7_faultOfText_32 ?_
    refine gf_X7_232 F hP dX7_faultOfText_35 ?_
    obtain ⟨r9, σ8, h10, hf⟩ := cl_e hf
    refine kc_X7_75 F hP hS (Or.inr rfl) h10 ⟨Nat.le_of_ble_eq_true rfl, Nat.le_of_ble_eq_true rfl⟩ hl.1 (Nat.le_of_ble_eq_true rfl) ⟨Nat.zero_le _, Nat.zero_le _⟩ dX7_faultOfText_38 (fun H locs hP hS => ?_)
    refine lv_pop hx hb dX7_faultOfText_41 rfl ?_
    refine lv_aload_n hx hb dX7_faultOfText_42 rfl (lv_at hl 1 rfl) ?_
    refine gf_X7_23 F hP dX7_faultOfText_43 ?_
    refine gf_X7_232 F hP dX7_faultOfText_46 ?_
    refine lv_bipush (v := (13)) hx hb dX7_faultOfText_49 (by decide) ?_
    refine lv_icmp_ne (tgt := 72) hx hb dX7_faultOfText_51 (by decide) (fun h11 => ?_) (fun h11 => ?_)
    · rw [if_neg h11] at hf
      refine lv_iload_n hx hb dX7_faultOfText_72 rfl (lv_at hl 0 rfl) ?_
      exact g_iret B hP hS hf dX7_faultOfText_73
    · rw [if_pos h11] at hf
      refine lv_aload_n hx hb dX7_faultOfText_54 rfl (lv_at hl 1 rfl) ?_
      refine gf_X7_27 F hP dX7_faultOfText_55 ?_
      refine lv_bipush (v := (20)) hx hb dX7_faultOfText_58 (by decide) ?_
      refine lv_aload_n hx hb dX7_faultOfText_60 rfl (lv_at hl 1 rfl) ?_
      refine gf_X7_23 F hP dX7_faultOfText_61 ?_
      refine gf_X7_235 F hP dX7_faultOfText_64 ?_
      refine lv_iadd hx hb dX7_faultOfText_67 ?_
      obtain ⟨r13, σ12, h14, hf⟩ := cl_e hf
      refine kc_X7_75 F hP hS (Or.inr rfl) h14 ⟨Nat.le_of_ble_eq_true rfl, Nat.le_of_ble_eq_true rfl⟩ hl.1 (Nat.le_of_ble_eq_true rfl) ⟨Nat.zero_le _, Nat.zero_le _⟩ dX7_faultOfText_68 (fun H locs hP hS => ?_)
      refine lv_pop hx hb dX7_faultOfText_71 rfl ?_
      refine lv_iload_n hx hb dX7_faultOfText_72 rfl (lv_at hl 0 rfl) ?_
      exact g_iret B hP hS hf dX7_faultOfText_73
theorem c_X7_faultOfText (l : Launch) {E : cEv} (hI : gIj (cG E)) {σ σ' : St} {r : Int32} (hf : f_X7_faultOfText σ = some (r, σ')) : gMi l yX7_faultOfText cX7_faultOfText 2 .int rm_X7_faultOfText [.ref (cAd E 0)] (cG E) σ r σ' :=
  g_entry (by decide) (Nat.le_of_ble_eq_true rfl) hI (fun p e s m args below meth c B hP hS ls hl => w_X7_faultOfText_e B σ hf _ _ ls hP hS hl)
section SC
variable {p : Program} {l : Launch} {e : Env} {R : Room} {s : State} {m : MethodId} {args : Array Value} {below : List Frame} {meth : Method} {c : Code} {H : Heap} {locs : List Loc} {cells slots : Nat} {Q : State → Prop}
variable {cc : ByteArray} {pc nL : Nat} {ls : Array Slot} {rest : List Value} {E : cEv} {σ : St}
theorem kc_X7_93 (F : gFx p m c cc nL s args RX7 (cG E)) (hP : gW (cG E) σ H) (hS : va_S (gA (cG E)) s.heap H locs) {r : Int32} {σ' : St} (hf : f_X7_faultOfText σ = some (r, σ')) (hR : rm_X7_faultOfText.frames + 1 ≤ R.frames ∧ 8 + (2 + 11) + rm_X7_faultOfText.locals ≤ R.locals) (hsz : ls.size = nL) (hrest : (rest.map fun v => v.category).sum ≤ 8) (hcs : cells ≤ R.cells ∧ slots ≤ R.slots) (hdg : decode cc pc = .ok (.invokevirtual 93, 3)) (kk : ∀ (H1 : Heap) (locs1 : List Loc), gW (cG E) σ' H1 → va_S (gA (cG E)) s.heap H1 locs1 → W p l e R s m args below meth c H1 locs1 cells slots Q (F0 m (pc + 3) ls (.int r :: rest))) : W p l e R s m args below meth c H locs cells slots Q (F0 m pc ls (.ref (cAd E 0) :: rest)) :=
  g_callVi F hP hS (c_X7_faultOfText l F.2.2.2.2.2.2.2 hf) (g_cwV (n := 0) F tw_486 tw_488 ts_9 tw_1 tw_489 (by decide +kernel) rfl rfl hR) (k := 0) (cin (by omega)) (ce_7 E _) rfl (As := []) rfl hsz rfl hrest hdg hcs kk
end SC
/-! PromisedSlots.fault()I -/
def f_X7_fault (σ : St) : Option (Int32 × St) :=
  cl (f_X6_clear 4 σ) fun r2 σ1 =>
  cl (f_X7_faultOfText σ1) fun r5 σ4 =>
  some (r5, σ4)
abbrev rm_X7_fault : Room := { frames := 6, cells := 0, slots := 0, locals := 138 }
set_option maxHeartbeats 4000000 in
set_option maxRecDepth 100000 in
theorem w_X7_fault_e {p : Program} {l : Launch} {e : Env} {s : State} {m : MethodId} {args : Array Value} {below : List Frame} {meth : Method} {c : Code} {E : cEv} {r : Int32} {σ' : St} (B : gBx p m meth c cX7_fault 1 (some .int) s args RX7 (cG E)) (σ : St) (hf : f_X7_fault σ = some (r, σ')) (H : Heap) (locs : List Loc) (ls : Array Slot) (hP : gW (cG E) σ H) (hS : va_S (gA (cG E)) s.heap H locs) (hl : lv_has ls 1 [(0, .ref (cAd E 0))]) : W p l e rm_X7_fault s m args below meth c H locs 0 0 (gQi below args s (cG E) r σ') (F0 m 0 ls []) := by
  unfold f_X7_fault at hf
  obtain ⟨F, hr, hlk⟩ := id B
  have hx := F.1
  have hb := F.2.1
  have hml := F.2.2.1
  have hown := F.2.2.2.1
  have hts := F.2.2.2.2.1
  refine lv_aload_n hx hb dX7_fault_0 rfl (lv_at hl 0 rfl) ?_
  refine gf_X7_27 F hP dX7_fault_1 ?_
  obtain ⟨r2, σ1, h3, hf⟩ := cl_e hf
  refine kc_X7_86 F hP hS (Or.inr rfl) h3 ⟨Nat.le_of_ble_eq_true rfl, Nat.le_of_ble_eq_true rfl⟩ hl.1 (Nat.le_of_ble_eq_true rfl) ⟨Nat.zero_le _, Nat.zero_le _⟩ dX7_fault_4 (fun H locs hP hS => ?_)
  refine lv_aload_n hx hb dX7_fault_7 rfl (lv_at hl 0 rfl) ?_
  obtain ⟨r5, σ4, h6, hf⟩ := cl_e hf
  refine kc_X7_93 F hP hS h6 ⟨Nat.le_of_ble_eq_true rfl, Nat.le_of_ble_eq_true rfl⟩ hl.1 (Nat.le_of_ble_eq_true rfl) ⟨Nat.zero_le _, Nat.zero_le _⟩ dX7_fault_8 (fun H locs hP hS => ?_)
  exact g_iret B hP hS hf dX7_fault_11
theorem c_X7_fault (l : Launch) {E : cEv} (hI : gIj (cG E)) {σ σ' : St} {r : Int32} (hf : f_X7_fault σ = some (r, σ')) : gMi l yX7_fault cX7_fault 1 .int rm_X7_fault [.ref (cAd E 0)] (cG E) σ r σ' :=
  g_entry (by decide) (Nat.le_of_ble_eq_true rfl) hI (fun p e s m args below meth c B hP hS ls hl => w_X7_fault_e B σ hf _ _ ls hP hS hl)
section SC
variable {p : Program} {l : Launch} {e : Env} {R : Room} {s : State} {m : MethodId} {args : Array Value} {below : List Frame} {meth : Method} {c : Code} {H : Heap} {locs : List Loc} {cells slots : Nat} {Q : State → Prop}
variable {cc : ByteArray} {pc nL : Nat} {ls : Array Slot} {rest : List Value} {E : cEv} {σ : St}
theorem gf_X7_96 (F : gFx p m c cc nL s args RX7 (cG E)) (hP : gW (cG E) σ H) {o : Nat} (ho : o = 8 ∨ o = 14) (hdg : decode cc pc = .ok (.getfield 96, 3)) (kk : W p l e R s m args below meth c H locs cells slots Q (F0 m (pc + 3) ls (.int (σ o 6) :: rest))) : W p l e R s m args below meth c H locs cells slots Q (F0 m pc ls (.ref (cAd E o) :: rest)) :=
  g_getN F hP (k := o) (cin (by omega)) (ce_3 E _ ho) rfl inX3 6 (by decide) tw_87 rfl rfl hdg kk
theorem kc_X7_83 (F : gFx p m c cc nL s args RX7 (cG E)) (hP : gW (cG E) σ H) (hS : va_S (gA (cG E)) s.heap H locs) {u : Unit} {σ' : St} (hf : f_X7_takeLayout σ = some (u, σ')) (hR : rm_X7_takeLayout.frames + 1 ≤ R.frames ∧ 8 + (4 + 11) + rm_X7_takeLayout.locals ≤ R.locals) (hsz : ls.size = nL) (hrest : (rest.map fun v => v.category).sum ≤ 8) (hcs : cells ≤ R.cells ∧ slots ≤ R.slots) (hdg : decode cc pc = .ok (.invokevirtual 83, 3)) (kk : ∀ (H1 : Heap) (locs1 : List Loc), gW (cG E) σ' H1 → va_S (gA (cG E)) s.heap H1 locs1 → W p l e R s m args below meth c H1 locs1 cells slots Q (F0 m (pc + 3) ls rest)) : W p l e R s m args below meth c H locs cells slots Q (F0 m pc ls (.ref (cAd E 0) :: rest)) :=
  g_callVv F hP hS (c_X7_takeLayout l F.2.2.2.2.2.2.2 hf) (g_cwV (n := 0) F tw_397 tw_399 ts_7 tw_1 tw_400 (by decide +kernel) rfl rfl hR) (k := 0) (cin (by omega)) (ce_7 E _) rfl (As := []) rfl hsz rfl hrest hdg hcs kk
end SC
/-! PromisedSlots.lay()I -/
def f_X7_lay (σ : St) : Option (Int32 × St) :=
  cl (f_X6_clear 4 σ) fun r2 σ1 =>
  cl (f_X7_faultOfText σ1) fun r5 σ4 =>
  if r5 = (-4 : Int32) then
    if (σ4 (lay (σ4 0 7)) 6) = 0 then
      cl (f_X6_append 4 (2 : Int32) σ4) fun r13 σ12 =>
      some ((-2 : Int32), σ12)
    else
      cl (f_X7_takeLayout σ4) fun r10 σ9 =>
      some ((σ9 (lay (σ9 0 6)) 6), σ9)
  else
    some ((-2 : Int32), σ4)
abbrev rm_X7_lay : Room := { frames := 6, cells := 0, slots := 0, locals := 138 }
set_option maxHeartbeats 4000000 in
set_option maxRecDepth 100000 in
theorem w_X7_lay_e {p : Program} {l : Launch} {e : Env} {s : State} {m : MethodId} {args : Array Value} {below : List Frame} {meth : Method} {c : Code} {E : cEv} {r : Int32} {σ' : St} (B : gBx p m meth c cX7_lay 1 (some .int) s args RX7 (cG E)) (σ : St) (hf : f_X7_lay σ = some (r, σ')) (H : Heap) (locs : List Loc) (ls : Array Slot) (hP : gW (cG E) σ H) (hS : va_S (gA (cG E)) s.heap H locs) (hl : lv_has ls 1 [(0, .ref (cAd E 0))]) : W p l e rm_X7_lay s m args below meth c H locs 0 0 (gQi below args s (cG E) r σ') (F0 m 0 ls []) := by
  unfold f_X7_lay at hf
  obtain ⟨F, hr, hlk⟩ := id B
  have hx := F.1
  have hb := F.2.1
  have hml := F.2.2.1
  have hown := F.2.2.2.1
  have hts := F.2.2.2.2.1
  refine lv_aload_n hx hb dX7_lay_0 rfl (lv_at hl 0 rfl) ?_
  refine gf_X7_27 F hP dX7_lay_1 ?_
  obtain ⟨r2, σ1, h3, hf⟩ := cl_e hf
  refine kc_X7_86 F hP hS (Or.inr rfl) h3 ⟨Nat.le_of_ble_eq_true rfl, Nat.le_of_ble_eq_true rfl⟩ hl.1 (Nat.le_of_ble_eq_true rfl) ⟨Nat.zero_le _, Nat.zero_le _⟩ dX7_lay_4 (fun H locs hP hS => ?_)
  refine lv_aload_n hx hb dX7_lay_7 rfl (lv_at hl 0 rfl) ?_
  obtain ⟨r5, σ4, h6, hf⟩ := cl_e hf
  refine kc_X7_93 F hP hS h6 ⟨Nat.le_of_ble_eq_true rfl, Nat.le_of_ble_eq_true rfl⟩ hl.1 (Nat.le_of_ble_eq_true rfl) ⟨Nat.zero_le _, Nat.zero_le _⟩ dX7_lay_8 (fun H locs hP hS => ?_)
  refine lv_bipush (v := (-4)) hx hb dX7_lay_11 (by decide) ?_
  refine lv_icmp_eq (tgt := 19) hx hb dX7_lay_13 (by decide) (fun h7 => ?_) (fun h7 => ?_)
  · rw [if_pos h7] at hf
    refine lv_aload_n hx hb dX7_lay_19 rfl (lv_at hl 0 rfl) ?_
    refine gf_X7_37 F hP dX7_lay_20 ?_
    refine gf_X7_96 F hP (lay_ok _) dX7_lay_23 ?_
    refine lv_if_ne (tgt := 41) hx hb dX7_lay_26 (by decide) (fun h8 => ?_) (fun h8 => ?_)
    · rw [if_neg h8] at hf
      refine lv_aload_n hx hb dX7_lay_41 rfl (lv_at hl 0 rfl) ?_
      obtain ⟨r10, σ9, h11, hf⟩ := cl_e hf
      refine kc_X7_83 F hP hS h11 ⟨Nat.le_of_ble_eq_true rfl, Nat.le_of_ble_eq_true rfl⟩ hl.1 (Nat.le_of_ble_eq_true rfl) ⟨Nat.zero_le _, Nat.zero_le _⟩ dX7_lay_42 (fun H locs hP hS => ?_)
      refine lv_aload_n hx hb dX7_lay_45 rfl (lv_at hl 0 rfl) ?_
      refine gf_X7_33 F hP dX7_lay_46 ?_
      refine gf_X7_96 F hP (lay_ok _) dX7_lay_49 ?_
      exact g_iret B hP hS hf dX7_lay_52
    · rw [if_pos h8] at hf
      refine lv_aload_n hx hb dX7_lay_29 rfl (lv_at hl 0 rfl) ?_
      refine gf_X7_27 F hP dX7_lay_30 ?_
      refine lv_iconst (v := 2) hx hb dX7_lay_33 (by decide) ?_
      obtain ⟨r13, σ12, h14, hf⟩ := cl_e hf
      refine kc_X7_75 F hP hS (Or.inr rfl) h14 ⟨Nat.le_of_ble_eq_true rfl, Nat.le_of_ble_eq_true rfl⟩ hl.1 (Nat.le_of_ble_eq_true rfl) ⟨Nat.zero_le _, Nat.zero_le _⟩ dX7_lay_34 (fun H locs hP hS => ?_)
      refine lv_pop hx hb dX7_lay_37 rfl ?_
      refine lv_bipush (v := (-2)) hx hb dX7_lay_38 (by decide) ?_
      exact g_iret B hP hS hf dX7_lay_40
  · rw [if_neg h7] at hf
    refine lv_bipush (v := (-2)) hx hb dX7_lay_16 (by decide) ?_
    exact g_iret B hP hS hf dX7_lay_18
theorem c_X7_lay (l : Launch) {E : cEv} (hI : gIj (cG E)) {σ σ' : St} {r : Int32} (hf : f_X7_lay σ = some (r, σ')) : gMi l yX7_lay cX7_lay 1 .int rm_X7_lay [.ref (cAd E 0)] (cG E) σ r σ' :=
  g_entry (by decide) (Nat.le_of_ble_eq_true rfl) hI (fun p e s m args below meth c B hP hS ls hl => w_X7_lay_e B σ hf _ _ ls hP hS hl)
section SC
variable {p : Program} {l : Launch} {e : Env} {R : Room} {s : State} {m : MethodId} {args : Array Value} {below : List Frame} {meth : Method} {c : Code} {H : Heap} {locs : List Loc} {cells slots : Nat} {Q : State → Prop}
variable {cc : ByteArray} {pc nL : Nat} {ls : Array Slot} {rest : List Value} {E : cEv} {σ : St}
theorem kc_X7_99 (F : gFx p m c cc nL s args RX7 (cG E)) (hP : gW (cG E) σ H) (hS : va_S (gA (cG E)) s.heap H locs) {o : Nat} (ho : o = 1 ∨ o = 4) {p1 : Int32} {r : Int32} {σ' : St} (hf : f_X6_at o p1 σ = some (r, σ')) (hR : rm_X6_at.frames + 1 ≤ R.frames ∧ 8 + (2 + 11) + rm_X6_at.locals ≤ R.locals) (hsz : ls.size = nL) (hrest : (rest.map fun v => v.category).sum ≤ 8) (hcs : cells ≤ R.cells ∧ slots ≤ R.slots) (hdg : decode cc pc = .ok (.invokevirtual 99, 3)) (kk : ∀ (H1 : Heap) (locs1 : List Loc), gW (cG E) σ' H1 → va_S (gA (cG E)) s.heap H1 locs1 → W p l e R s m args below meth c H1 locs1 cells slots Q (F0 m (pc + 3) ls (.int r :: rest))) : W p l e R s m args below meth c H locs cells slots Q (F0 m pc ls (.int p1 :: .ref (cAd E o) :: rest)) :=
  g_callVi F hP hS (c_X6_at l F.2.2.2.2.2.2.2 ho hf) (g_cwV (n := 1) F tw_498 tw_343 tw_344 tw_2 tw_345 (by decide +kernel) rfl rfl hR) (k := o) (cin (by omega)) (ce_6 E _ ho) rfl (As := [.int p1]) rfl hsz rfl hrest hdg hcs kk
end SC
/-! PromisedSlots.cause(I)I -/
def f_X7_cause (p1 : Int32) (σ : St) : Option (Int32 × St) :=
  if 0 ≤ p1 then
    cl (f_X6_at 4 p1 σ) fun r3 σ2 =>
    some (r3, σ2)
  else
    some ((-1 : Int32), σ)
abbrev rm_X7_cause : Room := { frames := 1, cells := 0, slots := 0, locals := 21 }
set_option maxHeartbeats 4000000 in
set_option maxRecDepth 100000 in
theorem w_X7_cause_e {p : Program} {l : Launch} {e : Env} {s : State} {m : MethodId} {args : Array Value} {below : List Frame} {meth : Method} {c : Code} {E : cEv} {r : Int32} {σ' : St} (B : gBx p m meth c cX7_cause 2 (some .int) s args RX7 (cG E)) (p1 : Int32) (σ : St) (hf : f_X7_cause p1 σ = some (r, σ')) (H : Heap) (locs : List Loc) (ls : Array Slot) (hP : gW (cG E) σ H) (hS : va_S (gA (cG E)) s.heap H locs) (hl : lv_has ls 2 [(0, .ref (cAd E 0)), (1, .int p1)]) : W p l e rm_X7_cause s m args below meth c H locs 0 0 (gQi below args s (cG E) r σ') (F0 m 0 ls []) := by
  unfold f_X7_cause at hf
  obtain ⟨F, hr, hlk⟩ := id B
  have hx := F.1
  have hb := F.2.1
  have hml := F.2.2.1
  have hown := F.2.2.2.1
  have hts := F.2.2.2.2.1
  refine lv_iload_n hx hb dX7_cause_0 rfl (lv_at hl 1 rfl) ?_
  refine lv_if_ge (tgt := 8) hx hb dX7_cause_1 (by decide) (fun h1 => ?_) (fun h1 => ?_)
  · rw [if_pos h1] at hf
    refine lv_aload_n hx hb dX7_cause_8 rfl (lv_at hl 0 rfl) ?_
    refine gf_X7_27 F hP dX7_cause_9 ?_
    refine lv_iload_n hx hb dX7_cause_12 rfl (lv_at hl 1 rfl) ?_
    obtain ⟨r3, σ2, h4, hf⟩ := cl_e hf
    refine kc_X7_99 F hP hS (Or.inr rfl) h4 ⟨Nat.le_of_ble_eq_true rfl, Nat.le_of_ble_eq_true rfl⟩ hl.1 (Nat.le_of_ble_eq_true rfl) ⟨Nat.zero_le _, Nat.zero_le _⟩ dX7_cause_13 (fun H locs hP hS => ?_)
    exact g_iret B hP hS hf dX7_cause_16
  · rw [if_neg h1] at hf
    refine lv_iconst (v := (-1)) hx hb dX7_cause_4 (by decide) ?_
    refine lv_goto (tgt := 16) hx hb dX7_cause_5 (by decide) ?_
    exact g_iret B hP hS hf dX7_cause_16
theorem c_X7_cause (l : Launch) {E : cEv} (hI : gIj (cG E)) {p1 : Int32} {σ σ' : St} {r : Int32} (hf : f_X7_cause p1 σ = some (r, σ')) : gMi l yX7_cause cX7_cause 2 .int rm_X7_cause [.ref (cAd E 0), .int p1] (cG E) σ r σ' :=
  g_entry (by decide) (Nat.le_of_ble_eq_true rfl) hI (fun p e s m args below meth c B hP hS ls hl => w_X7_cause_e B _ σ hf _ _ ls hP hS hl)
section SC
variable {p : Program} {l : Launch} {e : Env} {R : Room} {s : State} {m : MethodId} {args : Array Value} {below : List Frame} {meth : Method} {c : Code} {H : Heap} {locs : List Loc} {cells slots : Nat} {Q : State → Prop}
variable {cc : ByteArray} {pc nL : Nat} {ls : Array Slot} {rest : List Value} {E : cEv} {σ : St}
theorem gf_X7_107 (F : gFx p m c cc nL s args RX7 (cG E)) (hP : gW (cG E) σ H) {o : Nat} (ho : o = 8 ∨ o = 14) (hdg : decode cc pc = .ok (.getfield 107, 3)) (kk : W p l e R s m args below meth c H locs cells slots Q (F0 m (pc + 3) ls (.int (σ o 0) :: rest))) : W p l e R s m args below meth c H locs cells slots Q (F0 m pc ls (.ref (cAd E o) :: rest)) :=
  g_getN F hP (k := o) (cin (by omega)) (ce_3 E _ ho) rfl inX3 0 (by decide) tw_72 rfl rfl hdg kk
theorem kc_X7_113 (F : gFx p m c cc nL s args RX7 (cG E)) (hP : gW (cG E) σ H) (hS : va_S (gA (cG E)) s.heap H locs) {o : Nat} (ho : o = 8 ∨ o = 14) {p1 : Int32} {p2 : Int32} {r : Int32} {σ' : St} (hf : f_X3_startBehind o p1 p2 σ = some (r, σ')) (hR : rm_X3_startBehind.frames + 1 ≤ R.frames ∧ 8 + (4 + 11) + rm_X3_startBehind.locals ≤ R.locals) (hsz : ls.size = nL) (hrest : (rest.map fun v => v.category).sum ≤ 8) (hcs : cells ≤ R.cells ∧ slots ≤ R.slots) (hdg : decode cc pc = .ok (.invokevirtual 113, 3)) (kk : ∀ (H1 : Heap) (locs1 : List Loc), gW (cG E) σ' H1 → va_S (gA (cG E)) s.heap H1 locs1 → W p l e R s m args below meth c H1 locs1 cells slots Q (F0 m (pc + 3) ls (.int r :: rest))) : W p l e R s m args below meth c H locs cells slots Q (F0 m pc ls (.int p2 :: .int p1 :: .ref (cAd E o) :: rest)) :=
  g_callVi F hP hS (c_X3_startBehind l F.2.2.2.2.2.2.2 ho hf) (g_cwV (n := 2) F tw_503 tw_370 tw_371 tw_5 tw_372 (by decide +kernel) rfl rfl hR) (k := o) (cin (by omega)) (ce_3 E _ ho) rfl (As := [.int p1, .int p2]) rfl hsz rfl hrest hdg hcs kk
theorem kc_X7_117 (F : gFx p m c cc nL s args RX7 (cG E)) (hP : gW (cG E) σ H) (hS : va_S (gA (cG E)) s.heap H locs) {o : Nat} (ho : o = 8 ∨ o = 14) {p1 : Int32} {r : Int32} {σ' : St} (hf : f_X3_clashOf o p1 σ = some (r, σ')) (hR : rm_X3_clashOf.frames + 1 ≤ R.frames ∧ 8 + (4 + 11) + rm_X3_clashOf.locals ≤ R.locals) (hsz : ls.size = nL) (hrest : (rest.map fun v => v.category).sum ≤ 8) (hcs : cells ≤ R.cells ∧ slots ≤ R.slots) (hdg : decode cc pc = .ok (.invokevirtual 117, 3)) (kk : ∀ (H1 : Heap) (locs1 : List Loc), gW (cG E) σ' H1 → va_S (gA (cG E)) s.heap H1 locs1 → W p l e R s m args below meth c H1 locs1 cells slots Q (F0 m (pc + 3) ls (.int r :: rest))) : W p l e R s m args below meth c H locs cells slots Q (F0 m pc ls (.int p1 :: .ref (cAd E o) :: rest)) :=
  g_callVi F hP hS (c_X3_clashOf l F.2.2.2.2.2.2.2 ho hf) (g_cwV (n := 1) F tw_504 tw_378 tw_379 tw_5 tw_380 (by decide +kernel) rfl rfl hR) (k := o) (cin (by omega)) (ce_3 E _ ho) rfl (As := [.int p1]) rfl hsz rfl hrest hdg hcs kk
theorem kc_X7_120 (F : gFx p m c cc nL s args RX7 (cG E)) (hP : gW (cG E) σ H) (hS : va_S (gA (cG E)) s.heap H locs) {o : Nat} (ho : o = 8 ∨ o = 14) {p1 : Int32} {p2 : Int32} {u : Unit} {σ' : St} (hf : f_X3_addCoordinator o p1 p2 σ = some (u, σ')) (hR : rm_X3_addCoordinator.frames + 1 ≤ R.frames ∧ 8 + (4 + 11) + rm_X3_addCoordinator.locals ≤ R.locals) (hsz : ls.size = nL) (hrest : (rest.map fun v => v.category).sum ≤ 8) (hcs : cells ≤ R.cells ∧ slots ≤ R.slots) (hdg : decode cc pc = .ok (.invokevirtual 120, 3)) (kk : ∀ (H1 : Heap) (locs1 : List Loc), gW (cG E) σ' H1 → va_S (gA (cG E)) s.heap H1 locs1 → W p l e R s m args below meth c H1 locs1 cells slots Q (F0 m (pc + 3) ls rest)) : W p l e R s m args below meth c H locs cells slots Q (F0 m pc ls (.int p2 :: .int p1 :: .ref (cAd E o) :: rest)) :=
  g_callVv F hP hS (c_X3_addCoordinator l F.2.2.2.2.2.2.2 ho hf) (g_cwV (n := 2) F tw_505 tw_335 tw_336 tw_5 tw_337 (by decide +kernel) rfl rfl hR) (k := o) (cin (by omega)) (ce_3 E _ ho) rfl (As := [.int p1, .int p2]) rfl hsz rfl hrest hdg hcs kk
theorem gf_X7_124 (F : gFx p m c cc nL s args RX7 (cG E)) (hP : gW (cG E) σ H) (hdg : decode cc pc = .ok (.getfield 124, 3)) (kk : W p l e R s m args below meth c H locs cells slots Q (F0 m (pc + 3) ls (.int (σ 0 8) :: rest))) : W p l e R s m args below meth c H locs cells slots Q (F0 m pc ls (.ref (cAd E 0) :: rest)) :=
  g_get F hP (k := 0) (cin (by omega)) (ce_7 E _) rfl inX7 8 (by decide) tw_450 rfl rfl hdg kk
theorem kc_X7_127 (F : gFx p m c cc nL s args RX7 (cG E)) (hP : gW (cG E) σ H) (hS : va_S (gA (cG E)) s.heap H locs) {o : Nat} (ho : o = 8 ∨ o = 14) {p1 : Int32} {p2 : Int32} {r : Int32} {σ' : St} (hf : f_X3_firstBeacon o p1 p2 σ = some (r, σ')) (hR : rm_X3_firstBeacon.frames + 1 ≤ R.frames ∧ 8 + (4 + 11) + rm_X3_firstBeacon.locals ≤ R.locals) (hsz : ls.size = nL) (hrest : (rest.map fun v => v.category).sum ≤ 8) (hcs : cells ≤ R.cells ∧ slots ≤ R.slots) (hdg : decode cc pc = .ok (.invokevirtual 127, 3)) (kk : ∀ (H1 : Heap) (locs1 : List Loc), gW (cG E) σ' H1 → va_S (gA (cG E)) s.heap H1 locs1 → W p l e R s m args below meth c H1 locs1 cells slots Q (F0 m (pc + 3) ls (.int r :: rest))) : W p l e R s m args below meth c H locs cells slots Q (F0 m pc ls (.int p2 :: .int p1 :: .ref (cAd E o) :: rest)) :=
  g_callVi F hP hS (c_X3_firstBeacon l F.2.2.2.2.2.2.2 ho hf) (g_cwV (n := 2) F tw_506 tw_507 tw_508 tw_5 tw_509 (by decide +kernel) rfl rfl hR) (k := o) (cin (by omega)) (ce_3 E _ ho) rfl (As := [.int p1, .int p2]) rfl hsz rfl hrest hdg hcs kk
end SC
/-! PromisedSlots.nest(II)I -/
def f_X7_nest (p1 : Int32) (p2 : Int32) (σ : St) : Option (Int32 × St) :=
  cl (f_X6_clear 4 σ) fun r2 σ1 =>
  cl (f_X7_coordinatorAt p1 σ1) fun r5 σ4 =>
  oc r5 (
    cl (f_X6_append 4 (18 : Int32) σ4) fun r10 σ9 =>
    some ((-1 : Int32), σ9)) (fun d8 => gd (d8 < 4) <|
    if p2 < 0 then
      cl (f_X6_append 4 (18 : Int32) σ4) fun r15 σ14 =>
      some ((-1 : Int32), σ14)
    else
      if p2 < (σ4 (lay (σ4 0 6)) 0) then
        if (σ4 (lay (σ4 0 6)) 5) < (4 : Int32) then
          cl (f_X3_startBehind (lay (σ4 0 6)) p1 p2 σ4) fun r20 σ19 =>
          cl (f_X3_clashOf (lay (σ19 0 6)) r20 σ19) fun r23 σ22 =>
          if r23 = (-4 : Int32) then
            vl (σ22 (lay (σ22 0 6)) 5) fun x26 =>
            cl (f_X3_addCoordinator (lay (σ22 0 6)) p1 r20 σ22) fun r28 σ27 =>
            cl (f_X7_coordinatorAt x26 σ27) fun r31 σ30 =>
            oc r31 (
              some (x26, σ30)) (fun d34 => gd (d34 < 4) <|
              cl (f_X3_firstBeacon (lay (σ30 0 6)) r20 (σ30 0 8) σ30) fun r37 σ36 =>
              cl (f_X1_layAt d34 p1 r20 r37 σ36) fun r40 σ39 =>
              some (x26, σ39))
          else
            cl (f_X6_append 4 (13 : Int32) σ22) fun r43 σ42 =>
            cl (f_X6_append 4 ((20 : Int32) + r23) σ42) fun r46 σ45 =>
            some ((-2 : Int32), σ45)
        else
          cl (f_X6_append 4 (14 : Int32) σ4) fun r49 σ48 =>
          some ((-3 : Int32), σ48)
      else
        cl (f_X6_append 4 (18 : Int32) σ4) fun r52 σ51 =>
        some ((-1 : Int32), σ51))
abbrev rm_X7_nest : Room := { frames := 2, cells := 0, slots := 0, locals := 44 }
set_option maxHeartbeats 4000000 in
set_option maxRecDepth 100000 in
theorem w_X7_nest_e {p : Program} {l : Launch} {e : Env} {s : State} {m : MethodId} {args : Array Value} {below : List Frame} {meth : Method} {c : Code} {E : cEv} {r : Int32} {σ' : St} (B : gBx p m meth c cX7_nest 7 (some .int) s args RX7 (cG E)) (p1 : Int32) (p2 : Int32) (σ : St) (hf : f_X7_nest p1 p2 σ = some (r, σ')) (H : Heap) (locs : List Loc) (ls : Array Slot) (hP : gW (cG E) σ H) (hS : va_S (gA (cG E)) s.heap H locs) (hl : lv_has ls 7 [(0, .ref (cAd E 0)), (1, .int p1), (2, .int p2)]) : W p l e rm_X7_nest s m args below meth c H locs 0 0 (gQi below args s (cG E) r σ') (F0 m 0 ls []) := by
  unfold f_X7_nest at hf
  obtain ⟨F, hr, hlk⟩ := id B
  have hx := F.1
  have hb := F.2.1
  have hml := F.2.2.1
  have hown := F.2.2.2.1
  have hts := F.2.2.2.2.1
  refine lv_aload_n hx hb dX7_nest_0 rfl (lv_at hl 0 rfl) ?_
  refine gf_X7_27 F hP dX7_nest_1 ?_
  obtain ⟨r2, σ1, h3, hf⟩ := cl_e hf
  refine kc_X7_86 F hP hS (Or.inr rfl) h3 ⟨Nat.le_of_ble_eq_true rfl, Nat.le_of_ble_eq_true rfl⟩ hl.1 (Nat.le_of_ble_eq_true rfl) ⟨Nat.zero_le _, Nat.zero_le _⟩ dX7_nest_4 (fun H locs hP hS => ?_)
  refine lv_aload_n hx hb dX7_nest_7 rfl (lv_at hl 0 rfl) ?_
  refine lv_iload_n hx hb dX7_nest_8 rfl (lv_at hl 1 rfl) ?_
  obtain ⟨r5, σ4, h6, hf⟩ := cl_e hf
  refine kc_X7_103 F hP hS h6 ⟨Nat.le_of_ble_eq_true rfl, Nat.le_of_ble_eq_true rfl⟩ hl.1 (Nat.le_of_ble_eq_true rfl) ⟨Nat.zero_le _, Nat.zero_le _⟩ dX7_nest_9 (fun e7 H locs hP hS => ?_) (fun d8 e7 H locs hP hS => ?_)
  · subst e7
    replace hf := oc_n hf
    refine lv_ifnullN (tgt := 30) hx hb dX7_nest_12 (by decide) ?_
    refine lv_aload_n hx hb dX7_nest_30 rfl (lv_at hl 0 rfl) ?_
    refine gf_X7_27 F hP dX7_nest_31 ?_
    refine lv_bipush (v := (18)) hx hb dX7_nest_34 (by decide) ?_
    obtain ⟨r10, σ9, h11, hf⟩ := cl_e hf
    refine kc_X7_75 F hP hS (Or.inr rfl) h11 ⟨Nat.le_of_ble_eq_true rfl, Nat.le_of_ble_eq_true rfl⟩ hl.1 (Nat.le_of_ble_eq_true rfl) ⟨Nat.zero_le _, Nat.zero_le _⟩ dX7_nest_36 (fun H locs hP hS => ?_)
    refine lv_pop hx hb dX7_nest_39 rfl ?_
    refine lv_iconst (v := (-1)) hx hb dX7_nest_40 (by decide) ?_
    exact g_iret B hP hS hf dX7_nest_41
  · subst e7
    replace hf := oc_s hf
    obtain ⟨h12, hf⟩ := gd_e hf
    refine lv_ifnull hx hb dX7_nest_12 ?_
    refine lv_iload_n hx hb dX7_nest_15 rfl (lv_at hl 2 rfl) ?_
    refine lv_if_lt (tgt := 30) hx hb dX7_nest_16 (by decide) (fun h13 => ?_) (fun h13 => ?_)
    · rw [if_pos h13] at hf
      refine lv_aload_n hx hb dX7_nest_30 rfl (lv_at hl 0 rfl) ?_
      refine gf_X7_27 F hP dX7_nest_31 ?_
      refine lv_bipush (v := (18)) hx hb dX7_nest_34 (by decide) ?_
      obtain ⟨r15, σ14, h16, hf⟩ := cl_e hf
      refine kc_X7_75 F hP hS (Or.inr rfl) h16 ⟨Nat.le_of_ble_eq_true rfl, Nat.le_of_ble_eq_true rfl⟩ hl.1 (Nat.le_of_ble_eq_true rfl) ⟨Nat.zero_le _, Nat.zero_le _⟩ dX7_nest_36 (fun H locs hP hS => ?_)
      refine lv_pop hx hb dX7_nest_39 rfl ?_
      refine lv_iconst (v := (-1)) hx hb dX7_nest_40 (by decide) ?_
      exact g_iret B hP hS hf dX7_nest_41
    · rw [if_neg h13] at hf
      refine lv_iload_n hx hb dX7_nest_19 rfl (lv_at hl 2 rfl) ?_
      refine lv_aload_n hx hb dX7_nest_20 rfl (lv_at hl 0 rfl) ?_
      refine gf_X7_33 F hP dX7_nest_21 ?_
      refine gf_X7_107 F hP (lay_ok _) dX7_nest_24 ?_
      refine lv_icmp_lt (tgt := 42) hx hb dX7_nest_27 (by decide) (fun h17 => ?_) (fun h17 => ?_)
      · rw [if_pos h17] at hf
        refine lv_aload_n hx hb dX7_nest_42 rfl (lv_at hl 0 rfl) ?_
        refine gf_X7_33 F hP dX7_nest_43 ?_
        refine gf_X7_110 F hP (lay_ok _) dX7_nest_46 ?_
        refine lv_iconst (v := 4) hx hb dX7_nest_49 (by decide) ?_
        refine lv_icmp_lt (tgt := 66) hx hb dX7_nest_50 (by decide) (fun h18 => ?_) (fun h18 => ?_)
        · rw [if_pos h18] at hf
          refine lv_aload_n hx hb dX7_nest_66 rfl (lv_at hl 0 rfl) ?_
          refine gf_X7_33 F hP dX7_nest_67 ?_
          refine lv_iload_n hx hb dX7_nest_70 rfl (lv_at hl 1 rfl) ?_
          refine lv_iload_n hx hb dX7_nest_71 rfl (lv_at hl 2 rfl) ?_
          obtain ⟨r20, σ19, h21, hf⟩ := cl_e hf
          refine kc_X7_113 F hP hS (lay_ok _) h21 ⟨Nat.le_of_ble_eq_true rfl, Nat.le_of_ble_eq_true rfl⟩ hl.1 (Nat.le_of_ble_eq_true rfl) ⟨Nat.zero_le _, Nat.zero_le _⟩ dX7_nest_72 (fun H locs hP hS => ?_)
          refine lv_istore_n (lv' := [(3, .int r20), (0, .ref (cAd E 0)), (1, .int p1), (2, .int p2)]) hx hb dX7_nest_75 rfl hl (by decide) rfl (fun ls hl => ?_)
          refine lv_aload_n hx hb dX7_nest_76 rfl (lv_at hl 1 rfl) ?_
          refine gf_X7_33 F hP dX7_nest_77 ?_
          refine lv_iload_n hx hb dX7_nest_80 rfl (lv_at hl 0 rfl) ?_
          obtain ⟨r23, σ22, h24, hf⟩ := cl_e hf
          refine kc_X7_117 F hP hS (lay_ok _) h24 ⟨Nat.le_of_ble_eq_true rfl, Nat.le_of_ble_eq_true rfl⟩ hl.1 (Nat.le_of_ble_eq_true rfl) ⟨Nat.zero_le _, Nat.zero_le _⟩ dX7_nest_81 (fun H locs hP hS => ?_)
          refine lv_istore (lv' := [(4, .int r23), (3, .int r20), (0, .ref (cAd E 0)), (1, .int p1), (2, .int p2)]) hx hb dX7_nest_84 hl (by decide) rfl (fun ls hl => ?_)
          refine lv_iload hx hb dX7_nest_86 (lv_at hl 0 rfl) ?_
          refine lv_bipush (v := (-4)) hx hb dX7_nest_88 (by decide) ?_
          refine lv_icmp_eq (tgt := 119) hx hb dX7_nest_90 (by decide) (fun h25 => ?_) (fun h25 => ?_)
          · rw [if_pos h25] at hf
            refine lv_aload_n hx hb dX7_nest_119 rfl (lv_at hl 2 rfl) ?_
            refine gf_X7_33 F hP dX7_nest_120 ?_
            refine gf_X7_110 F hP (lay_ok _) dX7_nest_123 ?_
            obtain ⟨x26, ex26, hf⟩ := vl_x hf
            rw [← ex26]
            refine lv_istore (lv' := [(5, .int x26), (4, .int r23), (3, .int r20), (0, .ref (cAd E 0)), (1, .int p1), (2, .int p2)]) hx hb dX7_nest_126 hl (by decide) rfl (fun ls hl => ?_)
            refine lv_aload_n hx hb dX7_nest_128 rfl (lv_at hl 3 rfl) ?_
            refine gf_X7_33 F hP dX7_nest_129 ?_
            refine lv_iload_n hx hb dX7_nest_132 rfl (lv_at hl 4 rfl) ?_
            refine lv_iload_n hx hb dX7_nest_133 rfl (lv_at hl 2 rfl) ?_
            obtain ⟨r28, σ27, h29, hf⟩ := cl_e hf
            refine kc_X7_120 F hP hS (lay_ok _) h29 ⟨Nat.le_of_ble_eq_true rfl, Nat.le_of_ble_eq_true rfl⟩ hl.1 (Nat.le_of_ble_eq_true rfl) ⟨Nat.zero_le _, Nat.zero_le _⟩ dX7_nest_134 (fun H locs hP hS => ?_)
            refine lv_aload_n hx hb dX7_nest_137 rfl (lv_at hl 3 rfl) ?_
            refine lv_iload hx hb dX7_nest_138 (lv_at hl 0 rfl) ?_
            obtain ⟨r31, σ30, h32, hf⟩ := cl_e hf
            refine kc_X7_103 F hP hS h32 ⟨Nat.le_of_ble_eq_true rfl, Nat.le_of_ble_eq_true rfl⟩ hl.1 (Nat.le_of_ble_eq_true rfl) ⟨Nat.zero_le _, Nat.zero_le _⟩ dX7_nest_140 (fun e33 H locs hP hS => ?_) (fun d34 e33 H locs hP hS => ?_)
            · subst e33
              replace hf := oc_n hf
              refine lv_astoreN (lv' := [(6, .null), (5, .int x26), (4, .int r23), (3, .int r20), (0, .ref (cAd E 0)), (1, .int p1), (2, .int p2)]) hx hb dX7_nest_143 hl (by decide) rfl (fun ls hl => ?_)
              refine lv_aloadN hx hb dX7_nest_145 (lv_at hl 0 rfl) ?_
              refine lv_ifnullN (tgt := 169) hx hb dX7_nest_147 (by decide) ?_
              refine lv_iload hx hb dX7_nest_169 (lv_at hl 1 rfl) ?_
              exact g_iret B hP hS hf dX7_nest_171
            · subst e33
              replace hf := oc_s hf
              obtain ⟨h35, hf⟩ := gd_e hf
              refine lv_astore (lv' := [(6, .ref (cAd E (22 + d34))), (5, .int x26), (4, .int r23), (3, .int r20), (0, .ref (cAd E 0)), (1, .int p1), (2, .int p2)]) hx hb dX7_nest_143 hl (by decide) rfl (fun ls hl => ?_)
              refine lv_aload hx hb dX7_nest_145 (lv_at hl 0 rfl) ?_
              refine lv_ifnull hx hb dX7_nest_147 ?_
              refine lv_aload hx hb dX7_nest_150 (lv_at hl 0 rfl) ?_
              refine lv_iload_n hx hb dX7_nest_152 rfl (lv_at hl 5 rfl) ?_
              refine lv_iload_n hx hb dX7_nest_153 rfl (lv_at hl 3 rfl) ?_
              refine lv_aload_n hx hb dX7_nest_154 rfl (lv_at hl 4 rfl) ?_
              refine gf_X7_33 F hP dX7_nest_155 ?_
              refine lv_iload_n hx hb dX7_nest_158 rfl (lv_at hl 3 rfl) ?_
              refine lv_aload_n hx hb dX7_nest_159 rfl (lv_at hl 4 rfl) ?_
              refine gf_X7_124 F hP dX7_nest_160 ?_
              obtain ⟨r37, σ36, h38, hf⟩ := cl_e hf
              refine kc_X7_127 F hP hS (lay_ok _) h38 ⟨Nat.le_of_ble_eq_true rfl, Nat.le_of_ble_eq_true rfl⟩ hl.1 (Nat.le_of_ble_eq_true rfl) ⟨Nat.zero_le _, Nat.zero_le _⟩ dX7_nest_163 (fun H locs hP hS => ?_)
              obtain ⟨r40, σ39, h41, hf⟩ := cl_e hf
              refine kc_X7_130 F hP hS h35 h41 ⟨Nat.le_of_ble_eq_true rfl, Nat.le_of_ble_eq_true rfl⟩ hl.1 (Nat.le_of_ble_eq_true rfl) ⟨Nat.zero_le _, Nat.zero_le _⟩ dX7_nest_166 (fun H locs hP hS => ?_)
              refine lv_iload hx hb dX7_nest_169 (lv_at hl 1 rfl) ?_
              exact g_iret B hP hS hf dX7_nest_171
          · rw [if_neg h25] at hf
            refine lv_aload_n hx hb dX7_nest_93 rfl (lv_at hl 2 rfl) ?_
            refine gf_X7_27 F hP dX7_nest_94 ?_
            refine lv_bipush (v := (13)) hx hb dX7_nest_97 (by decide) ?_
            obtain ⟨r43, σ42, h44, hf⟩ := cl_e hf
            refine kc_X7_75 F hP hS (Or.inr rfl) h44 ⟨Nat.le_of_ble_eq_true rfl, Nat.le_of_ble_eq_true rfl⟩ hl.1 (Nat.le_of_ble_eq_true rfl) ⟨Nat.zero_le _, Nat.zero_le _⟩ dX7_nest_99 (fun H locs hP hS => ?_)
            refine lv_pop hx hb dX7_nest_102 rfl ?_
            refine lv_aload_n hx hb dX7_nest_103 rfl (lv_at hl 2 rfl) ?_
            refine gf_X7_27 F hP dX7_nest_104 ?_
            refine lv_bipush (v := (20)) hx hb dX7_nest_107 (by decide) ?_
            refine lv_iload hx hb dX7_nest_109 (lv_at hl 0 rfl) ?_
            refine lv_iadd hx hb dX7_nest_111 ?_
            obtain ⟨r46, σ45, h47, hf⟩ := cl_e hf
            refine kc_X7_75 F hP hS (Or.inr rfl) h47 ⟨Nat.le_of_ble_eq_true rfl, Nat.le_of_ble_eq_true rfl⟩ hl.1 (Nat.le_of_ble_eq_true rfl) ⟨Nat.zero_le _, Nat.zero_le _⟩ dX7_nest_112 (fun H locs hP hS => ?_)
            refine lv_pop hx hb dX7_nest_115 rfl ?_
            refine lv_bipush (v := (-2)) hx hb dX7_nest_116 (by decide) ?_
            exact g_iret B hP hS hf dX7_nest_118
        · rw [if_neg h18] at hf
          refine lv_aload_n hx hb dX7_nest_53 rfl (lv_at hl 0 rfl) ?_
          refine gf_X7_27 F hP dX7_nest_54 ?_
          refine lv_bipush (v := (14)) hx hb dX7_nest_57 (by decide) ?_
          obtain ⟨r49, σ48, h50, hf⟩ := cl_e hf
          refine kc_X7_75 F hP hS (Or.inr rfl) h50 ⟨Nat.le_of_ble_eq_true rfl, Nat.le_of_ble_eq_true rfl⟩ hl.1 (Nat.le_of_ble_eq_true rfl) ⟨Nat.zero_le _, Nat.zero_le _⟩ dX7_nest_59 (fun H locs hP hS => ?_)
          refine lv_pop hx hb dX7_nest_62 rfl ?_
          refine lv_bipush (v := (-3)) hx hb dX7_nest_63 (by decide) ?_
          exact g_iret B hP hS hf dX7_nest_65
      · rw [if_neg h17] at hf
        refine lv_aload_n hx hb dX7_nest_30 rfl (lv_at hl 0 rfl) ?_
        refine gf_X7_27 F hP dX7_nest_31 ?_
        refine lv_bipush (v := (18)) hx hb dX7_nest_34 (by decide) ?_
        obtain ⟨r52, σ51, h53, hf⟩ := cl_e hf
        refine kc_X7_75 F hP hS (Or.inr rfl) h53 ⟨Nat.le_of_ble_eq_true rfl, Nat.le_of_ble_eq_true rfl⟩ hl.1 (Nat.le_of_ble_eq_true rfl) ⟨Nat.zero_le _, Nat.zero_le _⟩ dX7_nest_36 (fun H locs hP hS => ?_)
        refine lv_pop hx hb dX7_nest_39 rfl ?_
        refine lv_iconst (v := (-1)) hx hb dX7_nest_40 (by decide) ?_
        exact g_iret B hP hS hf dX7_nest_41
theorem c_X7_nest (l : Launch) {E : cEv} (hI : gIj (cG E)) {p1 : Int32} {p2 : Int32} {σ σ' : St} {r : Int32} (hf : f_X7_nest p1 p2 σ = some (r, σ')) : gMi l yX7_nest cX7_nest 7 .int rm_X7_nest [.ref (cAd E 0), .int p1, .int p2] (cG E) σ r σ' :=
  g_entry (by decide) (Nat.le_of_ble_eq_true rfl) hI (fun p e s m args below meth c B hP hS ls hl => w_X7_nest_e B _ _ σ hf _ _ ls hP hS hl)
section SC
variable {p : Program} {l : Launch} {e : Env} {R : Room} {s : State} {m : MethodId} {args : Array Value} {below : List Frame} {meth : Method} {c : Code} {H : Heap} {locs : List Loc} {cells slots : Nat} {Q : State → Prop}
variable {cc : ByteArray} {pc nL : Nat} {ls : Array Slot} {rest : List Value} {E : cEv} {σ : St}
theorem gf_X7_135 (F : gFx p m c cc nL s args RX7 (cG E)) (hP : gW (cG E) σ H) (hdg : decode cc pc = .ok (.getfield 135, 3)) (kk : W p l e R s m args below meth c H locs cells slots Q (F0 m (pc + 3) ls (.int (σ 6 2) :: rest))) : W p l e R s m args below meth c H locs cells slots Q (F0 m pc ls (.ref (cAd E 6) :: rest)) :=
  g_getN F hP (k := 6) (cin (by omega)) (ce_0 E _) rfl inX0 1 (by decide) tw_260 rfl rfl hdg kk
end SC
/-! PromisedSlots.seed(I)I -/
def f_X7_seed (p1 : Int32) (σ : St) : Option (Int32 × St) :=
  if p1 < 0 then
    some ((-1 : Int32), σ)
  else
    if p1 < (65521 : Int32) then
      vl (σ 6 2) fun x3 =>
      vl (up2 σ 6 2 p1) fun σ4 =>
      some (x3, σ4)
    else
      some ((-1 : Int32), σ)
abbrev rm_X7_seed : Room := { frames := 0, cells := 0, slots := 0, locals := 0 }
set_option maxHeartbeats 4000000 in
set_option maxRecDepth 100000 in
theorem w_X7_seed_e {p : Program} {l : Launch} {e : Env} {s : State} {m : MethodId} {args : Array Value} {below : List Frame} {meth : Method} {c : Code} {E : cEv} {r : Int32} {σ' : St} (B : gBx p m meth c cX7_seed 3 (some .int) s args RX7 (cG E)) (p1 : Int32) (σ : St) (hf : f_X7_seed p1 σ = some (r, σ')) (H : Heap) (locs : List Loc) (ls : Array Slot) (hP : gW (cG E) σ H) (hS : va_S (gA (cG E)) s.heap H locs) (hl : lv_has ls 3 [(0, .ref (cAd E 0)), (1, .int p1)]) : W p l e rm_X7_seed s m args below meth c H locs 0 0 (gQi below args s (cG E) r σ') (F0 m 0 ls []) := by
  unfold f_X7_seed at hf
  obtain ⟨F, hr, hlk⟩ := id B
  have hx := F.1
  have hb := F.2.1
  have hml := F.2.2.1
  have hown := F.2.2.2.1
  have hts := F.2.2.2.2.1
  refine lv_iload_n hx hb dX7_seed_0 rfl (lv_at hl 1 rfl) ?_
  refine lv_if_lt (tgt := 10) hx hb dX7_seed_1 (by decide) (fun h1 => ?_) (fun h1 => ?_)
  · rw [if_pos h1] at hf
    refine lv_iconst (v := (-1)) hx hb dX7_seed_10 (by decide) ?_
    exact g_iret B hP hS hf dX7_seed_11
  · rw [if_neg h1] at hf
    refine lv_iload_n hx hb dX7_seed_4 rfl (lv_at hl 1 rfl) ?_
    refine lv_ldc hx hb hown (hts _ tw_515) dX7_seed_5 ?_
    refine lv_icmp_lt (tgt := 12) hx hb dX7_seed_7 (by decide) (fun h2 => ?_) (fun h2 => ?_)
    · rw [if_pos h2] at hf
      refine lv_aload_n hx hb dX7_seed_12 rfl (lv_at hl 0 rfl) ?_
      refine gf_X7_59 F hP dX7_seed_13 ?_
      refine gf_X7_135 F hP dX7_seed_16 ?_
      obtain ⟨x3, ex3, hf⟩ := vl_x hf
      rw [← ex3]
      refine lv_istore_n (lv' := [(2, .int x3), (0, .ref (cAd E 0)), (1, .int p1)]) hx hb dX7_seed_19 rfl hl (by decide) rfl (fun ls hl => ?_)
      refine lv_aload_n hx hb dX7_seed_20 rfl (lv_at hl 1 rfl) ?_
      refine gf_X7_59 F hP dX7_seed_21 ?_
      refine lv_iload_n hx hb dX7_seed_24 rfl (lv_at hl 2 rfl) ?_
      refine pf_X7_135 F hP hS dX7_seed_25 (fun H locs hP hS => ?_)
      obtain ⟨σ4, eσ4, hf⟩ := vl_x hf
      rw [← eσ4] at hP
      refine lv_iload_n hx hb dX7_seed_28 rfl (lv_at hl 0 rfl) ?_
      exact g_iret B hP hS hf dX7_seed_29
    · rw [if_neg h2] at hf
      refine lv_iconst (v := (-1)) hx hb dX7_seed_10 (by decide) ?_
      exact g_iret B hP hS hf dX7_seed_11
theorem c_X7_seed (l : Launch) {E : cEv} (hI : gIj (cG E)) {p1 : Int32} {σ σ' : St} {r : Int32} (hf : f_X7_seed p1 σ = some (r, σ')) : gMi l yX7_seed cX7_seed 3 .int rm_X7_seed [.ref (cAd E 0), .int p1] (cG E) σ r σ' :=
  g_entry (by decide) (Nat.le_of_ble_eq_true rfl) hI (fun p e s m args below meth c B hP hS ls hl => w_X7_seed_e B _ σ hf _ _ ls hP hS hl)
/-! PromisedSlots.deviceAt(I)LPromisedSlots$Device; -/
def f_X7_deviceAt (p1 : Int32) (σ : St) : Option ((Option Nat) × St) :=
  if p1 < 0 then
    some (none, σ)
  else
    if (σ (lay (σ 0 6)) 6) ≤ p1 then
      some (none, σ)
    else
      if (8 : Int32) ≤ p1 then
        some (none, σ)
      else
        gd (ix p1 8) <|
        vl (nt p1) fun d5 =>
        some (some d5, σ)
abbrev rm_X7_deviceAt : Room := { frames := 0, cells := 0, slots := 0, locals := 0 }
set_option maxHeartbeats 4000000 in
set_option maxRecDepth 100000 in
theorem w_X7_deviceAt_e {p : Program} {l : Launch} {e : Env} {s : State} {m : MethodId} {args : Array Value} {below : List Frame} {meth : Method} {c : Code} {E : cEv} {r : Option Nat} {σ' : St} (B : gBx p m meth c cX7_deviceAt 2 (some (.object "PromisedSlots$Device")) s args RX7 (cG E)) (p1 : Int32) (σ : St) (hf : f_X7_deviceAt p1 σ = some (r, σ')) (H : Heap) (locs : List Loc) (ls : Array Slot) (hP : gW (cG E) σ H) (hS : va_S (gA (cG E)) s.heap H locs) (hl : lv_has ls 2 [(0, .ref (cAd E 0)), (1, .int p1)]) : W p l e rm_X7_deviceAt s m args below meth c H locs 0 0 (gQq below args s (cG E) 46 r σ') (F0 m 0 ls []) := by
  unfold f_X7_deviceAt at hf
  obtain ⟨F, hr, hlk⟩ := id B
  have hx := F.1
  have hb := F.2.1
  have hml := F.2.2.1
  have hown := F.2.2.2.1
  have hts := F.2.2.2.2.1
  refine lv_iload_n hx hb dX7_deviceAt_0 rfl (lv_at hl 1 rfl) ?_
  refine lv_if_lt (tgt := 33) hx hb dX7_deviceAt_1 (by decide) (fun h1 => ?_) (fun h1 => ?_)
  · rw [if_pos h1] at hf
    refine lv_null hx hb dX7_deviceAt_33 ?_
    exact g_aretN B hP hS hf dX7_deviceAt_34
  · rw [if_neg h1] at hf
    refine lv_iload_n hx hb dX7_deviceAt_4 rfl (lv_at hl 1 rfl) ?_
    refine lv_aload_n hx hb dX7_deviceAt_5 rfl (lv_at hl 0 rfl) ?_
    refine gf_X7_33 F hP dX7_deviceAt_6 ?_
    refine gf_X7_96 F hP (lay_ok _) dX7_deviceAt_9 ?_
    refine lv_icmp_ge (tgt := 33) hx hb dX7_deviceAt_12 (by decide) (fun h2 => ?_) (fun h2 => ?_)
    · rw [if_pos h2] at hf
      refine lv_null hx hb dX7_deviceAt_33 ?_
      exact g_aretN B hP hS hf dX7_deviceAt_34
    · rw [if_neg h2] at hf
      refine lv_iload_n hx hb dX7_deviceAt_15 rfl (lv_at hl 1 rfl) ?_
      refine lv_aload_n hx hb dX7_deviceAt_16 rfl (lv_at hl 0 rfl) ?_
      refine gf_X7_49 F hP dX7_deviceAt_17 ?_
      refine c_alenD F hP dX7_deviceAt_20 ?_
      refine lv_icmp_ge (tgt := 33) hx hb dX7_deviceAt_21 (by decide) (fun h3 => ?_) (fun h3 => ?_)
      · rw [if_pos h3] at hf
        refine lv_null hx hb dX7_deviceAt_33 ?_
        exact g_aretN B hP hS hf dX7_deviceAt_34
      · rw [if_neg h3] at hf
        refine lv_aload_n hx hb dX7_deviceAt_24 rfl (lv_at hl 0 rfl) ?_
        refine gf_X7_49 F hP dX7_deviceAt_25 ?_
        refine lv_iload_n hx hb dX7_deviceAt_28 rfl (lv_at hl 1 rfl) ?_
        obtain ⟨h4, hf⟩ := gd_e hf
        refine c_aldD F hP h4 dX7_deviceAt_29 ?_
        have h6 := ix_lt h4
        obtain ⟨d5, ed5, hf⟩ := vl_x hf
        rw [← ed5] at h6 ⊢
        refine lv_goto (tgt := 34) hx hb dX7_deviceAt_30 (by decide) ?_
        exact g_aretS B hP hS hf dX7_deviceAt_34
theorem c_X7_deviceAt (l : Launch) {E : cEv} (hI : gIj (cG E)) {p1 : Int32} {σ σ' : St} {r : Option Nat} (hf : f_X7_deviceAt p1 σ = some (r, σ')) : gMq l yX7_deviceAt cX7_deviceAt 2 (.object "PromisedSlots$Device") rm_X7_deviceAt [.ref (cAd E 0), .int p1] (cG E) σ 46 r σ' :=
  g_entry (by decide) (Nat.le_of_ble_eq_true rfl) hI (fun p e s m args below meth c B hP hS ls hl => w_X7_deviceAt_e B _ σ hf _ _ ls hP hS hl)
section SC
variable {p : Program} {l : Launch} {e : Env} {R : Room} {s : State} {m : MethodId} {args : Array Value} {below : List Frame} {meth : Method} {c : Code} {H : Heap} {locs : List Loc} {cells slots : Nat} {Q : State → Prop}
variable {cc : ByteArray} {pc nL : Nat} {ls : Array Slot} {rest : List Value} {E : cEv} {σ : St}
theorem kc_X7_138 (F : gFx p m c cc nL s args RX7 (cG E)) (hP : gW (cG E) σ H) (hS : va_S (gA (cG E)) s.heap H locs) {p1 : Int32} {r : Option Nat} {σ' : St} (hf : f_X7_deviceAt p1 σ = some (r, σ')) (hR : rm_X7_deviceAt.frames + 1 ≤ R.frames ∧ 8 + (2 + 11) + rm_X7_deviceAt.locals ≤ R.locals) (hsz : ls.size = nL) (hrest : (rest.map fun v => v.category).sum ≤ 8) (hcs : cells ≤ R.cells ∧ slots ≤ R.slots) (hdg : decode cc pc = .ok (.invokevirtual 138, 3)) (kn : r = none → ∀ (H1 : Heap) (locs1 : List Loc), gW (cG E) σ' H1 → va_S (gA (cG E)) s.heap H1 locs1 → W p l e R s m args below meth c H1 locs1 cells slots Q (F0 m (pc + 3) ls (.null :: rest))) (ks : ∀ d, r = some d → ∀ (H1 : Heap) (locs1 : List Loc), gW (cG E) σ' H1 → va_S (gA (cG E)) s.heap H1 locs1 → W p l e R s m args below meth c H1 locs1 cells slots Q (F0 m (pc + 3) ls (.ref (cAd E (46 + d)) :: rest))) : W p l e R s m args below meth c H locs cells slots Q (F0 m pc ls (.int p1 :: .ref (cAd E 0) :: rest)) :=
  g_callVq F hP hS (c_X7_deviceAt l F.2.2.2.2.2.2.2 hf) (g_cwV (n := 1) F tw_520 tw_522 ts_10 tw_1 tw_523 (by decide +kernel) rfl rfl hR) (k := 0) (cin (by omega)) (ce_7 E _) rfl (As := [.int p1]) rfl hsz rfl hrest hdg hcs kn ks
theorem kc_X7_154 (F : gFx p m c cc nL s args RX7 (cG E)) (hP : gW (cG E) σ H) (hS : va_S (gA (cG E)) s.heap H locs) {o : Nat} (ho : o < 8) {p1 : Int32} {u : Unit} {σ' : St} (hf : f_X2_comeHome o p1 σ = some (u, σ')) (hR : rm_X2_comeHome.frames + 1 ≤ R.frames ∧ 8 + (2 + 11) + rm_X2_comeHome.locals ≤ R.locals) (hsz : ls.size = nL) (hrest : (rest.map fun v => v.category).sum ≤ 8) (hcs : cells ≤ R.cells ∧ slots ≤ R.slots) (hdg : decode cc pc = .ok (.invokevirtual 154, 3)) (kk : ∀ (H1 : Heap) (locs1 : List Loc), gW (cG E) σ' H1 → va_S (gA (cG E)) s.heap H1 locs1 → W p l e R s m args below meth c H1 locs1 cells slots Q (F0 m (pc + 3) ls rest)) : W p l e R s m args below meth c H locs cells slots Q (F0 m pc ls (.int p1 :: .ref (cAd E (46 + o)) :: rest)) :=
  g_callVv F hP hS (c_X2_comeHome l F.2.2.2.2.2.2.2 ho hf) (g_cwV (n := 1) F tw_552 tw_553 tw_554 tw_8 tw_555 (by decide +kernel) rfl rfl hR) (k := (46 + o)) (cin (by omega)) (ce_2 E _ ho) rfl (As := [.int p1]) rfl hsz rfl hrest hdg hcs kk
theorem kc_X7_148 (F : gFx p m c cc nL s args RX7 (cG E)) (hP : gW (cG E) σ H) (hS : va_S (gA (cG E)) s.heap H locs) {o : Nat} (ho : o < 4) {p1 : Int32} {u : Unit} {σ' : St} (hf : f_X1_forget o p1 σ = some (u, σ')) (hR : rm_X1_forget.frames + 1 ≤ R.frames ∧ 8 + (2 + 11) + rm_X1_forget.locals ≤ R.locals) (hsz : ls.size = nL) (hrest : (rest.map fun v => v.category).sum ≤ 8) (hcs : cells ≤ R.cells ∧ slots ≤ R.slots) (hdg : decode cc pc = .ok (.invokevirtual 148, 3)) (kk : ∀ (H1 : Heap) (locs1 : List Loc), gW (cG E) σ' H1 → va_S (gA (cG E)) s.heap H1 locs1 → W p l e R s m args below meth c H1 locs1 cells slots Q (F0 m (pc + 3) ls rest)) : W p l e R s m args below meth c H locs cells slots Q (F0 m pc ls (.int p1 :: .ref (cAd E (22 + o)) :: rest)) :=
  g_callVv F hP hS (c_X1_forget l F.2.2.2.2.2.2.2 ho hf) (g_cwV (n := 1) F tw_528 tw_529 tw_530 tw_6 tw_531 (by decide +kernel) rfl rfl hR) (k := (22 + o)) (cin (by omega)) (ce_1 E _ ho) rfl (As := [.int p1]) rfl hsz rfl hrest hdg hcs kk
theorem kc_X7_145 (F : gFx p m c cc nL s args RX7 (cG E)) (hP : gW (cG E) σ H) (hS : va_S (gA (cG E)) s.heap H locs) {o : Nat} (ho : o < 4) {p1 : Int32} {r : Int32} {σ' : St} (hf : f_X1_lists o p1 σ = some (r, σ')) (hR : rm_X1_lists.frames + 1 ≤ R.frames ∧ 8 + (2 + 11) + rm_X1_lists.locals ≤ R.locals) (hsz : ls.size = nL) (hrest : (rest.map fun v => v.category).sum ≤ 8) (hcs : cells ≤ R.cells ∧ slots ≤ R.slots) (hdg : decode cc pc = .ok (.invokevirtual 145, 3)) (kk : ∀ (H1 : Heap) (locs1 : List Loc), gW (cG E) σ' H1 → va_S (gA (cG E)) s.heap H1 locs1 → W p l e R s m args below meth c H1 locs1 cells slots Q (F0 m (pc + 3) ls (.int r :: rest))) : W p l e R s m args below meth c H locs cells slots Q (F0 m pc ls (.int p1 :: .ref (cAd E (22 + o)) :: rest)) :=
  g_callVi F hP hS (c_X1_lists l F.2.2.2.2.2.2.2 ho hf) (g_cwV (n := 1) F tw_524 tw_525 tw_526 tw_6 tw_527 (by decide +kernel) rfl rfl hR) (k := (22 + o)) (cin (by omega)) (ce_1 E _ ho) rfl (As := [.int p1]) rfl hsz rfl hrest hdg hcs kk
end SC
/-! PromisedSlots.join(II)I -/
def b_X7_join_47 (a3 : Nat) (a4 : Nat) (K47 : (Int32 × Int32 × Int32 × St → Option (Int32 × St))) (a1 : Int32) (a2 : Int32) (a5 : Int32) (σ : St) : Option (Int32 × St) :=
  if (4 : Int32) ≤ a5 then
    cl (f_X1_enlist a4 a1 σ) fun r22 σ21 =>
    vl (σ21 (46 + a3) 1) fun x24 =>
    cl (f_X2_comeHome a3 a2 σ21) fun r26 σ25 =>
    some (x24, σ25)
  else
    if a5 = a2 then
      vl (a5 + (1 : Int32)) fun x29 =>
      K47 (a1, a2, x29, σ)
    else
      gd (ix a5 4) <|
      vl (nt a5) fun d31 =>
      cl (f_X1_forget d31 a1 σ) fun r34 σ33 =>
      vl (a5 + (1 : Int32)) fun x36 =>
      K47 (a1, a2, x36, σ33)
def f_X7_join (p1 : Int32) (p2 : Int32) (σ : St) : Option (Int32 × St) :=
  cl (f_X7_deviceAt p1 σ) fun r2 σ1 =>
  oc r2 (
    cl (f_X7_coordinatorAt p2 σ1) fun r7 σ6 =>
    oc r7 (
      some ((-1 : Int32), σ6)) (fun d10 => gd (d10 < 4) <|
      some ((-1 : Int32), σ6))) (fun d5 => gd (d5 < 8) <|
    cl (f_X7_coordinatorAt p2 σ1) fun r14 σ13 =>
    oc r14 (
      some ((-1 : Int32), σ13)) (fun d17 => gd (d17 < 4) <|
      if (σ13 (46 + d5) 1) = p2 then
        cl (f_X1_lists d17 p1 σ13) fun r38 σ37 =>
        if r38 = 0 then
          lp (fun K a => b_X7_join_47 d5 d17 K a.1 a.2.1 a.2.2.1 a.2.2.2) FU (p1, p2, (0 : Int32), σ37)
        else
          some ((-2 : Int32), σ37)
      else
        lp (fun K a => b_X7_join_47 d5 d17 K a.1 a.2.1 a.2.2.1 a.2.2.2) FU (p1, p2, (0 : Int32), σ13)))
abbrev rm_X7_join : Room := { frames := 4, cells := 0, slots := 0, locals := 89 }
def P_X7_join_47 (p : Program) (l : Launch) (e : Env) (s : State) (m : MethodId) (args : Array Value) (below : List Frame) (meth : Method) (c : Code) (E : cEv) (r : Int32) (σ' : St) (a3 : Nat) (a4 : Nat) (a : Int32 × Int32 × Int32 × St) : Prop := ∀ (H : Heap) (locs : List Loc) (ls : Array Slot), gW (cG E) a.2.2.2 H → va_S (gA (cG E)) s.heap H locs → lv_has ls 6 [(0, .ref (cAd E 0)), (1, .int a.1), (2, .int a.2.1), (3, .ref (cAd E (46 + a3))), (4, .ref (cAd E (22 + a4))), (5, .int a.2.2.1)] → W p l e rm_X7_join s m args below meth c H locs 0 0 (gQi below args s (cG E) r σ') (F0 m 47 ls [])
set_option maxHeartbeats 4000000 in
set_option maxRecDepth 100000 in
theorem w_X7_join_47 {p : Program} {l : Launch} {e : Env} {s : State} {m : MethodId} {args : Array Value} {below : List Frame} {meth : Method} {c : Code} {E : cEv} {r : Int32} {σ' : St} {a3 : Nat} (ha3 : a3 < 8) {a4 : Nat} (ha4 : a4 < 4) (B : gBx p m meth c cX7_join 6 (some .int) s args RX7 (cG E)) {K47 : (Int32 × Int32 × Int32 × St → Option (Int32 × St))} (hK47 : ∀ a, K47 a = some (r, σ') → P_X7_join_47 p l e s m args below meth c E r σ' a3 a4 a) (a1 : Int32) (a2 : Int32) (a5 : Int32) (σ : St) (hf : b_X7_join_47 a3 a4 K47 a1 a2 a5 σ = some (r, σ')) (H : Heap) (locs : List Loc) (ls : Array Slot) (hP : gW (cG E) σ H) (hS : va_S (gA (cG E)) s.heap H locs) (hl : lv_has ls 6 [(0, .ref (cAd E 0)), (1, .int a1), (2, .int a2), (3, .ref (cAd E (46 + a3))), (4, .ref (cAd E (22 + a4))), (5, .int a5)]) : W p l e rm_X7_join s m args below meth c H locs 0 0 (gQi below args s (cG E) r σ') (F0 m 47 ls []) := by
  unfold b_X7_join_47 at hf
  obtain ⟨F, hr, hlk⟩ := id B
  have hx := F.1
  have hb := F.2.1
  have hml := F.2.2.1
  have hown := F.2.2.2.1
  have hts := F.2.2.2.2.1
  refine lv_iload hx hb dX7_join_47 (lv_at hl 5 rfl) ?_
  refine lv_aload_n hx hb dX7_join_49 rfl (lv_at hl 0 rfl) ?_
  refine gf_X7_42 F hP dX7_join_50 ?_
  refine c_alenC F hP dX7_join_53 ?_
  refine lv_icmp_ge (tgt := 80) hx hb dX7_join_54 (by decide) (fun h20 => ?_) (fun h20 => ?_)
  · rw [if_pos h20] at hf
    refine lv_aload hx hb dX7_join_80 (lv_at hl 4 rfl) ?_
    refine lv_iload_n hx hb dX7_join_82 rfl (lv_at hl 1 rfl) ?_
    obtain ⟨r22, σ21, h23, hf⟩ := cl_e hf
    refine kc_X7_151 F hP hS ha4 h23 ⟨Nat.le_of_ble_eq_true rfl, Nat.le_of_ble_eq_true rfl⟩ hl.1 (Nat.le_of_ble_eq_true rfl) ⟨Nat.zero_le _, Nat.zero_le _⟩ dX7_join_83 (fun H locs hP hS => ?_)
    refine lv_aload_n hx hb dX7_join_86 rfl (lv_at hl 3 rfl) ?_
    refine gf_X7_142 F hP ha3 dX7_join_87 ?_
    obtain ⟨x24, ex24, hf⟩ := vl_x hf
    rw [← ex24]
    refine lv_istore (lv' := [(5, .int x24), (0, .ref (cAd E 0)), (1, .int a1), (2, .int a2), (3, .ref (cAd E (46 + a3))), (4, .ref (cAd E (22 + a4)))]) hx hb dX7_join_90 hl (by decide) rfl (fun ls hl => ?_)
    refine lv_aload_n hx hb dX7_join_92 rfl (lv_at hl 4 rfl) ?_
    refine lv_iload_n hx hb dX7_join_93 rfl (lv_at hl 3 rfl) ?_
    obtain ⟨r26, σ25, h27, hf⟩ := cl_e hf
    refine kc_X7_154 F hP hS ha3 h27 ⟨Nat.le_of_ble_eq_true rfl, Nat.le_of_ble_eq_true rfl⟩ hl.1 (Nat.le_of_ble_eq_true rfl) ⟨Nat.zero_le _, Nat.zero_le _⟩ dX7_join_94 (fun H locs hP hS => ?_)
    refine lv_iload hx hb dX7_join_97 (lv_at hl 0 rfl) ?_
    exact g_iret B hP hS hf dX7_join_99
  · rw [if_neg h20] at hf
    refine lv_iload hx hb dX7_join_57 (lv_at hl 5 rfl) ?_
    refine lv_iload_n hx hb dX7_join_59 rfl (lv_at hl 2 rfl) ?_
    refine lv_icmp_eq (tgt := 74) hx hb dX7_join_60 (by decide) (fun h28 => ?_) (fun h28 => ?_)
    · rw [if_pos h28] at hf
      refine lv_iinc (v := a5 + (1 : Int32)) (lv' := [(5, .int (a5 + (1 : Int32))), (0, .ref (cAd E 0)), (1, .int a1), (2, .int a2), (3, .ref (cAd E (46 + a3))), (4, .ref (cAd E (22 + a4)))]) hx hb dX7_join_74 hl (k := 5) rfl rfl (by decide) rfl (fun ls hl => ?_)
      obtain ⟨x29, ex29, hf⟩ := vl_x hf
      rw [← ex29] at hl
      refine lv_goto (tgt := 47) hx hb dX7_join_77 (by decide) ?_
      exact hK47 _ hf _ _ _ hP hS (lv_sub hl [1, 2, 3, 4, 5, 0] rfl)
    · rw [if_neg h28] at hf
      refine lv_aload_n hx hb dX7_join_63 rfl (lv_at hl 0 rfl) ?_
      refine gf_X7_42 F hP dX7_join_64 ?_
      refine lv_iload hx hb dX7_join_67 (lv_at hl 5 rfl) ?_
      obtain ⟨h30, hf⟩ := gd_e hf
      refine c_aldC F hP h30 dX7_join_69 ?_
      have h32 := ix_lt h30
      obtain ⟨d31, ed31, hf⟩ := vl_x hf
      rw [← ed31] at h32 ⊢
      refine lv_iload_n hx hb dX7_join_70 rfl (lv_at hl 1 rfl) ?_
      obtain ⟨r34, σ33, h35, hf⟩ := cl_e hf
      refine kc_X7_148 F hP hS h32 h35 ⟨Nat.le_of_ble_eq_true rfl, Nat.le_of_ble_eq_true rfl⟩ hl.1 (Nat.le_of_ble_eq_true rfl) ⟨Nat.zero_le _, Nat.zero_le _⟩ dX7_join_71 (fun H locs hP hS => ?_)
      refine lv_iinc (v := a5 + (1 : Int32)) (lv' := [(5, .int (a5 + (1 : Int32))), (0, .ref (cAd E 0)), (1, .int a1), (2, .int a2), (3, .ref (cAd E (46 + a3))), (4, .ref (cAd E (22 + a4)))]) hx hb dX7_join_74 hl (k := 5) rfl rfl (by decide) rfl (fun ls hl => ?_)
      obtain ⟨x36, ex36, hf⟩ := vl_x hf
      rw [← ex36] at hl
      refine lv_goto (tgt := 47) hx hb dX7_join_77 (by decide) ?_
      exact hK47 _ hf _ _ _ hP hS (lv_sub hl [1, 2, 3, 4, 5, 0] rfl)
set_option maxHeartbeats 4000000 in
set_option maxRecDepth 100000 in
theorem w_X7_join_e {p : Program} {l : Launch} {e : Env} {s : State} {m : MethodId} {args : Array Value} {below : List Frame} {meth : Method} {c : Code} {E : cEv} {r : Int32} {σ' : St} (B : gBx p m meth c cX7_join 6 (some .int) s args RX7 (cG E)) (p1 : Int32) (p2 : Int32) (σ : St) (hf : f_X7_join p1 p2 σ = some (r, σ')) (H : Heap) (locs : List Loc) (ls : Array Slot) (hP : gW (cG E) σ H) (hS : va_S (gA (cG E)) s.heap H locs) (hl : lv_has ls 6 [(0, .ref (cAd E 0)), (1, .int p1), (2, .int p2)]) : W p l e rm_X7_join s m args below meth c H locs 0 0 (gQi below args s (cG E) r σ') (F0 m 0 ls []) := by
  unfold f_X7_join at hf
  obtain ⟨F, hr, hlk⟩ := id B
  have hx := F.1
  have hb := F.2.1
  have hml := F.2.2.1
  have hown := F.2.2.2.1
  have hts := F.2.2.2.2.1
  refine lv_aload_n hx hb dX7_join_0 rfl (lv_at hl 0 rfl) ?_
  refine lv_iload_n hx hb dX7_join_1 rfl (lv_at hl 1 rfl) ?_
  obtain ⟨r2, σ1, h3, hf⟩ := cl_e hf
  refine kc_X7_138 F hP hS h3 ⟨Nat.le_of_ble_eq_true rfl, Nat.le_of_ble_eq_true rfl⟩ hl.1 (Nat.le_of_ble_eq_true rfl) ⟨Nat.zero_le _, Nat.zero_le _⟩ dX7_join_2 (fun e4 H locs hP hS => ?_) (fun d5 e4 H locs hP hS => ?_)
  · subst e4
    replace hf := oc_n hf
    refine lv_astore_nN (lv' := [(3, .null), (0, .ref (cAd E 0)), (1, .int p1), (2, .int p2)]) hx hb dX7_join_5 rfl hl (by decide) rfl (fun ls hl => ?_)
    refine lv_aload_n hx hb dX7_join_6 rfl (lv_at hl 1 rfl) ?_
    refine lv_iload_n hx hb dX7_join_7 rfl (lv_at hl 3 rfl) ?_
    obtain ⟨r7, σ6, h8, hf⟩ := cl_e hf
    refine kc_X7_103 F hP hS h8 ⟨Nat.le_of_ble_eq_true rfl, Nat.le_of_ble_eq_true rfl⟩ hl.1 (Nat.le_of_ble_eq_true rfl) ⟨Nat.zero_le _, Nat.zero_le _⟩ dX7_join_8 (fun e9 H locs hP hS => ?_) (fun d10 e9 H locs hP hS => ?_)
    · subst e9
      replace hf := oc_n hf
      refine lv_astoreN (lv' := [(4, .null), (3, .null), (0, .ref (cAd E 0)), (1, .int p1), (2, .int p2)]) hx hb dX7_join_11 hl (by decide) rfl (fun ls hl => ?_)
      refine lv_aload_nN hx hb dX7_join_13 rfl (lv_at hl 1 rfl) ?_
      refine lv_ifnullN (tgt := 22) hx hb dX7_join_14 (by decide) ?_
      refine lv_iconst (v := (-1)) hx hb dX7_join_22 (by decide) ?_
      exact g_iret B hP hS hf dX7_join_23
    · subst e9
      replace hf := oc_s hf
      obtain ⟨h11, hf⟩ := gd_e hf
      refine lv_astore (lv' := [(4, .ref (cAd E (22 + d10))), (3, .null), (0, .ref (cAd E 0)), (1, .int p1), (2, .int p2)]) hx hb dX7_join_11 hl (by decide) rfl (fun ls hl => ?_)
      refine lv_aload_nN hx hb dX7_join_13 rfl (lv_at hl 1 rfl) ?_
      refine lv_ifnullN (tgt := 22) hx hb dX7_join_14 (by decide) ?_
      refine lv_iconst (v := (-1)) hx hb dX7_join_22 (by decide) ?_
      exact g_iret B hP hS hf dX7_join_23
  · subst e4
    replace hf := oc_s hf
    obtain ⟨h12, hf⟩ := gd_e hf
    refine lv_astore_n (lv' := [(3, .ref (cAd E (46 + d5))), (0, .ref (cAd E 0)), (1, .int p1), (2, .int p2)]) hx hb dX7_join_5 rfl hl (by decide) rfl (fun ls hl => ?_)
    refine lv_aload_n hx hb dX7_join_6 rfl (lv_at hl 1 rfl) ?_
    refine lv_iload_n hx hb dX7_join_7 rfl (lv_at hl 3 rfl) ?_
    obtain ⟨r14, σ13, h15, hf⟩ := cl_e hf
    refine kc_X7_103 F hP hS h15 ⟨Nat.le_of_ble_eq_true rfl, Nat.le_of_ble_eq_true rfl⟩ hl.1 (Nat.le_of_ble_eq_true rfl) ⟨Nat.zero_le _, Nat.zero_le _⟩ dX7_join_8 (fun e16 H locs hP hS => ?_) (fun d17 e16 H locs hP hS => ?_)
    · subst e16
      replace hf := oc_n hf
      refine lv_astoreN (lv' := [(4, .null), (3, .ref (cAd E (46 + d5))), (0, .ref (cAd E 0)), (1, .int p1), (2, .int p2)]) hx hb dX7_join_11 hl (by decide) rfl (fun ls hl => ?_)
      refine lv_aload_n hx hb dX7_join_13 rfl (lv_at hl 1 rfl) ?_
      refine lv_ifnull hx hb dX7_join_14 ?_
      refine lv_aloadN hx hb dX7_join_17 (lv_at hl 0 rfl) ?_
      refine lv_ifnonnullN hx hb dX7_join_19 ?_
      refine lv_iconst (v := (-1)) hx hb dX7_join_22 (by decide) ?_
      exact g_iret B hP hS hf dX7_join_23
    · subst e16
      replace hf := oc_s hf
      obtain ⟨h18, hf⟩ := gd_e hf
      refine lv_astore (lv' := [(4, .ref (cAd E (22 + d17))), (3, .ref (cAd E (46 + d5))), (0, .ref (cAd E 0)), (1, .int p1), (2, .int p2)]) hx hb dX7_join_11 hl (by decide) rfl (fun ls hl => ?_)
      refine lv_aload_n hx hb dX7_join_13 rfl (lv_at hl 1 rfl) ?_
      refine lv_ifnull hx hb dX7_join_14 ?_
      refine lv_aload hx hb dX7_join_17 (lv_at hl 0 rfl) ?_
      refine lv_ifnonnull (tgt := 24) hx hb dX7_join_19 (by decide) ?_
      refine lv_aload_n hx hb dX7_join_24 rfl (lv_at hl 1 rfl) ?_
      refine gf_X7_142 F hP h12 dX7_join_25 ?_
      refine lv_iload_n hx hb dX7_join_28 rfl (lv_at hl 4 rfl) ?_
      refine lv_icmp_ne (tgt := 44) hx hb dX7_join_29 (by decide) (fun h19 => ?_) (fun h19 => ?_)
      · rw [if_neg h19] at hf
        refine lv_iconst (v := 0) hx hb dX7_join_44 (by decide) ?_
        refine lv_istore (lv' := [(5, .int (0 : Int32)), (4, .ref (cAd E (22 + d17))), (3, .ref (cAd E (46 + d5))), (0, .ref (cAd E 0)), (1, .int p1), (2, .int p2)]) hx hb dX7_join_45 hl (by decide) rfl (fun ls hl => ?_)
        exact lp_w (P := P_X7_join_47 p l e s m args below meth c E r σ' d5 d17) (fun K hK a ha => w_X7_join_47 h12 h18 B hK a.1 a.2.1 a.2.2.1 a.2.2.2 ha) FU _ hf _ _ _ hP hS (lv_sub hl [3, 4, 5, 2, 1, 0] rfl)
      · rw [if_pos h19] at hf
        refine lv_aload hx hb dX7_join_32 (lv_at hl 0 rfl) ?_
        refine lv_iload_n hx hb dX7_join_34 rfl (lv_at hl 3 rfl) ?_
        obtain ⟨r38, σ37, h39, hf⟩ := cl_e hf
        refine kc_X7_145 F hP hS h18 h39 ⟨Nat.le_of_ble_eq_true rfl, Nat.le_of_ble_eq_true rfl⟩ hl.1 (Nat.le_of_ble_eq_true rfl) ⟨Nat.zero_le _, Nat.zero_le _⟩ dX7_join_35 (fun H locs hP hS => ?_)
        refine lv_if_eq (tgt := 44) hx hb dX7_join_38 (by decide) (fun h40 => ?_) (fun h40 => ?_)
        · rw [if_pos h40] at hf
          refine lv_iconst (v := 0) hx hb dX7_join_44 (by decide) ?_
          refine lv_istore (lv' := [(5, .int (0 : Int32)), (4, .ref (cAd E (22 + d17))), (3, .ref (cAd E (46 + d5))), (0, .ref (cAd E 0)), (1, .int p1), (2, .int p2)]) hx hb dX7_join_45 hl (by decide) rfl (fun ls hl => ?_)
          exact lp_w (P := P_X7_join_47 p l e s m args below meth c E r σ' d5 d17) (fun K hK a ha => w_X7_join_47 h12 h18 B hK a.1 a.2.1 a.2.2.1 a.2.2.2 ha) FU _ hf _ _ _ hP hS (lv_sub hl [3, 4, 5, 2, 1, 0] rfl)
        · rw [if_neg h40] at hf
          refine lv_bipush (v := (-2)) hx hb dX7_join_41 (by decide) ?_
          exact g_iret B hP hS hf dX7_join_43
theorem c_X7_join (l : Launch) {E : cEv} (hI : gIj (cG E)) {p1 : Int32} {p2 : Int32} {σ σ' : St} {r : Int32} (hf : f_X7_join p1 p2 σ = some (r, σ')) : gMi l yX7_join cX7_join 6 .int rm_X7_join [.ref (cAd E 0), .int p1, .int p2] (cG E) σ r σ' :=
  g_entry (by decide) (Nat.le_of_ble_eq_true rfl) hI (fun p e s m args below meth c B hP hS ls hl => w_X7_join_e B _ _ σ hf _ _ ls hP hS hl)
/-! PromisedSlots.drop(I)I -/
def b_X7_drop_14 (K14 : (Int32 × Int32 × Int32 × St → Option (Int32 × St))) (a1 : Int32) (a2 : Int32) (a3 : Int32) (σ : St) : Option (Int32 × St) :=
  if (4 : Int32) ≤ a3 then
    some (a2, σ)
  else
    gd (ix a3 4) <|
    vl (nt a3) fun d9 =>
    cl (f_X1_lists d9 a1 σ) fun r12 σ11 =>
    if r12 = 0 then
      gd (ix a3 4) <|
      vl (nt a3) fun d16 =>
      cl (f_X1_forget d16 a1 σ11) fun r19 σ18 =>
      vl (a3 + (1 : Int32)) fun x21 =>
      K14 (a1, a2, x21, σ18)
    else
      vl (a2 + (1 : Int32)) fun x22 =>
      gd (ix a3 4) <|
      vl (nt a3) fun d24 =>
      cl (f_X1_forget d24 a1 σ11) fun r27 σ26 =>
      vl (a3 + (1 : Int32)) fun x29 =>
      K14 (a1, x22, x29, σ26)
def f_X7_drop (p1 : Int32) (σ : St) : Option (Int32 × St) :=
  cl (f_X7_deviceAt p1 σ) fun r2 σ1 =>
  oc r2 (
    some ((-1 : Int32), σ1)) (fun d5 => gd (d5 < 8) <|
    lp (fun K a => b_X7_drop_14 K a.1 a.2.1 a.2.2.1 a.2.2.2) FU (p1, (0 : Int32), (0 : Int32), σ1))
abbrev rm_X7_drop : Room := { frames := 4, cells := 0, slots := 0, locals := 89 }
def P_X7_drop_14 (p : Program) (l : Launch) (e : Env) (s : State) (m : MethodId) (args : Array Value) (below : List Frame) (meth : Method) (c : Code) (E : cEv) (r : Int32) (σ' : St) (a : Int32 × Int32 × Int32 × St) : Prop := ∀ (H : Heap) (locs : List Loc) (ls : Array Slot), gW (cG E) a.2.2.2 H → va_S (gA (cG E)) s.heap H locs → lv_has ls 4 [(0, .ref (cAd E 0)), (1, .int a.1), (2, .int a.2.1), (3, .int a.2.2.1)] → W p l e rm_X7_drop s m args below meth c H locs 0 0 (gQi below args s (cG E) r σ') (F0 m 14 ls [])
set_option maxHeartbeats 4000000 in
set_option maxRecDepth 100000 in
theorem w_X7_drop_14 {p : Program} {l : Launch} {e : Env} {s : State} {m : MethodId} {args : Array Value} {below : List Frame} {meth : Method} {c : Code} {E : cEv} {r : Int32} {σ' : St} (B : gBx p m meth c cX7_drop 4 (some .int) s args RX7 (cG E)) {K14 : (Int32 × Int32 × Int32 × St → Option (Int32 × St))} (hK14 : ∀ a, K14 a = some (r, σ') → P_X7_drop_14 p l e s m args below meth c E r σ' a) (a1 : Int32) (a2 : Int32) (a3 : Int32) (σ : St) (hf : b_X7_drop_14 K14 a1 a2 a3 σ = some (r, σ')) (H : Heap) (locs : List Loc) (ls : Array Slot) (hP : gW (cG E) σ H) (hS : va_S (gA (cG E)) s.heap H locs) (hl : lv_has ls 4 [(0, .ref (cAd E 0)), (1, .int a1), (2, .int a2), (3, .int a3)]) : W p l e rm_X7_drop s m args below meth c H locs 0 0 (gQi below args s (cG E) r σ') (F0 m 14 ls []) := by
  unfold b_X7_drop_14 at hf
  obtain ⟨F, hr, hlk⟩ := id B
  have hx := F.1
  have hb := F.2.1
  have hml := F.2.2.1
  have hown := F.2.2.2.1
  have hts := F.2.2.2.2.1
  refine lv_iload_n hx hb dX7_drop_14 rfl (lv_at hl 3 rfl) ?_
  refine lv_aload_n hx hb dX7_drop_15 rfl (lv_at hl 0 rfl) ?_
  refine gf_X7_42 F hP dX7_drop_16 ?_
  refine c_alenC F hP dX7_drop_19 ?_
  refine lv_icmp_ge (tgt := 55) hx hb dX7_drop_20 (by decide) (fun h7 => ?_) (fun h7 => ?_)
  · rw [if_pos h7] at hf
    refine lv_iload_n hx hb dX7_drop_55 rfl (lv_at hl 2 rfl) ?_
    exact g_iret B hP hS hf dX7_drop_56
  · rw [if_neg h7] at hf
    refine lv_aload_n hx hb dX7_drop_23 rfl (lv_at hl 0 rfl) ?_
    refine gf_X7_42 F hP dX7_drop_24 ?_
    refine lv_iload_n hx hb dX7_drop_27 rfl (lv_at hl 3 rfl) ?_
    obtain ⟨h8, hf⟩ := gd_e hf
    refine c_aldC F hP h8 dX7_drop_28 ?_
    have h10 := ix_lt h8
    obtain ⟨d9, ed9, hf⟩ := vl_x hf
    rw [← ed9] at h10 ⊢
    refine lv_iload_n hx hb dX7_drop_29 rfl (lv_at hl 1 rfl) ?_
    obtain ⟨r12, σ11, h13, hf⟩ := cl_e hf
    refine kc_X7_145 F hP hS h10 h13 ⟨Nat.le_of_ble_eq_true rfl, Nat.le_of_ble_eq_true rfl⟩ hl.1 (Nat.le_of_ble_eq_true rfl) ⟨Nat.zero_le _, Nat.zero_le _⟩ dX7_drop_30 (fun H locs hP hS => ?_)
    refine lv_if_eq (tgt := 39) hx hb dX7_drop_33 (by decide) (fun h14 => ?_) (fun h14 => ?_)
    · rw [if_pos h14] at hf
      refine lv_aload_n hx hb dX7_drop_39 rfl (lv_at hl 0 rfl) ?_
      refine gf_X7_42 F hP dX7_drop_40 ?_
      refine lv_iload_n hx hb dX7_drop_43 rfl (lv_at hl 3 rfl) ?_
      obtain ⟨h15, hf⟩ := gd_e hf
      refine c_aldC F hP h15 dX7_drop_44 ?_
      have h17 := ix_lt h15
      obtain ⟨d16, ed16, hf⟩ := vl_x hf
      rw [← ed16] at h17 ⊢
      refine lv_iload_n hx hb dX7_drop_45 rfl (lv_at hl 1 rfl) ?_
      obtain ⟨r19, σ18, h20, hf⟩ := cl_e hf
      refine kc_X7_148 F hP hS h17 h20 ⟨Nat.le_of_ble_eq_true rfl, Nat.le_of_ble_eq_true rfl⟩ hl.1 (Nat.le_of_ble_eq_true rfl) ⟨Nat.zero_le _, Nat.zero_le _⟩ dX7_drop_46 (fun H locs hP hS => ?_)
      refine lv_iinc (v := a3 + (1 : Int32)) (lv' := [(3, .int (a3 + (1 : Int32))), (0, .ref (cAd E 0)), (1, .int a1), (2, .int a2)]) hx hb dX7_drop_49 hl (k := 3) rfl rfl (by decide) rfl (fun ls hl => ?_)
      obtain ⟨x21, ex21, hf⟩ := vl_x hf
      rw [← ex21] at hl
      refine lv_goto (tgt := 14) hx hb dX7_drop_52 (by decide) ?_
      exact hK14 _ hf _ _ _ hP hS (lv_sub hl [1, 2, 3, 0] rfl)
    · rw [if_neg h14] at hf
      refine lv_iinc (v := a2 + (1 : Int32)) (lv' := [(2, .int (a2 + (1 : Int32))), (0, .ref (cAd E 0)), (1, .int a1), (3, .int a3)]) hx hb dX7_drop_36 hl (k := 2) rfl rfl (by decide) rfl (fun ls hl => ?_)
      obtain ⟨x22, ex22, hf⟩ := vl_x hf
      rw [← ex22] at hl
      refine lv_aload_n hx hb dX7_drop_39 rfl (lv_at hl 1 rfl) ?_
      refine gf_X7_42 F hP dX7_drop_40 ?_
      refine lv_iload_n hx hb dX7_drop_43 rfl (lv_at hl 3 rfl) ?_
      obtain ⟨h23, hf⟩ := gd_e hf
      refine c_aldC F hP h23 dX7_drop_44 ?_
      have h25 := ix_lt h23
      obtain ⟨d24, ed24, hf⟩ := vl_x hf
      rw [← ed24] at h25 ⊢
      refine lv_iload_n hx hb dX7_drop_45 rfl (lv_at hl 2 rfl) ?_
      obtain ⟨r27, σ26, h28, hf⟩ := cl_e hf
      refine kc_X7_148 F hP hS h25 h28 ⟨Nat.le_of_ble_eq_true rfl, Nat.le_of_ble_eq_true rfl⟩ hl.1 (Nat.le_of_ble_eq_true rfl) ⟨Nat.zero_le _, Nat.zero_le _⟩ dX7_drop_46 (fun H locs hP hS => ?_)
      refine lv_iinc (v := a3 + (1 : Int32)) (lv' := [(3, .int (a3 + (1 : Int32))), (2, .int x22), (0, .ref (cAd E 0)), (1, .int a1)]) hx hb dX7_drop_49 hl (k := 3) rfl rfl (by decide) rfl (fun ls hl => ?_)
      obtain ⟨x29, ex29, hf⟩ := vl_x hf
      rw [← ex29] at hl
      refine lv_goto (tgt := 14) hx hb dX7_drop_52 (by decide) ?_
      exact hK14 _ hf _ _ _ hP hS (lv_sub hl [2, 3, 1, 0] rfl)
set_option maxHeartbeats 4000000 in
set_option maxRecDepth 100000 in
theorem w_X7_drop_e {p : Program} {l : Launch} {e : Env} {s : State} {m : MethodId} {args : Array Value} {below : List Frame} {meth : Method} {c : Code} {E : cEv} {r : Int32} {σ' : St} (B : gBx p m meth c cX7_drop 4 (some .int) s args RX7 (cG E)) (p1 : Int32) (σ : St) (hf : f_X7_drop p1 σ = some (r, σ')) (H : Heap) (locs : List Loc) (ls : Array Slot) (hP : gW (cG E) σ H) (hS : va_S (gA (cG E)) s.heap H locs) (hl : lv_has ls 4 [(0, .ref (cAd E 0)), (1, .int p1)]) : W p l e rm_X7_drop s m args below meth c H locs 0 0 (gQi below args s (cG E) r σ') (F0 m 0 ls []) := by
  unfold f_X7_drop at hf
  obtain ⟨F, hr, hlk⟩ := id B
  have hx := F.1
  have hb := F.2.1
  have hml := F.2.2.1
  have hown := F.2.2.2.1
  have hts := F.2.2.2.2.1
  refine lv_aload_n hx hb dX7_drop_0 rfl (lv_at hl 0 rfl) ?_
  refine lv_iload_n hx hb dX7_drop_1 rfl (lv_at hl 1 rfl) ?_
  obtain ⟨r2, σ1, h3, hf⟩ := cl_e hf
  refine kc_X7_138 F hP hS h3 ⟨Nat.le_of_ble_eq_true rfl, Nat.le_of_ble_eq_true rfl⟩ hl.1 (Nat.le_of_ble_eq_true rfl) ⟨Nat.zero_le _, Nat.zero_le _⟩ dX7_drop_2 (fun e4 H locs hP hS => ?_) (fun d5 e4 H locs hP hS => ?_)
  · subst e4
    replace hf := oc_n hf
    refine lv_ifnonnullN hx hb dX7_drop_5 ?_
    refine lv_iconst (v := (-1)) hx hb dX7_drop_8 (by decide) ?_
    exact g_iret B hP hS hf dX7_drop_9
  · subst e4
    replace hf := oc_s hf
    obtain ⟨h6, hf⟩ := gd_e hf
    refine lv_ifnonnull (tgt := 10) hx hb dX7_drop_5 (by decide) ?_
    refine lv_iconst (v := 0) hx hb dX7_drop_10 (by decide) ?_
    refine lv_istore_n (lv' := [(2, .int (0 : Int32)), (0, .ref (cAd E 0)), (1, .int p1)]) hx hb dX7_drop_11 rfl hl (by decide) rfl (fun ls hl => ?_)
    refine lv_iconst (v := 0) hx hb dX7_drop_12 (by decide) ?_
    refine lv_istore_n (lv' := [(3, .int (0 : Int32)), (2, .int (0 : Int32)), (0, .ref (cAd E 0)), (1, .int p1)]) hx hb dX7_drop_13 rfl hl (by decide) rfl (fun ls hl => ?_)
    exact lp_w (P := P_X7_drop_14 p l e s m args below meth c E r σ') (fun K hK a ha => w_X7_drop_14 B hK a.1 a.2.1 a.2.2.1 a.2.2.2 ha) FU _ hf _ _ _ hP hS (lv_sub hl [2, 3, 1, 0] rfl)
theorem c_X7_drop (l : Launch) {E : cEv} (hI : gIj (cG E)) {p1 : Int32} {σ σ' : St} {r : Int32} (hf : f_X7_drop p1 σ = some (r, σ')) : gMi l yX7_drop cX7_drop 4 .int rm_X7_drop [.ref (cAd E 0), .int p1] (cG E) σ r σ' :=
  g_entry (by decide) (Nat.le_of_ble_eq_true rfl) hI (fun p e s m args below meth c B hP hS ls hl => w_X7_drop_e B _ σ hf _ _ ls hP hS hl)
section SC
variable {p : Program} {l : Launch} {e : Env} {R : Room} {s : State} {m : MethodId} {args : Array Value} {below : List Frame} {meth : Method} {c : Code} {H : Heap} {locs : List Loc} {cells slots : Nat} {Q : State → Prop}
variable {cc : ByteArray} {pc nL : Nat} {ls : Array Slot} {rest : List Value} {E : cEv} {σ : St}
theorem gf_X7_160 (F : gFx p m c cc nL s args RX7 (cG E)) (hP : gW (cG E) σ H) {o : Nat} (ho : o < 8) (hdg : decode cc pc = .ok (.getfield 160, 3)) (kk : W p l e R s m args below meth c H locs cells slots Q (F0 m (pc + 3) ls (.int (σ (46 + o) 5) :: rest))) : W p l e R s m args below meth c H locs cells slots Q (F0 m pc ls (.ref (cAd E (46 + o)) :: rest)) :=
  g_getN F hP (k := (46 + o)) (cin (by omega)) (ce_2 E _ ho) rfl inX2 5 (by decide) tw_188 rfl rfl hdg kk
theorem pf_X7_160 (F : gFx p m c cc nL s args RX7 (cG E)) (hP : gW (cG E) σ H) (hS : va_S (gA (cG E)) s.heap H locs) {o : Nat} (ho : o < 8) {x : Int32} (hdg : decode cc pc = .ok (.putfield 160, 3)) (kk : ∀ (H1 : Heap) (locs1 : List Loc), gW (cG E) (up2 σ (46 + o) 5 x) H1 → va_S (gA (cG E)) s.heap H1 locs1 → W p l e R s m args below meth c H1 locs1 cells slots Q (F0 m (pc + 3) ls rest)) : W p l e R s m args below meth c H locs cells slots Q (F0 m pc ls (.int x :: .ref (cAd E (46 + o)) :: rest)) :=
  g_putN F hP hS (k := (46 + o)) (cin (by omega)) (ce_2 E _ ho) rfl inX2 tyX2 tyX2_ok nmX2 5 (by decide) tw_188 rfl rfl rfl rfl (Nat.le_of_ble_eq_true rfl) (x := x) (jj := 5) (ce_2 E _ ho) hdg kk
theorem pf_X7_157 (F : gFx p m c cc nL s args RX7 (cG E)) (hP : gW (cG E) σ H) (hS : va_S (gA (cG E)) s.heap H locs) {o : Nat} (ho : o < 8) {x : Int32} (hdg : decode cc pc = .ok (.putfield 157, 3)) (kk : ∀ (H1 : Heap) (locs1 : List Loc), gW (cG E) (up2 σ (46 + o) 4 x) H1 → va_S (gA (cG E)) s.heap H1 locs1 → W p l e R s m args below meth c H1 locs1 cells slots Q (F0 m (pc + 3) ls rest)) : W p l e R s m args below meth c H locs cells slots Q (F0 m pc ls (.int x :: .ref (cAd E (46 + o)) :: rest)) :=
  g_putN F hP hS (k := (46 + o)) (cin (by omega)) (ce_2 E _ ho) rfl inX2 tyX2 tyX2_ok nmX2 4 (by decide) tw_186 rfl rfl rfl rfl (Nat.le_of_ble_eq_true rfl) (x := x) (jj := 4) (ce_2 E _ ho) hdg kk
theorem gf_X7_157 (F : gFx p m c cc nL s args RX7 (cG E)) (hP : gW (cG E) σ H) {o : Nat} (ho : o < 8) (hdg : decode cc pc = .ok (.getfield 157, 3)) (kk : W p l e R s m args below meth c H locs cells slots Q (F0 m (pc + 3) ls (.int (σ (46 + o) 4) :: rest))) : W p l e R s m args below meth c H locs cells slots Q (F0 m pc ls (.ref (cAd E (46 + o)) :: rest)) :=
  g_getN F hP (k := (46 + o)) (cin (by omega)) (ce_2 E _ ho) rfl inX2 4 (by decide) tw_186 rfl rfl hdg kk
end SC
/-! PromisedSlots.load(III)I -/
def f_X7_load_51 (a4 : Nat) (a2 : Int32) (s0 : Int32) (s1 : Int32) (σ : St) : Option (Int32 × St) :=
  vl (s1 + s0) fun x12 =>
  if x12 ≤ (99 : Int32) then
    if a2 = 0 then
      vl (up2 σ (46 + a4) 4 x12) fun σ16 =>
      some (x12, σ16)
    else
      vl (up2 σ (46 + a4) 5 x12) fun σ15 =>
      some (x12, σ15)
  else
    some ((-3 : Int32), σ)
def f_X7_load (p1 : Int32) (p2 : Int32) (p3 : Int32) (σ : St) : Option (Int32 × St) :=
  cl (f_X7_deviceAt p1 σ) fun r2 σ1 =>
  oc r2 (
    some ((-1 : Int32), σ1)) (fun d5 => gd (d5 < 8) <|
    if p2 < 0 then
      some ((-1 : Int32), σ1)
    else
      if (1 : Int32) < p2 then
        some ((-1 : Int32), σ1)
      else
        if p3 < 0 then
          some ((-1 : Int32), σ1)
        else
          if p3 ≤ (99 : Int32) then
            if p2 = 0 then
              f_X7_load_51 d5 p2 (σ1 (46 + d5) 4) p3 σ1
            else
              f_X7_load_51 d5 p2 (σ1 (46 + d5) 5) p3 σ1
          else
            some ((-1 : Int32), σ1))
abbrev rm_X7_load : Room := { frames := 1, cells := 0, slots := 0, locals := 21 }
set_option maxHeartbeats 4000000 in
set_option maxRecDepth 100000 in
theorem w_X7_load_51 {p : Program} {l : Launch} {e : Env} {s : State} {m : MethodId} {args : Array Value} {below : List Frame} {meth : Method} {c : Code} {E : cEv} {r : Int32} {σ' : St} {a4 : Nat} (ha4 : a4 < 8) (B : gBx p m meth c cX7_load 6 (some .int) s args RX7 (cG E)) (a2 : Int32) (s0 : Int32) (s1 : Int32) (σ : St) (hf : f_X7_load_51 a4 a2 s0 s1 σ = some (r, σ')) (H : Heap) (locs : List Loc) (ls : Array Slot) (hP : gW (cG E) σ H) (hS : va_S (gA (cG E)) s.heap H locs) (hl : lv_has ls 6 [(2, .int a2), (4, .ref (cAd E (46 + a4)))]) : W p l e rm_X7_load s m args below meth c H locs 0 0 (gQi below args s (cG E) r σ') (F0 m 51 ls [.int s0, .int s1]) := by
  unfold f_X7_load_51 at hf
  obtain ⟨F, hr, hlk⟩ := id B
  have hx := F.1
  have hb := F.2.1
  have hml := F.2.2.1
  have hown := F.2.2.2.1
  have hts := F.2.2.2.2.1
  refine lv_iadd hx hb dX7_load_51 ?_
  obtain ⟨x12, ex12, hf⟩ := vl_x hf
  rw [← ex12]
  refine lv_istore (lv' := [(5, .int x12), (2, .int a2), (4, .ref (cAd E (46 + a4)))]) hx hb dX7_load_52 hl (by decide) rfl (fun ls hl => ?_)
  refine lv_iload hx hb dX7_load_54 (lv_at hl 0 rfl) ?_
  refine lv_bipush (v := (99)) hx hb dX7_load_56 (by decide) ?_
  refine lv_icmp_le (tgt := 64) hx hb dX7_load_58 (by decide) (fun h13 => ?_) (fun h13 => ?_)
  · rw [if_pos h13] at hf
    refine lv_iload_n hx hb dX7_load_64 rfl (lv_at hl 1 rfl) ?_
    refine lv_if_ne (tgt := 78) hx hb dX7_load_65 (by decide) (fun h14 => ?_) (fun h14 => ?_)
    · rw [if_neg h14] at hf
      refine lv_aload hx hb dX7_load_78 (lv_at hl 2 rfl) ?_
      refine lv_iload hx hb dX7_load_80 (lv_at hl 0 rfl) ?_
      refine pf_X7_160 F hP hS ha4 dX7_load_82 (fun H locs hP hS => ?_)
      obtain ⟨σ15, eσ15, hf⟩ := vl_x hf
      rw [← eσ15] at hP
      refine lv_iload hx hb dX7_load_85 (lv_at hl 0 rfl) ?_
      exact g_iret B hP hS hf dX7_load_87
    · rw [if_pos h14] at hf
      refine lv_aload hx hb dX7_load_68 (lv_at hl 2 rfl) ?_
      refine lv_iload hx hb dX7_load_70 (lv_at hl 0 rfl) ?_
      refine pf_X7_157 F hP hS ha4 dX7_load_72 (fun H locs hP hS => ?_)
      obtain ⟨σ16, eσ16, hf⟩ := vl_x hf
      rw [← eσ16] at hP
      refine lv_goto (tgt := 85) hx hb dX7_load_75 (by decide) ?_
      refine lv_iload hx hb dX7_load_85 (lv_at hl 0 rfl) ?_
      exact g_iret B hP hS hf dX7_load_87
  · rw [if_neg h13] at hf
    refine lv_bipush (v := (-3)) hx hb dX7_load_61 (by decide) ?_
    exact g_iret B hP hS hf dX7_load_63
set_option maxHeartbeats 4000000 in
set_option maxRecDepth 100000 in
theorem w_X7_load_e {p : Program} {l : Launch} {e : Env} {s : State} {m : MethodId} {args : Array Value} {below : List Frame} {meth : Method} {c : Code} {E : cEv} {r : Int32} {σ' : St} (B : gBx p m meth c cX7_load 6 (some .int) s args RX7 (cG E)) (p1 : Int32) (p2 : Int32) (p3 : Int32) (σ : St) (hf : f_X7_load p1 p2 p3 σ = some (r, σ')) (H : Heap) (locs : List Loc) (ls : Array Slot) (hP : gW (cG E) σ H) (hS : va_S (gA (cG E)) s.heap H locs) (hl : lv_has ls 6 [(0, .ref (cAd E 0)), (1, .int p1), (2, .int p2), (3, .int p3)]) : W p l e rm_X7_load s m args below meth c H locs 0 0 (gQi below args s (cG E) r σ') (F0 m 0 ls []) := by
  unfold f_X7_load at hf
  obtain ⟨F, hr, hlk⟩ := id B
  have hx := F.1
  have hb := F.2.1
  have hml := F.2.2.1
  have hown := F.2.2.2.1
  have hts := F.2.2.2.2.1
  refine lv_aload_n hx hb dX7_load_0 rfl (lv_at hl 0 rfl) ?_
  refine lv_iload_n hx hb dX7_load_1 rfl (lv_at hl 1 rfl) ?_
  obtain ⟨r2, σ1, h3, hf⟩ := cl_e hf
  refine kc_X7_138 F hP hS h3 ⟨Nat.le_of_ble_eq_true rfl, Nat.le_of_ble_eq_true rfl⟩ hl.1 (Nat.le_of_ble_eq_true rfl) ⟨Nat.zero_le _, Nat.zero_le _⟩ dX7_load_2 (fun e4 H locs hP hS => ?_) (fun d5 e4 H locs hP hS => ?_)
  · subst e4
    replace hf := oc_n hf
    refine lv_astoreN (lv' := [(4, .null), (0, .ref (cAd E 0)), (1, .int p1), (2, .int p2), (3, .int p3)]) hx hb dX7_load_5 hl (by decide) rfl (fun ls hl => ?_)
    refine lv_aloadN hx hb dX7_load_7 (lv_at hl 0 rfl) ?_
    refine lv_ifnullN (tgt := 31) hx hb dX7_load_9 (by decide) ?_
    refine lv_iconst (v := (-1)) hx hb dX7_load_31 (by decide) ?_
    exact g_iret B hP hS hf dX7_load_32
  · subst e4
    replace hf := oc_s hf
    obtain ⟨h6, hf⟩ := gd_e hf
    refine lv_astore (lv' := [(4, .ref (cAd E (46 + d5))), (0, .ref (cAd E 0)), (1, .int p1), (2, .int p2), (3, .int p3)]) hx hb dX7_load_5 hl (by decide) rfl (fun ls hl => ?_)
    refine lv_aload hx hb dX7_load_7 (lv_at hl 0 rfl) ?_
    refine lv_ifnull hx hb dX7_load_9 ?_
    refine lv_iload_n hx hb dX7_load_12 rfl (lv_at hl 3 rfl) ?_
    refine lv_if_lt (tgt := 31) hx hb dX7_load_13 (by decide) (fun h7 => ?_) (fun h7 => ?_)
    · rw [if_pos h7] at hf
      refine lv_iconst (v := (-1)) hx hb dX7_load_31 (by decide) ?_
      exact g_iret B hP hS hf dX7_load_32
    · rw [if_neg h7] at hf
      refine lv_iload_n hx hb dX7_load_16 rfl (lv_at hl 3 rfl) ?_
      refine lv_iconst (v := 1) hx hb dX7_load_17 (by decide) ?_
      refine lv_icmp_gt (tgt := 31) hx hb dX7_load_18 (by decide) (fun h8 => ?_) (fun h8 => ?_)
      · rw [if_pos h8] at hf
        refine lv_iconst (v := (-1)) hx hb dX7_load_31 (by decide) ?_
        exact g_iret B hP hS hf dX7_load_32
      · rw [if_neg h8] at hf
        refine lv_iload_n hx hb dX7_load_21 rfl (lv_at hl 4 rfl) ?_
        refine lv_if_lt (tgt := 31) hx hb dX7_load_22 (by decide) (fun h9 => ?_) (fun h9 => ?_)
        · rw [if_pos h9] at hf
          refine lv_iconst (v := (-1)) hx hb dX7_load_31 (by decide) ?_
          exact g_iret B hP hS hf dX7_load_32
        · rw [if_neg h9] at hf
          refine lv_iload_n hx hb dX7_load_25 rfl (lv_at hl 4 rfl) ?_
          refine lv_bipush (v := (99)) hx hb dX7_load_26 (by decide) ?_
          refine lv_icmp_le (tgt := 33) hx hb dX7_load_28 (by decide) (fun h10 => ?_) (fun h10 => ?_)
          · rw [if_pos h10] at hf
            refine lv_iload_n hx hb dX7_load_33 rfl (lv_at hl 4 rfl) ?_
            refine lv_iload_n hx hb dX7_load_34 rfl (lv_at hl 3 rfl) ?_
            refine lv_if_ne (tgt := 46) hx hb dX7_load_35 (by decide) (fun h11 => ?_) (fun h11 => ?_)
            · rw [if_neg h11] at hf
              refine lv_aload hx hb dX7_load_46 (lv_at hl 0 rfl) ?_
              refine gf_X7_160 F hP h6 dX7_load_48 ?_
              exact w_X7_load_51 h6 B _ _ _ σ1 hf _ _ _ hP hS (lv_sub hl [3, 0] rfl)
            · rw [if_pos h11] at hf
              refine lv_aload hx hb dX7_load_38 (lv_at hl 0 rfl) ?_
              refine gf_X7_157 F hP h6 dX7_load_40 ?_
              refine lv_goto (tgt := 51) hx hb dX7_load_43 (by decide) ?_
              exact w_X7_load_51 h6 B _ _ _ σ1 hf _ _ _ hP hS (lv_sub hl [3, 0] rfl)
          · rw [if_neg h10] at hf
            refine lv_iconst (v := (-1)) hx hb dX7_load_31 (by decide) ?_
            exact g_iret B hP hS hf dX7_load_32
theorem c_X7_load (l : Launch) {E : cEv} (hI : gIj (cG E)) {p1 : Int32} {p2 : Int32} {p3 : Int32} {σ σ' : St} {r : Int32} (hf : f_X7_load p1 p2 p3 σ = some (r, σ')) : gMi l yX7_load cX7_load 6 .int rm_X7_load [.ref (cAd E 0), .int p1, .int p2, .int p3] (cG E) σ r σ' :=
  g_entry (by decide) (Nat.le_of_ble_eq_true rfl) hI (fun p e s m args below meth c B hP hS ls hl => w_X7_load_e B _ _ _ σ hf _ _ ls hP hS hl)
section SC
variable {p : Program} {l : Launch} {e : Env} {R : Room} {s : State} {m : MethodId} {args : Array Value} {below : List Frame} {meth : Method} {c : Code} {H : Heap} {locs : List Loc} {cells slots : Nat} {Q : State → Prop}
variable {cc : ByteArray} {pc nL : Nat} {ls : Array Slot} {rest : List Value} {E : cEv} {σ : St}
theorem gf_X7_163 (F : gFx p m c cc nL s args RX7 (cG E)) (hP : gW (cG E) σ H) {o : Nat} (ho : o < 8) (hdg : decode cc pc = .ok (.getfield 163, 3)) (kk : W p l e R s m args below meth c H locs cells slots Q (F0 m (pc + 3) ls (.int (σ (46 + o) 9) :: rest))) : W p l e R s m args below meth c H locs cells slots Q (F0 m pc ls (.ref (cAd E (46 + o)) :: rest)) :=
  g_getN F hP (k := (46 + o)) (cin (by omega)) (ce_2 E _ ho) rfl inX2 9 (by decide) tw_193 rfl rfl hdg kk
theorem pf_X7_163 (F : gFx p m c cc nL s args RX7 (cG E)) (hP : gW (cG E) σ H) (hS : va_S (gA (cG E)) s.heap H locs) {o : Nat} (ho : o < 8) {x : Int32} (hdg : decode cc pc = .ok (.putfield 163, 3)) (kk : ∀ (H1 : Heap) (locs1 : List Loc), gW (cG E) (up2 σ (46 + o) 9 x) H1 → va_S (gA (cG E)) s.heap H1 locs1 → W p l e R s m args below meth c H1 locs1 cells slots Q (F0 m (pc + 3) ls rest)) : W p l e R s m args below meth c H locs cells slots Q (F0 m pc ls (.int x :: .ref (cAd E (46 + o)) :: rest)) :=
  g_putN F hP hS (k := (46 + o)) (cin (by omega)) (ce_2 E _ ho) rfl inX2 tyX2 tyX2_ok nmX2 9 (by decide) tw_193 rfl rfl rfl rfl (Nat.le_of_ble_eq_true rfl) (x := x) (jj := 9) (ce_2 E _ ho) hdg kk
end SC
/-! PromisedSlots.deafen(II)I -/
def f_X7_deafen (p1 : Int32) (p2 : Int32) (σ : St) : Option (Int32 × St) :=
  cl (f_X7_deviceAt p1 σ) fun r2 σ1 =>
  oc r2 (
    some ((-1 : Int32), σ1)) (fun d5 => gd (d5 < 8) <|
    if p2 < 0 then
      some ((-1 : Int32), σ1)
    else
      if p2 ≤ (9 : Int32) then
        vl (σ1 (46 + d5) 9) fun x9 =>
        vl (up2 σ1 (46 + d5) 9 p2) fun σ10 =>
        some (x9, σ10)
      else
        some ((-1 : Int32), σ1))
abbrev rm_X7_deafen : Room := { frames := 1, cells := 0, slots := 0, locals := 21 }
set_option maxHeartbeats 4000000 in
set_option maxRecDepth 100000 in
theorem w_X7_deafen_e {p : Program} {l : Launch} {e : Env} {s : State} {m : MethodId} {args : Array Value} {below : List Frame} {meth : Method} {c : Code} {E : cEv} {r : Int32} {σ' : St} (B : gBx p m meth c cX7_deafen 5 (some .int) s args RX7 (cG E)) (p1 : Int32) (p2 : Int32) (σ : St) (hf : f_X7_deafen p1 p2 σ = some (r, σ')) (H : Heap) (locs : List Loc) (ls : Array Slot) (hP : gW (cG E) σ H) (hS : va_S (gA (cG E)) s.heap H locs) (hl : lv_has ls 5 [(0, .ref (cAd E 0)), (1, .int p1), (2, .int p2)]) : W p l e rm_X7_deafen s m args below meth c H locs 0 0 (gQi below args s (cG E) r σ') (F0 m 0 ls []) := by
  unfold f_X7_deafen at hf
  obtain ⟨F, hr, hlk⟩ := id B
  have hx := F.1
  have hb := F.2.1
  have hml := F.2.2.1
  have hown := F.2.2.2.1
  have hts := F.2.2.2.2.1
  refine lv_aload_n hx hb dX7_deafen_0 rfl (lv_at hl 0 rfl) ?_
  refine lv_iload_n hx hb dX7_deafen_1 rfl (lv_at hl 1 rfl) ?_
  obtain ⟨r2, σ1, h3, hf⟩ := cl_e hf
  refine kc_X7_138 F hP hS h3 ⟨Nat.le_of_ble_eq_true rfl, Nat.le_of_ble_eq_true rfl⟩ hl.1 (Nat.le_of_ble_eq_true rfl) ⟨Nat.zero_le _, Nat.zero_le _⟩ dX7_deafen_2 (fun e4 H locs hP hS => ?_) (fun d5 e4 H locs hP hS => ?_)
  · subst e4
    replace hf := oc_n hf
    refine lv_astore_nN (lv' := [(3, .null), (0, .ref (cAd E 0)), (1, .int p1), (2, .int p2)]) hx hb dX7_deafen_5 rfl hl (by decide) rfl (fun ls hl => ?_)
    refine lv_aload_nN hx hb dX7_deafen_6 rfl (lv_at hl 0 rfl) ?_
    refine lv_ifnullN (tgt := 20) hx hb dX7_deafen_7 (by decide) ?_
    refine lv_iconst (v := (-1)) hx hb dX7_deafen_20 (by decide) ?_
    exact g_iret B hP hS hf dX7_deafen_21
  · subst e4
    replace hf := oc_s hf
    obtain ⟨h6, hf⟩ := gd_e hf
    refine lv_astore_n (lv' := [(3, .ref (cAd E (46 + d5))), (0, .ref (cAd E 0)), (1, .int p1), (2, .int p2)]) hx hb dX7_deafen_5 rfl hl (by decide) rfl (fun ls hl => ?_)
    refine lv_aload_n hx hb dX7_deafen_6 rfl (lv_at hl 0 rfl) ?_
    refine lv_ifnull hx hb dX7_deafen_7 ?_
    refine lv_iload_n hx hb dX7_deafen_10 rfl (lv_at hl 3 rfl) ?_
    refine lv_if_lt (tgt := 20) hx hb dX7_deafen_11 (by decide) (fun h7 => ?_) (fun h7 => ?_)
    · rw [if_pos h7] at hf
      refine lv_iconst (v := (-1)) hx hb dX7_deafen_20 (by decide) ?_
      exact g_iret B hP hS hf dX7_deafen_21
    · rw [if_neg h7] at hf
      refine lv_iload_n hx hb dX7_deafen_14 rfl (lv_at hl 3 rfl) ?_
      refine lv_bipush (v := (9)) hx hb dX7_deafen_15 (by decide) ?_
      refine lv_icmp_le (tgt := 22) hx hb dX7_deafen_17 (by decide) (fun h8 => ?_) (fun h8 => ?_)
      · rw [if_pos h8] at hf
        refine lv_aload_n hx hb dX7_deafen_22 rfl (lv_at hl 0 rfl) ?_
        refine gf_X7_163 F hP h6 dX7_deafen_23 ?_
        obtain ⟨x9, ex9, hf⟩ := vl_x hf
        rw [← ex9]
        refine lv_istore (lv' := [(4, .int x9), (3, .ref (cAd E (46 + d5))), (0, .ref (cAd E 0)), (1, .int p1), (2, .int p2)]) hx hb dX7_deafen_26 hl (by decide) rfl (fun ls hl => ?_)
        refine lv_aload_n hx hb dX7_deafen_28 rfl (lv_at hl 1 rfl) ?_
        refine lv_iload_n hx hb dX7_deafen_29 rfl (lv_at hl 4 rfl) ?_
        refine pf_X7_163 F hP hS h6 dX7_deafen_30 (fun H locs hP hS => ?_)
        obtain ⟨σ10, eσ10, hf⟩ := vl_x hf
        rw [← eσ10] at hP
        refine lv_iload hx hb dX7_deafen_33 (lv_at hl 0 rfl) ?_
        exact g_iret B hP hS hf dX7_deafen_35
      · rw [if_neg h8] at hf
        refine lv_iconst (v := (-1)) hx hb dX7_deafen_20 (by decide) ?_
        exact g_iret B hP hS hf dX7_deafen_21
theorem c_X7_deafen (l : Launch) {E : cEv} (hI : gIj (cG E)) {p1 : Int32} {p2 : Int32} {σ σ' : St} {r : Int32} (hf : f_X7_deafen p1 p2 σ = some (r, σ')) : gMi l yX7_deafen cX7_deafen 5 .int rm_X7_deafen [.ref (cAd E 0), .int p1, .int p2] (cG E) σ r σ' :=
  g_entry (by decide) (Nat.le_of_ble_eq_true rfl) hI (fun p e s m args below meth c B hP hS ls hl => w_X7_deafen_e B _ _ σ hf _ _ ls hP hS hl)
section SC
variable {p : Program} {l : Launch} {e : Env} {R : Room} {s : State} {m : MethodId} {args : Array Value} {below : List Frame} {meth : Method} {c : Code} {H : Heap} {locs : List Loc} {cells slots : Nat} {Q : State → Prop}
variable {cc : ByteArray} {pc nL : Nat} {ls : Array Slot} {rest : List Value} {E : cEv} {σ : St}
theorem kc_X7_166 (F : gFx p m c cc nL s args RX7 (cG E)) (hP : gW (cG E) σ H) (hS : va_S (gA (cG E)) s.heap H locs) {o : Nat} (ho : o < 8) {r : Int32} {σ' : St} (hf : f_X2_isOrphan o σ = some (r, σ')) (hR : rm_X2_isOrphan.frames + 1 ≤ R.frames ∧ 8 + (1 + 11) + rm_X2_isOrphan.locals ≤ R.locals) (hsz : ls.size = nL) (hrest : (rest.map fun v => v.category).sum ≤ 8) (hcs : cells ≤ R.cells ∧ slots ≤ R.slots) (hdg : decode cc pc = .ok (.invokevirtual 166, 3)) (kk : ∀ (H1 : Heap) (locs1 : List Loc), gW (cG E) σ' H1 → va_S (gA (cG E)) s.heap H1 locs1 → W p l e R s m args below meth c H1 locs1 cells slots Q (F0 m (pc + 3) ls (.int r :: rest))) : W p l e R s m args below meth c H locs cells slots Q (F0 m pc ls (.ref (cAd E (46 + o)) :: rest)) :=
  g_callVi F hP hS (c_X2_isOrphan l F.2.2.2.2.2.2.2 ho hf) (g_cwV (n := 0) F tw_572 tw_573 tw_574 tw_8 tw_575 (by decide +kernel) rfl rfl hR) (k := (46 + o)) (cin (by omega)) (ce_2 E _ ho) rfl (As := []) rfl hsz rfl hrest hdg hcs kk
end SC
/-! PromisedSlots.scan(I)I -/
def b_X7_scan_24 (a2 : Nat) (K24 : (Int32 × Int32 × St → Option (Int32 × St))) (a1 : Int32) (a3 : Int32) (σ : St) : Option (Int32 × St) :=
  if (4 : Int32) ≤ a3 then
    some ((-4 : Int32), σ)
  else
    gd (ix a3 4) <|
    vl (nt a3) fun d13 =>
    cl (f_X1_lists d13 a1 σ) fun r16 σ15 =>
    if r16 = 0 then
      vl (a3 + (1 : Int32)) fun x19 =>
      K24 (a1, x19, σ15)
    else
      cl (f_X2_comeHome a2 a3 σ15) fun r21 σ20 =>
      some (a3, σ20)
def f_X7_scan (p1 : Int32) (σ : St) : Option (Int32 × St) :=
  cl (f_X7_deviceAt p1 σ) fun r2 σ1 =>
  oc r2 (
    some ((-1 : Int32), σ1)) (fun d5 => gd (d5 < 8) <|
    cl (f_X2_isOrphan d5 σ1) fun r8 σ7 =>
    if r8 = 0 then
      some ((-2 : Int32), σ7)
    else
      lp (fun K a => b_X7_scan_24 d5 K a.1 a.2.1 a.2.2) FU (p1, (0 : Int32), σ7))
abbrev rm_X7_scan : Room := { frames := 1, cells := 0, slots := 0, locals := 21 }
def P_X7_scan_24 (p : Program) (l : Launch) (e : Env) (s : State) (m : MethodId) (args : Array Value) (below : List Frame) (meth : Method) (c : Code) (E : cEv) (r : Int32) (σ' : St) (a2 : Nat) (a : Int32 × Int32 × St) : Prop := ∀ (H : Heap) (locs : List Loc) (ls : Array Slot), gW (cG E) a.2.2 H → va_S (gA (cG E)) s.heap H locs → lv_has ls 4 [(0, .ref (cAd E 0)), (1, .int a.1), (2, .ref (cAd E (46 + a2))), (3, .int a.2.1)] → W p l e rm_X7_scan s m args below meth c H locs 0 0 (gQi below args s (cG E) r σ') (F0 m 24 ls [])
set_option maxHeartbeats 4000000 in
set_option maxRecDepth 100000 in
theorem w_X7_scan_24 {p : Program} {l : Launch} {e : Env} {s : State} {m : MethodId} {args : Array Value} {below : List Frame} {meth : Method} {c : Code} {E : cEv} {r : Int32} {σ' : St} {a2 : Nat} (ha2 : a2 < 8) (B : gBx p m meth c cX7_scan 4 (some .int) s args RX7 (cG E)) {K24 : (Int32 × Int32 × St → Option (Int32 × St))} (hK24 : ∀ a, K24 a = some (r, σ') → P_X7_scan_24 p l e s m args below meth c E r σ' a2 a) (a1 : Int32) (a3 : Int32) (σ : St) (hf : b_X7_scan_24 a2 K24 a1 a3 σ = some (r, σ')) (H : Heap) (locs : List Loc) (ls : Array Slot) (hP : gW (cG E) σ H) (hS : va_S (gA (cG E)) s.heap H locs) (hl : lv_has ls 4 [(0, .ref (cAd E 0)), (1, .int a1), (2, .ref (cAd E (46 + a2))), (3, .int a3)]) : W p l e rm_X7_scan s m args below meth c H locs 0 0 (gQi below args s (cG E) r σ') (F0 m 24 ls []) := by
  unfold b_X7_scan_24 at hf
  obtain ⟨F, hr, hlk⟩ := id B
  have hx := F.1
  have hb := F.2.1
  have hml := F.2.2.1
  have hown := F.2.2.2.1
  have hts := F.2.2.2.2.1
  refine lv_iload_n hx hb dX7_scan_24 rfl (lv_at hl 3 rfl) ?_
  refine lv_aload_n hx hb dX7_scan_25 rfl (lv_at hl 0 rfl) ?_
  refine gf_X7_42 F hP dX7_scan_26 ?_
  refine c_alenC F hP dX7_scan_29 ?_
  refine lv_icmp_ge (tgt := 59) hx hb dX7_scan_30 (by decide) (fun h11 => ?_) (fun h11 => ?_)
  · rw [if_pos h11] at hf
    refine lv_bipush (v := (-4)) hx hb dX7_scan_59 (by decide) ?_
    exact g_iret B hP hS hf dX7_scan_61
  · rw [if_neg h11] at hf
    refine lv_aload_n hx hb dX7_scan_33 rfl (lv_at hl 0 rfl) ?_
    refine gf_X7_42 F hP dX7_scan_34 ?_
    refine lv_iload_n hx hb dX7_scan_37 rfl (lv_at hl 3 rfl) ?_
    obtain ⟨h12, hf⟩ := gd_e hf
    refine c_aldC F hP h12 dX7_scan_38 ?_
    have h14 := ix_lt h12
    obtain ⟨d13, ed13, hf⟩ := vl_x hf
    rw [← ed13] at h14 ⊢
    refine lv_iload_n hx hb dX7_scan_39 rfl (lv_at hl 1 rfl) ?_
    obtain ⟨r16, σ15, h17, hf⟩ := cl_e hf
    refine kc_X7_145 F hP hS h14 h17 ⟨Nat.le_of_ble_eq_true rfl, Nat.le_of_ble_eq_true rfl⟩ hl.1 (Nat.le_of_ble_eq_true rfl) ⟨Nat.zero_le _, Nat.zero_le _⟩ dX7_scan_40 (fun H locs hP hS => ?_)
    refine lv_if_eq (tgt := 53) hx hb dX7_scan_43 (by decide) (fun h18 => ?_) (fun h18 => ?_)
    · rw [if_pos h18] at hf
      refine lv_iinc (v := a3 + (1 : Int32)) (lv' := [(3, .int (a3 + (1 : Int32))), (0, .ref (cAd E 0)), (1, .int a1), (2, .ref (cAd E (46 + a2)))]) hx hb dX7_scan_53 hl (k := 3) rfl rfl (by decide) rfl (fun ls hl => ?_)
      obtain ⟨x19, ex19, hf⟩ := vl_x hf
      rw [← ex19] at hl
      refine lv_goto (tgt := 24) hx hb dX7_scan_56 (by decide) ?_
      exact hK24 _ hf _ _ _ hP hS (lv_sub hl [1, 2, 3, 0] rfl)
    · rw [if_neg h18] at hf
      refine lv_aload_n hx hb dX7_scan_46 rfl (lv_at hl 2 rfl) ?_
      refine lv_iload_n hx hb dX7_scan_47 rfl (lv_at hl 3 rfl) ?_
      obtain ⟨r21, σ20, h22, hf⟩ := cl_e hf
      refine kc_X7_154 F hP hS ha2 h22 ⟨Nat.le_of_ble_eq_true rfl, Nat.le_of_ble_eq_true rfl⟩ hl.1 (Nat.le_of_ble_eq_true rfl) ⟨Nat.zero_le _, Nat.zero_le _⟩ dX7_scan_48 (fun H locs hP hS => ?_)
      refine lv_iload_n hx hb dX7_scan_51 rfl (lv_at hl 3 rfl) ?_
      exact g_iret B hP hS hf dX7_scan_52
set_option maxHeartbeats 4000000 in
set_option maxRecDepth 100000 in
theorem w_X7_scan_e {p : Program} {l : Launch} {e : Env} {s : State} {m : MethodId} {args : Array Value} {below : List Frame} {meth : Method} {c : Code} {E : cEv} {r : Int32} {σ' : St} (B : gBx p m meth c cX7_scan 4 (some .int) s args RX7 (cG E)) (p1 : Int32) (σ : St) (hf : f_X7_scan p1 σ = some (r, σ')) (H : Heap) (locs : List Loc) (ls : Array Slot) (hP : gW (cG E) σ H) (hS : va_S (gA (cG E)) s.heap H locs) (hl : lv_has ls 4 [(0, .ref (cAd E 0)), (1, .int p1)]) : W p l e rm_X7_scan s m args below meth c H locs 0 0 (gQi below args s (cG E) r σ') (F0 m 0 ls []) := by
  unfold f_X7_scan at hf
  obtain ⟨F, hr, hlk⟩ := id B
  have hx := F.1
  have hb := F.2.1
  have hml := F.2.2.1
  have hown := F.2.2.2.1
  have hts := F.2.2.2.2.1
  refine lv_aload_n hx hb dX7_scan_0 rfl (lv_at hl 0 rfl) ?_
  refine lv_iload_n hx hb dX7_scan_1 rfl (lv_at hl 1 rfl) ?_
  obtain ⟨r2, σ1, h3, hf⟩ := cl_e hf
  refine kc_X7_138 F hP hS h3 ⟨Nat.le_of_ble_eq_true rfl, Nat.le_of_ble_eq_true rfl⟩ hl.1 (Nat.le_of_ble_eq_true rfl) ⟨Nat.zero_le _, Nat.zero_le _⟩ dX7_scan_2 (fun e4 H locs hP hS => ?_) (fun d5 e4 H locs hP hS => ?_)
  · subst e4
    replace hf := oc_n hf
    refine lv_astore_nN (lv' := [(2, .null), (0, .ref (cAd E 0)), (1, .int p1)]) hx hb dX7_scan_5 rfl hl (by decide) rfl (fun ls hl => ?_)
    refine lv_aload_nN hx hb dX7_scan_6 rfl (lv_at hl 0 rfl) ?_
    refine lv_ifnonnullN hx hb dX7_scan_7 ?_
    refine lv_iconst (v := (-1)) hx hb dX7_scan_10 (by decide) ?_
    exact g_iret B hP hS hf dX7_scan_11
  · subst e4
    replace hf := oc_s hf
    obtain ⟨h6, hf⟩ := gd_e hf
    refine lv_astore_n (lv' := [(2, .ref (cAd E (46 + d5))), (0, .ref (cAd E 0)), (1, .int p1)]) hx hb dX7_scan_5 rfl hl (by decide) rfl (fun ls hl => ?_)
    refine lv_aload_n hx hb dX7_scan_6 rfl (lv_at hl 0 rfl) ?_
    refine lv_ifnonnull (tgt := 12) hx hb dX7_scan_7 (by decide) ?_
    refine lv_aload_n hx hb dX7_scan_12 rfl (lv_at hl 0 rfl) ?_
    obtain ⟨r8, σ7, h9, hf⟩ := cl_e hf
    refine kc_X7_166 F hP hS h6 h9 ⟨Nat.le_of_ble_eq_true rfl, Nat.le_of_ble_eq_true rfl⟩ hl.1 (Nat.le_of_ble_eq_true rfl) ⟨Nat.zero_le _, Nat.zero_le _⟩ dX7_scan_13 (fun H locs hP hS => ?_)
    refine lv_if_ne (tgt := 22) hx hb dX7_scan_16 (by decide) (fun h10 => ?_) (fun h10 => ?_)
    · rw [if_neg h10] at hf
      refine lv_iconst (v := 0) hx hb dX7_scan_22 (by decide) ?_
      refine lv_istore_n (lv' := [(3, .int (0 : Int32)), (2, .ref (cAd E (46 + d5))), (0, .ref (cAd E 0)), (1, .int p1)]) hx hb dX7_scan_23 rfl hl (by decide) rfl (fun ls hl => ?_)
      exact lp_w (P := P_X7_scan_24 p l e s m args below meth c E r σ' d5) (fun K hK a ha => w_X7_scan_24 h6 B hK a.1 a.2.1 a.2.2 ha) FU _ hf _ _ _ hP hS (lv_sub hl [2, 3, 1, 0] rfl)
    · rw [if_pos h10] at hf
      refine lv_bipush (v := (-2)) hx hb dX7_scan_19 (by decide) ?_
      exact g_iret B hP hS hf dX7_scan_21
theorem c_X7_scan (l : Launch) {E : cEv} (hI : gIj (cG E)) {p1 : Int32} {σ σ' : St} {r : Int32} (hf : f_X7_scan p1 σ = some (r, σ')) : gMi l yX7_scan cX7_scan 4 .int rm_X7_scan [.ref (cAd E 0), .int p1] (cG E) σ r σ' :=
  g_entry (by decide) (Nat.le_of_ble_eq_true rfl) hI (fun p e s m args below meth c B hP hS ls hl => w_X7_scan_e B _ σ hf _ _ ls hP hS hl)
section SC
variable {p : Program} {l : Launch} {e : Env} {R : Room} {s : State} {m : MethodId} {args : Array Value} {below : List Frame} {meth : Method} {c : Code} {H : Heap} {locs : List Loc} {cells slots : Nat} {Q : State → Prop}
variable {cc : ByteArray} {pc nL : Nat} {ls : Array Slot} {rest : List Value} {E : cEv} {σ : St}
theorem gf_X7_173 (F : gFx p m c cc nL s args RX7 (cG E)) (hP : gW (cG E) σ H) {o : Nat} (ho : o < 4) (hdg : decode cc pc = .ok (.getfield 173, 3)) (kk : W p l e R s m args below meth c H locs cells slots Q (F0 m (pc + 3) ls (.ref (cAd E (26 + o)) :: rest))) : W p l e R s m args below meth c H locs cells slots Q (F0 m pc ls (.ref (cAd E (22 + o)) :: rest)) :=
  g_getN F hP (k := (22 + o)) (cin (by omega)) (ce_1 E _ ho) rfl inX1 5 (by decide) tw_153 rfl rfl hdg kk
theorem kc_X7_254 (F : gFx p m c cc nL s args RX7 (cG E)) (hP : gW (cG E) σ H) (hS : va_S (gA (cG E)) s.heap H locs) {o : Nat} (ho : o < 4) {p1 : Int32} {r : Int32} {σ' : St} (hf : f_X4_placeOf o p1 σ = some (r, σ')) (hR : rm_X4_placeOf.frames + 1 ≤ R.frames ∧ 8 + (3 + 11) + rm_X4_placeOf.locals ≤ R.locals) (hsz : ls.size = nL) (hrest : (rest.map fun v => v.category).sum ≤ 8) (hcs : cells ≤ R.cells ∧ slots ≤ R.slots) (hdg : decode cc pc = .ok (.invokevirtual 254, 3)) (kk : ∀ (H1 : Heap) (locs1 : List Loc), gW (cG E) σ' H1 → va_S (gA (cG E)) s.heap H1 locs1 → W p l e R s m args below meth c H1 locs1 cells slots Q (F0 m (pc + 3) ls (.int r :: rest))) : W p l e R s m args below meth c H locs cells slots Q (F0 m pc ls (.int p1 :: .ref (cAd E (26 + o)) :: rest)) :=
  g_callVi F hP hS (c_X4_placeOf l F.2.2.2.2.2.2.2 ho hf) (g_cwV (n := 1) F tw_584 tw_537 tw_538 tw_7 tw_539 (by decide +kernel) rfl rfl hR) (k := (26 + o)) (cin (by omega)) (ce_4 E _ ho) rfl (As := [.int p1]) rfl hsz rfl hrest hdg hcs kk
end SC
/-! PromisedSlots.promiserOf(I)LPromisedSlots$Coordinator; -/
def b_X7_promiserOf_2 (K2 : (Int32 × Int32 × St → Option ((Option Nat) × St))) (a1 : Int32) (a2 : Int32) (σ : St) : Option ((Option Nat) × St) :=
  if (4 : Int32) ≤ a2 then
    some (none, σ)
  else
    gd (ix a2 4) <|
    vl (nt a2) fun d3 =>
    cl (f_X4_placeOf d3 a1 σ) fun r6 σ5 =>
    if r6 = (-4 : Int32) then
      vl (a2 + (1 : Int32)) fun x9 =>
      K2 (a1, x9, σ5)
    else
      gd (ix a2 4) <|
      vl (nt a2) fun d11 =>
      some (some d11, σ5)
def f_X7_promiserOf (p1 : Int32) (σ : St) : Option ((Option Nat) × St) :=
  lp (fun K a => b_X7_promiserOf_2 K a.1 a.2.1 a.2.2) FU (p1, (0 : Int32), σ)
abbrev rm_X7_promiserOf : Room := { frames := 1, cells := 0, slots := 0, locals := 22 }
def P_X7_promiserOf_2 (p : Program) (l : Launch) (e : Env) (s : State) (m : MethodId) (args : Array Value) (below : List Frame) (meth : Method) (c : Code) (E : cEv) (r : Option Nat) (σ' : St) (a : Int32 × Int32 × St) : Prop := ∀ (H : Heap) (locs : List Loc) (ls : Array Slot), gW (cG E) a.2.2 H → va_S (gA (cG E)) s.heap H locs → lv_has ls 3 [(0, .ref (cAd E 0)), (1, .int a.1), (2, .int a.2.1)] → W p l e rm_X7_promiserOf s m args below meth c H locs 0 0 (gQq below args s (cG E) 22 r σ') (F0 m 2 ls [])
set_option maxHeartbeats 4000000 in
set_option maxRecDepth 100000 in
theorem w_X7_promiserOf_2 {p : Program} {l : Launch} {e : Env} {s : State} {m : MethodId} {args : Array Value} {below : List Frame} {meth : Method} {c : Code} {E : cEv} {r : Option Nat} {σ' : St} (B : gBx p m meth c cX7_promiserOf 3 (some (.object "PromisedSlots$Coordinator")) s args RX7 (cG E)) {K2 : (Int32 × Int32 × St → Option ((Option Nat) × St))} (hK2 : ∀ a, K2 a = some (r, σ') → P_X7_promiserOf_2 p l e s m args below meth c E r σ' a) (a1 : Int32) (a2 : Int32) (σ : St) (hf : b_X7_promiserOf_2 K2 a1 a2 σ = some (r, σ')) (H : Heap) (locs : List Loc) (ls : Array Slot) (hP : gW (cG E) σ H) (hS : va_S (gA (cG E)) s.heap H locs) (hl : lv_has ls 3 [(0, .ref (cAd E 0)), (1, .int a1), (2, .int a2)]) : W p l e rm_X7_promiserOf s m args below meth c H locs 0 0 (gQq below args s (cG E) 22 r σ') (F0 m 2 ls []) := by
  unfold b_X7_promiserOf_2 at hf
  obtain ⟨F, hr, hlk⟩ := id B
  have hx := F.1
  have hb := F.2.1
  have hml := F.2.2.1
  have hown := F.2.2.2.1
  have hts := F.2.2.2.2.1
  refine lv_iload_n hx hb dX7_promiserOf_2 rfl (lv_at hl 2 rfl) ?_
  refine lv_aload_n hx hb dX7_promiserOf_3 rfl (lv_at hl 0 rfl) ?_
  refine gf_X7_42 F hP dX7_promiserOf_4 ?_
  refine c_alenC F hP dX7_promiserOf_7 ?_
  refine lv_icmp_ge (tgt := 42) hx hb dX7_promiserOf_8 (by decide) (fun h1 => ?_) (fun h1 => ?_)
  · rw [if_pos h1] at hf
    refine lv_null hx hb dX7_promiserOf_42 ?_
    exact g_aretN B hP hS hf dX7_promiserOf_43
  · rw [if_neg h1] at hf
    refine lv_aload_n hx hb dX7_promiserOf_11 rfl (lv_at hl 0 rfl) ?_
    refine gf_X7_42 F hP dX7_promiserOf_12 ?_
    refine lv_iload_n hx hb dX7_promiserOf_15 rfl (lv_at hl 2 rfl) ?_
    obtain ⟨h2, hf⟩ := gd_e hf
    refine c_aldC F hP h2 dX7_promiserOf_16 ?_
    have h4 := ix_lt h2
    obtain ⟨d3, ed3, hf⟩ := vl_x hf
    rw [← ed3] at h4 ⊢
    refine gf_X7_173 F hP h4 dX7_promiserOf_17 ?_
    refine lv_iload_n hx hb dX7_promiserOf_20 rfl (lv_at hl 1 rfl) ?_
    obtain ⟨r6, σ5, h7, hf⟩ := cl_e hf
    refine kc_X7_254 F hP hS h4 h7 ⟨Nat.le_of_ble_eq_true rfl, Nat.le_of_ble_eq_true rfl⟩ hl.1 (Nat.le_of_ble_eq_true rfl) ⟨Nat.zero_le _, Nat.zero_le _⟩ dX7_promiserOf_21 (fun H locs hP hS => ?_)
    refine lv_bipush (v := (-4)) hx hb dX7_promiserOf_24 (by decide) ?_
    refine lv_icmp_eq (tgt := 36) hx hb dX7_promiserOf_26 (by decide) (fun h8 => ?_) (fun h8 => ?_)
    · rw [if_pos h8] at hf
      refine lv_iinc (v := a2 + (1 : Int32)) (lv' := [(2, .int (a2 + (1 : Int32))), (0, .ref (cAd E 0)), (1, .int a1)]) hx hb dX7_promiserOf_36 hl (k := 2) rfl rfl (by decide) rfl (fun ls hl => ?_)
      obtain ⟨x9, ex9, hf⟩ := vl_x hf
      rw [← ex9] at hl
      refine lv_goto (tgt := 2) hx hb dX7_promiserOf_39 (by decide) ?_
      exact hK2 _ hf _ _ _ hP hS (lv_sub hl [1, 2, 0] rfl)
    · rw [if_neg h8] at hf
      refine lv_aload_n hx hb dX7_promiserOf_29 rfl (lv_at hl 0 rfl) ?_
      refine gf_X7_42 F hP dX7_promiserOf_30 ?_
      refine lv_iload_n hx hb dX7_promiserOf_33 rfl (lv_at hl 2 rfl) ?_
      obtain ⟨h10, hf⟩ := gd_e hf
      refine c_aldC F hP h10 dX7_promiserOf_34 ?_
      have h12 := ix_lt h10
      obtain ⟨d11, ed11, hf⟩ := vl_x hf
      rw [← ed11] at h12 ⊢
      exact g_aretS B hP hS hf dX7_promiserOf_35
set_option maxHeartbeats 4000000 in
set_option maxRecDepth 100000 in
theorem w_X7_promiserOf_e {p : Program} {l : Launch} {e : Env} {s : State} {m : MethodId} {args : Array Value} {below : List Frame} {meth : Method} {c : Code} {E : cEv} {r : Option Nat} {σ' : St} (B : gBx p m meth c cX7_promiserOf 3 (some (.object "PromisedSlots$Coordinator")) s args RX7 (cG E)) (p1 : Int32) (σ : St) (hf : f_X7_promiserOf p1 σ = some (r, σ')) (H : Heap) (locs : List Loc) (ls : Array Slot) (hP : gW (cG E) σ H) (hS : va_S (gA (cG E)) s.heap H locs) (hl : lv_has ls 3 [(0, .ref (cAd E 0)), (1, .int p1)]) : W p l e rm_X7_promiserOf s m args below meth c H locs 0 0 (gQq below args s (cG E) 22 r σ') (F0 m 0 ls []) := by
  unfold f_X7_promiserOf at hf
  obtain ⟨F, hr, hlk⟩ := id B
  have hx := F.1
  have hb := F.2.1
  have hml := F.2.2.1
  have hown := F.2.2.2.1
  have hts := F.2.2.2.2.1
  refine lv_iconst (v := 0) hx hb dX7_promiserOf_0 (by decide) ?_
  refine lv_istore_n (lv' := [(2, .int (0 : Int32)), (0, .ref (cAd E 0)), (1, .int p1)]) hx hb dX7_promiserOf_1 rfl hl (by decide) rfl (fun ls hl => ?_)
  exact lp_w (P := P_X7_promiserOf_2 p l e s m args below meth c E r σ') (fun K hK a ha => w_X7_promiserOf_2 B hK a.1 a.2.1 a.2.2 ha) FU _ hf _ _ _ hP hS (lv_sub hl [1, 2, 0] rfl)
theorem c_X7_promiserOf (l : Launch) {E : cEv} (hI : gIj (cG E)) {p1 : Int32} {σ σ' : St} {r : Option Nat} (hf : f_X7_promiserOf p1 σ = some (r, σ')) : gMq l yX7_promiserOf cX7_promiserOf 3 (.object "PromisedSlots$Coordinator") rm_X7_promiserOf [.ref (cAd E 0), .int p1] (cG E) σ 22 r σ' :=
  g_entry (by decide) (Nat.le_of_ble_eq_true rfl) hI (fun p e s m args below meth c B hP hS ls hl => w_X7_promiserOf_e B _ σ hf _ _ ls hP hS hl)
section SC
variable {p : Program} {l : Launch} {e : Env} {R : Room} {s : State} {m : MethodId} {args : Array Value} {below : List Frame} {meth : Method} {c : Code} {H : Heap} {locs : List Loc} {cells slots : Nat} {Q : State → Prop}
variable {cc : ByteArray} {pc nL : Nat} {ls : Array Slot} {rest : List Value} {E : cEv} {σ : St}
theorem kc_X7_170 (F : gFx p m c cc nL s args RX7 (cG E)) (hP : gW (cG E) σ H) (hS : va_S (gA (cG E)) s.heap H locs) {p1 : Int32} {r : Option Nat} {σ' : St} (hf : f_X7_promiserOf p1 σ = some (r, σ')) (hR : rm_X7_promiserOf.frames + 1 ≤ R.frames ∧ 8 + (3 + 11) + rm_X7_promiserOf.locals ≤ R.locals) (hsz : ls.size = nL) (hrest : (rest.map fun v => v.category).sum ≤ 8) (hcs : cells ≤ R.cells ∧ slots ≤ R.slots) (hdg : decode cc pc = .ok (.invokevirtual 170, 3)) (kn : r = none → ∀ (H1 : Heap) (locs1 : List Loc), gW (cG E) σ' H1 → va_S (gA (cG E)) s.heap H1 locs1 → W p l e R s m args below meth c H1 locs1 cells slots Q (F0 m (pc + 3) ls (.null :: rest))) (ks : ∀ d, r = some d → ∀ (H1 : Heap) (locs1 : List Loc), gW (cG E) σ' H1 → va_S (gA (cG E)) s.heap H1 locs1 → W p l e R s m args below meth c H1 locs1 cells slots Q (F0 m (pc + 3) ls (.ref (cAd E (22 + d)) :: rest))) : W p l e R s m args below meth c H locs cells slots Q (F0 m pc ls (.int p1 :: .ref (cAd E 0) :: rest)) :=
  g_callVq F hP hS (c_X7_promiserOf l F.2.2.2.2.2.2.2 hf) (g_cwV (n := 1) F tw_580 tw_582 ts_12 tw_1 tw_583 (by decide +kernel) rfl rfl hR) (k := 0) (cin (by omega)) (ce_7 E _) rfl (As := [.int p1]) rfl hsz rfl hrest hdg hcs kn ks
theorem gf_X7_177 (F : gFx p m c cc nL s args RX7 (cG E)) (hP : gW (cG E) σ H) {o : Nat} (ho : o < 4) (hdg : decode cc pc = .ok (.getfield 177, 3)) (kk : W p l e R s m args below meth c H locs cells slots Q (F0 m (pc + 3) ls (.int (σ (26 + o) 3) :: rest))) : W p l e R s m args below meth c H locs cells slots Q (F0 m pc ls (.ref (cAd E (26 + o)) :: rest)) :=
  g_getN F hP (k := (26 + o)) (cin (by omega)) (ce_4 E _ ho) rfl inX4 3 (by decide) tw_135 rfl rfl hdg kk
theorem kc_X7_180 (F : gFx p m c cc nL s args RX7 (cG E)) (hP : gW (cG E) σ H) (hS : va_S (gA (cG E)) s.heap H locs) {o : Nat} (ho : o < 4) {r : Int32} {σ' : St} (hf : f_X4_sharedSlots o σ = some (r, σ')) (hR : rm_X4_sharedSlots.frames + 1 ≤ R.frames ∧ 8 + (1 + 11) + rm_X4_sharedSlots.locals ≤ R.locals) (hsz : ls.size = nL) (hrest : (rest.map fun v => v.category).sum ≤ 8) (hcs : cells ≤ R.cells ∧ slots ≤ R.slots) (hdg : decode cc pc = .ok (.invokevirtual 180, 3)) (kk : ∀ (H1 : Heap) (locs1 : List Loc), gW (cG E) σ' H1 → va_S (gA (cG E)) s.heap H1 locs1 → W p l e R s m args below meth c H1 locs1 cells slots Q (F0 m (pc + 3) ls (.int r :: rest))) : W p l e R s m args below meth c H locs cells slots Q (F0 m pc ls (.ref (cAd E (26 + o)) :: rest)) :=
  g_callVi F hP hS (c_X4_sharedSlots l F.2.2.2.2.2.2.2 ho hf) (g_cwV (n := 0) F tw_585 tw_586 tw_587 tw_7 tw_588 (by decide +kernel) rfl rfl hR) (k := (26 + o)) (cin (by omega)) (ce_4 E _ ho) rfl (As := []) rfl hsz rfl hrest hdg hcs kk
theorem gf_X7_183 (F : gFx p m c cc nL s args RX7 (cG E)) (hP : gW (cG E) σ H) {o : Nat} (ho : o = 8 ∨ o = 14) (hdg : decode cc pc = .ok (.getfield 183, 3)) (kk : W p l e R s m args below meth c H locs cells slots Q (F0 m (pc + 3) ls (.int (σ o 3) :: rest))) : W p l e R s m args below meth c H locs cells slots Q (F0 m pc ls (.ref (cAd E o) :: rest)) :=
  g_getN F hP (k := o) (cin (by omega)) (ce_3 E _ ho) rfl inX3 3 (by decide) tw_78 rfl rfl hdg kk
theorem kc_X7_191 (F : gFx p m c cc nL s args RX7 (cG E)) (hP : gW (cG E) σ H) (hS : va_S (gA (cG E)) s.heap H locs) {o : Nat} (ho : o < 4) {p1 : Int32} {p2 : Int32} {u : Unit} {σ' : St} (hf : f_X4_add o p1 p2 σ = some (u, σ')) (hR : rm_X4_add.frames + 1 ≤ R.frames ∧ 8 + (3 + 11) + rm_X4_add.locals ≤ R.locals) (hsz : ls.size = nL) (hrest : (rest.map fun v => v.category).sum ≤ 8) (hcs : cells ≤ R.cells ∧ slots ≤ R.slots) (hdg : decode cc pc = .ok (.invokevirtual 191, 3)) (kk : ∀ (H1 : Heap) (locs1 : List Loc), gW (cG E) σ' H1 → va_S (gA (cG E)) s.heap H1 locs1 → W p l e R s m args below meth c H1 locs1 cells slots Q (F0 m (pc + 3) ls rest)) : W p l e R s m args below meth c H locs cells slots Q (F0 m pc ls (.int p2 :: .int p1 :: .ref (cAd E (26 + o)) :: rest)) :=
  g_callVv F hP hS (c_X4_add l F.2.2.2.2.2.2.2 ho hf) (g_cwV (n := 2) F tw_590 tw_591 tw_592 tw_7 tw_593 (by decide +kernel) rfl rfl hR) (k := (26 + o)) (cin (by omega)) (ce_4 E _ ho) rfl (As := [.int p1, .int p2]) rfl hsz rfl hrest hdg hcs kk
end SC
/-! PromisedSlots.ask(II)I -/
def f_X7_ask (p1 : Int32) (p2 : Int32) (σ : St) : Option (Int32 × St) :=
  cl (f_X6_clear 4 σ) fun r2 σ1 =>
  cl (f_X7_deviceAt p1 σ1) fun r5 σ4 =>
  oc r5 (
    cl (f_X6_append 4 (18 : Int32) σ4) fun r10 σ9 =>
    some ((-1 : Int32), σ9)) (fun d8 => gd (d8 < 8) <|
    if p2 < (1 : Int32) then
      cl (f_X6_append 4 (18 : Int32) σ4) fun r15 σ14 =>
      some ((-1 : Int32), σ14)
    else
      if p2 < (16 : Int32) then
        cl (f_X7_coordinatorAt (σ4 (46 + d8) 1) σ4) fun r19 σ18 =>
        oc r19 (
          cl (f_X6_append 4 (15 : Int32) σ18) fun r24 σ23 =>
          some ((-2 : Int32), σ23)) (fun d22 => gd (d22 < 4) <|
          cl (f_X1_lists d22 p1 σ18) fun r28 σ27 =>
          if r28 = 0 then
            cl (f_X6_append 4 (15 : Int32) σ27) fun r32 σ31 =>
            some ((-2 : Int32), σ31)
          else
            cl (f_X7_promiserOf p1 σ27) fun r35 σ34 =>
            oc r35 (
              if (σ34 (26 + d22) 3) < (7 : Int32) then
                cl (f_X4_sharedSlots d22 σ34) fun r41 σ40 =>
                vl (r41 - p2) fun x43 =>
                if (σ40 (lay (σ40 0 6)) 3) ≤ x43 then
                  cl (f_X4_add d22 p1 p2 σ40) fun r46 σ45 =>
                  some (x43, σ45)
                else
                  cl (f_X6_append 4 (17 : Int32) σ40) fun r49 σ48 =>
                  vl (if (0 : Int32) < x43 then x43 else (0 : Int32)) fun x51 =>
                  cl (f_X6_append 4 ((30 : Int32) + x51) σ48) fun r53 σ52 =>
                  some ((-3 : Int32), σ52)
              else
                cl (f_X6_append 4 (16 : Int32) σ34) fun r56 σ55 =>
                some ((-3 : Int32), σ55)) (fun d38 => gd (d38 < 4) <|
              cl (f_X6_append 4 (15 : Int32) σ34) fun r60 σ59 =>
              some ((-2 : Int32), σ59)))
      else
        cl (f_X6_append 4 (18 : Int32) σ4) fun r63 σ62 =>
        some ((-1 : Int32), σ62))
abbrev rm_X7_ask : Room := { frames := 2, cells := 0, slots := 0, locals := 44 }
set_option maxHeartbeats 4000000 in
set_option maxRecDepth 100000 in
theorem w_X7_ask_e {p : Program} {l : Launch} {e : Env} {s : State} {m : MethodId} {args : Array Value} {below : List Frame} {meth : Method} {c : Code} {E : cEv} {r : Int32} {σ' : St} (B : gBx p m meth c cX7_ask 6 (some .int) s args RX7 (cG E)) (p1 : Int32) (p2 : Int32) (σ : St) (hf : f_X7_ask p1 p2 σ = some (r, σ')) (H : Heap) (locs : List Loc) (ls : Array Slot) (hP : gW (cG E) σ H) (hS : va_S (gA (cG E)) s.heap H locs) (hl : lv_has ls 6 [(0, .ref (cAd E 0)), (1, .int p1), (2, .int p2)]) : W p l e rm_X7_ask s m args below meth c H locs 0 0 (gQi below args s (cG E) r σ') (F0 m 0 ls []) := by
  unfold f_X7_ask at hf
  obtain ⟨F, hr, hlk⟩ := id B
  have hx := F.1
  have hb := F.2.1
  have hml := F.2.2.1
  have hown := F.2.2.2.1
  have hts := F.2.2.2.2.1
  refine lv_aload_n hx hb dX7_ask_0 rfl (lv_at hl 0 rfl) ?_
  refine gf_X7_27 F hP dX7_ask_1 ?_
  obtain ⟨r2, σ1, h3, hf⟩ := cl_e hf
  refine kc_X7_86 F hP hS (Or.inr rfl) h3 ⟨Nat.le_of_ble_eq_true rfl, Nat.le_of_ble_eq_true rfl⟩ hl.1 (Nat.le_of_ble_eq_true rfl) ⟨Nat.zero_le _, Nat.zero_le _⟩ dX7_ask_4 (fun H locs hP hS => ?_)
  refine lv_aload_n hx hb dX7_ask_7 rfl (lv_at hl 0 rfl) ?_
  refine lv_iload_n hx hb dX7_ask_8 rfl (lv_at hl 1 rfl) ?_
  obtain ⟨r5, σ4, h6, hf⟩ := cl_e hf
  refine kc_X7_138 F hP hS h6 ⟨Nat.le_of_ble_eq_true rfl, Nat.le_of_ble_eq_true rfl⟩ hl.1 (Nat.le_of_ble_eq_true rfl) ⟨Nat.zero_le _, Nat.zero_le _⟩ dX7_ask_9 (fun e7 H locs hP hS => ?_) (fun d8 e7 H locs hP hS => ?_)
  · subst e7
    replace hf := oc_n hf
    refine lv_astore_nN (lv' := [(3, .null), (0, .ref (cAd E 0)), (1, .int p1), (2, .int p2)]) hx hb dX7_ask_12 rfl hl (by decide) rfl (fun ls hl => ?_)
    refine lv_aload_nN hx hb dX7_ask_13 rfl (lv_at hl 0 rfl) ?_
    refine lv_ifnullN (tgt := 28) hx hb dX7_ask_14 (by decide) ?_
    refine lv_aload_n hx hb dX7_ask_28 rfl (lv_at hl 1 rfl) ?_
    refine gf_X7_27 F hP dX7_ask_29 ?_
    refine lv_bipush (v := (18)) hx hb dX7_ask_32 (by decide) ?_
    obtain ⟨r10, σ9, h11, hf⟩ := cl_e hf
    refine kc_X7_75 F hP hS (Or.inr rfl) h11 ⟨Nat.le_of_ble_eq_true rfl, Nat.le_of_ble_eq_true rfl⟩ hl.1 (Nat.le_of_ble_eq_true rfl) ⟨Nat.zero_le _, Nat.zero_le _⟩ dX7_ask_34 (fun H locs hP hS => ?_)
    refine lv_pop hx hb dX7_ask_37 rfl ?_
    refine lv_iconst (v := (-1)) hx hb dX7_ask_38 (by decide) ?_
    exact g_iret B hP hS hf dX7_ask_39
  · subst e7
    replace hf := oc_s hf
    obtain ⟨h12, hf⟩ := gd_e hf
    refine lv_astore_n (lv' := [(3, .ref (cAd E (46 + d8))), (0, .ref (cAd E 0)), (1, .int p1), (2, .int p2)]) hx hb dX7_ask_12 rfl hl (by decide) rfl (fun ls hl => ?_)
    refine lv_aload_n hx hb dX7_ask_13 rfl (lv_at hl 0 rfl) ?_
    refine lv_ifnull hx hb dX7_ask_14 ?_
    refine lv_iload_n hx hb dX7_ask_17 rfl (lv_at hl 3 rfl) ?_
    refine lv_iconst (v := 1) hx hb dX7_ask_18 (by decide) ?_
    refine lv_icmp_lt (tgt := 28) hx hb dX7_ask_19 (by decide) (fun h13 => ?_) (fun h13 => ?_)
    · rw [if_pos h13] at hf
      refine lv_aload_n hx hb dX7_ask_28 rfl (lv_at hl 1 rfl) ?_
      refine gf_X7_27 F hP dX7_ask_29 ?_
      refine lv_bipush (v := (18)) hx hb dX7_ask_32 (by decide) ?_
      obtain ⟨r15, σ14, h16, hf⟩ := cl_e hf
      refine kc_X7_75 F hP hS (Or.inr rfl) h16 ⟨Nat.le_of_ble_eq_true rfl, Nat.le_of_ble_eq_true rfl⟩ hl.1 (Nat.le_of_ble_eq_true rfl) ⟨Nat.zero_le _, Nat.zero_le _⟩ dX7_ask_34 (fun H locs hP hS => ?_)
      refine lv_pop hx hb dX7_ask_37 rfl ?_
      refine lv_iconst (v := (-1)) hx hb dX7_ask_38 (by decide) ?_
      exact g_iret B hP hS hf dX7_ask_39
    · rw [if_neg h13] at hf
      refine lv_iload_n hx hb dX7_ask_22 rfl (lv_at hl 3 rfl) ?_
      refine lv_bipush (v := (16)) hx hb dX7_ask_23 (by decide) ?_
      refine lv_icmp_lt (tgt := 40) hx hb dX7_ask_25 (by decide) (fun h17 => ?_) (fun h17 => ?_)
      · rw [if_pos h17] at hf
        refine lv_aload_n hx hb dX7_ask_40 rfl (lv_at hl 1 rfl) ?_
        refine lv_aload_n hx hb dX7_ask_41 rfl (lv_at hl 0 rfl) ?_
        refine gf_X7_142 F hP h12 dX7_ask_42 ?_
        obtain ⟨r19, σ18, h20, hf⟩ := cl_e hf
        refine kc_X7_103 F hP hS h20 ⟨Nat.le_of_ble_eq_true rfl, Nat.le_of_ble_eq_true rfl⟩ hl.1 (Nat.le_of_ble_eq_true rfl) ⟨Nat.zero_le _, Nat.zero_le _⟩ dX7_ask_45 (fun e21 H locs hP hS => ?_) (fun d22 e21 H locs hP hS => ?_)
        · subst e21
          replace hf := oc_n hf
          refine lv_astoreN (lv' := [(4, .null), (3, .ref (cAd E (46 + d8))), (0, .ref (cAd E 0)), (1, .int p1), (2, .int p2)]) hx hb dX7_ask_48 hl (by decide) rfl (fun ls hl => ?_)
          refine lv_aloadN hx hb dX7_ask_50 (lv_at hl 0 rfl) ?_
          refine lv_ifnullN (tgt := 72) hx hb dX7_ask_52 (by decide) ?_
          refine lv_aload_n hx hb dX7_ask_72 rfl (lv_at hl 2 rfl) ?_
          refine gf_X7_27 F hP dX7_ask_73 ?_
          refine lv_bipush (v := (15)) hx hb dX7_ask_76 (by decide) ?_
          obtain ⟨r24, σ23, h25, hf⟩ := cl_e hf
          refine kc_X7_75 F hP hS (Or.inr rfl) h25 ⟨Nat.le_of_ble_eq_true rfl, Nat.le_of_ble_eq_true rfl⟩ hl.1 (Nat.le_of_ble_eq_true rfl) ⟨Nat.zero_le _, Nat.zero_le _⟩ dX7_ask_78 (fun H locs hP hS => ?_)
          refine lv_pop hx hb dX7_ask_81 rfl ?_
          refine lv_bipush (v := (-2)) hx hb dX7_ask_82 (by decide) ?_
          exact g_iret B hP hS hf dX7_ask_84
        · subst e21
          replace hf := oc_s hf
          obtain ⟨h26, hf⟩ := gd_e hf
          refine lv_astore (lv' := [(4, .ref (cAd E (22 + d22))), (3, .ref (cAd E (46 + d8))), (0, .ref (cAd E 0)), (1, .int p1), (2, .int p2)]) hx hb dX7_ask_48 hl (by decide) rfl (fun ls hl => ?_)
          refine lv_aload hx hb dX7_ask_50 (lv_at hl 0 rfl) ?_
          refine lv_ifnull hx hb dX7_ask_52 ?_
          refine lv_aload hx hb dX7_ask_55 (lv_at hl 0 rfl) ?_
          refine lv_iload_n hx hb dX7_ask_57 rfl (lv_at hl 3 rfl) ?_
          obtain ⟨r28, σ27, h29, hf⟩ := cl_e hf
          refine kc_X7_145 F hP hS h26 h29 ⟨Nat.le_of_ble_eq_true rfl, Nat.le_of_ble_eq_true rfl⟩ hl.1 (Nat.le_of_ble_eq_true rfl) ⟨Nat.zero_le _, Nat.zero_le _⟩ dX7_ask_58 (fun H locs hP hS => ?_)
          refine lv_if_eq (tgt := 72) hx hb dX7_ask_61 (by decide) (fun h30 => ?_) (fun h30 => ?_)
          · rw [if_pos h30] at hf
            refine lv_aload_n hx hb dX7_ask_72 rfl (lv_at hl 2 rfl) ?_
            refine gf_X7_27 F hP dX7_ask_73 ?_
            refine lv_bipush (v := (15)) hx hb dX7_ask_76 (by decide) ?_
            obtain ⟨r32, σ31, h33, hf⟩ := cl_e hf
            refine kc_X7_75 F hP hS (Or.inr rfl) h33 ⟨Nat.le_of_ble_eq_true rfl, Nat.le_of_ble_eq_true rfl⟩ hl.1 (Nat.le_of_ble_eq_true rfl) ⟨Nat.zero_le _, Nat.zero_le _⟩ dX7_ask_78 (fun H locs hP hS => ?_)
            refine lv_pop hx hb dX7_ask_81 rfl ?_
            refine lv_bipush (v := (-2)) hx hb dX7_ask_82 (by decide) ?_
            exact g_iret B hP hS hf dX7_ask_84
          · rw [if_neg h30] at hf
            refine lv_aload_n hx hb dX7_ask_64 rfl (lv_at hl 2 rfl) ?_
            refine lv_iload_n hx hb dX7_ask_65 rfl (lv_at hl 3 rfl) ?_
            obtain ⟨r35, σ34, h36, hf⟩ := cl_e hf
            refine kc_X7_170 F hP hS h36 ⟨Nat.le_of_ble_eq_true rfl, Nat.le_of_ble_eq_true rfl⟩ hl.1 (Nat.le_of_ble_eq_true rfl) ⟨Nat.zero_le _, Nat.zero_le _⟩ dX7_ask_66 (fun e37 H locs hP hS => ?_) (fun d38 e37 H locs hP hS => ?_)
            · subst e37
              replace hf := oc_n hf
              refine lv_ifnullN (tgt := 85) hx hb dX7_ask_69 (by decide) ?_
              refine lv_aload hx hb dX7_ask_85 (lv_at hl 0 rfl) ?_
              refine gf_X7_173 F hP h26 dX7_ask_87 ?_
              refine gf_X7_177 F hP h26 dX7_ask_90 ?_
              refine lv_bipush (v := (7)) hx hb dX7_ask_93 (by decide) ?_
              refine lv_icmp_lt (tgt := 111) hx hb dX7_ask_95 (by decide) (fun h39 => ?_) (fun h39 => ?_)
              · rw [if_pos h39] at hf
                refine lv_aload hx hb dX7_ask_111 (lv_at hl 0 rfl) ?_
                refine gf_X7_173 F hP h26 dX7_ask_113 ?_
                obtain ⟨r41, σ40, h42, hf⟩ := cl_e hf
                refine kc_X7_180 F hP hS h26 h42 ⟨Nat.le_of_ble_eq_true rfl, Nat.le_of_ble_eq_true rfl⟩ hl.1 (Nat.le_of_ble_eq_true rfl) ⟨Nat.zero_le _, Nat.zero_le _⟩ dX7_ask_116 (fun H locs hP hS => ?_)
                refine lv_iload_n hx hb dX7_ask_119 rfl (lv_at hl 4 rfl) ?_
                refine lv_isub hx hb dX7_ask_120 ?_
                obtain ⟨x43, ex43, hf⟩ := vl_x hf
                rw [← ex43]
                refine lv_istore (lv' := [(5, .int x43), (4, .ref (cAd E (22 + d22))), (3, .ref (cAd E (46 + d8))), (0, .ref (cAd E 0)), (1, .int p1), (2, .int p2)]) hx hb dX7_ask_121 hl (by decide) rfl (fun ls hl => ?_)
                refine lv_iload hx hb dX7_ask_123 (lv_at hl 0 rfl) ?_
                refine lv_aload_n hx hb dX7_ask_125 rfl (lv_at hl 3 rfl) ?_
                refine gf_X7_33 F hP dX7_ask_126 ?_
                refine gf_X7_183 F hP (lay_ok _) dX7_ask_129 ?_
                refine lv_icmp_ge (tgt := 165) hx hb dX7_ask_132 (by decide) (fun h44 => ?_) (fun h44 => ?_)
                · rw [if_pos h44] at hf
                  refine lv_aload hx hb dX7_ask_165 (lv_at hl 1 rfl) ?_
                  refine gf_X7_173 F hP h26 dX7_ask_167 ?_
                  refine lv_iload_n hx hb dX7_ask_170 rfl (lv_at hl 4 rfl) ?_
                  refine lv_iload_n hx hb dX7_ask_171 rfl (lv_at hl 5 rfl) ?_
                  obtain ⟨r46, σ45, h47, hf⟩ := cl_e hf
                  refine kc_X7_191 F hP hS h26 h47 ⟨Nat.le_of_ble_eq_true rfl, Nat.le_of_ble_eq_true rfl⟩ hl.1 (Nat.le_of_ble_eq_true rfl) ⟨Nat.zero_le _, Nat.zero_le _⟩ dX7_ask_172 (fun H locs hP hS => ?_)
                  refine lv_iload hx hb dX7_ask_175 (lv_at hl 0 rfl) ?_
                  exact g_iret B hP hS hf dX7_ask_177
                · rw [if_neg h44] at hf
                  refine lv_aload_n hx hb dX7_ask_135 rfl (lv_at hl 3 rfl) ?_
                  refine gf_X7_27 F hP dX7_ask_136 ?_
                  refine lv_bipush (v := (17)) hx hb dX7_ask_139 (by decide) ?_
                  obtain ⟨r49, σ48, h50, hf⟩ := cl_e hf
                  refine kc_X7_75 F hP hS (Or.inr rfl) h50 ⟨Nat.le_of_ble_eq_true rfl, Nat.le_of_ble_eq_true rfl⟩ hl.1 (Nat.le_of_ble_eq_true rfl) ⟨Nat.zero_le _, Nat.zero_le _⟩ dX7_ask_141 (fun H locs hP hS => ?_)
                  refine lv_pop hx hb dX7_ask_144 rfl ?_
                  refine lv_aload_n hx hb dX7_ask_145 rfl (lv_at hl 3 rfl) ?_
                  refine gf_X7_27 F hP dX7_ask_146 ?_
                  refine lv_bipush (v := (30)) hx hb dX7_ask_149 (by decide) ?_
                  refine lv_iconst (v := 0) hx hb dX7_ask_151 (by decide) ?_
                  refine lv_iload hx hb dX7_ask_152 (lv_at hl 0 rfl) ?_
                  refine va_mmax hx hb (hml.trans hl.1.symm) hown (hts _ tw_589) (hts _ tw_31) (hts _ tw_3) (hts _ tw_32) (Nat.le_of_ble_eq_true rfl) (Nat.le_of_ble_eq_true rfl) (Nat.zero_le _) (Nat.zero_le _) dX7_ask_154 ?_
                  obtain ⟨x51, ex51, hf⟩ := vl_x hf
                  rw [← ex51]
                  refine lv_iadd hx hb dX7_ask_157 ?_
                  obtain ⟨r53, σ52, h54, hf⟩ := cl_e hf
                  refine kc_X7_75 F hP hS (Or.inr rfl) h54 ⟨Nat.le_of_ble_eq_true rfl, Nat.le_of_ble_eq_true rfl⟩ hl.1 (Nat.le_of_ble_eq_true rfl) ⟨Nat.zero_le _, Nat.zero_le _⟩ dX7_ask_158 (fun H locs hP hS => ?_)
                  refine lv_pop hx hb dX7_ask_161 rfl ?_
                  refine lv_bipush (v := (-3)) hx hb dX7_ask_162 (by decide) ?_
                  exact g_iret B hP hS hf dX7_ask_164
              · rw [if_neg h39] at hf
                refine lv_aload_n hx hb dX7_ask_98 rfl (lv_at hl 2 rfl) ?_
                refine gf_X7_27 F hP dX7_ask_99 ?_
                refine lv_bipush (v := (16)) hx hb dX7_ask_102 (by decide) ?_
                obtain ⟨r56, σ55, h57, hf⟩ := cl_e hf
                refine kc_X7_75 F hP hS (Or.inr rfl) h57 ⟨Nat.le_of_ble_eq_true rfl, Nat.le_of_ble_eq_true rfl⟩ hl.1 (Nat.le_of_ble_eq_true rfl) ⟨Nat.zero_le _, Nat.zero_le _⟩ dX7_ask_104 (fun H locs hP hS => ?_)
                refine lv_pop hx hb dX7_ask_107 rfl ?_
                refine lv_bipush (v := (-3)) hx hb dX7_ask_108 (by decide) ?_
                exact g_iret B hP hS hf dX7_ask_110
            · subst e37
              replace hf := oc_s hf
              obtain ⟨h58, hf⟩ := gd_e hf
              refine lv_ifnull hx hb dX7_ask_69 ?_
              refine lv_aload_n hx hb dX7_ask_72 rfl (lv_at hl 2 rfl) ?_
              refine gf_X7_27 F hP dX7_ask_73 ?_
              refine lv_bipush (v := (15)) hx hb dX7_ask_76 (by decide) ?_
              obtain ⟨r60, σ59, h61, hf⟩ := cl_e hf
              refine kc_X7_75 F hP hS (Or.inr rfl) h61 ⟨Nat.le_of_ble_eq_true rfl, Nat.le_of_ble_eq_true rfl⟩ hl.1 (Nat.le_of_ble_eq_true rfl) ⟨Nat.zero_le _, Nat.zero_le _⟩ dX7_ask_78 (fun H locs hP hS => ?_)
              refine lv_pop hx hb dX7_ask_81 rfl ?_
              refine lv_bipush (v := (-2)) hx hb dX7_ask_82 (by decide) ?_
              exact g_iret B hP hS hf dX7_ask_84
      · rw [if_neg h17] at hf
        refine lv_aload_n hx hb dX7_ask_28 rfl (lv_at hl 1 rfl) ?_
        refine gf_X7_27 F hP dX7_ask_29 ?_
        refine lv_bipush (v := (18)) hx hb dX7_ask_32 (by decide) ?_
        obtain ⟨r63, σ62, h64, hf⟩ := cl_e hf
        refine kc_X7_75 F hP hS (Or.inr rfl) h64 ⟨Nat.le_of_ble_eq_true rfl, Nat.le_of_ble_eq_true rfl⟩ hl.1 (Nat.le_of_ble_eq_true rfl) ⟨Nat.zero_le _, Nat.zero_le _⟩ dX7_ask_34 (fun H locs hP hS => ?_)
        refine lv_pop hx hb dX7_ask_37 rfl ?_
        refine lv_iconst (v := (-1)) hx hb dX7_ask_38 (by decide) ?_
        exact g_iret B hP hS hf dX7_ask_39
theorem c_X7_ask (l : Launch) {E : cEv} (hI : gIj (cG E)) {p1 : Int32} {p2 : Int32} {σ σ' : St} {r : Int32} (hf : f_X7_ask p1 p2 σ = some (r, σ')) : gMi l yX7_ask cX7_ask 6 .int rm_X7_ask [.ref (cAd E 0), .int p1, .int p2] (cG E) σ r σ' :=
  g_entry (by decide) (Nat.le_of_ble_eq_true rfl) hI (fun p e s m args below meth c B hP hS ls hl => w_X7_ask_e B _ _ σ hf _ _ ls hP hS hl)
section SC
variable {p : Program} {l : Launch} {e : Env} {R : Room} {s : State} {m : MethodId} {args : Array Value} {below : List Frame} {meth : Method} {c : Code} {H : Heap} {locs : List Loc} {cells slots : Nat} {Q : State → Prop}
variable {cc : ByteArray} {pc nL : Nat} {ls : Array Slot} {rest : List Value} {E : cEv} {σ : St}
theorem kc_X7_194 (F : gFx p m c cc nL s args RX7 (cG E)) (hP : gW (cG E) σ H) (hS : va_S (gA (cG E)) s.heap H locs) {o : Nat} (ho : o < 4) {p1 : Int32} {r : Int32} {σ' : St} (hf : f_X4_removeOf o p1 σ = some (r, σ')) (hR : rm_X4_removeOf.frames + 1 ≤ R.frames ∧ 8 + (4 + 11) + rm_X4_removeOf.locals ≤ R.locals) (hsz : ls.size = nL) (hrest : (rest.map fun v => v.category).sum ≤ 8) (hcs : cells ≤ R.cells ∧ slots ≤ R.slots) (hdg : decode cc pc = .ok (.invokevirtual 194, 3)) (kk : ∀ (H1 : Heap) (locs1 : List Loc), gW (cG E) σ' H1 → va_S (gA (cG E)) s.heap H1 locs1 → W p l e R s m args below meth c H1 locs1 cells slots Q (F0 m (pc + 3) ls (.int r :: rest))) : W p l e R s m args below meth c H locs cells slots Q (F0 m pc ls (.int p1 :: .ref (cAd E (26 + o)) :: rest)) :=
  g_callVi F hP hS (c_X4_removeOf l F.2.2.2.2.2.2.2 ho hf) (g_cwV (n := 1) F tw_598 tw_533 tw_534 tw_7 tw_535 (by decide +kernel) rfl rfl hR) (k := (26 + o)) (cin (by omega)) (ce_4 E _ ho) rfl (As := [.int p1]) rfl hsz rfl hrest hdg hcs kk
end SC
/-! PromisedSlots.release(I)I -/
def f_X7_release (p1 : Int32) (σ : St) : Option (Int32 × St) :=
  cl (f_X7_deviceAt p1 σ) fun r2 σ1 =>
  oc r2 (
    some ((-1 : Int32), σ1)) (fun d5 => gd (d5 < 8) <|
    cl (f_X7_promiserOf p1 σ1) fun r8 σ7 =>
    oc r8 (
      some ((-2 : Int32), σ7)) (fun d11 => gd (d11 < 4) <|
      cl (f_X4_removeOf d11 p1 σ7) fun r14 σ13 =>
      some (r14, σ13)))
abbrev rm_X7_release : Room := { frames := 3, cells := 0, slots := 0, locals := 68 }
set_option maxHeartbeats 4000000 in
set_option maxRecDepth 100000 in
theorem w_X7_release_e {p : Program} {l : Launch} {e : Env} {s : State} {m : MethodId} {args : Array Value} {below : List Frame} {meth : Method} {c : Code} {E : cEv} {r : Int32} {σ' : St} (B : gBx p m meth c cX7_release 3 (some .int) s args RX7 (cG E)) (p1 : Int32) (σ : St) (hf : f_X7_release p1 σ = some (r, σ')) (H : Heap) (locs : List Loc) (ls : Array Slot) (hP : gW (cG E) σ H) (hS : va_S (gA (cG E)) s.heap H locs) (hl : lv_has ls 3 [(0, .ref (cAd E 0)), (1, .int p1)]) : W p l e rm_X7_release s m args below meth c H locs 0 0 (gQi below args s (cG E) r σ') (F0 m 0 ls []) := by
  unfold f_X7_release at hf
  obtain ⟨F, hr, hlk⟩ := id B
  have hx := F.1
  have hb := F.2.1
  have hml := F.2.2.1
  have hown := F.2.2.2.1
  have hts := F.2.2.2.2.1
  refine lv_aload_n hx hb dX7_release_0 rfl (lv_at hl 0 rfl) ?_
  refine lv_iload_n hx hb dX7_release_1 rfl (lv_at hl 1 rfl) ?_
  obtain ⟨r2, σ1, h3, hf⟩ := cl_e hf
  refine kc_X7_138 F hP hS h3 ⟨Nat.le_of_ble_eq_true rfl, Nat.le_of_ble_eq_true rfl⟩ hl.1 (Nat.le_of_ble_eq_true rfl) ⟨Nat.zero_le _, Nat.zero_le _⟩ dX7_release_2 (fun e4 H locs hP hS => ?_) (fun d5 e4 H locs hP hS => ?_)
  · subst e4
    replace hf := oc_n hf
    refine lv_ifnonnullN hx hb dX7_release_5 ?_
    refine lv_iconst (v := (-1)) hx hb dX7_release_8 (by decide) ?_
    exact g_iret B hP hS hf dX7_release_9
  · subst e4
    replace hf := oc_s hf
    obtain ⟨h6, hf⟩ := gd_e hf
    refine lv_ifnonnull (tgt := 10) hx hb dX7_release_5 (by decide) ?_
    refine lv_aload_n hx hb dX7_release_10 rfl (lv_at hl 0 rfl) ?_
    refine lv_iload_n hx hb dX7_release_11 rfl (lv_at hl 1 rfl) ?_
    obtain ⟨r8, σ7, h9, hf⟩ := cl_e hf
    refine kc_X7_170 F hP hS h9 ⟨Nat.le_of_ble_eq_true rfl, Nat.le_of_ble_eq_true rfl⟩ hl.1 (Nat.le_of_ble_eq_true rfl) ⟨Nat.zero_le _, Nat.zero_le _⟩ dX7_release_12 (fun e10 H locs hP hS => ?_) (fun d11 e10 H locs hP hS => ?_)
    · subst e10
      replace hf := oc_n hf
      refine lv_astore_nN (lv' := [(2, .null), (0, .ref (cAd E 0)), (1, .int p1)]) hx hb dX7_release_15 rfl hl (by decide) rfl (fun ls hl => ?_)
      refine lv_aload_nN hx hb dX7_release_16 rfl (lv_at hl 0 rfl) ?_
      refine lv_ifnonnullN hx hb dX7_release_17 ?_
      refine lv_bipush (v := (-2)) hx hb dX7_release_20 (by decide) ?_
      refine lv_goto (tgt := 33) hx hb dX7_release_22 (by decide) ?_
      exact g_iret B hP hS hf dX7_release_33
    · subst e10
      replace hf := oc_s hf
      obtain ⟨h12, hf⟩ := gd_e hf
      refine lv_astore_n (lv' := [(2, .ref (cAd E (22 + d11))), (0, .ref (cAd E 0)), (1, .int p1)]) hx hb dX7_release_15 rfl hl (by decide) rfl (fun ls hl => ?_)
      refine lv_aload_n hx hb dX7_release_16 rfl (lv_at hl 0 rfl) ?_
      refine lv_ifnonnull (tgt := 25) hx hb dX7_release_17 (by decide) ?_
      refine lv_aload_n hx hb dX7_release_25 rfl (lv_at hl 0 rfl) ?_
      refine gf_X7_173 F hP h12 dX7_release_26 ?_
      refine lv_iload_n hx hb dX7_release_29 rfl (lv_at hl 2 rfl) ?_
      obtain ⟨r14, σ13, h15, hf⟩ := cl_e hf
      refine kc_X7_194 F hP hS h12 h15 ⟨Nat.le_of_ble_eq_true rfl, Nat.le_of_ble_eq_true rfl⟩ hl.1 (Nat.le_of_ble_eq_true rfl) ⟨Nat.zero_le _, Nat.zero_le _⟩ dX7_release_30 (fun H locs hP hS => ?_)
      exact g_iret B hP hS hf dX7_release_33
theorem c_X7_release (l : Launch) {E : cEv} (hI : gIj (cG E)) {p1 : Int32} {σ σ' : St} {r : Int32} (hf : f_X7_release p1 σ = some (r, σ')) : gMi l yX7_release cX7_release 3 .int rm_X7_release [.ref (cAd E 0), .int p1] (cG E) σ r σ' :=
  g_entry (by decide) (Nat.le_of_ble_eq_true rfl) hI (fun p e s m args below meth c B hP hS ls hl => w_X7_release_e B _ σ hf _ _ ls hP hS hl)
section SC
variable {p : Program} {l : Launch} {e : Env} {R : Room} {s : State} {m : MethodId} {args : Array Value} {below : List Frame} {meth : Method} {c : Code} {H : Heap} {locs : List Loc} {cells slots : Nat} {Q : State → Prop}
variable {cc : ByteArray} {pc nL : Nat} {ls : Array Slot} {rest : List Value} {E : cEv} {σ : St}
theorem kc_X7_197 (F : gFx p m c cc nL s args RX7 (cG E)) (hP : gW (cG E) σ H) (hS : va_S (gA (cG E)) s.heap H locs) {o : Nat} (ho : o < 4) {p1 : Int32} {p2 : Int32} {r : Int32} {σ' : St} (hf : f_X4_tell o p1 p2 σ = some (r, σ')) (hR : rm_X4_tell.frames + 1 ≤ R.frames ∧ 8 + (3 + 11) + rm_X4_tell.locals ≤ R.locals) (hsz : ls.size = nL) (hrest : (rest.map fun v => v.category).sum ≤ 8) (hcs : cells ≤ R.cells ∧ slots ≤ R.slots) (hdg : decode cc pc = .ok (.invokevirtual 197, 3)) (kk : ∀ (H1 : Heap) (locs1 : List Loc), gW (cG E) σ' H1 → va_S (gA (cG E)) s.heap H1 locs1 → W p l e R s m args below meth c H1 locs1 cells slots Q (F0 m (pc + 3) ls (.int r :: rest))) : W p l e R s m args below meth c H locs cells slots Q (F0 m pc ls (.int p2 :: .int p1 :: .ref (cAd E (26 + o)) :: rest)) :=
  g_callVi F hP hS (c_X4_tell l F.2.2.2.2.2.2.2 ho hf) (g_cwV (n := 2) F tw_603 tw_541 tw_542 tw_7 tw_543 (by decide +kernel) rfl rfl hR) (k := (26 + o)) (cin (by omega)) (ce_4 E _ ho) rfl (As := [.int p1, .int p2]) rfl hsz rfl hrest hdg hcs kk
end SC
/-! PromisedSlots.promise(III)I -/
def f_X7_promise (p1 : Int32) (p2 : Int32) (p3 : Int32) (σ : St) : Option (Int32 × St) :=
  cl (f_X7_coordinatorAt p1 σ) fun r2 σ1 =>
  oc r2 (
    some ((-1 : Int32), σ1)) (fun d5 => gd (d5 < 4) <|
    if p2 < (-1 : Int32) then
      some ((-1 : Int32), σ1)
    else
      if p3 < 0 then
        some ((-1 : Int32), σ1)
      else
        if p3 ≤ (3 : Int32) then
          if p2 = (-1 : Int32) then
            some ((σ1 (26 + d5) 3), σ1)
          else
            cl (f_X4_tell d5 p2 p3 σ1) fun r12 σ11 =>
            some (r12, σ11)
        else
          some ((-1 : Int32), σ1))
abbrev rm_X7_promise : Room := { frames := 2, cells := 0, slots := 0, locals := 45 }
set_option maxHeartbeats 4000000 in
set_option maxRecDepth 100000 in
theorem w_X7_promise_e {p : Program} {l : Launch} {e : Env} {s : State} {m : MethodId} {args : Array Value} {below : List Frame} {meth : Method} {c : Code} {E : cEv} {r : Int32} {σ' : St} (B : gBx p m meth c cX7_promise 5 (some .int) s args RX7 (cG E)) (p1 : Int32) (p2 : Int32) (p3 : Int32) (σ : St) (hf : f_X7_promise p1 p2 p3 σ = some (r, σ')) (H : Heap) (locs : List Loc) (ls : Array Slot) (hP : gW (cG E) σ H) (hS : va_S (gA (cG E)) s.heap H locs) (hl : lv_has ls 5 [(0, .ref (cAd E 0)), (1, .int p1), (2, .int p2), (3, .int p3)]) : W p l e rm_X7_promise s m args below meth c H locs 0 0 (gQi below args s (cG E) r σ') (F0 m 0 ls []) := by
  unfold f_X7_promise at hf
  obtain ⟨F, hr, hlk⟩ := id B
  have hx := F.1
  have hb := F.2.1
  have hml := F.2.2.1
  have hown := F.2.2.2.1
  have hts := F.2.2.2.2.1
  refine lv_aload_n hx hb dX7_promise_0 rfl (lv_at hl 0 rfl) ?_
  refine lv_iload_n hx hb dX7_promise_1 rfl (lv_at hl 1 rfl) ?_
  obtain ⟨r2, σ1, h3, hf⟩ := cl_e hf
  refine kc_X7_103 F hP hS h3 ⟨Nat.le_of_ble_eq_true rfl, Nat.le_of_ble_eq_true rfl⟩ hl.1 (Nat.le_of_ble_eq_true rfl) ⟨Nat.zero_le _, Nat.zero_le _⟩ dX7_promise_2 (fun e4 H locs hP hS => ?_) (fun d5 e4 H locs hP hS => ?_)
  · subst e4
    replace hf := oc_n hf
    refine lv_astoreN (lv' := [(4, .null), (0, .ref (cAd E 0)), (1, .int p1), (2, .int p2), (3, .int p3)]) hx hb dX7_promise_5 hl (by decide) rfl (fun ls hl => ?_)
    refine lv_aloadN hx hb dX7_promise_7 (lv_at hl 0 rfl) ?_
    refine lv_ifnullN (tgt := 26) hx hb dX7_promise_9 (by decide) ?_
    refine lv_iconst (v := (-1)) hx hb dX7_promise_26 (by decide) ?_
    exact g_iret B hP hS hf dX7_promise_27
  · subst e4
    replace hf := oc_s hf
    obtain ⟨h6, hf⟩ := gd_e hf
    refine lv_astore (lv' := [(4, .ref (cAd E (22 + d5))), (0, .ref (cAd E 0)), (1, .int p1), (2, .int p2), (3, .int p3)]) hx hb dX7_promise_5 hl (by decide) rfl (fun ls hl => ?_)
    refine lv_aload hx hb dX7_promise_7 (lv_at hl 0 rfl) ?_
    refine lv_ifnull hx hb dX7_promise_9 ?_
    refine lv_iload_n hx hb dX7_promise_12 rfl (lv_at hl 3 rfl) ?_
    refine lv_iconst (v := (-1)) hx hb dX7_promise_13 (by decide) ?_
    refine lv_icmp_lt (tgt := 26) hx hb dX7_promise_14 (by decide) (fun h7 => ?_) (fun h7 => ?_)
    · rw [if_pos h7] at hf
      refine lv_iconst (v := (-1)) hx hb dX7_promise_26 (by decide) ?_
      exact g_iret B hP hS hf dX7_promise_27
    · rw [if_neg h7] at hf
      refine lv_iload_n hx hb dX7_promise_17 rfl (lv_at hl 4 rfl) ?_
      refine lv_if_lt (tgt := 26) hx hb dX7_promise_18 (by decide) (fun h8 => ?_) (fun h8 => ?_)
      · rw [if_pos h8] at hf
        refine lv_iconst (v := (-1)) hx hb dX7_promise_26 (by decide) ?_
        exact g_iret B hP hS hf dX7_promise_27
      · rw [if_neg h8] at hf
        refine lv_iload_n hx hb dX7_promise_21 rfl (lv_at hl 4 rfl) ?_
        refine lv_iconst (v := 3) hx hb dX7_promise_22 (by decide) ?_
        refine lv_icmp_le (tgt := 28) hx hb dX7_promise_23 (by decide) (fun h9 => ?_) (fun h9 => ?_)
        · rw [if_pos h9] at hf
          refine lv_iload_n hx hb dX7_promise_28 rfl (lv_at hl 3 rfl) ?_
          refine lv_iconst (v := (-1)) hx hb dX7_promise_29 (by decide) ?_
          refine lv_icmp_ne (tgt := 44) hx hb dX7_promise_30 (by decide) (fun h10 => ?_) (fun h10 => ?_)
          · rw [if_neg h10] at hf
            refine lv_aload hx hb dX7_promise_44 (lv_at hl 0 rfl) ?_
            refine gf_X7_173 F hP h6 dX7_promise_46 ?_
            refine lv_iload_n hx hb dX7_promise_49 rfl (lv_at hl 3 rfl) ?_
            refine lv_iload_n hx hb dX7_promise_50 rfl (lv_at hl 4 rfl) ?_
            obtain ⟨r12, σ11, h13, hf⟩ := cl_e hf
            refine kc_X7_197 F hP hS h6 h13 ⟨Nat.le_of_ble_eq_true rfl, Nat.le_of_ble_eq_true rfl⟩ hl.1 (Nat.le_of_ble_eq_true rfl) ⟨Nat.zero_le _, Nat.zero_le _⟩ dX7_promise_51 (fun H locs hP hS => ?_)
            exact g_iret B hP hS hf dX7_promise_54
          · rw [if_pos h10] at hf
            refine lv_aload hx hb dX7_promise_33 (lv_at hl 0 rfl) ?_
            refine gf_X7_173 F hP h6 dX7_promise_35 ?_
            refine gf_X7_177 F hP h6 dX7_promise_38 ?_
            refine lv_goto (tgt := 54) hx hb dX7_promise_41 (by decide) ?_
            exact g_iret B hP hS hf dX7_promise_54
        · rw [if_neg h9] at hf
          refine lv_iconst (v := (-1)) hx hb dX7_promise_26 (by decide) ?_
          exact g_iret B hP hS hf dX7_promise_27
theorem c_X7_promise (l : Launch) {E : cEv} (hI : gIj (cG E)) {p1 : Int32} {p2 : Int32} {p3 : Int32} {σ σ' : St} {r : Int32} (hf : f_X7_promise p1 p2 p3 σ = some (r, σ')) : gMi l yX7_promise cX7_promise 5 .int rm_X7_promise [.ref (cAd E 0), .int p1, .int p2, .int p3] (cG E) σ r σ' :=
  g_entry (by decide) (Nat.le_of_ble_eq_true rfl) hI (fun p e s m args below meth c B hP hS ls hl => w_X7_promise_e B _ _ _ σ hf _ _ ls hP hS hl)
section SC
variable {p : Program} {l : Launch} {e : Env} {R : Room} {s : State} {m : MethodId} {args : Array Value} {below : List Frame} {meth : Method} {c : Code} {H : Heap} {locs : List Loc} {cells slots : Nat} {Q : State → Prop}
variable {cc : ByteArray} {pc nL : Nat} {ls : Array Slot} {rest : List Value} {E : cEv} {σ : St}
theorem gf_X7_257 (F : gFx p m c cc nL s args RX7 (cG E)) (hP : gW (cG E) σ H) {o : Nat} (ho : o < 4) (hdg : decode cc pc = .ok (.getfield 257, 3)) (kk : W p l e R s m args below meth c H locs cells slots Q (F0 m (pc + 3) ls (.int (σ (22 + o) 3) :: rest))) : W p l e R s m args below meth c H locs cells slots Q (F0 m pc ls (.ref (cAd E (22 + o)) :: rest)) :=
  g_getN F hP (k := (22 + o)) (cin (by omega)) (ce_1 E _ ho) rfl inX1 3 (by decide) tw_149 rfl rfl hdg kk
end SC
/-! PromisedSlots.nextToBeacon()I -/
def b_X7_nextToBeacon_4 (K4 : (Int32 × Int32 × St → Option (Int32 × St))) (a1 : Int32) (a2 : Int32) (σ : St) : Option (Int32 × St) :=
  if (σ (lay (σ 0 6)) 5) ≤ a2 then
    some (a1, σ)
  else
    if (4 : Int32) ≤ a2 then
      some (a1, σ)
    else
      gd (ix a2 4) <|
      vl (nt a2) fun d4 =>
      gd (ix a1 4) <|
      vl (nt a1) fun d7 =>
      if (σ (22 + d7) 3) ≤ (σ (22 + d4) 3) then
        vl (a2 + (1 : Int32)) fun x10 =>
        K4 (a1, x10, σ)
      else
        vl (a2 + (1 : Int32)) fun x11 =>
        K4 (a2, x11, σ)
def f_X7_nextToBeacon (σ : St) : Option (Int32 × St) :=
  lp (fun K a => b_X7_nextToBeacon_4 K a.1 a.2.1 a.2.2) FU ((0 : Int32), (1 : Int32), σ)
abbrev rm_X7_nextToBeacon : Room := { frames := 0, cells := 0, slots := 0, locals := 0 }
def P_X7_nextToBeacon_4 (p : Program) (l : Launch) (e : Env) (s : State) (m : MethodId) (args : Array Value) (below : List Frame) (meth : Method) (c : Code) (E : cEv) (r : Int32) (σ' : St) (a : Int32 × Int32 × St) : Prop := ∀ (H : Heap) (locs : List Loc) (ls : Array Slot), gW (cG E) a.2.2 H → va_S (gA (cG E)) s.heap H locs → lv_has ls 3 [(0, .ref (cAd E 0)), (1, .int a.1), (2, .int a.2.1)] → W p l e rm_X7_nextToBeacon s m args below meth c H locs 0 0 (gQi below args s (cG E) r σ') (F0 m 4 ls [])
set_option maxHeartbeats 4000000 in
set_option maxRecDepth 100000 in
theorem w_X7_nextToBeacon_4 {p : Program} {l : Launch} {e : Env} {s : State} {m : MethodId} {args : Array Value} {below : List Frame} {meth : Method} {c : Code} {E : cEv} {r : Int32} {σ' : St} (B : gBx p m meth c cX7_nextToBeacon 3 (some .int) s args RX7 (cG E)) {K4 : (Int32 × Int32 × St → Option (Int32 × St))} (hK4 : ∀ a, K4 a = some (r, σ') → P_X7_nextToBeacon_4 p l e s m args below meth c E r σ' a) (a1 : Int32) (a2 : Int32) (σ : St) (hf : b_X7_nextToBeacon_4 K4 a1 a2 σ = some (r, σ')) (H : Heap) (locs : List Loc) (ls : Array Slot) (hP : gW (cG E) σ H) (hS : va_S (gA (cG E)) s.heap H locs) (hl : lv_has ls 3 [(0, .ref (cAd E 0)), (1, .int a1), (2, .int a2)]) : W p l e rm_X7_nextToBeacon s m args below meth c H locs 0 0 (gQi below args s (cG E) r σ') (F0 m 4 ls []) := by
  unfold b_X7_nextToBeacon_4 at hf
  obtain ⟨F, hr, hlk⟩ := id B
  have hx := F.1
  have hb := F.2.1
  have hml := F.2.2.1
  have hown := F.2.2.2.1
  have hts := F.2.2.2.2.1
  refine lv_iload_n hx hb dX7_nextToBeacon_4 rfl (lv_at hl 2 rfl) ?_
  refine lv_aload_n hx hb dX7_nextToBeacon_5 rfl (lv_at hl 0 rfl) ?_
  refine gf_X7_33 F hP dX7_nextToBeacon_6 ?_
  refine gf_X7_110 F hP (lay_ok _) dX7_nextToBeacon_9 ?_
  refine lv_icmp_ge (tgt := 53) hx hb dX7_nextToBeacon_12 (by decide) (fun h1 => ?_) (fun h1 => ?_)
  · rw [if_pos h1] at hf
    refine lv_iload_n hx hb dX7_nextToBeacon_53 rfl (lv_at hl 1 rfl) ?_
    exact g_iret B hP hS hf dX7_nextToBeacon_54
  · rw [if_neg h1] at hf
    refine lv_iload_n hx hb dX7_nextToBeacon_15 rfl (lv_at hl 2 rfl) ?_
    refine lv_aload_n hx hb dX7_nextToBeacon_16 rfl (lv_at hl 0 rfl) ?_
    refine gf_X7_42 F hP dX7_nextToBeacon_17 ?_
    refine c_alenC F hP dX7_nextToBeacon_20 ?_
    refine lv_icmp_ge (tgt := 53) hx hb dX7_nextToBeacon_21 (by decide) (fun h2 => ?_) (fun h2 => ?_)
    · rw [if_pos h2] at hf
      refine lv_iload_n hx hb dX7_nextToBeacon_53 rfl (lv_at hl 1 rfl) ?_
      exact g_iret B hP hS hf dX7_nextToBeacon_54
    · rw [if_neg h2] at hf
      refine lv_aload_n hx hb dX7_nextToBeacon_24 rfl (lv_at hl 0 rfl) ?_
      refine gf_X7_42 F hP dX7_nextToBeacon_25 ?_
      refine lv_iload_n hx hb dX7_nextToBeacon_28 rfl (lv_at hl 2 rfl) ?_
      obtain ⟨h3, hf⟩ := gd_e hf
      refine c_aldC F hP h3 dX7_nextToBeacon_29 ?_
      have h5 := ix_lt h3
      obtain ⟨d4, ed4, hf⟩ := vl_x hf
      rw [← ed4] at h5 ⊢
      refine gf_X7_257 F hP h5 dX7_nextToBeacon_30 ?_
      refine lv_aload_n hx hb dX7_nextToBeacon_33 rfl (lv_at hl 0 rfl) ?_
      refine gf_X7_42 F hP dX7_nextToBeacon_34 ?_
      refine lv_iload_n hx hb dX7_nextToBeacon_37 rfl (lv_at hl 1 rfl) ?_
      obtain ⟨h6, hf⟩ := gd_e hf
      refine c_aldC F hP h6 dX7_nextToBeacon_38 ?_
      have h8 := ix_lt h6
      obtain ⟨d7, ed7, hf⟩ := vl_x hf
      rw [← ed7] at h8 ⊢
      refine gf_X7_257 F hP h8 dX7_nextToBeacon_39 ?_
      refine lv_icmp_ge (tgt := 47) hx hb dX7_nextToBeacon_42 (by decide) (fun h9 => ?_) (fun h9 => ?_)
      · rw [if_pos h9] at hf
        refine lv_iinc (v := a2 + (1 : Int32)) (lv' := [(2, .int (a2 + (1 : Int32))), (0, .ref (cAd E 0)), (1, .int a1)]) hx hb dX7_nextToBeacon_47 hl (k := 2) rfl rfl (by decide) rfl (fun ls hl => ?_)
        obtain ⟨x10, ex10, hf⟩ := vl_x hf
        rw [← ex10] at hl
        refine lv_goto (tgt := 4) hx hb dX7_nextToBeacon_50 (by decide) ?_
        exact hK4 _ hf _ _ _ hP hS (lv_sub hl [1, 2, 0] rfl)
      · rw [if_neg h9] at hf
        refine lv_iload_n hx hb dX7_nextToBeacon_45 rfl (lv_at hl 2 rfl) ?_
        refine lv_istore_n (lv' := [(1, .int a2), (0, .ref (cAd E 0)), (2, .int a2)]) hx hb dX7_nextToBeacon_46 rfl hl (by decide) rfl (fun ls hl => ?_)
        refine lv_iinc (v := a2 + (1 : Int32)) (lv' := [(2, .int (a2 + (1 : Int32))), (1, .int a2), (0, .ref (cAd E 0))]) hx hb dX7_nextToBeacon_47 hl (k := 2) rfl rfl (by decide) rfl (fun ls hl => ?_)
        obtain ⟨x11, ex11, hf⟩ := vl_x hf
        rw [← ex11] at hl
        refine lv_goto (tgt := 4) hx hb dX7_nextToBeacon_50 (by decide) ?_
        exact hK4 _ hf _ _ _ hP hS (lv_sub hl [2, 1, 0] rfl)
set_option maxHeartbeats 4000000 in
set_option maxRecDepth 100000 in
theorem w_X7_nextToBeacon_e {p : Program} {l : Launch} {e : Env} {s : State} {m : MethodId} {args : Array Value} {below : List Frame} {meth : Method} {c : Code} {E : cEv} {r : Int32} {σ' : St} (B : gBx p m meth c cX7_nextToBeacon 3 (some .int) s args RX7 (cG E)) (σ : St) (hf : f_X7_nextToBeacon σ = some (r, σ')) (H : Heap) (locs : List Loc) (ls : Array Slot) (hP : gW (cG E) σ H) (hS : va_S (gA (cG E)) s.heap H locs) (hl : lv_has ls 3 [(0, .ref (cAd E 0))]) : W p l e rm_X7_nextToBeacon s m args below meth c H locs 0 0 (gQi below args s (cG E) r σ') (F0 m 0 ls []) := by
  unfold f_X7_nextToBeacon at hf
  obtain ⟨F, hr, hlk⟩ := id B
  have hx := F.1
  have hb := F.2.1
  have hml := F.2.2.1
  have hown := F.2.2.2.1
  have hts := F.2.2.2.2.1
  refine lv_iconst (v := 0) hx hb dX7_nextToBeacon_0 (by decide) ?_
  refine lv_istore_n (lv' := [(1, .int (0 : Int32)), (0, .ref (cAd E 0))]) hx hb dX7_nextToBeacon_1 rfl hl (by decide) rfl (fun ls hl => ?_)
  refine lv_iconst (v := 1) hx hb dX7_nextToBeacon_2 (by decide) ?_
  refine lv_istore_n (lv' := [(2, .int (1 : Int32)), (1, .int (0 : Int32)), (0, .ref (cAd E 0))]) hx hb dX7_nextToBeacon_3 rfl hl (by decide) rfl (fun ls hl => ?_)
  exact lp_w (P := P_X7_nextToBeacon_4 p l e s m args below meth c E r σ') (fun K hK a ha => w_X7_nextToBeacon_4 B hK a.1 a.2.1 a.2.2 ha) FU _ hf _ _ _ hP hS (lv_sub hl [2, 1, 0] rfl)
theorem c_X7_nextToBeacon (l : Launch) {E : cEv} (hI : gIj (cG E)) {σ σ' : St} {r : Int32} (hf : f_X7_nextToBeacon σ = some (r, σ')) : gMi l yX7_nextToBeacon cX7_nextToBeacon 3 .int rm_X7_nextToBeacon [.ref (cAd E 0)] (cG E) σ r σ' :=
  g_entry (by decide) (Nat.le_of_ble_eq_true rfl) hI (fun p e s m args below meth c B hP hS ls hl => w_X7_nextToBeacon_e B σ hf _ _ ls hP hS hl)
section SC
variable {p : Program} {l : Launch} {e : Env} {R : Room} {s : State} {m : MethodId} {args : Array Value} {below : List Frame} {meth : Method} {c : Code} {H : Heap} {locs : List Loc} {cells slots : Nat} {Q : State → Prop}
variable {cc : ByteArray} {pc nL : Nat} {ls : Array Slot} {rest : List Value} {E : cEv} {σ : St}
theorem pf_X7_283 (F : gFx p m c cc nL s args RX7 (cG E)) (hP : gW (cG E) σ H) (hS : va_S (gA (cG E)) s.heap H locs) {o : Nat} (ho : o < 8) {x : Int32} (hx : x = 0 ∨ x = 1) (hdg : decode cc pc = .ok (.putfield 283, 3)) (kk : ∀ (H1 : Heap) (locs1 : List Loc), gW (cG E) (up2 σ (46 + o) 15 x) H1 → va_S (gA (cG E)) s.heap H1 locs1 → W p l e R s m args below meth c H1 locs1 cells slots Q (F0 m (pc + 3) ls rest)) : W p l e R s m args below meth c H locs cells slots Q (F0 m pc ls (.int x :: .ref (cAd E (46 + o)) :: rest)) :=
  g_putN F hP hS (k := (46 + o)) (cin (by omega)) (ce_2 E _ ho) rfl inX2 tyX2 tyX2_ok nmX2 15 (by decide) tw_203 rfl rfl (nb_ok hx) (nb_fit hx) (Nat.le_of_ble_eq_true rfl) (x := x) (jj := 15) (ce_2 E _ ho) hdg kk
theorem kc_X7_280 (F : gFx p m c cc nL s args RX7 (cG E)) (hP : gW (cG E) σ H) (hS : va_S (gA (cG E)) s.heap H locs) {o : Nat} (ho : o < 8) {r : Int32} {σ' : St} (hf : f_X2_hearsBeacon o σ = some (r, σ')) (hR : rm_X2_hearsBeacon.frames + 1 ≤ R.frames ∧ 8 + (1 + 11) + rm_X2_hearsBeacon.locals ≤ R.locals) (hsz : ls.size = nL) (hrest : (rest.map fun v => v.category).sum ≤ 8) (hcs : cells ≤ R.cells ∧ slots ≤ R.slots) (hdg : decode cc pc = .ok (.invokevirtual 280, 3)) (kk : ∀ (H1 : Heap) (locs1 : List Loc), gW (cG E) σ' H1 → va_S (gA (cG E)) s.heap H1 locs1 → W p l e R s m args below meth c H1 locs1 cells slots Q (F0 m (pc + 3) ls (.int r :: rest))) : W p l e R s m args below meth c H locs cells slots Q (F0 m pc ls (.ref (cAd E (46 + o)) :: rest)) :=
  g_callVi F hP hS (c_X2_hearsBeacon l F.2.2.2.2.2.2.2 ho hf) (g_cwV (n := 0) F tw_627 tw_628 tw_629 tw_8 tw_630 (by decide +kernel) rfl rfl hR) (k := (46 + o)) (cin (by omega)) (ce_2 E _ ho) rfl (As := []) rfl hsz rfl hrest hdg hcs kk
end SC
/-! PromisedSlots.hearBeacon(I)V -/
def b_X7_hearBeacon_11 (K11 : (Int32 × Int32 × Int32 × St → Option (Unit × St))) (a1 : Int32) (a3 : Int32) (a4 : Int32) (σ : St) : Option (Unit × St) :=
  if a3 ≤ a4 then
    some ((), σ)
  else
    gd (ix a4 8) <|
    vl (nt a4) fun d3 =>
    if (σ (46 + d3) 1) = a1 then
      cl (f_X2_hearsBeacon d3 σ) fun r9 σ8 =>
      if r9 = 0 then
        vl (up2 σ8 (46 + d3) 15 (0 : Int32)) fun σ12 =>
        vl (a4 + (1 : Int32)) fun x13 =>
        K11 (a1, a3, x13, σ12)
      else
        vl (up2 σ8 (46 + d3) 15 (1 : Int32)) fun σ14 =>
        vl (a4 + (1 : Int32)) fun x15 =>
        K11 (a1, a3, x15, σ14)
    else
      vl (up2 σ (46 + d3) 15 (0 : Int32)) fun σ6 =>
      vl (a4 + (1 : Int32)) fun x7 =>
      K11 (a1, a3, x7, σ6)
def f_X7_hearBeacon (p1 : Int32) (σ : St) : Option (Unit × St) :=
  lp (fun K a => b_X7_hearBeacon_11 K a.1 a.2.1 a.2.2.1 a.2.2.2) FU (p1, (8 : Int32), (0 : Int32), σ)
abbrev rm_X7_hearBeacon : Room := { frames := 1, cells := 0, slots := 0, locals := 20 }
def P_X7_hearBeacon_11 (p : Program) (l : Launch) (e : Env) (s : State) (m : MethodId) (args : Array Value) (below : List Frame) (meth : Method) (c : Code) (E : cEv) (σ' : St) (a : Int32 × Int32 × Int32 × St) : Prop := ∀ (H : Heap) (locs : List Loc) (ls : Array Slot), gW (cG E) a.2.2.2 H → va_S (gA (cG E)) s.heap H locs → lv_has ls 6 [(1, .int a.1), (2, .ref (cAd E 21)), (3, .int a.2.1), (4, .int a.2.2.1)] → W p l e rm_X7_hearBeacon s m args below meth c H locs 0 0 (gQv below args s (cG E) σ') (F0 m 11 ls [])
set_option maxHeartbeats 4000000 in
set_option maxRecDepth 100000 in
theorem w_X7_hearBeacon_11 {p : Program} {l : Launch} {e : Env} {s : State} {m : MethodId} {args : Array Value} {below : List Frame} {meth : Method} {c : Code} {E : cEv} {u : Unit} {σ' : St} (B : gBx p m meth c cX7_hearBeacon 6 none s args RX7 (cG E)) {K11 : (Int32 × Int32 × Int32 × St → Option (Unit × St))} (hK11 : ∀ a, K11 a = some (u, σ') → P_X7_hearBeacon_11 p l e s m args below meth c E σ' a) (a1 : Int32) (a3 : Int32) (a4 : Int32) (σ : St) (hf : b_X7_hearBeacon_11 K11 a1 a3 a4 σ = some (u, σ')) (H : Heap) (locs : List Loc) (ls : Array Slot) (hP : gW (cG E) σ H) (hS : va_S (gA (cG E)) s.heap H locs) (hl : lv_has ls 6 [(1, .int a1), (2, .ref (cAd E 21)), (3, .int a3), (4, .int a4)]) : W p l e rm_X7_hearBeacon s m args below meth c H locs 0 0 (gQv below args s (cG E) σ') (F0 m 11 ls []) := by
  unfold b_X7_hearBeacon_11 at hf
  obtain ⟨F, hr, hlk⟩ := id B
  have hx := F.1
  have hb := F.2.1
  have hml := F.2.2.1
  have hown := F.2.2.2.1
  have hts := F.2.2.2.2.1
  refine lv_iload hx hb dX7_hearBeacon_11 (lv_at hl 3 rfl) ?_
  refine lv_iload_n hx hb dX7_hearBeacon_13 rfl (lv_at hl 2 rfl) ?_
  refine lv_icmp_ge (tgt := 56) hx hb dX7_hearBeacon_14 (by decide) (fun h1 => ?_) (fun h1 => ?_)
  · rw [if_pos h1] at hf
    exact g_vret B hP hS hf dX7_hearBeacon_56
  · rw [if_neg h1] at hf
    refine lv_aload_n hx hb dX7_hearBeacon_17 rfl (lv_at hl 1 rfl) ?_
    refine lv_iload hx hb dX7_hearBeacon_18 (lv_at hl 3 rfl) ?_
    obtain ⟨h2, hf⟩ := gd_e hf
    refine c_aldD F hP h2 dX7_hearBeacon_20 ?_
    have h4 := ix_lt h2
    obtain ⟨d3, ed3, hf⟩ := vl_x hf
    rw [← ed3] at h4 ⊢
    refine lv_astore (lv' := [(5, .ref (cAd E (46 + d3))), (1, .int a1), (2, .ref (cAd E 21)), (3, .int a3), (4, .int a4)]) hx hb dX7_hearBeacon_21 hl (by decide) rfl (fun ls hl => ?_)
    refine lv_aload hx hb dX7_hearBeacon_23 (lv_at hl 0 rfl) ?_
    refine lv_aload hx hb dX7_hearBeacon_25 (lv_at hl 0 rfl) ?_
    refine gf_X7_142 F hP h4 dX7_hearBeacon_27 ?_
    refine lv_iload_n hx hb dX7_hearBeacon_30 rfl (lv_at hl 1 rfl) ?_
    refine lv_icmp_ne (tgt := 46) hx hb dX7_hearBeacon_31 (by decide) (fun h5 => ?_) (fun h5 => ?_)
    · rw [if_neg h5] at hf
      refine lv_iconst (v := 0) hx hb dX7_hearBeacon_46 (by decide) ?_
      refine pf_X7_283 F hP hS h4 (by decide) dX7_hearBeacon_47 (fun H locs hP hS => ?_)
      obtain ⟨σ6, eσ6, hf⟩ := vl_x hf
      rw [← eσ6] at hP
      refine lv_iinc (v := a4 + (1 : Int32)) (lv' := [(4, .int (a4 + (1 : Int32))), (5, .ref (cAd E (46 + d3))), (1, .int a1), (2, .ref (cAd E 21)), (3, .int a3)]) hx hb dX7_hearBeacon_50 hl (k := 4) rfl rfl (by decide) rfl (fun ls hl => ?_)
      obtain ⟨x7, ex7, hf⟩ := vl_x hf
      rw [← ex7] at hl
      refine lv_goto (tgt := 11) hx hb dX7_hearBeacon_53 (by decide) ?_
      exact hK11 _ hf _ _ _ hP hS (lv_sub hl [2, 3, 4, 0] rfl)
    · rw [if_pos h5] at hf
      refine lv_aload hx hb dX7_hearBeacon_34 (lv_at hl 0 rfl) ?_
      obtain ⟨r9, σ8, h10, hf⟩ := cl_e hf
      refine kc_X7_280 F hP hS h4 h10 ⟨Nat.le_of_ble_eq_true rfl, Nat.le_of_ble_eq_true rfl⟩ hl.1 (Nat.le_of_ble_eq_true rfl) ⟨Nat.zero_le _, Nat.zero_le _⟩ dX7_hearBeacon_36 (fun H locs hP hS => ?_)
      refine lv_if_eq (tgt := 46) hx hb dX7_hearBeacon_39 (by decide) (fun h11 => ?_) (fun h11 => ?_)
      · rw [if_pos h11] at hf
        refine lv_iconst (v := 0) hx hb dX7_hearBeacon_46 (by decide) ?_
        refine pf_X7_283 F hP hS h4 (by decide) dX7_hearBeacon_47 (fun H locs hP hS => ?_)
        obtain ⟨σ12, eσ12, hf⟩ := vl_x hf
        rw [← eσ12] at hP
        refine lv_iinc (v := a4 + (1 : Int32)) (lv' := [(4, .int (a4 + (1 : Int32))), (5, .ref (cAd E (46 + d3))), (1, .int a1), (2, .ref (cAd E 21)), (3, .int a3)]) hx hb dX7_hearBeacon_50 hl (k := 4) rfl rfl (by decide) rfl (fun ls hl => ?_)
        obtain ⟨x13, ex13, hf⟩ := vl_x hf
        rw [← ex13] at hl
        refine lv_goto (tgt := 11) hx hb dX7_hearBeacon_53 (by decide) ?_
        exact hK11 _ hf _ _ _ hP hS (lv_sub hl [2, 3, 4, 0] rfl)
      · rw [if_neg h11] at hf
        refine lv_iconst (v := 1) hx hb dX7_hearBeacon_42 (by decide) ?_
        refine lv_goto (tgt := 47) hx hb dX7_hearBeacon_43 (by decide) ?_
        refine pf_X7_283 F hP hS h4 (by decide) dX7_hearBeacon_47 (fun H locs hP hS => ?_)
        obtain ⟨σ14, eσ14, hf⟩ := vl_x hf
        rw [← eσ14] at hP
        refine lv_iinc (v := a4 + (1 : Int32)) (lv' := [(4, .int (a4 + (1 : Int32))), (5, .ref (cAd E (46 + d3))), (1, .int a1), (2, .ref (cAd E 21)), (3, .int a3)]) hx hb dX7_hearBeacon_50 hl (k := 4) rfl rfl (by decide) rfl (fun ls hl => ?_)
        obtain ⟨x15, ex15, hf⟩ := vl_x hf
        rw [← ex15] at hl
        refine lv_goto (tgt := 11) hx hb dX7_hearBeacon_53 (by decide) ?_
        exact hK11 _ hf _ _ _ hP hS (lv_sub hl [2, 3, 4, 0] rfl)
set_option maxHeartbeats 4000000 in
set_option maxRecDepth 100000 in
theorem w_X7_hearBeacon_e {p : Program} {l : Launch} {e : Env} {s : State} {m : MethodId} {args : Array Value} {below : List Frame} {meth : Method} {c : Code} {E : cEv} {u : Unit} {σ' : St} (B : gBx p m meth c cX7_hearBeacon 6 none s args RX7 (cG E)) (p1 : Int32) (σ : St) (hf : f_X7_hearBeacon p1 σ = some (u, σ')) (H : Heap) (locs : List Loc) (ls : Array Slot) (hP : gW (cG E) σ H) (hS : va_S (gA (cG E)) s.heap H locs) (hl : lv_has ls 6 [(0, .ref (cAd E 0)), (1, .int p1)]) : W p l e rm_X7_hearBeacon s m args below meth c H locs 0 0 (gQv below args s (cG E) σ') (F0 m 0 ls []) := by
  unfold f_X7_hearBeacon at hf
  obtain ⟨F, hr, hlk⟩ := id B
  have hx := F.1
  have hb := F.2.1
  have hml := F.2.2.1
  have hown := F.2.2.2.1
  have hts := F.2.2.2.2.1
  refine lv_aload_n hx hb dX7_hearBeacon_0 rfl (lv_at hl 0 rfl) ?_
  refine gf_X7_49 F hP dX7_hearBeacon_1 ?_
  refine lv_astore_n (lv' := [(2, .ref (cAd E 21)), (0, .ref (cAd E 0)), (1, .int p1)]) hx hb dX7_hearBeacon_4 rfl hl (by decide) rfl (fun ls hl => ?_)
  refine lv_aload_n hx hb dX7_hearBeacon_5 rfl (lv_at hl 0 rfl) ?_
  refine c_alenD F hP dX7_hearBeacon_6 ?_
  refine lv_istore_n (lv' := [(3, .int (8 : Int32)), (2, .ref (cAd E 21)), (0, .ref (cAd E 0)), (1, .int p1)]) hx hb dX7_hearBeacon_7 rfl hl (by decide) rfl (fun ls hl => ?_)
  refine lv_iconst (v := 0) hx hb dX7_hearBeacon_8 (by decide) ?_
  refine lv_istore (lv' := [(4, .int (0 : Int32)), (3, .int (8 : Int32)), (2, .ref (cAd E 21)), (0, .ref (cAd E 0)), (1, .int p1)]) hx hb dX7_hearBeacon_9 hl (by decide) rfl (fun ls hl => ?_)
  exact lp_w (P := P_X7_hearBeacon_11 p l e s m args below meth c E σ') (fun K hK a ha => w_X7_hearBeacon_11 B hK a.1 a.2.1 a.2.2.1 a.2.2.2 ha) FU _ hf _ _ _ hP hS (lv_sub hl [4, 2, 1, 0] rfl)
theorem c_X7_hearBeacon (l : Launch) {E : cEv} (hI : gIj (cG E)) {p1 : Int32} {σ σ' : St} {u : Unit} (hf : f_X7_hearBeacon p1 σ = some (u, σ')) : gMv l yX7_hearBeacon cX7_hearBeacon 6 rm_X7_hearBeacon [.ref (cAd E 0), .int p1] (cG E) σ σ' :=
  g_entry (by decide) (Nat.le_of_ble_eq_true rfl) hI (fun p e s m args below meth c B hP hS ls hl => w_X7_hearBeacon_e B _ σ hf _ _ ls hP hS hl)
section SC
variable {p : Program} {l : Launch} {e : Env} {R : Room} {s : State} {m : MethodId} {args : Array Value} {below : List Frame} {meth : Method} {c : Code} {H : Heap} {locs : List Loc} {cells slots : Nat} {Q : State → Prop}
variable {cc : ByteArray} {pc nL : Nat} {ls : Array Slot} {rest : List Value} {E : cEv} {σ : St}
theorem gf_X7_220 (F : gFx p m c cc nL s args RX7 (cG E)) (hP : gW (cG E) σ H) {o : Nat} (ho : o = 8 ∨ o = 14) (hdg : decode cc pc = .ok (.getfield 220, 3)) (kk : W p l e R s m args below meth c H locs cells slots Q (F0 m (pc + 3) ls (.int (σ o 2) :: rest))) : W p l e R s m args below meth c H locs cells slots Q (F0 m pc ls (.ref (cAd E o) :: rest)) :=
  g_getN F hP (k := o) (cin (by omega)) (ce_3 E _ ho) rfl inX3 2 (by decide) tw_76 rfl rfl hdg kk
theorem kc_X7_291 (F : gFx p m c cc nL s args RX7 (cG E)) (hP : gW (cG E) σ H) (hS : va_S (gA (cG E)) s.heap H locs) {o : Nat} (ho : o < 4) {p1 : Int32} {p2 : Int32} {u : Unit} {σ' : St} (hf : f_X4_noteUse o p1 p2 σ = some (u, σ')) (hR : rm_X4_noteUse.frames + 1 ≤ R.frames ∧ 8 + (3 + 11) + rm_X4_noteUse.locals ≤ R.locals) (hsz : ls.size = nL) (hrest : (rest.map fun v => v.category).sum ≤ 8) (hcs : cells ≤ R.cells ∧ slots ≤ R.slots) (hdg : decode cc pc = .ok (.invokevirtual 291, 3)) (kk : ∀ (H1 : Heap) (locs1 : List Loc), gW (cG E) σ' H1 → va_S (gA (cG E)) s.heap H1 locs1 → W p l e R s m args below meth c H1 locs1 cells slots Q (F0 m (pc + 3) ls rest)) : W p l e R s m args below meth c H locs cells slots Q (F0 m pc ls (.int p2 :: .int p1 :: .ref (cAd E (26 + o)) :: rest)) :=
  g_callVv F hP hS (c_X4_noteUse l F.2.2.2.2.2.2.2 ho hf) (g_cwV (n := 2) F tw_718 tw_719 tw_720 tw_7 tw_721 (by decide +kernel) rfl rfl hR) (k := (26 + o)) (cin (by omega)) (ce_4 E _ ho) rfl (As := [.int p1, .int p2]) rfl hsz rfl hrest hdg hcs kk
theorem gf_X7_210 (F : gFx p m c cc nL s args RX7 (cG E)) (hP : gW (cG E) σ H) {o : Nat} (ho : o < 4) (hdg : decode cc pc = .ok (.getfield 210, 3)) (kk : W p l e R s m args below meth c H locs cells slots Q (F0 m (pc + 3) ls (.ref (cAd E (42 + o)) :: rest))) : W p l e R s m args below meth c H locs cells slots Q (F0 m pc ls (.ref (cAd E (22 + o)) :: rest)) :=
  g_getN F hP (k := (22 + o)) (cin (by omega)) (ce_1 E _ ho) rfl inX1 6 (by decide) tw_155 rfl rfl hdg kk
theorem kc_X7_287 (F : gFx p m c cc nL s args RX7 (cG E)) (hP : gW (cG E) σ H) (hS : va_S (gA (cG E)) s.heap H locs) {o : Nat} (ho : o < 8) {p1 : Nat} (hp1 : cArr p1) {p2 : Int32} {p3 : Int32} {r : Int32} {σ' : St} (hf : f_X2_sendPromised o p1 p2 p3 σ = some (r, σ')) (hR : rm_X2_sendPromised.frames + 1 ≤ R.frames ∧ 8 + (7 + 11) + rm_X2_sendPromised.locals ≤ R.locals) (hsz : ls.size = nL) (hrest : (rest.map fun v => v.category).sum ≤ 8) (hcs : cells ≤ R.cells ∧ slots ≤ R.slots) (hdg : decode cc pc = .ok (.invokevirtual 287, 3)) (kk : ∀ (H1 : Heap) (locs1 : List Loc), gW (cG E) σ' H1 → va_S (gA (cG E)) s.heap H1 locs1 → W p l e R s m args below meth c H1 locs1 cells slots Q (F0 m (pc + 3) ls (.int r :: rest))) : W p l e R s m args below meth c H locs cells slots Q (F0 m pc ls (.int p3 :: .int p2 :: .ref (cAd E p1) :: .ref (cAd E (46 + o)) :: rest)) :=
  g_callVi F hP hS (c_X2_sendPromised l F.2.2.2.2.2.2.2 ho hp1 hf) (g_cwV (n := 3) F tw_714 tw_715 tw_716 tw_8 tw_717 (by decide +kernel) rfl rfl hR) (k := (46 + o)) (cin (by omega)) (ce_2 E _ ho) rfl (As := [.ref (cAd E p1), .int p2, .int p3]) rfl hsz rfl hrest hdg hcs kk
end SC
/-! PromisedSlots.keepPromises(LPromisedSlots$Coordinator;)I -/
def f_X7_keepPromises_88 (p1 : Nat) (K10 : (Int32 × Int32 × St → Option (Int32 × St))) (a3 : Int32) (a4 : Int32) (s0 : Int32) (σ : St) : Option (Int32 × St) :=
  if s0 ≤ 0 then
    cl (f_X4_noteUse p1 a4 (0 : Int32) σ) fun r20 σ19 =>
    vl (a3 + s0) fun x22 =>
    vl (a4 + (1 : Int32)) fun x23 =>
    K10 (x22, x23, σ19)
  else
    cl (f_X4_noteUse p1 a4 (1 : Int32) σ) fun r25 σ24 =>
    vl (a3 + s0) fun x27 =>
    vl (a4 + (1 : Int32)) fun x28 =>
    K10 (x27, x28, σ24)
def b_X7_keepPromises_10 (p1 : Nat) (K10 : (Int32 × Int32 × St → Option (Int32 × St))) (a3 : Int32) (a4 : Int32) (σ : St) : Option (Int32 × St) :=
  if (σ (26 + p1) 3) ≤ a4 then
    some (a3, σ)
  else
    cl (f_X4_tell p1 a4 (0 : Int32) σ) fun r3 σ2 =>
    cl (f_X7_deviceAt r3 σ2) fun r6 σ5 =>
    oc r6 (
      cl (f_X4_tell p1 a4 (1 : Int32) σ5) fun r11 σ10 =>
      vl (r11 * (σ10 (lay (σ10 0 6)) 2)) fun x13 =>
      cl (f_X4_tell p1 a4 (2 : Int32) σ10) fun r15 σ14 =>
      vl (r15 * (σ14 (lay (σ14 0 6)) 2)) fun x17 =>
      f_X7_keepPromises_88 p1 K10 a3 a4 (0 : Int32) σ14) (fun d9 => gd (d9 < 8) <|
      cl (f_X4_tell p1 a4 (1 : Int32) σ5) fun r31 σ30 =>
      vl (r31 * (σ30 (lay (σ30 0 6)) 2)) fun x33 =>
      cl (f_X4_tell p1 a4 (2 : Int32) σ30) fun r35 σ34 =>
      vl (r35 * (σ34 (lay (σ34 0 6)) 2)) fun x37 =>
      cl (f_X2_sendPromised d9 (42 + p1) x33 x37 σ34) fun r39 σ38 =>
      f_X7_keepPromises_88 p1 K10 a3 a4 r39 σ38)
def f_X7_keepPromises (p1 : Nat) (σ : St) : Option (Int32 × St) :=
  lp (fun K a => b_X7_keepPromises_10 p1 K a.1 a.2.1 a.2.2) FU ((0 : Int32), (0 : Int32), σ)
abbrev rm_X7_keepPromises : Room := { frames := 2, cells := 0, slots := 0, locals := 47 }
def P_X7_keepPromises_10 (p : Program) (l : Launch) (e : Env) (s : State) (m : MethodId) (args : Array Value) (below : List Frame) (meth : Method) (c : Code) (E : cEv) (r : Int32) (σ' : St) (p1 : Nat) (a : Int32 × Int32 × St) : Prop := ∀ (H : Heap) (locs : List Loc) (ls : Array Slot), gW (cG E) a.2.2 H → va_S (gA (cG E)) s.heap H locs → lv_has ls 9 [(0, .ref (cAd E 0)), (1, .ref (cAd E (22 + p1))), (2, .ref (cAd E (26 + p1))), (3, .int a.1), (4, .int a.2.1)] → W p l e rm_X7_keepPromises s m args below meth c H locs 0 0 (gQi below args s (cG E) r σ') (F0 m 10 ls [])
set_option maxHeartbeats 4000000 in
set_option maxRecDepth 100000 in
theorem w_X7_keepPromises_88 {p : Program} {l : Launch} {e : Env} {s : State} {m : MethodId} {args : Array Value} {below : List Frame} {meth : Method} {c : Code} {E : cEv} {r : Int32} {σ' : St} {p1 : Nat} (hp1 : p1 < 4) (B : gBx p m meth c cX7_keepPromises 9 (some .int) s args RX7 (cG E)) {K10 : (Int32 × Int32 × St → Option (Int32 × St))} (hK10 : ∀ a, K10 a = some (r, σ') → P_X7_keepPromises_10 p l e s m args below meth c E r σ' p1 a) (a3 : Int32) (a4 : Int32) (s0 : Int32) (σ : St) (hf : f_X7_keepPromises_88 p1 K10 a3 a4 s0 σ = some (r, σ')) (H : Heap) (locs : List Loc) (ls : Array Slot) (hP : gW (cG E) σ H) (hS : va_S (gA (cG E)) s.heap H locs) (hl : lv_has ls 9 [(0, .ref (cAd E 0)), (1, .ref (cAd E (22 + p1))), (2, .ref (cAd E (26 + p1))), (3, .int a3), (4, .int a4)]) : W p l e rm_X7_keepPromises s m args below meth c H locs 0 0 (gQi below args s (cG E) r σ') (F0 m 88 ls [.int s0]) := by
  unfold f_X7_keepPromises_88 at hf
  obtain ⟨F, hr, hlk⟩ := id B
  have hx := F.1
  have hb := F.2.1
  have hml := F.2.2.1
  have hown := F.2.2.2.1
  have hts := F.2.2.2.2.1
  refine lv_istore (lv' := [(8, .int s0), (0, .ref (cAd E 0)), (1, .ref (cAd E (22 + p1))), (2, .ref (cAd E (26 + p1))), (3, .int a3), (4, .int a4)]) hx hb dX7_keepPromises_88 hl (by decide) rfl (fun ls hl => ?_)
  refine lv_aload_n hx hb dX7_keepPromises_90 rfl (lv_at hl 3 rfl) ?_
  refine lv_iload hx hb dX7_keepPromises_91 (lv_at hl 5 rfl) ?_
  refine lv_iload hx hb dX7_keepPromises_93 (lv_at hl 0 rfl) ?_
  refine lv_if_le (tgt := 102) hx hb dX7_keepPromises_95 (by decide) (fun h18 => ?_) (fun h18 => ?_)
  · rw [if_pos h18] at hf
    refine lv_iconst (v := 0) hx hb dX7_keepPromises_102 (by decide) ?_
    obtain ⟨r20, σ19, h21, hf⟩ := cl_e hf
    refine kc_X7_291 F hP hS hp1 h21 ⟨Nat.le_of_ble_eq_true rfl, Nat.le_of_ble_eq_true rfl⟩ hl.1 (Nat.le_of_ble_eq_true rfl) ⟨Nat.zero_le _, Nat.zero_le _⟩ dX7_keepPromises_103 (fun H locs hP hS => ?_)
    refine lv_iload_n hx hb dX7_keepPromises_106 rfl (lv_at hl 4 rfl) ?_
    refine lv_iload hx hb dX7_keepPromises_107 (lv_at hl 0 rfl) ?_
    refine lv_iadd hx hb dX7_keepPromises_109 ?_
    obtain ⟨x22, ex22, hf⟩ := vl_x hf
    rw [← ex22]
    refine lv_istore_n (lv' := [(3, .int x22), (8, .int s0), (0, .ref (cAd E 0)), (1, .ref (cAd E (22 + p1))), (2, .ref (cAd E (26 + p1))), (4, .int a4)]) hx hb dX7_keepPromises_110 rfl hl (by decide) rfl (fun ls hl => ?_)
    refine lv_iinc (v := a4 + (1 : Int32)) (lv' := [(4, .int (a4 + (1 : Int32))), (3, .int x22), (8, .int s0), (0, .ref (cAd E 0)), (1, .ref (cAd E (22 + p1))), (2, .ref (cAd E (26 + p1)))]) hx hb dX7_keepPromises_111 hl (k := 5) rfl rfl (by decide) rfl (fun ls hl => ?_)
    obtain ⟨x23, ex23, hf⟩ := vl_x hf
    rw [← ex23] at hl
    refine lv_goto (tgt := 10) hx hb dX7_keepPromises_114 (by decide) ?_
    exact hK10 _ hf _ _ _ hP hS (lv_sub hl [3, 4, 5, 1, 0] rfl)
  · rw [if_neg h18] at hf
    refine lv_iconst (v := 1) hx hb dX7_keepPromises_98 (by decide) ?_
    refine lv_goto (tgt := 103) hx hb dX7_keepPromises_99 (by decide) ?_
    obtain ⟨r25, σ24, h26, hf⟩ := cl_e hf
    refine kc_X7_291 F hP hS hp1 h26 ⟨Nat.le_of_ble_eq_true rfl, Nat.le_of_ble_eq_true rfl⟩ hl.1 (Nat.le_of_ble_eq_true rfl) ⟨Nat.zero_le _, Nat.zero_le _⟩ dX7_keepPromises_103 (fun H locs hP hS => ?_)
    refine lv_iload_n hx hb dX7_keepPromises_106 rfl (lv_at hl 4 rfl) ?_
    refine lv_iload hx hb dX7_keepPromises_107 (lv_at hl 0 rfl) ?_
    refine lv_iadd hx hb dX7_keepPromises_109 ?_
    obtain ⟨x27, ex27, hf⟩ := vl_x hf
    rw [← ex27]
    refine lv_istore_n (lv' := [(3, .int x27), (8, .int s0), (0, .ref (cAd E 0)), (1, .ref (cAd E (22 + p1))), (2, .ref (cAd E (26 + p1))), (4, .int a4)]) hx hb dX7_keepPromises_110 rfl hl (by decide) rfl (fun ls hl => ?_)
    refine lv_iinc (v := a4 + (1 : Int32)) (lv' := [(4, .int (a4 + (1 : Int32))), (3, .int x27), (8, .int s0), (0, .ref (cAd E 0)), (1, .ref (cAd E (22 + p1))), (2, .ref (cAd E (26 + p1)))]) hx hb dX7_keepPromises_111 hl (k := 5) rfl rfl (by decide) rfl (fun ls hl => ?_)
    obtain ⟨x28, ex28, hf⟩ := vl_x hf
    rw [← ex28] at hl
    refine lv_goto (tgt := 10) hx hb dX7_keepPromises_114 (by decide) ?_
    exact hK10 _ hf _ _ _ hP hS (lv_sub hl [3, 4, 5, 1, 0] rfl)
set_option maxHeartbeats 4000000 in
set_option maxRecDepth 100000 in
theorem w_X7_keepPromises_10 {p : Program} {l : Launch} {e : Env} {s : State} {m : MethodId} {args : Array Value} {below : List Frame} {meth : Method} {c : Code} {E : cEv} {r : Int32} {σ' : St} {p1 : Nat} (hp1 : p1 < 4) (B : gBx p m meth c cX7_keepPromises 9 (some .int) s args RX7 (cG E)) {K10 : (Int32 × Int32 × St → Option (Int32 × St))} (hK10 : ∀ a, K10 a = some (r, σ') → P_X7_keepPromises_10 p l e s m args below meth c E r σ' p1 a) (a3 : Int32) (a4 : Int32) (σ : St) (hf : b_X7_keepPromises_10 p1 K10 a3 a4 σ = some (r, σ')) (H : Heap) (locs : List Loc) (ls : Array Slot) (hP : gW (cG E) σ H) (hS : va_S (gA (cG E)) s.heap H locs) (hl : lv_has ls 9 [(0, .ref (cAd E 0)), (1, .ref (cAd E (22 + p1))), (2, .ref (cAd E (26 + p1))), (3, .int a3), (4, .int a4)]) : W p l e rm_X7_keepPromises s m args below meth c H locs 0 0 (gQi below args s (cG E) r σ') (F0 m 10 ls []) := by
  unfold b_X7_keepPromises_10 at hf
  obtain ⟨F, hr, hlk⟩ := id B
  have hx := F.1
  have hb := F.2.1
  have hml := F.2.2.1
  have hown := F.2.2.2.1
  have hts := F.2.2.2.2.1
  refine lv_iload hx hb dX7_keepPromises_10 (lv_at hl 4 rfl) ?_
  refine lv_aload_n hx hb dX7_keepPromises_12 rfl (lv_at hl 2 rfl) ?_
  refine gf_X7_177 F hP hp1 dX7_keepPromises_13 ?_
  refine lv_icmp_ge (tgt := 117) hx hb dX7_keepPromises_16 (by decide) (fun h1 => ?_) (fun h1 => ?_)
  · rw [if_pos h1] at hf
    refine lv_iload_n hx hb dX7_keepPromises_117 rfl (lv_at hl 3 rfl) ?_
    exact g_iret B hP hS hf dX7_keepPromises_118
  · rw [if_neg h1] at hf
    refine lv_aload_n hx hb dX7_keepPromises_19 rfl (lv_at hl 0 rfl) ?_
    refine lv_aload_n hx hb dX7_keepPromises_20 rfl (lv_at hl 2 rfl) ?_
    refine lv_iload hx hb dX7_keepPromises_21 (lv_at hl 4 rfl) ?_
    refine lv_iconst (v := 0) hx hb dX7_keepPromises_23 (by decide) ?_
    obtain ⟨r3, σ2, h4, hf⟩ := cl_e hf
    refine kc_X7_197 F hP hS hp1 h4 ⟨Nat.le_of_ble_eq_true rfl, Nat.le_of_ble_eq_true rfl⟩ hl.1 (Nat.le_of_ble_eq_true rfl) ⟨Nat.zero_le _, Nat.zero_le _⟩ dX7_keepPromises_24 (fun H locs hP hS => ?_)
    obtain ⟨r6, σ5, h7, hf⟩ := cl_e hf
    refine kc_X7_138 F hP hS h7 ⟨Nat.le_of_ble_eq_true rfl, Nat.le_of_ble_eq_true rfl⟩ hl.1 (Nat.le_of_ble_eq_true rfl) ⟨Nat.zero_le _, Nat.zero_le _⟩ dX7_keepPromises_27 (fun e8 H locs hP hS => ?_) (fun d9 e8 H locs hP hS => ?_)
    · subst e8
      replace hf := oc_n hf
      refine lv_astoreN (lv' := [(5, .null), (0, .ref (cAd E 0)), (1, .ref (cAd E (22 + p1))), (2, .ref (cAd E (26 + p1))), (3, .int a3), (4, .int a4)]) hx hb dX7_keepPromises_30 hl (by decide) rfl (fun ls hl => ?_)
      refine lv_aload_n hx hb dX7_keepPromises_32 rfl (lv_at hl 3 rfl) ?_
      refine lv_iload hx hb dX7_keepPromises_33 (lv_at hl 5 rfl) ?_
      refine lv_iconst (v := 1) hx hb dX7_keepPromises_35 (by decide) ?_
      obtain ⟨r11, σ10, h12, hf⟩ := cl_e hf
      refine kc_X7_197 F hP hS hp1 h12 ⟨Nat.le_of_ble_eq_true rfl, Nat.le_of_ble_eq_true rfl⟩ hl.1 (Nat.le_of_ble_eq_true rfl) ⟨Nat.zero_le _, Nat.zero_le _⟩ dX7_keepPromises_36 (fun H locs hP hS => ?_)
      refine lv_aload_n hx hb dX7_keepPromises_39 rfl (lv_at hl 1 rfl) ?_
      refine gf_X7_33 F hP dX7_keepPromises_40 ?_
      refine gf_X7_220 F hP (lay_ok _) dX7_keepPromises_43 ?_
      refine lv_imul hx hb dX7_keepPromises_46 ?_
      obtain ⟨x13, ex13, hf⟩ := vl_x hf
      rw [← ex13]
      refine lv_istore (lv' := [(6, .int x13), (5, .null), (0, .ref (cAd E 0)), (1, .ref (cAd E (22 + p1))), (2, .ref (cAd E (26 + p1))), (3, .int a3), (4, .int a4)]) hx hb dX7_keepPromises_47 hl (by decide) rfl (fun ls hl => ?_)
      refine lv_aload_n hx hb dX7_keepPromises_49 rfl (lv_at hl 4 rfl) ?_
      refine lv_iload hx hb dX7_keepPromises_50 (lv_at hl 6 rfl) ?_
      refine lv_iconst (v := 2) hx hb dX7_keepPromises_52 (by decide) ?_
      obtain ⟨r15, σ14, h16, hf⟩ := cl_e hf
      refine kc_X7_197 F hP hS hp1 h16 ⟨Nat.le_of_ble_eq_true rfl, Nat.le_of_ble_eq_true rfl⟩ hl.1 (Nat.le_of_ble_eq_true rfl) ⟨Nat.zero_le _, Nat.zero_le _⟩ dX7_keepPromises_53 (fun H locs hP hS => ?_)
      refine lv_aload_n hx hb dX7_keepPromises_56 rfl (lv_at hl 2 rfl) ?_
      refine gf_X7_33 F hP dX7_keepPromises_57 ?_
      refine gf_X7_220 F hP (lay_ok _) dX7_keepPromises_60 ?_
      refine lv_imul hx hb dX7_keepPromises_63 ?_
      obtain ⟨x17, ex17, hf⟩ := vl_x hf
      rw [← ex17]
      refine lv_istore (lv' := [(7, .int x17), (6, .int x13), (5, .null), (0, .ref (cAd E 0)), (1, .ref (cAd E (22 + p1))), (2, .ref (cAd E (26 + p1))), (3, .int a3), (4, .int a4)]) hx hb dX7_keepPromises_64 hl (by decide) rfl (fun ls hl => ?_)
      refine lv_aloadN hx hb dX7_keepPromises_66 (lv_at hl 2 rfl) ?_
      refine lv_ifnonnullN hx hb dX7_keepPromises_68 ?_
      refine lv_iconst (v := 0) hx hb dX7_keepPromises_71 (by decide) ?_
      refine lv_goto (tgt := 88) hx hb dX7_keepPromises_72 (by decide) ?_
      exact w_X7_keepPromises_88 hp1 B hK10 _ _ _ σ14 hf _ _ _ hP hS (lv_sub hl [3, 4, 5, 6, 7] rfl)
    · subst e8
      replace hf := oc_s hf
      obtain ⟨h29, hf⟩ := gd_e hf
      refine lv_astore (lv' := [(5, .ref (cAd E (46 + d9))), (0, .ref (cAd E 0)), (1, .ref (cAd E (22 + p1))), (2, .ref (cAd E (26 + p1))), (3, .int a3), (4, .int a4)]) hx hb dX7_keepPromises_30 hl (by decide) rfl (fun ls hl => ?_)
      refine lv_aload_n hx hb dX7_keepPromises_32 rfl (lv_at hl 3 rfl) ?_
      refine lv_iload hx hb dX7_keepPromises_33 (lv_at hl 5 rfl) ?_
      refine lv_iconst (v := 1) hx hb dX7_keepPromises_35 (by decide) ?_
      obtain ⟨r31, σ30, h32, hf⟩ := cl_e hf
      refine kc_X7_197 F hP hS hp1 h32 ⟨Nat.le_of_ble_eq_true rfl, Nat.le_of_ble_eq_true rfl⟩ hl.1 (Nat.le_of_ble_eq_true rfl) ⟨Nat.zero_le _, Nat.zero_le _⟩ dX7_keepPromises_36 (fun H locs hP hS => ?_)
      refine lv_aload_n hx hb dX7_keepPromises_39 rfl (lv_at hl 1 rfl) ?_
      refine gf_X7_33 F hP dX7_keepPromises_40 ?_
      refine gf_X7_220 F hP (lay_ok _) dX7_keepPromises_43 ?_
      refine lv_imul hx hb dX7_keepPromises_46 ?_
      obtain ⟨x33, ex33, hf⟩ := vl_x hf
      rw [← ex33]
      refine lv_istore (lv' := [(6, .int x33), (5, .ref (cAd E (46 + d9))), (0, .ref (cAd E 0)), (1, .ref (cAd E (22 + p1))), (2, .ref (cAd E (26 + p1))), (3, .int a3), (4, .int a4)]) hx hb dX7_keepPromises_47 hl (by decide) rfl (fun ls hl => ?_)
      refine lv_aload_n hx hb dX7_keepPromises_49 rfl (lv_at hl 4 rfl) ?_
      refine lv_iload hx hb dX7_keepPromises_50 (lv_at hl 6 rfl) ?_
      refine lv_iconst (v := 2) hx hb dX7_keepPromises_52 (by decide) ?_
      obtain ⟨r35, σ34, h36, hf⟩ := cl_e hf
      refine kc_X7_197 F hP hS hp1 h36 ⟨Nat.le_of_ble_eq_true rfl, Nat.le_of_ble_eq_true rfl⟩ hl.1 (Nat.le_of_ble_eq_true rfl) ⟨Nat.zero_le _, Nat.zero_le _⟩ dX7_keepPromises_53 (fun H locs hP hS => ?_)
      refine lv_aload_n hx hb dX7_keepPromises_56 rfl (lv_at hl 2 rfl) ?_
      refine gf_X7_33 F hP dX7_keepPromises_57 ?_
      refine gf_X7_220 F hP (lay_ok _) dX7_keepPromises_60 ?_
      refine lv_imul hx hb dX7_keepPromises_63 ?_
      obtain ⟨x37, ex37, hf⟩ := vl_x hf
      rw [← ex37]
      refine lv_istore (lv' := [(7, .int x37), (6, .int x33), (5, .ref (cAd E (46 + d9))), (0, .ref (cAd E 0)), (1, .ref (cAd E (22 + p1))), (2, .ref (cAd E (26 + p1))), (3, .int a3), (4, .int a4)]) hx hb dX7_keepPromises_64 hl (by decide) rfl (fun ls hl => ?_)
      refine lv_aload hx hb dX7_keepPromises_66 (lv_at hl 2 rfl) ?_
      refine lv_ifnonnull (tgt := 75) hx hb dX7_keepPromises_68 (by decide) ?_
      refine lv_aload hx hb dX7_keepPromises_75 (lv_at hl 2 rfl) ?_
      refine lv_aload_n hx hb dX7_keepPromises_77 rfl (lv_at hl 4 rfl) ?_
      refine gf_X7_210 F hP hp1 dX7_keepPromises_78 ?_
      refine lv_iload hx hb dX7_keepPromises_81 (lv_at hl 1 rfl) ?_
      refine lv_iload hx hb dX7_keepPromises_83 (lv_at hl 0 rfl) ?_
      obtain ⟨r39, σ38, h40, hf⟩ := cl_e hf
      refine kc_X7_287 F hP hS h29 (ca_p (by have := hp1; omega)) h40 ⟨Nat.le_of_ble_eq_true rfl, Nat.le_of_ble_eq_true rfl⟩ hl.1 (Nat.le_of_ble_eq_true rfl) ⟨Nat.zero_le _, Nat.zero_le _⟩ dX7_keepPromises_85 (fun H locs hP hS => ?_)
      exact w_X7_keepPromises_88 hp1 B hK10 _ _ _ σ38 hf _ _ _ hP hS (lv_sub hl [3, 4, 5, 6, 7] rfl)
set_option maxHeartbeats 4000000 in
set_option maxRecDepth 100000 in
theorem w_X7_keepPromises_e {p : Program} {l : Launch} {e : Env} {s : State} {m : MethodId} {args : Array Value} {below : List Frame} {meth : Method} {c : Code} {E : cEv} {r : Int32} {σ' : St} {p1 : Nat} (hp1 : p1 < 4) (B : gBx p m meth c cX7_keepPromises 9 (some .int) s args RX7 (cG E)) (σ : St) (hf : f_X7_keepPromises p1 σ = some (r, σ')) (H : Heap) (locs : List Loc) (ls : Array Slot) (hP : gW (cG E) σ H) (hS : va_S (gA (cG E)) s.heap H locs) (hl : lv_has ls 9 [(0, .ref (cAd E 0)), (1, .ref (cAd E (22 + p1)))]) : W p l e rm_X7_keepPromises s m args below meth c H locs 0 0 (gQi below args s (cG E) r σ') (F0 m 0 ls []) := by
  unfold f_X7_keepPromises at hf
  obtain ⟨F, hr, hlk⟩ := id B
  have hx := F.1
  have hb := F.2.1
  have hml := F.2.2.1
  have hown := F.2.2.2.1
  have hts := F.2.2.2.2.1
  refine lv_aload_n hx hb dX7_keepPromises_0 rfl (lv_at hl 1 rfl) ?_
  refine gf_X7_173 F hP hp1 dX7_keepPromises_1 ?_
  refine lv_astore_n (lv' := [(2, .ref (cAd E (26 + p1))), (0, .ref (cAd E 0)), (1, .ref (cAd E (22 + p1)))]) hx hb dX7_keepPromises_4 rfl hl (by decide) rfl (fun ls hl => ?_)
  refine lv_iconst (v := 0) hx hb dX7_keepPromises_5 (by decide) ?_
  refine lv_istore_n (lv' := [(3, .int (0 : Int32)), (2, .ref (cAd E (26 + p1))), (0, .ref (cAd E 0)), (1, .ref (cAd E (22 + p1)))]) hx hb dX7_keepPromises_6 rfl hl (by decide) rfl (fun ls hl => ?_)
  refine lv_iconst (v := 0) hx hb dX7_keepPromises_7 (by decide) ?_
  refine lv_istore (lv' := [(4, .int (0 : Int32)), (3, .int (0 : Int32)), (2, .ref (cAd E (26 + p1))), (0, .ref (cAd E 0)), (1, .ref (cAd E (22 + p1)))]) hx hb dX7_keepPromises_8 hl (by decide) rfl (fun ls hl => ?_)
  exact lp_w (P := P_X7_keepPromises_10 p l e s m args below meth c E r σ' p1) (fun K hK a ha => w_X7_keepPromises_10 hp1 B hK a.1 a.2.1 a.2.2 ha) FU _ hf _ _ _ hP hS (lv_sub hl [3, 4, 2, 1, 0] rfl)
theorem c_X7_keepPromises (l : Launch) {E : cEv} (hI : gIj (cG E)) {p1 : Nat} (hp1 : p1 < 4) {σ σ' : St} {r : Int32} (hf : f_X7_keepPromises p1 σ = some (r, σ')) : gMi l yX7_keepPromises cX7_keepPromises 9 .int rm_X7_keepPromises [.ref (cAd E 0), .ref (cAd E (22 + p1))] (cG E) σ r σ' :=
  g_entry (by decide) (Nat.le_of_ble_eq_true rfl) hI (fun p e s m args below meth c B hP hS ls hl => w_X7_keepPromises_e hp1 B σ hf _ _ ls hP hS hl)
section SC
variable {p : Program} {l : Launch} {e : Env} {R : Room} {s : State} {m : MethodId} {args : Array Value} {below : List Frame} {meth : Method} {c : Code} {H : Heap} {locs : List Loc} {cells slots : Nat} {Q : State → Prop}
variable {cc : ByteArray} {pc nL : Nat} {ls : Array Slot} {rest : List Value} {E : cEv} {σ : St}
theorem kc_X7_260 (F : gFx p m c cc nL s args RX7 (cG E)) (hP : gW (cG E) σ H) (hS : va_S (gA (cG E)) s.heap H locs) {p1 : Nat} (hp1 : cArr p1) {p2 : Int32} {u : Unit} {σ' : St} (hf : f_J7_fill_53178 p1 p2 σ = some (u, σ')) (hR : rm_J7_fill_53178.frames + 1 ≤ R.frames ∧ 8 + (4 + 11) + rm_J7_fill_53178.locals ≤ R.locals) (hsz : ls.size = nL) (hrest : (rest.map fun v => v.category).sum ≤ 8) (hcs : cells ≤ R.cells ∧ slots ≤ R.slots) (hdg : decode cc pc = .ok (.invokestatic 260, 3)) (kk : ∀ (H1 : Heap) (locs1 : List Loc), gW (cG E) σ' H1 → va_S (gA (cG E)) s.heap H1 locs1 → W p l e R s m args below meth c H1 locs1 cells slots Q (F0 m (pc + 3) ls rest)) : W p l e R s m args below meth c H locs cells slots Q (F0 m pc ls (.int p2 :: .ref (cAd E p1) :: rest)) :=
  g_callSv F hP hS (c_J7_fill_53178 l F.2.2.2.2.2.2.2 hp1 hf) (g_cwS (n := 2) F tw_616 tw_617 tw_15 tw_618 (by decide +kernel) rfl rfl hR) (As := [.ref (cAd E p1), .int p2]) rfl hsz rfl hrest hdg hcs kk
theorem gf_X7_223 (F : gFx p m c cc nL s args RX7 (cG E)) (hP : gW (cG E) σ H) {o : Nat} (ho : o = 8 ∨ o = 14) (hdg : decode cc pc = .ok (.getfield 223, 3)) (kk : W p l e R s m args below meth c H locs cells slots Q (F0 m (pc + 3) ls (.int (σ o 4) :: rest))) : W p l e R s m args below meth c H locs cells slots Q (F0 m pc ls (.ref (cAd E o) :: rest)) :=
  g_getN F hP (k := o) (cin (by omega)) (ce_3 E _ ho) rfl inX3 4 (by decide) tw_81 rfl rfl hdg kk
theorem kc_X7_266 (F : gFx p m c cc nL s args RX7 (cG E)) (hP : gW (cG E) σ H) (hS : va_S (gA (cG E)) s.heap H locs) {o : Nat} (ho : o < 4) {p1 : Int32} {u : Unit} {σ' : St} (hf : f_X4_removeIdle o p1 σ = some (u, σ')) (hR : rm_X4_removeIdle.frames + 1 ≤ R.frames ∧ 8 + (3 + 11) + rm_X4_removeIdle.locals ≤ R.locals) (hsz : ls.size = nL) (hrest : (rest.map fun v => v.category).sum ≤ 8) (hcs : cells ≤ R.cells ∧ slots ≤ R.slots) (hdg : decode cc pc = .ok (.invokevirtual 266, 3)) (kk : ∀ (H1 : Heap) (locs1 : List Loc), gW (cG E) σ' H1 → va_S (gA (cG E)) s.heap H1 locs1 → W p l e R s m args below meth c H1 locs1 cells slots Q (F0 m (pc + 3) ls rest)) : W p l e R s m args below meth c H locs cells slots Q (F0 m pc ls (.int p1 :: .ref (cAd E (26 + o)) :: rest)) :=
  g_callVv F hP hS (c_X4_removeIdle l F.2.2.2.2.2.2.2 ho hf) (g_cwV (n := 1) F tw_619 tw_620 tw_621 tw_7 tw_622 (by decide +kernel) rfl rfl hR) (k := (26 + o)) (cin (by omega)) (ce_4 E _ ho) rfl (As := [.int p1]) rfl hsz rfl hrest hdg hcs kk
theorem kc_X7_269 (F : gFx p m c cc nL s args RX7 (cG E)) (hP : gW (cG E) σ H) (hS : va_S (gA (cG E)) s.heap H locs) {p1 : Int32} {u : Unit} {σ' : St} (hf : f_X7_hearBeacon p1 σ = some (u, σ')) (hR : rm_X7_hearBeacon.frames + 1 ≤ R.frames ∧ 8 + (6 + 11) + rm_X7_hearBeacon.locals ≤ R.locals) (hsz : ls.size = nL) (hrest : (rest.map fun v => v.category).sum ≤ 8) (hcs : cells ≤ R.cells ∧ slots ≤ R.slots) (hdg : decode cc pc = .ok (.invokevirtual 269, 3)) (kk : ∀ (H1 : Heap) (locs1 : List Loc), gW (cG E) σ' H1 → va_S (gA (cG E)) s.heap H1 locs1 → W p l e R s m args below meth c H1 locs1 cells slots Q (F0 m (pc + 3) ls rest)) : W p l e R s m args below meth c H locs cells slots Q (F0 m pc ls (.int p1 :: .ref (cAd E 0) :: rest)) :=
  g_callVv F hP hS (c_X7_hearBeacon l F.2.2.2.2.2.2.2 hf) (g_cwV (n := 1) F tw_623 tw_625 ts_15 tw_1 tw_626 (by decide +kernel) rfl rfl hR) (k := 0) (cin (by omega)) (ce_7 E _) rfl (As := [.int p1]) rfl hsz rfl hrest hdg hcs kk
theorem kc_X7_272 (F : gFx p m c cc nL s args RX7 (cG E)) (hP : gW (cG E) σ H) (hS : va_S (gA (cG E)) s.heap H locs) {p1 : Nat} (hp1 : cArr p1) {p2 : Int32} {r : Int32} {σ' : St} (hf : f_X0_play p1 p2 σ = some (r, σ')) (hR : rm_X0_play.frames + 1 ≤ R.frames ∧ 8 + (6 + 11) + rm_X0_play.locals ≤ R.locals) (hsz : ls.size = nL) (hrest : (rest.map fun v => v.category).sum ≤ 8) (hcs : cells ≤ R.cells ∧ slots ≤ R.slots) (hdg : decode cc pc = .ok (.invokevirtual 272, 3)) (kk : ∀ (H1 : Heap) (locs1 : List Loc), gW (cG E) σ' H1 → va_S (gA (cG E)) s.heap H1 locs1 → W p l e R s m args below meth c H1 locs1 cells slots Q (F0 m (pc + 3) ls (.int r :: rest))) : W p l e R s m args below meth c H locs cells slots Q (F0 m pc ls (.int p2 :: .ref (cAd E p1) :: .ref (cAd E 6) :: rest)) :=
  g_callVi F hP hS (c_X0_play l F.2.2.2.2.2.2.2 hp1 hf) (g_cwV (n := 2) F tw_631 tw_632 tw_633 tw_9 tw_634 (by decide +kernel) rfl rfl hR) (k := 6) (cin (by omega)) (ce_0 E _) rfl (As := [.ref (cAd E p1), .int p2]) rfl hsz rfl hrest hdg hcs kk
theorem kc_X7_276 (F : gFx p m c cc nL s args RX7 (cG E)) (hP : gW (cG E) σ H) (hS : va_S (gA (cG E)) s.heap H locs) {p1 : Nat} (hp1 : p1 < 4) {r : Int32} {σ' : St} (hf : f_X7_keepPromises p1 σ = some (r, σ')) (hR : rm_X7_keepPromises.frames + 1 ≤ R.frames ∧ 8 + (9 + 11) + rm_X7_keepPromises.locals ≤ R.locals) (hsz : ls.size = nL) (hrest : (rest.map fun v => v.category).sum ≤ 8) (hcs : cells ≤ R.cells ∧ slots ≤ R.slots) (hdg : decode cc pc = .ok (.invokevirtual 276, 3)) (kk : ∀ (H1 : Heap) (locs1 : List Loc), gW (cG E) σ' H1 → va_S (gA (cG E)) s.heap H1 locs1 → W p l e R s m args below meth c H1 locs1 cells slots Q (F0 m (pc + 3) ls (.int r :: rest))) : W p l e R s m args below meth c H locs cells slots Q (F0 m pc ls (.ref (cAd E (22 + p1)) :: .ref (cAd E 0) :: rest)) :=
  g_callVi F hP hS (c_X7_keepPromises l F.2.2.2.2.2.2.2 hp1 hf) (g_cwV (n := 1) F tw_710 tw_712 ts_26 tw_1 tw_713 (by decide +kernel) rfl rfl hR) (k := 0) (cin (by omega)) (ce_7 E _) rfl (As := [.ref (cAd E (22 + p1))]) rfl hsz rfl hrest hdg hcs kk
theorem gf_X7_207 (F : gFx p m c cc nL s args RX7 (cG E)) (hP : gW (cG E) σ H) {o : Nat} (ho : o = 8 ∨ o = 14) (hdg : decode cc pc = .ok (.getfield 207, 3)) (kk : W p l e R s m args below meth c H locs cells slots Q (F0 m (pc + 3) ls (.int (σ o 1) :: rest))) : W p l e R s m args below meth c H locs cells slots Q (F0 m pc ls (.ref (cAd E o) :: rest)) :=
  g_getN F hP (k := o) (cin (by omega)) (ce_3 E _ ho) rfl inX3 1 (by decide) tw_74 rfl rfl hdg kk
theorem pf_X7_257 (F : gFx p m c cc nL s args RX7 (cG E)) (hP : gW (cG E) σ H) (hS : va_S (gA (cG E)) s.heap H locs) {o : Nat} (ho : o < 4) {x : Int32} (hdg : decode cc pc = .ok (.putfield 257, 3)) (kk : ∀ (H1 : Heap) (locs1 : List Loc), gW (cG E) (up2 σ (22 + o) 3 x) H1 → va_S (gA (cG E)) s.heap H1 locs1 → W p l e R s m args below meth c H1 locs1 cells slots Q (F0 m (pc + 3) ls rest)) : W p l e R s m args below meth c H locs cells slots Q (F0 m pc ls (.int x :: .ref (cAd E (22 + o)) :: rest)) :=
  g_putN F hP hS (k := (22 + o)) (cin (by omega)) (ce_1 E _ ho) rfl inX1 tyX1 tyX1_ok nmX1 3 (by decide) tw_149 rfl rfl rfl rfl (Nat.le_of_ble_eq_true rfl) (x := x) (jj := 3) (ce_1 E _ ho) hdg kk
theorem gf_X7_214 (F : gFx p m c cc nL s args RX7 (cG E)) (hP : gW (cG E) σ H) {o : Nat} (ho : o < 4) (hdg : decode cc pc = .ok (.getfield 214, 3)) (kk : W p l e R s m args below meth c H locs cells slots Q (F0 m (pc + 3) ls (.int (σ (22 + o) 4) :: rest))) : W p l e R s m args below meth c H locs cells slots Q (F0 m pc ls (.ref (cAd E (22 + o)) :: rest)) :=
  g_getN F hP (k := (22 + o)) (cin (by omega)) (ce_1 E _ ho) rfl inX1 4 (by decide) tw_151 rfl rfl hdg kk
theorem pf_X7_214 (F : gFx p m c cc nL s args RX7 (cG E)) (hP : gW (cG E) σ H) (hS : va_S (gA (cG E)) s.heap H locs) {o : Nat} (ho : o < 4) {x : Int32} (hdg : decode cc pc = .ok (.putfield 214, 3)) (kk : ∀ (H1 : Heap) (locs1 : List Loc), gW (cG E) (up2 σ (22 + o) 4 x) H1 → va_S (gA (cG E)) s.heap H1 locs1 → W p l e R s m args below meth c H1 locs1 cells slots Q (F0 m (pc + 3) ls rest)) : W p l e R s m args below meth c H locs cells slots Q (F0 m pc ls (.int x :: .ref (cAd E (22 + o)) :: rest)) :=
  g_putN F hP hS (k := (22 + o)) (cin (by omega)) (ce_1 E _ ho) rfl inX1 tyX1 tyX1_ok nmX1 4 (by decide) tw_151 rfl rfl rfl rfl (Nat.le_of_ble_eq_true rfl) (x := x) (jj := 4) (ce_1 E _ ho) hdg kk
theorem gf_X7_229 (F : gFx p m c cc nL s args RX7 (cG E)) (hP : gW (cG E) σ H) (hdg : decode cc pc = .ok (.getfield 229, 3)) (kk : W p l e R s m args below meth c H locs cells slots Q (F0 m (pc + 3) ls (.int (σ 0 9) :: rest))) : W p l e R s m args below meth c H locs cells slots Q (F0 m pc ls (.ref (cAd E 0) :: rest)) :=
  g_get F hP (k := 0) (cin (by omega)) (ce_7 E _) rfl inX7 9 (by decide) tw_451 rfl rfl hdg kk
end SC
/-! PromisedSlots.activePart(ILPromisedSlots$Coordinator;)I -/
def f_X7_activePart (p2 : Nat) (p1 : Int32) (σ : St) : Option (Int32 × St) :=
  cl (f_J7_fill_53178 (42 + p2) (0 : Int32) σ) fun r2 σ1 =>
  gd (ix (0 : Int32) 384) <|
  vl (up2 σ1 (42 + p2) (nt (0 : Int32)) (1 : Int32)) fun σ5 =>
  cl (f_X4_removeIdle p2 (σ5 (lay (σ5 0 6)) 4) σ5) fun r7 σ6 =>
  cl (f_X7_hearBeacon p1 σ6) fun r10 σ9 =>
  cl (f_X4_sharedSlots p2 σ9) fun r13 σ12 =>
  cl (f_X0_play (42 + p2) (r13 * (σ12 (lay (σ12 0 6)) 2)) σ12) fun r16 σ15 =>
  cl (f_X7_keepPromises p2 σ15) fun r19 σ18 =>
  vl (r16 + r19) fun x21 =>
  vl (up2 σ18 0 8 ((σ18 (22 + p2) 3) + (σ18 (lay (σ18 0 6)) 1))) fun σ22 =>
  vl (up2 σ22 (22 + p2) 3 ((σ22 (22 + p2) 3) + (σ22 (lay (σ22 0 6)) 0))) fun σ23 =>
  vl (up2 σ23 (22 + p2) 4 ((σ23 (22 + p2) 4) + (1 : Int32))) fun σ24 =>
  vl (up2 σ24 0 9 ((σ24 0 9) + (1 : Int32))) fun σ25 =>
  some (x21, σ25)
abbrev rm_X7_activePart : Room := { frames := 6, cells := 0, slots := 0, locals := 131 }
set_option maxHeartbeats 4000000 in
set_option maxRecDepth 100000 in
theorem w_X7_activePart_e {p : Program} {l : Launch} {e : Env} {s : State} {m : MethodId} {args : Array Value} {below : List Frame} {meth : Method} {c : Code} {E : cEv} {r : Int32} {σ' : St} {p2 : Nat} (hp2 : p2 < 4) (B : gBx p m meth c cX7_activePart 4 (some .int) s args RX7 (cG E)) (p1 : Int32) (σ : St) (hf : f_X7_activePart p2 p1 σ = some (r, σ')) (H : Heap) (locs : List Loc) (ls : Array Slot) (hP : gW (cG E) σ H) (hS : va_S (gA (cG E)) s.heap H locs) (hl : lv_has ls 4 [(0, .ref (cAd E 0)), (1, .int p1), (2, .ref (cAd E (22 + p2)))]) : W p l e rm_X7_activePart s m args below meth c H locs 0 0 (gQi below args s (cG E) r σ') (F0 m 0 ls []) := by
  unfold f_X7_activePart at hf
  obtain ⟨F, hr, hlk⟩ := id B
  have hx := F.1
  have hb := F.2.1
  have hml := F.2.2.1
  have hown := F.2.2.2.1
  have hts := F.2.2.2.2.1
  refine lv_aload_n hx hb dX7_activePart_0 rfl (lv_at hl 2 rfl) ?_
  refine gf_X7_210 F hP hp2 dX7_activePart_1 ?_
  refine lv_iconst (v := 0) hx hb dX7_activePart_4 (by decide) ?_
  obtain ⟨r2, σ1, h3, hf⟩ := cl_e hf
  refine kc_X7_260 F hP hS (ca_p (by have := hp2; omega)) h3 ⟨Nat.le_of_ble_eq_true rfl, Nat.le_of_ble_eq_true rfl⟩ hl.1 (Nat.le_of_ble_eq_true rfl) ⟨Nat.zero_le _, Nat.zero_le _⟩ dX7_activePart_5 (fun H locs hP hS => ?_)
  refine lv_aload_n hx hb dX7_activePart_8 rfl (lv_at hl 2 rfl) ?_
  refine gf_X7_210 F hP hp2 dX7_activePart_9 ?_
  refine lv_iconst (v := 0) hx hb dX7_activePart_12 (by decide) ?_
  refine lv_iconst (v := 1) hx hb dX7_activePart_13 (by decide) ?_
  obtain ⟨h4, hf⟩ := gd_e hf
  refine c_iast F hP hS (ca_p (by have := hp2; omega)) (cn_a hp2) h4 dX7_activePart_14 (fun H locs hP hS => ?_)
  obtain ⟨σ5, eσ5, hf⟩ := vl_x hf
  rw [← eσ5] at hP
  refine lv_aload_n hx hb dX7_activePart_15 rfl (lv_at hl 2 rfl) ?_
  refine gf_X7_173 F hP hp2 dX7_activePart_16 ?_
  refine lv_aload_n hx hb dX7_activePart_19 rfl (lv_at hl 0 rfl) ?_
  refine gf_X7_33 F hP dX7_activePart_20 ?_
  refine gf_X7_223 F hP (lay_ok _) dX7_activePart_23 ?_
  obtain ⟨r7, σ6, h8, hf⟩ := cl_e hf
  refine kc_X7_266 F hP hS hp2 h8 ⟨Nat.le_of_ble_eq_true rfl, Nat.le_of_ble_eq_true rfl⟩ hl.1 (Nat.le_of_ble_eq_true rfl) ⟨Nat.zero_le _, Nat.zero_le _⟩ dX7_activePart_26 (fun H locs hP hS => ?_)
  refine lv_aload_n hx hb dX7_activePart_29 rfl (lv_at hl 0 rfl) ?_
  refine lv_iload_n hx hb dX7_activePart_30 rfl (lv_at hl 1 rfl) ?_
  obtain ⟨r10, σ9, h11, hf⟩ := cl_e hf
  refine kc_X7_269 F hP hS h11 ⟨Nat.le_of_ble_eq_true rfl, Nat.le_of_ble_eq_true rfl⟩ hl.1 (Nat.le_of_ble_eq_true rfl) ⟨Nat.zero_le _, Nat.zero_le _⟩ dX7_activePart_31 (fun H locs hP hS => ?_)
  refine lv_aload_n hx hb dX7_activePart_34 rfl (lv_at hl 0 rfl) ?_
  refine gf_X7_59 F hP dX7_activePart_35 ?_
  refine lv_aload_n hx hb dX7_activePart_38 rfl (lv_at hl 2 rfl) ?_
  refine gf_X7_210 F hP hp2 dX7_activePart_39 ?_
  refine lv_aload_n hx hb dX7_activePart_42 rfl (lv_at hl 2 rfl) ?_
  refine gf_X7_173 F hP hp2 dX7_activePart_43 ?_
  obtain ⟨r13, σ12, h14, hf⟩ := cl_e hf
  refine kc_X7_180 F hP hS hp2 h14 ⟨Nat.le_of_ble_eq_true rfl, Nat.le_of_ble_eq_true rfl⟩ hl.1 (Nat.le_of_ble_eq_true rfl) ⟨Nat.zero_le _, Nat.zero_le _⟩ dX7_activePart_46 (fun H locs hP hS => ?_)
  refine lv_aload_n hx hb dX7_activePart_49 rfl (lv_at hl 0 rfl) ?_
  refine gf_X7_33 F hP dX7_activePart_50 ?_
  refine gf_X7_220 F hP (lay_ok _) dX7_activePart_53 ?_
  refine lv_imul hx hb dX7_activePart_56 ?_
  obtain ⟨r16, σ15, h17, hf⟩ := cl_e hf
  refine kc_X7_272 F hP hS (ca_p (by have := hp2; omega)) h17 ⟨Nat.le_of_ble_eq_true rfl, Nat.le_of_ble_eq_true rfl⟩ hl.1 (Nat.le_of_ble_eq_true rfl) ⟨Nat.zero_le _, Nat.zero_le _⟩ dX7_activePart_57 (fun H locs hP hS => ?_)
  refine lv_istore_n (lv' := [(3, .int r16), (0, .ref (cAd E 0)), (1, .int p1), (2, .ref (cAd E (22 + p2)))]) hx hb dX7_activePart_60 rfl hl (by decide) rfl (fun ls hl => ?_)
  refine lv_iload_n hx hb dX7_activePart_61 rfl (lv_at hl 0 rfl) ?_
  refine lv_aload_n hx hb dX7_activePart_62 rfl (lv_at hl 1 rfl) ?_
  refine lv_aload_n hx hb dX7_activePart_63 rfl (lv_at hl 3 rfl) ?_
  obtain ⟨r19, σ18, h20, hf⟩ := cl_e hf
  refine kc_X7_276 F hP hS hp2 h20 ⟨Nat.le_of_ble_eq_true rfl, Nat.le_of_ble_eq_true rfl⟩ hl.1 (Nat.le_of_ble_eq_true rfl) ⟨Nat.zero_le _, Nat.zero_le _⟩ dX7_activePart_64 (fun H locs hP hS => ?_)
  refine lv_iadd hx hb dX7_activePart_67 ?_
  obtain ⟨x21, ex21, hf⟩ := vl_x hf
  rw [← ex21]
  refine lv_istore_n (lv' := [(3, .int x21), (0, .ref (cAd E 0)), (1, .int p1), (2, .ref (cAd E (22 + p2)))]) hx hb dX7_activePart_68 rfl hl (by decide) rfl (fun ls hl => ?_)
  refine lv_aload_n hx hb dX7_activePart_69 rfl (lv_at hl 1 rfl) ?_
  refine lv_aload_n hx hb dX7_activePart_70 rfl (lv_at hl 3 rfl) ?_
  refine gf_X7_257 F hP hp2 dX7_activePart_71 ?_
  refine lv_aload_n hx hb dX7_activePart_74 rfl (lv_at hl 1 rfl) ?_
  refine gf_X7_33 F hP dX7_activePart_75 ?_
  refine gf_X7_207 F hP (lay_ok _) dX7_activePart_78 ?_
  refine lv_iadd hx hb dX7_activePart_81 ?_
  refine pf_X7_124 F hP hS dX7_activePart_82 (fun H locs hP hS => ?_)
  obtain ⟨σ22, eσ22, hf⟩ := vl_x hf
  rw [← eσ22] at hP
  refine lv_aload_n hx hb dX7_activePart_85 rfl (lv_at hl 3 rfl) ?_
  refine lv_dup hx hb dX7_activePart_86 rfl ?_
  refine gf_X7_257 F hP hp2 dX7_activePart_87 ?_
  refine lv_aload_n hx hb dX7_activePart_90 rfl (lv_at hl 1 rfl) ?_
  refine gf_X7_33 F hP dX7_activePart_91 ?_
  refine gf_X7_107 F hP (lay_ok _) dX7_activePart_94 ?_
  refine lv_iadd hx hb dX7_activePart_97 ?_
  refine pf_X7_257 F hP hS hp2 dX7_activePart_98 (fun H locs hP hS => ?_)
  obtain ⟨σ23, eσ23, hf⟩ := vl_x hf
  rw [← eσ23] at hP
  refine lv_aload_n hx hb dX7_activePart_101 rfl (lv_at hl 3 rfl) ?_
  refine lv_dup hx hb dX7_activePart_102 rfl ?_
  refine gf_X7_214 F hP hp2 dX7_activePart_103 ?_
  refine lv_iconst (v := 1) hx hb dX7_activePart_106 (by decide) ?_
  refine lv_iadd hx hb dX7_activePart_107 ?_
  refine pf_X7_214 F hP hS hp2 dX7_activePart_108 (fun H locs hP hS => ?_)
  obtain ⟨σ24, eσ24, hf⟩ := vl_x hf
  rw [← eσ24] at hP
  refine lv_aload_n hx hb dX7_activePart_111 rfl (lv_at hl 1 rfl) ?_
  refine lv_dup hx hb dX7_activePart_112 rfl ?_
  refine gf_X7_229 F hP dX7_activePart_113 ?_
  refine lv_iconst (v := 1) hx hb dX7_activePart_116 (by decide) ?_
  refine lv_iadd hx hb dX7_activePart_117 ?_
  refine pf_X7_229 F hP hS dX7_activePart_118 (fun H locs hP hS => ?_)
  obtain ⟨σ25, eσ25, hf⟩ := vl_x hf
  rw [← eσ25] at hP
  refine lv_iload_n hx hb dX7_activePart_121 rfl (lv_at hl 0 rfl) ?_
  exact g_iret B hP hS hf dX7_activePart_122
theorem c_X7_activePart (l : Launch) {E : cEv} (hI : gIj (cG E)) {p2 : Nat} (hp2 : p2 < 4) {p1 : Int32} {σ σ' : St} {r : Int32} (hf : f_X7_activePart p2 p1 σ = some (r, σ')) : gMi l yX7_activePart cX7_activePart 4 .int rm_X7_activePart [.ref (cAd E 0), .int p1, .ref (cAd E (22 + p2))] (cG E) σ r σ' :=
  g_entry (by decide) (Nat.le_of_ble_eq_true rfl) hI (fun p e s m args below meth c B hP hS ls hl => w_X7_activePart_e hp2 B _ σ hf _ _ ls hP hS hl)
section SC
variable {p : Program} {l : Launch} {e : Env} {R : Room} {s : State} {m : MethodId} {args : Array Value} {below : List Frame} {meth : Method} {c : Code} {H : Heap} {locs : List Loc} {cells slots : Nat} {Q : State → Prop}
variable {cc : ByteArray} {pc nL : Nat} {ls : Array Slot} {rest : List Value} {E : cEv} {σ : St}
theorem kc_X7_200 (F : gFx p m c cc nL s args RX7 (cG E)) (hP : gW (cG E) σ H) (hS : va_S (gA (cG E)) s.heap H locs) {r : Int32} {σ' : St} (hf : f_X7_nextToBeacon σ = some (r, σ')) (hR : rm_X7_nextToBeacon.frames + 1 ≤ R.frames ∧ 8 + (3 + 11) + rm_X7_nextToBeacon.locals ≤ R.locals) (hsz : ls.size = nL) (hrest : (rest.map fun v => v.category).sum ≤ 8) (hcs : cells ≤ R.cells ∧ slots ≤ R.slots) (hdg : decode cc pc = .ok (.invokevirtual 200, 3)) (kk : ∀ (H1 : Heap) (locs1 : List Loc), gW (cG E) σ' H1 → va_S (gA (cG E)) s.heap H1 locs1 → W p l e R s m args below meth c H1 locs1 cells slots Q (F0 m (pc + 3) ls (.int r :: rest))) : W p l e R s m args below meth c H locs cells slots Q (F0 m pc ls (.ref (cAd E 0) :: rest)) :=
  g_callVi F hP hS (c_X7_nextToBeacon l F.2.2.2.2.2.2.2 hf) (g_cwV (n := 0) F tw_608 tw_610 ts_13 tw_1 tw_611 (by decide +kernel) rfl rfl hR) (k := 0) (cin (by omega)) (ce_7 E _) rfl (As := []) rfl hsz rfl hrest hdg hcs kk
theorem kc_X7_203 (F : gFx p m c cc nL s args RX7 (cG E)) (hP : gW (cG E) σ H) (hS : va_S (gA (cG E)) s.heap H locs) {p2 : Nat} (hp2 : p2 < 4) {p1 : Int32} {r : Int32} {σ' : St} (hf : f_X7_activePart p2 p1 σ = some (r, σ')) (hR : rm_X7_activePart.frames + 1 ≤ R.frames ∧ 8 + (4 + 11) + rm_X7_activePart.locals ≤ R.locals) (hsz : ls.size = nL) (hrest : (rest.map fun v => v.category).sum ≤ 8) (hcs : cells ≤ R.cells ∧ slots ≤ R.slots) (hdg : decode cc pc = .ok (.invokevirtual 203, 3)) (kk : ∀ (H1 : Heap) (locs1 : List Loc), gW (cG E) σ' H1 → va_S (gA (cG E)) s.heap H1 locs1 → W p l e R s m args below meth c H1 locs1 cells slots Q (F0 m (pc + 3) ls (.int r :: rest))) : W p l e R s m args below meth c H locs cells slots Q (F0 m pc ls (.ref (cAd E (22 + p2)) :: .int p1 :: .ref (cAd E 0) :: rest)) :=
  g_callVi F hP hS (c_X7_activePart l F.2.2.2.2.2.2.2 hp2 hf) (g_cwV (n := 2) F tw_612 tw_614 ts_14 tw_1 tw_615 (by decide +kernel) rfl rfl hR) (k := 0) (cin (by omega)) (ce_7 E _) rfl (As := [.int p1, .ref (cAd E (22 + p2))]) rfl hsz rfl hrest hdg hcs kk
end SC
/-! PromisedSlots.run(I)I -/
def b_X7_run_17 (K17 : (Int32 × Int32 × Int32 × St → Option (Int32 × St))) (a1 : Int32) (a2 : Int32) (a3 : Int32) (σ : St) : Option (Int32 × St) :=
  if a1 ≤ a3 then
    some (a2, σ)
  else
    cl (f_X7_nextToBeacon σ) fun r5 σ4 =>
    cl (f_X7_coordinatorAt r5 σ4) fun r8 σ7 =>
    oc r8 (
      vl (a3 + (1 : Int32)) fun x12 =>
      K17 (a1, a2, x12, σ7)) (fun d11 => gd (d11 < 4) <|
      cl (f_X7_activePart d11 r5 σ7) fun r15 σ14 =>
      vl (a2 + r15) fun x17 =>
      vl (a3 + (1 : Int32)) fun x18 =>
      K17 (a1, x17, x18, σ14))
def f_X7_run (p1 : Int32) (σ : St) : Option (Int32 × St) :=
  if p1 < (1 : Int32) then
    some ((-1 : Int32), σ)
  else
    if p1 ≤ (20 : Int32) then
      lp (fun K a => b_X7_run_17 K a.1 a.2.1 a.2.2.1 a.2.2.2) FU (p1, (0 : Int32), (0 : Int32), σ)
    else
      some ((-1 : Int32), σ)
abbrev rm_X7_run : Room := { frames := 7, cells := 0, slots := 0, locals := 154 }
def P_X7_run_17 (p : Program) (l : Launch) (e : Env) (s : State) (m : MethodId) (args : Array Value) (below : List Frame) (meth : Method) (c : Code) (E : cEv) (r : Int32) (σ' : St) (a : Int32 × Int32 × Int32 × St) : Prop := ∀ (H : Heap) (locs : List Loc) (ls : Array Slot), gW (cG E) a.2.2.2 H → va_S (gA (cG E)) s.heap H locs → lv_has ls 6 [(0, .ref (cAd E 0)), (1, .int a.1), (2, .int a.2.1), (3, .int a.2.2.1)] → W p l e rm_X7_run s m args below meth c H locs 0 0 (gQi below args s (cG E) r σ') (F0 m 17 ls [])
set_option maxHeartbeats 4000000 in
set_option maxRecDepth 100000 in
theorem w_X7_run_17 {p : Program} {l : Launch} {e : Env} {s : State} {m : MethodId} {args : Array Value} {below : List Frame} {meth : Method} {c : Code} {E : cEv} {r : Int32} {σ' : St} (B : gBx p m meth c cX7_run 6 (some .int) s args RX7 (cG E)) {K17 : (Int32 × Int32 × Int32 × St → Option (Int32 × St))} (hK17 : ∀ a, K17 a = some (r, σ') → P_X7_run_17 p l e s m args below meth c E r σ' a) (a1 : Int32) (a2 : Int32) (a3 : Int32) (σ : St) (hf : b_X7_run_17 K17 a1 a2 a3 σ = some (r, σ')) (H : Heap) (locs : List Loc) (ls : Array Slot) (hP : gW (cG E) σ H) (hS : va_S (gA (cG E)) s.heap H locs) (hl : lv_has ls 6 [(0, .ref (cAd E 0)), (1, .int a1), (2, .int a2), (3, .int a3)]) : W p l e rm_X7_run s m args below meth c H locs 0 0 (gQi below args s (cG E) r σ') (F0 m 17 ls []) := by
  unfold b_X7_run_17 at hf
  obtain ⟨F, hr, hlk⟩ := id B
  have hx := F.1
  have hb := F.2.1
  have hml := F.2.2.1
  have hown := F.2.2.2.1
  have hts := F.2.2.2.2.1
  refine lv_iload_n hx hb dX7_run_17 rfl (lv_at hl 3 rfl) ?_
  refine lv_iload_n hx hb dX7_run_18 rfl (lv_at hl 1 rfl) ?_
  refine lv_icmp_ge (tgt := 58) hx hb dX7_run_19 (by decide) (fun h3 => ?_) (fun h3 => ?_)
  · rw [if_pos h3] at hf
    refine lv_iload_n hx hb dX7_run_58 rfl (lv_at hl 2 rfl) ?_
    exact g_iret B hP hS hf dX7_run_59
  · rw [if_neg h3] at hf
    refine lv_aload_n hx hb dX7_run_22 rfl (lv_at hl 0 rfl) ?_
    obtain ⟨r5, σ4, h6, hf⟩ := cl_e hf
    refine kc_X7_200 F hP hS h6 ⟨Nat.le_of_ble_eq_true rfl, Nat.le_of_ble_eq_true rfl⟩ hl.1 (Nat.le_of_ble_eq_true rfl) ⟨Nat.zero_le _, Nat.zero_le _⟩ dX7_run_23 (fun H locs hP hS => ?_)
    refine lv_istore (lv' := [(4, .int r5), (0, .ref (cAd E 0)), (1, .int a1), (2, .int a2), (3, .int a3)]) hx hb dX7_run_26 hl (by decide) rfl (fun ls hl => ?_)
    refine lv_aload_n hx hb dX7_run_28 rfl (lv_at hl 1 rfl) ?_
    refine lv_iload hx hb dX7_run_29 (lv_at hl 0 rfl) ?_
    obtain ⟨r8, σ7, h9, hf⟩ := cl_e hf
    refine kc_X7_103 F hP hS h9 ⟨Nat.le_of_ble_eq_true rfl, Nat.le_of_ble_eq_true rfl⟩ hl.1 (Nat.le_of_ble_eq_true rfl) ⟨Nat.zero_le _, Nat.zero_le _⟩ dX7_run_31 (fun e10 H locs hP hS => ?_) (fun d11 e10 H locs hP hS => ?_)
    · subst e10
      replace hf := oc_n hf
      refine lv_astoreN (lv' := [(5, .null), (4, .int r5), (0, .ref (cAd E 0)), (1, .int a1), (2, .int a2), (3, .int a3)]) hx hb dX7_run_34 hl (by decide) rfl (fun ls hl => ?_)
      refine lv_aloadN hx hb dX7_run_36 (lv_at hl 0 rfl) ?_
      refine lv_ifnullN (tgt := 52) hx hb dX7_run_38 (by decide) ?_
      refine lv_iinc (v := a3 + (1 : Int32)) (lv' := [(3, .int (a3 + (1 : Int32))), (5, .null), (4, .int r5), (0, .ref (cAd E 0)), (1, .int a1), (2, .int a2)]) hx hb dX7_run_52 hl (k := 5) rfl rfl (by decide) rfl (fun ls hl => ?_)
      obtain ⟨x12, ex12, hf⟩ := vl_x hf
      rw [← ex12] at hl
      refine lv_goto (tgt := 17) hx hb dX7_run_55 (by decide) ?_
      exact hK17 _ hf _ _ _ hP hS (lv_sub hl [3, 4, 5, 0] rfl)
    · subst e10
      replace hf := oc_s hf
      obtain ⟨h13, hf⟩ := gd_e hf
      refine lv_astore (lv' := [(5, .ref (cAd E (22 + d11))), (4, .int r5), (0, .ref (cAd E 0)), (1, .int a1), (2, .int a2), (3, .int a3)]) hx hb dX7_run_34 hl (by decide) rfl (fun ls hl => ?_)
      refine lv_aload hx hb dX7_run_36 (lv_at hl 0 rfl) ?_
      refine lv_ifnull hx hb dX7_run_38 ?_
      refine lv_iload_n hx hb dX7_run_41 rfl (lv_at hl 4 rfl) ?_
      refine lv_aload_n hx hb dX7_run_42 rfl (lv_at hl 2 rfl) ?_
      refine lv_iload hx hb dX7_run_43 (lv_at hl 1 rfl) ?_
      refine lv_aload hx hb dX7_run_45 (lv_at hl 0 rfl) ?_
      obtain ⟨r15, σ14, h16, hf⟩ := cl_e hf
      refine kc_X7_203 F hP hS h13 h16 ⟨Nat.le_of_ble_eq_true rfl, Nat.le_of_ble_eq_true rfl⟩ hl.1 (Nat.le_of_ble_eq_true rfl) ⟨Nat.zero_le _, Nat.zero_le _⟩ dX7_run_47 (fun H locs hP hS => ?_)
      refine lv_iadd hx hb dX7_run_50 ?_
      obtain ⟨x17, ex17, hf⟩ := vl_x hf
      rw [← ex17]
      refine lv_istore_n (lv' := [(2, .int x17), (5, .ref (cAd E (22 + d11))), (4, .int r5), (0, .ref (cAd E 0)), (1, .int a1), (3, .int a3)]) hx hb dX7_run_51 rfl hl (by decide) rfl (fun ls hl => ?_)
      refine lv_iinc (v := a3 + (1 : Int32)) (lv' := [(3, .int (a3 + (1 : Int32))), (2, .int x17), (5, .ref (cAd E (22 + d11))), (4, .int r5), (0, .ref (cAd E 0)), (1, .int a1)]) hx hb dX7_run_52 hl (k := 5) rfl rfl (by decide) rfl (fun ls hl => ?_)
      obtain ⟨x18, ex18, hf⟩ := vl_x hf
      rw [← ex18] at hl
      refine lv_goto (tgt := 17) hx hb dX7_run_55 (by decide) ?_
      exact hK17 _ hf _ _ _ hP hS (lv_sub hl [4, 5, 1, 0] rfl)
set_option maxHeartbeats 4000000 in
set_option maxRecDepth 100000 in
theorem w_X7_run_e {p : Program} {l : Launch} {e : Env} {s : State} {m : MethodId} {args : Array Value} {below : List Frame} {meth : Method} {c : Code} {E : cEv} {r : Int32} {σ' : St} (B : gBx p m meth c cX7_run 6 (some .int) s args RX7 (cG E)) (p1 : Int32) (σ : St) (hf : f_X7_run p1 σ = some (r, σ')) (H : Heap) (locs : List Loc) (ls : Array Slot) (hP : gW (cG E) σ H) (hS : va_S (gA (cG E)) s.heap H locs) (hl : lv_has ls 6 [(0, .ref (cAd E 0)), (1, .int p1)]) : W p l e rm_X7_run s m args below meth c H locs 0 0 (gQi below args s (cG E) r σ') (F0 m 0 ls []) := by
  unfold f_X7_run at hf
  obtain ⟨F, hr, hlk⟩ := id B
  have hx := F.1
  have hb := F.2.1
  have hml := F.2.2.1
  have hown := F.2.2.2.1
  have hts := F.2.2.2.2.1
  refine lv_iload_n hx hb dX7_run_0 rfl (lv_at hl 1 rfl) ?_
  refine lv_iconst (v := 1) hx hb dX7_run_1 (by decide) ?_
  refine lv_icmp_lt (tgt := 11) hx hb dX7_run_2 (by decide) (fun h1 => ?_) (fun h1 => ?_)
  · rw [if_pos h1] at hf
    refine lv_iconst (v := (-1)) hx hb dX7_run_11 (by decide) ?_
    exact g_iret B hP hS hf dX7_run_12
  · rw [if_neg h1] at hf
    refine lv_iload_n hx hb dX7_run_5 rfl (lv_at hl 1 rfl) ?_
    refine lv_bipush (v := (20)) hx hb dX7_run_6 (by decide) ?_
    refine lv_icmp_le (tgt := 13) hx hb dX7_run_8 (by decide) (fun h2 => ?_) (fun h2 => ?_)
    · rw [if_pos h2] at hf
      refine lv_iconst (v := 0) hx hb dX7_run_13 (by decide) ?_
      refine lv_istore_n (lv' := [(2, .int (0 : Int32)), (0, .ref (cAd E 0)), (1, .int p1)]) hx hb dX7_run_14 rfl hl (by decide) rfl (fun ls hl => ?_)
      refine lv_iconst (v := 0) hx hb dX7_run_15 (by decide) ?_
      refine lv_istore_n (lv' := [(3, .int (0 : Int32)), (2, .int (0 : Int32)), (0, .ref (cAd E 0)), (1, .int p1)]) hx hb dX7_run_16 rfl hl (by decide) rfl (fun ls hl => ?_)
      exact lp_w (P := P_X7_run_17 p l e s m args below meth c E r σ') (fun K hK a ha => w_X7_run_17 B hK a.1 a.2.1 a.2.2.1 a.2.2.2 ha) FU _ hf _ _ _ hP hS (lv_sub hl [2, 3, 1, 0] rfl)
    · rw [if_neg h2] at hf
      refine lv_iconst (v := (-1)) hx hb dX7_run_11 (by decide) ?_
      exact g_iret B hP hS hf dX7_run_12
theorem c_X7_run (l : Launch) {E : cEv} (hI : gIj (cG E)) {p1 : Int32} {σ σ' : St} {r : Int32} (hf : f_X7_run p1 σ = some (r, σ')) : gMi l yX7_run cX7_run 6 .int rm_X7_run [.ref (cAd E 0), .int p1] (cG E) σ r σ' :=
  g_entry (by decide) (Nat.le_of_ble_eq_true rfl) hI (fun p e s m args below meth c B hP hS ls hl => w_X7_run_e B _ σ hf _ _ ls hP hS hl)
/-! PromisedSlots.air(II)I -/
def f_X7_air (p1 : Int32) (p2 : Int32) (σ : St) : Option (Int32 × St) :=
  cl (f_X7_coordinatorAt p1 σ) fun r2 σ1 =>
  oc r2 (
    some ((-1 : Int32), σ1)) (fun d5 => gd (d5 < 4) <|
    if p2 < 0 then
      some ((-1 : Int32), σ1)
    else
      if (σ1 (lay (σ1 0 6)) 1) ≤ p2 then
        some ((-1 : Int32), σ1)
      else
        if p2 < (nI 384) then
          if (σ1 (22 + d5) 4) = 0 then
            some ((-4 : Int32), σ1)
          else
            gd (ix p2 384) <|
            some ((σ1 (42 + d5) (nt p2)), σ1)
        else
          some ((-1 : Int32), σ1))
abbrev rm_X7_air : Room := { frames := 1, cells := 0, slots := 0, locals := 21 }
set_option maxHeartbeats 4000000 in
set_option maxRecDepth 100000 in
theorem w_X7_air_e {p : Program} {l : Launch} {e : Env} {s : State} {m : MethodId} {args : Array Value} {below : List Frame} {meth : Method} {c : Code} {E : cEv} {r : Int32} {σ' : St} (B : gBx p m meth c cX7_air 4 (some .int) s args RX7 (cG E)) (p1 : Int32) (p2 : Int32) (σ : St) (hf : f_X7_air p1 p2 σ = some (r, σ')) (H : Heap) (locs : List Loc) (ls : Array Slot) (hP : gW (cG E) σ H) (hS : va_S (gA (cG E)) s.heap H locs) (hl : lv_has ls 4 [(0, .ref (cAd E 0)), (1, .int p1), (2, .int p2)]) : W p l e rm_X7_air s m args below meth c H locs 0 0 (gQi below args s (cG E) r σ') (F0 m 0 ls []) := by
  unfold f_X7_air at hf
  obtain ⟨F, hr, hlk⟩ := id B
  have hx := F.1
  have hb := F.2.1
  have hml := F.2.2.1
  have hown := F.2.2.2.1
  have hts := F.2.2.2.2.1
  refine lv_aload_n hx hb dX7_air_0 rfl (lv_at hl 0 rfl) ?_
  refine lv_iload_n hx hb dX7_air_1 rfl (lv_at hl 1 rfl) ?_
  obtain ⟨r2, σ1, h3, hf⟩ := cl_e hf
  refine kc_X7_103 F hP hS h3 ⟨Nat.le_of_ble_eq_true rfl, Nat.le_of_ble_eq_true rfl⟩ hl.1 (Nat.le_of_ble_eq_true rfl) ⟨Nat.zero_le _, Nat.zero_le _⟩ dX7_air_2 (fun e4 H locs hP hS => ?_) (fun d5 e4 H locs hP hS => ?_)
  · subst e4
    replace hf := oc_n hf
    refine lv_astore_nN (lv' := [(3, .null), (0, .ref (cAd E 0)), (1, .int p1), (2, .int p2)]) hx hb dX7_air_5 rfl hl (by decide) rfl (fun ls hl => ?_)
    refine lv_aload_nN hx hb dX7_air_6 rfl (lv_at hl 0 rfl) ?_
    refine lv_ifnullN (tgt := 34) hx hb dX7_air_7 (by decide) ?_
    refine lv_iconst (v := (-1)) hx hb dX7_air_34 (by decide) ?_
    exact g_iret B hP hS hf dX7_air_35
  · subst e4
    replace hf := oc_s hf
    obtain ⟨h6, hf⟩ := gd_e hf
    refine lv_astore_n (lv' := [(3, .ref (cAd E (22 + d5))), (0, .ref (cAd E 0)), (1, .int p1), (2, .int p2)]) hx hb dX7_air_5 rfl hl (by decide) rfl (fun ls hl => ?_)
    refine lv_aload_n hx hb dX7_air_6 rfl (lv_at hl 0 rfl) ?_
    refine lv_ifnull hx hb dX7_air_7 ?_
    refine lv_iload_n hx hb dX7_air_10 rfl (lv_at hl 3 rfl) ?_
    refine lv_if_lt (tgt := 34) hx hb dX7_air_11 (by decide) (fun h7 => ?_) (fun h7 => ?_)
    · rw [if_pos h7] at hf
      refine lv_iconst (v := (-1)) hx hb dX7_air_34 (by decide) ?_
      exact g_iret B hP hS hf dX7_air_35
    · rw [if_neg h7] at hf
      refine lv_iload_n hx hb dX7_air_14 rfl (lv_at hl 3 rfl) ?_
      refine lv_aload_n hx hb dX7_air_15 rfl (lv_at hl 1 rfl) ?_
      refine gf_X7_33 F hP dX7_air_16 ?_
      refine gf_X7_207 F hP (lay_ok _) dX7_air_19 ?_
      refine lv_icmp_ge (tgt := 34) hx hb dX7_air_22 (by decide) (fun h8 => ?_) (fun h8 => ?_)
      · rw [if_pos h8] at hf
        refine lv_iconst (v := (-1)) hx hb dX7_air_34 (by decide) ?_
        exact g_iret B hP hS hf dX7_air_35
      · rw [if_neg h8] at hf
        refine lv_iload_n hx hb dX7_air_25 rfl (lv_at hl 3 rfl) ?_
        refine lv_aload_n hx hb dX7_air_26 rfl (lv_at hl 0 rfl) ?_
        refine gf_X7_210 F hP h6 dX7_air_27 ?_
        refine c_alen F hP (ca_p (by have := h6; omega)) (cn_a h6) dX7_air_30 ?_
        refine lv_icmp_lt (tgt := 36) hx hb dX7_air_31 (by decide) (fun h9 => ?_) (fun h9 => ?_)
        · rw [if_pos h9] at hf
          refine lv_aload_n hx hb dX7_air_36 rfl (lv_at hl 0 rfl) ?_
          refine gf_X7_214 F hP h6 dX7_air_37 ?_
          refine lv_if_ne (tgt := 48) hx hb dX7_air_40 (by decide) (fun h10 => ?_) (fun h10 => ?_)
          · rw [if_neg h10] at hf
            refine lv_aload_n hx hb dX7_air_48 rfl (lv_at hl 0 rfl) ?_
            refine gf_X7_210 F hP h6 dX7_air_49 ?_
            refine lv_iload_n hx hb dX7_air_52 rfl (lv_at hl 3 rfl) ?_
            obtain ⟨h11, hf⟩ := gd_e hf
            refine c_iald F hP (ca_p (by have := h6; omega)) (cn_a h6) h11 dX7_air_53 ?_
            exact g_iret B hP hS hf dX7_air_54
          · rw [if_pos h10] at hf
            refine lv_bipush (v := (-4)) hx hb dX7_air_43 (by decide) ?_
            refine lv_goto (tgt := 54) hx hb dX7_air_45 (by decide) ?_
            exact g_iret B hP hS hf dX7_air_54
        · rw [if_neg h9] at hf
          refine lv_iconst (v := (-1)) hx hb dX7_air_34 (by decide) ?_
          exact g_iret B hP hS hf dX7_air_35
theorem c_X7_air (l : Launch) {E : cEv} (hI : gIj (cG E)) {p1 : Int32} {p2 : Int32} {σ σ' : St} {r : Int32} (hf : f_X7_air p1 p2 σ = some (r, σ')) : gMi l yX7_air cX7_air 4 .int rm_X7_air [.ref (cAd E 0), .int p1, .int p2] (cG E) σ r σ' :=
  g_entry (by decide) (Nat.le_of_ble_eq_true rfl) hI (fun p e s m args below meth c B hP hS ls hl => w_X7_air_e B _ _ σ hf _ _ ls hP hS hl)
section SC
variable {p : Program} {l : Launch} {e : Env} {R : Room} {s : State} {m : MethodId} {args : Array Value} {below : List Frame} {meth : Method} {c : Code} {H : Heap} {locs : List Loc} {cells slots : Nat} {Q : State → Prop}
variable {cc : ByteArray} {pc nL : Nat} {ls : Array Slot} {rest : List Value} {E : cEv} {σ : St}
theorem kc_X7_217 (F : gFx p m c cc nL s args RX7 (cG E)) (hP : gW (cG E) σ H) (hS : va_S (gA (cG E)) s.heap H locs) {o : Nat} (ho : o < 4) {p1 : Int32} {r : Int32} {σ' : St} (hf : f_X1_tell o p1 σ = some (r, σ')) (hR : rm_X1_tell.frames + 1 ≤ R.frames ∧ 8 + (2 + 11) + rm_X1_tell.locals ≤ R.locals) (hsz : ls.size = nL) (hrest : (rest.map fun v => v.category).sum ≤ 8) (hcs : cells ≤ R.cells ∧ slots ≤ R.slots) (hdg : decode cc pc = .ok (.invokevirtual 217, 3)) (kk : ∀ (H1 : Heap) (locs1 : List Loc), gW (cG E) σ' H1 → va_S (gA (cG E)) s.heap H1 locs1 → W p l e R s m args below meth c H1 locs1 cells slots Q (F0 m (pc + 3) ls (.int r :: rest))) : W p l e R s m args below meth c H locs cells slots Q (F0 m pc ls (.int p1 :: .ref (cAd E (22 + o)) :: rest)) :=
  g_callVi F hP hS (c_X1_tell l F.2.2.2.2.2.2.2 ho hf) (g_cwV (n := 1) F tw_730 tw_731 tw_732 tw_6 tw_733 (by decide +kernel) rfl rfl hR) (k := (22 + o)) (cin (by omega)) (ce_1 E _ ho) rfl (As := [.int p1]) rfl hsz rfl hrest hdg hcs kk
end SC
/-! PromisedSlots.coordinator(II)I -/
def f_X7_coordinator (p1 : Int32) (p2 : Int32) (σ : St) : Option (Int32 × St) :=
  cl (f_X7_coordinatorAt p1 σ) fun r2 σ1 =>
  oc r2 (
    some ((-1 : Int32), σ1)) (fun d5 => gd (d5 < 4) <|
    cl (f_X1_tell d5 p2 σ1) fun r8 σ7 =>
    some (r8, σ7))
abbrev rm_X7_coordinator : Room := { frames := 3, cells := 0, slots := 0, locals := 64 }
set_option maxHeartbeats 4000000 in
set_option maxRecDepth 100000 in
theorem w_X7_coordinator_e {p : Program} {l : Launch} {e : Env} {s : State} {m : MethodId} {args : Array Value} {below : List Frame} {meth : Method} {c : Code} {E : cEv} {r : Int32} {σ' : St} (B : gBx p m meth c cX7_coordinator 4 (some .int) s args RX7 (cG E)) (p1 : Int32) (p2 : Int32) (σ : St) (hf : f_X7_coordinator p1 p2 σ = some (r, σ')) (H : Heap) (locs : List Loc) (ls : Array Slot) (hP : gW (cG E) σ H) (hS : va_S (gA (cG E)) s.heap H locs) (hl : lv_has ls 4 [(0, .ref (cAd E 0)), (1, .int p1), (2, .int p2)]) : W p l e rm_X7_coordinator s m args below meth c H locs 0 0 (gQi below args s (cG E) r σ') (F0 m 0 ls []) := by
  unfold f_X7_coordinator at hf
  obtain ⟨F, hr, hlk⟩ := id B
  have hx := F.1
  have hb := F.2.1
  have hml := F.2.2.1
  have hown := F.2.2.2.1
  have hts := F.2.2.2.2.1
  refine lv_aload_n hx hb dX7_coordinator_0 rfl (lv_at hl 0 rfl) ?_
  refine lv_iload_n hx hb dX7_coordinator_1 rfl (lv_at hl 1 rfl) ?_
  obtain ⟨r2, σ1, h3, hf⟩ := cl_e hf
  refine kc_X7_103 F hP hS h3 ⟨Nat.le_of_ble_eq_true rfl, Nat.le_of_ble_eq_true rfl⟩ hl.1 (Nat.le_of_ble_eq_true rfl) ⟨Nat.zero_le _, Nat.zero_le _⟩ dX7_coordinator_2 (fun e4 H locs hP hS => ?_) (fun d5 e4 H locs hP hS => ?_)
  · subst e4
    replace hf := oc_n hf
    refine lv_astore_nN (lv' := [(3, .null), (0, .ref (cAd E 0)), (1, .int p1), (2, .int p2)]) hx hb dX7_coordinator_5 rfl hl (by decide) rfl (fun ls hl => ?_)
    refine lv_aload_nN hx hb dX7_coordinator_6 rfl (lv_at hl 0 rfl) ?_
    refine lv_ifnonnullN hx hb dX7_coordinator_7 ?_
    refine lv_iconst (v := (-1)) hx hb dX7_coordinator_10 (by decide) ?_
    refine lv_goto (tgt := 19) hx hb dX7_coordinator_11 (by decide) ?_
    exact g_iret B hP hS hf dX7_coordinator_19
  · subst e4
    replace hf := oc_s hf
    obtain ⟨h6, hf⟩ := gd_e hf
    refine lv_astore_n (lv' := [(3, .ref (cAd E (22 + d5))), (0, .ref (cAd E 0)), (1, .int p1), (2, .int p2)]) hx hb dX7_coordinator_5 rfl hl (by decide) rfl (fun ls hl => ?_)
    refine lv_aload_n hx hb dX7_coordinator_6 rfl (lv_at hl 0 rfl) ?_
    refine lv_ifnonnull (tgt := 14) hx hb dX7_coordinator_7 (by decide) ?_
    refine lv_aload_n hx hb dX7_coordinator_14 rfl (lv_at hl 0 rfl) ?_
    refine lv_iload_n hx hb dX7_coordinator_15 rfl (lv_at hl 3 rfl) ?_
    obtain ⟨r8, σ7, h9, hf⟩ := cl_e hf
    refine kc_X7_217 F hP hS h6 h9 ⟨Nat.le_of_ble_eq_true rfl, Nat.le_of_ble_eq_true rfl⟩ hl.1 (Nat.le_of_ble_eq_true rfl) ⟨Nat.zero_le _, Nat.zero_le _⟩ dX7_coordinator_16 (fun H locs hP hS => ?_)
    exact g_iret B hP hS hf dX7_coordinator_19
theorem c_X7_coordinator (l : Launch) {E : cEv} (hI : gIj (cG E)) {p1 : Int32} {p2 : Int32} {σ σ' : St} {r : Int32} (hf : f_X7_coordinator p1 p2 σ = some (r, σ')) : gMi l yX7_coordinator cX7_coordinator 4 .int rm_X7_coordinator [.ref (cAd E 0), .int p1, .int p2] (cG E) σ r σ' :=
  g_entry (by decide) (Nat.le_of_ble_eq_true rfl) hI (fun p e s m args below meth c B hP hS ls hl => w_X7_coordinator_e B _ _ σ hf _ _ ls hP hS hl)
section SC
variable {p : Program} {l : Launch} {e : Env} {R : Room} {s : State} {m : MethodId} {args : Array Value} {below : List Frame} {meth : Method} {c : Code} {H : Heap} {locs : List Loc} {cells slots : Nat} {Q : State → Prop}
variable {cc : ByteArray} {pc nL : Nat} {ls : Array Slot} {rest : List Value} {E : cEv} {σ : St}
theorem kc_X7_219 (F : gFx p m c cc nL s args RX7 (cG E)) (hP : gW (cG E) σ H) (hS : va_S (gA (cG E)) s.heap H locs) {o : Nat} (ho : o < 8) {p1 : Int32} {r : Int32} {σ' : St} (hf : f_X2_tell o p1 σ = some (r, σ')) (hR : rm_X2_tell.frames + 1 ≤ R.frames ∧ 8 + (2 + 11) + rm_X2_tell.locals ≤ R.locals) (hsz : ls.size = nL) (hrest : (rest.map fun v => v.category).sum ≤ 8) (hcs : cells ≤ R.cells ∧ slots ≤ R.slots) (hdg : decode cc pc = .ok (.invokevirtual 219, 3)) (kk : ∀ (H1 : Heap) (locs1 : List Loc), gW (cG E) σ' H1 → va_S (gA (cG E)) s.heap H1 locs1 → W p l e R s m args below meth c H1 locs1 cells slots Q (F0 m (pc + 3) ls (.int r :: rest))) : W p l e R s m args below meth c H locs cells slots Q (F0 m pc ls (.int p1 :: .ref (cAd E (46 + o)) :: rest)) :=
  g_callVi F hP hS (c_X2_tell l F.2.2.2.2.2.2.2 ho hf) (g_cwV (n := 1) F tw_739 tw_740 tw_741 tw_8 tw_742 (by decide +kernel) rfl rfl hR) (k := (46 + o)) (cin (by omega)) (ce_2 E _ ho) rfl (As := [.int p1]) rfl hsz rfl hrest hdg hcs kk
end SC
/-! PromisedSlots.device(II)I -/
def f_X7_device (p1 : Int32) (p2 : Int32) (σ : St) : Option (Int32 × St) :=
  cl (f_X7_deviceAt p1 σ) fun r2 σ1 =>
  oc r2 (
    some ((-1 : Int32), σ1)) (fun d5 => gd (d5 < 8) <|
    cl (f_X2_tell d5 p2 σ1) fun r8 σ7 =>
    some (r8, σ7))
abbrev rm_X7_device : Room := { frames := 1, cells := 0, slots := 0, locals := 21 }
set_option maxHeartbeats 4000000 in
set_option maxRecDepth 100000 in
theorem w_X7_device_e {p : Program} {l : Launch} {e : Env} {s : State} {m : MethodId} {args : Array Value} {below : List Frame} {meth : Method} {c : Code} {E : cEv} {r : Int32} {σ' : St} (B : gBx p m meth c cX7_device 4 (some .int) s args RX7 (cG E)) (p1 : Int32) (p2 : Int32) (σ : St) (hf : f_X7_device p1 p2 σ = some (r, σ')) (H : Heap) (locs : List Loc) (ls : Array Slot) (hP : gW (cG E) σ H) (hS : va_S (gA (cG E)) s.heap H locs) (hl : lv_has ls 4 [(0, .ref (cAd E 0)), (1, .int p1), (2, .int p2)]) : W p l e rm_X7_device s m args below meth c H locs 0 0 (gQi below args s (cG E) r σ') (F0 m 0 ls []) := by
  unfold f_X7_device at hf
  obtain ⟨F, hr, hlk⟩ := id B
  have hx := F.1
  have hb := F.2.1
  have hml := F.2.2.1
  have hown := F.2.2.2.1
  have hts := F.2.2.2.2.1
  refine lv_aload_n hx hb dX7_device_0 rfl (lv_at hl 0 rfl) ?_
  refine lv_iload_n hx hb dX7_device_1 rfl (lv_at hl 1 rfl) ?_
  obtain ⟨r2, σ1, h3, hf⟩ := cl_e hf
  refine kc_X7_138 F hP hS h3 ⟨Nat.le_of_ble_eq_true rfl, Nat.le_of_ble_eq_true rfl⟩ hl.1 (Nat.le_of_ble_eq_true rfl) ⟨Nat.zero_le _, Nat.zero_le _⟩ dX7_device_2 (fun e4 H locs hP hS => ?_) (fun d5 e4 H locs hP hS => ?_)
  · subst e4
    replace hf := oc_n hf
    refine lv_astore_nN (lv' := [(3, .null), (0, .ref (cAd E 0)), (1, .int p1), (2, .int p2)]) hx hb dX7_device_5 rfl hl (by decide) rfl (fun ls hl => ?_)
    refine lv_aload_nN hx hb dX7_device_6 rfl (lv_at hl 0 rfl) ?_
    refine lv_ifnonnullN hx hb dX7_device_7 ?_
    refine lv_iconst (v := (-1)) hx hb dX7_device_10 (by decide) ?_
    refine lv_goto (tgt := 19) hx hb dX7_device_11 (by decide) ?_
    exact g_iret B hP hS hf dX7_device_19
  · subst e4
    replace hf := oc_s hf
    obtain ⟨h6, hf⟩ := gd_e hf
    refine lv_astore_n (lv' := [(3, .ref (cAd E (46 + d5))), (0, .ref (cAd E 0)), (1, .int p1), (2, .int p2)]) hx hb dX7_device_5 rfl hl (by decide) rfl (fun ls hl => ?_)
    refine lv_aload_n hx hb dX7_device_6 rfl (lv_at hl 0 rfl) ?_
    refine lv_ifnonnull (tgt := 14) hx hb dX7_device_7 (by decide) ?_
    refine lv_aload_n hx hb dX7_device_14 rfl (lv_at hl 0 rfl) ?_
    refine lv_iload_n hx hb dX7_device_15 rfl (lv_at hl 3 rfl) ?_
    obtain ⟨r8, σ7, h9, hf⟩ := cl_e hf
    refine kc_X7_219 F hP hS h6 h9 ⟨Nat.le_of_ble_eq_true rfl, Nat.le_of_ble_eq_true rfl⟩ hl.1 (Nat.le_of_ble_eq_true rfl) ⟨Nat.zero_le _, Nat.zero_le _⟩ dX7_device_16 (fun H locs hP hS => ?_)
    exact g_iret B hP hS hf dX7_device_19
theorem c_X7_device (l : Launch) {E : cEv} (hI : gIj (cG E)) {p1 : Int32} {p2 : Int32} {σ σ' : St} {r : Int32} (hf : f_X7_device p1 p2 σ = some (r, σ')) : gMi l yX7_device cX7_device 4 .int rm_X7_device [.ref (cAd E 0), .int p1, .int p2] (cG E) σ r σ' :=
  g_entry (by decide) (Nat.le_of_ble_eq_true rfl) hI (fun p e s m args below meth c B hP hS ls hl => w_X7_device_e B _ _ σ hf _ _ ls hP hS hl)
/-! PromisedSlots.orphans()I -/
def b_X7_orphans_4 (K4 : (Int32 × Int32 × St → Option (Int32 × St))) (a1 : Int32) (a2 : Int32) (σ : St) : Option (Int32 × St) :=
  if (σ (lay (σ 0 6)) 6) ≤ a2 then
    some (a1, σ)
  else
    if (8 : Int32) ≤ a2 then
      some (a1, σ)
    else
      gd (ix a2 8) <|
      vl (nt a2) fun d4 =>
      cl (f_X2_isOrphan d4 σ) fun r7 σ6 =>
      if r7 = 0 then
        vl (a2 + (1 : Int32)) fun x10 =>
        K4 (a1, x10, σ6)
      else
        vl (a1 + (1 : Int32)) fun x11 =>
        vl (a2 + (1 : Int32)) fun x12 =>
        K4 (x11, x12, σ6)
def f_X7_orphans (σ : St) : Option (Int32 × St) :=
  lp (fun K a => b_X7_orphans_4 K a.1 a.2.1 a.2.2) FU ((0 : Int32), (0 : Int32), σ)
abbrev rm_X7_orphans : Room := { frames := 1, cells := 0, slots := 0, locals := 20 }
def P_X7_orphans_4 (p : Program) (l : Launch) (e : Env) (s : State) (m : MethodId) (args : Array Value) (below : List Frame) (meth : Method) (c : Code) (E : cEv) (r : Int32) (σ' : St) (a : Int32 × Int32 × St) : Prop := ∀ (H : Heap) (locs : List Loc) (ls : Array Slot), gW (cG E) a.2.2 H → va_S (gA (cG E)) s.heap H locs → lv_has ls 3 [(0, .ref (cAd E 0)), (1, .int a.1), (2, .int a.2.1)] → W p l e rm_X7_orphans s m args below meth c H locs 0 0 (gQi below args s (cG E) r σ') (F0 m 4 ls [])
set_option maxHeartbeats 4000000 in
set_option maxRecDepth 100000 in
theorem w_X7_orphans_4 {p : Program} {l : Launch} {e : Env} {s : State} {m : MethodId} {args : Array Value} {below : List Frame} {meth : Method} {c : Code} {E : cEv} {r : Int32} {σ' : St} (B : gBx p m meth c cX7_orphans 3 (some .int) s args RX7 (cG E)) {K4 : (Int32 × Int32 × St → Option (Int32 × St))} (hK4 : ∀ a, K4 a = some (r, σ') → P_X7_orphans_4 p l e s m args below meth c E r σ' a) (a1 : Int32) (a2 : Int32) (σ : St) (hf : b_X7_orphans_4 K4 a1 a2 σ = some (r, σ')) (H : Heap) (locs : List Loc) (ls : Array Slot) (hP : gW (cG E) σ H) (hS : va_S (gA (cG E)) s.heap H locs) (hl : lv_has ls 3 [(0, .ref (cAd E 0)), (1, .int a1), (2, .int a2)]) : W p l e rm_X7_orphans s m args below meth c H locs 0 0 (gQi below args s (cG E) r σ') (F0 m 4 ls []) := by
  unfold b_X7_orphans_4 at hf
  obtain ⟨F, hr, hlk⟩ := id B
  have hx := F.1
  have hb := F.2.1
  have hml := F.2.2.1
  have hown := F.2.2.2.1
  have hts := F.2.2.2.2.1
  refine lv_iload_n hx hb dX7_orphans_4 rfl (lv_at hl 2 rfl) ?_
  refine lv_aload_n hx hb dX7_orphans_5 rfl (lv_at hl 0 rfl) ?_
  refine gf_X7_33 F hP dX7_orphans_6 ?_
  refine gf_X7_96 F hP (lay_ok _) dX7_orphans_9 ?_
  refine lv_icmp_ge (tgt := 45) hx hb dX7_orphans_12 (by decide) (fun h1 => ?_) (fun h1 => ?_)
  · rw [if_pos h1] at hf
    refine lv_iload_n hx hb dX7_orphans_45 rfl (lv_at hl 1 rfl) ?_
    exact g_iret B hP hS hf dX7_orphans_46
  · rw [if_neg h1] at hf
    refine lv_iload_n hx hb dX7_orphans_15 rfl (lv_at hl 2 rfl) ?_
    refine lv_aload_n hx hb dX7_orphans_16 rfl (lv_at hl 0 rfl) ?_
    refine gf_X7_49 F hP dX7_orphans_17 ?_
    refine c_alenD F hP dX7_orphans_20 ?_
    refine lv_icmp_ge (tgt := 45) hx hb dX7_orphans_21 (by decide) (fun h2 => ?_) (fun h2 => ?_)
    · rw [if_pos h2] at hf
      refine lv_iload_n hx hb dX7_orphans_45 rfl (lv_at hl 1 rfl) ?_
      exact g_iret B hP hS hf dX7_orphans_46
    · rw [if_neg h2] at hf
      refine lv_aload_n hx hb dX7_orphans_24 rfl (lv_at hl 0 rfl) ?_
      refine gf_X7_49 F hP dX7_orphans_25 ?_
      refine lv_iload_n hx hb dX7_orphans_28 rfl (lv_at hl 2 rfl) ?_
      obtain ⟨h3, hf⟩ := gd_e hf
      refine c_aldD F hP h3 dX7_orphans_29 ?_
      have h5 := ix_lt h3
      obtain ⟨d4, ed4, hf⟩ := vl_x hf
      rw [← ed4] at h5 ⊢
      obtain ⟨r7, σ6, h8, hf⟩ := cl_e hf
      refine kc_X7_166 F hP hS h5 h8 ⟨Nat.le_of_ble_eq_true rfl, Nat.le_of_ble_eq_true rfl⟩ hl.1 (Nat.le_of_ble_eq_true rfl) ⟨Nat.zero_le _, Nat.zero_le _⟩ dX7_orphans_30 (fun H locs hP hS => ?_)
      refine lv_if_eq (tgt := 39) hx hb dX7_orphans_33 (by decide) (fun h9 => ?_) (fun h9 => ?_)
      · rw [if_pos h9] at hf
        refine lv_iinc (v := a2 + (1 : Int32)) (lv' := [(2, .int (a2 + (1 : Int32))), (0, .ref (cAd E 0)), (1, .int a1)]) hx hb dX7_orphans_39 hl (k := 2) rfl rfl (by decide) rfl (fun ls hl => ?_)
        obtain ⟨x10, ex10, hf⟩ := vl_x hf
        rw [← ex10] at hl
        refine lv_goto (tgt := 4) hx hb dX7_orphans_42 (by decide) ?_
        exact hK4 _ hf _ _ _ hP hS (lv_sub hl [1, 2, 0] rfl)
      · rw [if_neg h9] at hf
        refine lv_iinc (v := a1 + (1 : Int32)) (lv' := [(1, .int (a1 + (1 : Int32))), (0, .ref (cAd E 0)), (2, .int a2)]) hx hb dX7_orphans_36 hl (k := 1) rfl rfl (by decide) rfl (fun ls hl => ?_)
        obtain ⟨x11, ex11, hf⟩ := vl_x hf
        rw [← ex11] at hl
        refine lv_iinc (v := a2 + (1 : Int32)) (lv' := [(2, .int (a2 + (1 : Int32))), (1, .int x11), (0, .ref (cAd E 0))]) hx hb dX7_orphans_39 hl (k := 2) rfl rfl (by decide) rfl (fun ls hl => ?_)
        obtain ⟨x12, ex12, hf⟩ := vl_x hf
        rw [← ex12] at hl
        refine lv_goto (tgt := 4) hx hb dX7_orphans_42 (by decide) ?_
        exact hK4 _ hf _ _ _ hP hS (lv_sub hl [2, 1, 0] rfl)
set_option maxHeartbeats 4000000 in
set_option maxRecDepth 100000 in
theorem w_X7_orphans_e {p : Program} {l : Launch} {e : Env} {s : State} {m : MethodId} {args : Array Value} {below : List Frame} {meth : Method} {c : Code} {E : cEv} {r : Int32} {σ' : St} (B : gBx p m meth c cX7_orphans 3 (some .int) s args RX7 (cG E)) (σ : St) (hf : f_X7_orphans σ = some (r, σ')) (H : Heap) (locs : List Loc) (ls : Array Slot) (hP : gW (cG E) σ H) (hS : va_S (gA (cG E)) s.heap H locs) (hl : lv_has ls 3 [(0, .ref (cAd E 0))]) : W p l e rm_X7_orphans s m args below meth c H locs 0 0 (gQi below args s (cG E) r σ') (F0 m 0 ls []) := by
  unfold f_X7_orphans at hf
  obtain ⟨F, hr, hlk⟩ := id B
  have hx := F.1
  have hb := F.2.1
  have hml := F.2.2.1
  have hown := F.2.2.2.1
  have hts := F.2.2.2.2.1
  refine lv_iconst (v := 0) hx hb dX7_orphans_0 (by decide) ?_
  refine lv_istore_n (lv' := [(1, .int (0 : Int32)), (0, .ref (cAd E 0))]) hx hb dX7_orphans_1 rfl hl (by decide) rfl (fun ls hl => ?_)
  refine lv_iconst (v := 0) hx hb dX7_orphans_2 (by decide) ?_
  refine lv_istore_n (lv' := [(2, .int (0 : Int32)), (1, .int (0 : Int32)), (0, .ref (cAd E 0))]) hx hb dX7_orphans_3 rfl hl (by decide) rfl (fun ls hl => ?_)
  exact lp_w (P := P_X7_orphans_4 p l e s m args below meth c E r σ') (fun K hK a ha => w_X7_orphans_4 B hK a.1 a.2.1 a.2.2 ha) FU _ hf _ _ _ hP hS (lv_sub hl [2, 1, 0] rfl)
theorem c_X7_orphans (l : Launch) {E : cEv} (hI : gIj (cG E)) {σ σ' : St} {r : Int32} (hf : f_X7_orphans σ = some (r, σ')) : gMi l yX7_orphans cX7_orphans 3 .int rm_X7_orphans [.ref (cAd E 0)] (cG E) σ r σ' :=
  g_entry (by decide) (Nat.le_of_ble_eq_true rfl) hI (fun p e s m args below meth c B hP hS ls hl => w_X7_orphans_e B σ hf _ _ ls hP hS hl)
section SC
variable {p : Program} {l : Launch} {e : Env} {R : Room} {s : State} {m : MethodId} {args : Array Value} {below : List Frame} {meth : Method} {c : Code} {H : Heap} {locs : List Loc} {cells slots : Nat} {Q : State → Prop}
variable {cc : ByteArray} {pc nL : Nat} {ls : Array Slot} {rest : List Value} {E : cEv} {σ : St}
theorem kc_X7_226 (F : gFx p m c cc nL s args RX7 (cG E)) (hP : gW (cG E) σ H) (hS : va_S (gA (cG E)) s.heap H locs) {r : Int32} {σ' : St} (hf : f_X7_orphans σ = some (r, σ')) (hR : rm_X7_orphans.frames + 1 ≤ R.frames ∧ 8 + (3 + 11) + rm_X7_orphans.locals ≤ R.locals) (hsz : ls.size = nL) (hrest : (rest.map fun v => v.category).sum ≤ 8) (hcs : cells ≤ R.cells ∧ slots ≤ R.slots) (hdg : decode cc pc = .ok (.invokevirtual 226, 3)) (kk : ∀ (H1 : Heap) (locs1 : List Loc), gW (cG E) σ' H1 → va_S (gA (cG E)) s.heap H1 locs1 → W p l e R s m args below meth c H1 locs1 cells slots Q (F0 m (pc + 3) ls (.int r :: rest))) : W p l e R s m args below meth c H locs cells slots Q (F0 m pc ls (.ref (cAd E 0) :: rest)) :=
  g_callVi F hP hS (c_X7_orphans l F.2.2.2.2.2.2.2 hf) (g_cwV (n := 0) F tw_747 tw_749 ts_27 tw_1 tw_750 (by decide +kernel) rfl rfl hR) (k := 0) (cin (by omega)) (ce_7 E _) rfl (As := []) rfl hsz rfl hrest hdg hcs kk
end SC
/-! PromisedSlots.count(I)I -/
def f_X7_count (p1 : Int32) (σ : St) : Option (Int32 × St) :=
  if p1 = (0 : Int32) then
    some ((σ (lay (σ 0 6)) 5), σ)
  else if p1 = (1 : Int32) then
    some ((σ (lay (σ 0 6)) 6), σ)
  else if p1 = (2 : Int32) then
    some ((σ 0 8), σ)
  else if p1 = (3 : Int32) then
    some ((σ (lay (σ 0 6)) 0), σ)
  else if p1 = (4 : Int32) then
    some ((σ (lay (σ 0 6)) 1), σ)
  else if p1 = (5 : Int32) then
    some ((σ (lay (σ 0 6)) 2), σ)
  else if p1 = (6 : Int32) then
    some ((σ (lay (σ 0 6)) 3), σ)
  else if p1 = (7 : Int32) then
    some ((σ (lay (σ 0 6)) 4), σ)
  else if p1 = (8 : Int32) then
    some ((σ 6 2), σ)
  else if p1 = (9 : Int32) then
    some ((σ 4 1), σ)
  else if p1 = (10 : Int32) then
    some ((σ 1 1), σ)
  else if p1 = (11 : Int32) then
    cl (f_X7_orphans σ) fun r14 σ13 =>
    some (r14, σ13)
  else if p1 = (12 : Int32) then
    some ((σ 0 9), σ)
  else 
    some ((-1 : Int32), σ)
abbrev rm_X7_count : Room := { frames := 2, cells := 0, slots := 0, locals := 42 }
set_option maxHeartbeats 4000000 in
set_option maxRecDepth 100000 in
theorem w_X7_count_e {p : Program} {l : Launch} {e : Env} {s : State} {m : MethodId} {args : Array Value} {below : List Frame} {meth : Method} {c : Code} {E : cEv} {r : Int32} {σ' : St} (B : gBx p m meth c cX7_count 2 (some .int) s args RX7 (cG E)) (p1 : Int32) (σ : St) (hf : f_X7_count p1 σ = some (r, σ')) (H : Heap) (locs : List Loc) (ls : Array Slot) (hP : gW (cG E) σ H) (hS : va_S (gA (cG E)) s.heap H locs) (hl : lv_has ls 2 [(0, .ref (cAd E 0)), (1, .int p1)]) : W p l e rm_X7_count s m args below meth c H locs 0 0 (gQi below args s (cG E) r σ') (F0 m 0 ls []) := by
  unfold f_X7_count at hf
  obtain ⟨F, hr, hlk⟩ := id B
  have hx := F.1
  have hb := F.2.1
  have hml := F.2.2.1
  have hown := F.2.2.2.1
  have hts := F.2.2.2.2.1
  refine lv_iload_n hx hb dX7_count_0 rfl (lv_at hl 1 rfl) ?_
  by_cases h1 : p1 = (0 : Int32)
  · rw [if_pos h1] at hf
    refine lv_tableIn (tgt := 68) (off := 67) hx hb dX7_count_1 (by rw [h1]; decide) (by rw [h1]; decide) (by rw [h1]; rfl) (by decide) ?_
    refine lv_aload_n hx hb dX7_count_68 rfl (lv_at hl 0 rfl) ?_
    refine gf_X7_33 F hP dX7_count_69 ?_
    refine gf_X7_110 F hP (lay_ok _) dX7_count_72 ?_
    exact g_iret B hP hS hf dX7_count_75
  rw [if_neg h1] at hf
  by_cases h2 : p1 = (1 : Int32)
  · rw [if_pos h2] at hf
    refine lv_tableIn (tgt := 76) (off := 75) hx hb dX7_count_1 (by rw [h2]; decide) (by rw [h2]; decide) (by rw [h2]; rfl) (by decide) ?_
    refine lv_aload_n hx hb dX7_count_76 rfl (lv_at hl 0 rfl) ?_
    refine gf_X7_33 F hP dX7_count_77 ?_
    refine gf_X7_96 F hP (lay_ok _) dX7_count_80 ?_
    exact g_iret B hP hS hf dX7_count_83
  rw [if_neg h2] at hf
  by_cases h3 : p1 = (2 : Int32)
  · rw [if_pos h3] at hf
    refine lv_tableIn (tgt := 84) (off := 83) hx hb dX7_count_1 (by rw [h3]; decide) (by rw [h3]; decide) (by rw [h3]; rfl) (by decide) ?_
    refine lv_aload_n hx hb dX7_count_84 rfl (lv_at hl 0 rfl) ?_
    refine gf_X7_124 F hP dX7_count_85 ?_
    exact g_iret B hP hS hf dX7_count_88
  rw [if_neg h3] at hf
  by_cases h4 : p1 = (3 : Int32)
  · rw [if_pos h4] at hf
    refine lv_tableIn (tgt := 89) (off := 88) hx hb dX7_count_1 (by rw [h4]; decide) (by rw [h4]; decide) (by rw [h4]; rfl) (by decide) ?_
    refine lv_aload_n hx hb dX7_count_89 rfl (lv_at hl 0 rfl) ?_
    refine gf_X7_33 F hP dX7_count_90 ?_
    refine gf_X7_107 F hP (lay_ok _) dX7_count_93 ?_
    exact g_iret B hP hS hf dX7_count_96
  rw [if_neg h4] at hf
  by_cases h5 : p1 = (4 : Int32)
  · rw [if_pos h5] at hf
    refine lv_tableIn (tgt := 97) (off := 96) hx hb dX7_count_1 (by rw [h5]; decide) (by rw [h5]; decide) (by rw [h5]; rfl) (by decide) ?_
    refine lv_aload_n hx hb dX7_count_97 rfl (lv_at hl 0 rfl) ?_
    refine gf_X7_33 F hP dX7_count_98 ?_
    refine gf_X7_207 F hP (lay_ok _) dX7_count_101 ?_
    exact g_iret B hP hS hf dX7_count_104
  rw [if_neg h5] at hf
  by_cases h6 : p1 = (5 : Int32)
  · rw [if_pos h6] at hf
    refine lv_tableIn (tgt := 105) (off := 104) hx hb dX7_count_1 (by rw [h6]; decide) (by rw [h6]; decide) (by rw [h6]; rfl) (by decide) ?_
    refine lv_aload_n hx hb dX7_count_105 rfl (lv_at hl 0 rfl) ?_
    refine gf_X7_33 F hP dX7_count_106 ?_
    refine gf_X7_220 F hP (lay_ok _) dX7_count_109 ?_
    exact g_iret B hP hS hf dX7_count_112
  rw [if_neg h6] at hf
  by_cases h7 : p1 = (6 : Int32)
  · rw [if_pos h7] at hf
    refine lv_tableIn (tgt := 113) (off := 112) hx hb dX7_count_1 (by rw [h7]; decide) (by rw [h7]; decide) (by rw [h7]; rfl) (by decide) ?_
    refine lv_aload_n hx hb dX7_count_113 rfl (lv_at hl 0 rfl) ?_
    refine gf_X7_33 F hP dX7_count_114 ?_
    refine gf_X7_183 F hP (lay_ok _) dX7_count_117 ?_
    exact g_iret B hP hS hf dX7_count_120
  rw [if_neg h7] at hf
  by_cases h8 : p1 = (7 : Int32)
  · rw [if_pos h8] at hf
    refine lv_tableIn (tgt := 121) (off := 120) hx hb dX7_count_1 (by rw [h8]; decide) (by rw [h8]; decide) (by rw [h8]; rfl) (by decide) ?_
    refine lv_aload_n hx hb dX7_count_121 rfl (lv_at hl 0 rfl) ?_
    refine gf_X7_33 F hP dX7_count_122 ?_
    refine gf_X7_223 F hP (lay_ok _) dX7_count_125 ?_
    exact g_iret B hP hS hf dX7_count_128
  rw [if_neg h8] at hf
  by_cases h9 : p1 = (8 : Int32)
  · rw [if_pos h9] at hf
    refine lv_tableIn (tgt := 129) (off := 128) hx hb dX7_count_1 (by rw [h9]; decide) (by rw [h9]; decide) (by rw [h9]; rfl) (by decide) ?_
    refine lv_aload_n hx hb dX7_count_129 rfl (lv_at hl 0 rfl) ?_
    refine gf_X7_59 F hP dX7_count_130 ?_
    refine gf_X7_135 F hP dX7_count_133 ?_
    exact g_iret B hP hS hf dX7_count_136
  rw [if_neg h9] at hf
  by_cases h10 : p1 = (9 : Int32)
  · rw [if_pos h10] at hf
    refine lv_tableIn (tgt := 137) (off := 136) hx hb dX7_count_1 (by rw [h10]; decide) (by rw [h10]; decide) (by rw [h10]; rfl) (by decide) ?_
    refine lv_aload_n hx hb dX7_count_137 rfl (lv_at hl 0 rfl) ?_
    refine gf_X7_27 F hP dX7_count_138 ?_
    refine gf_X7_89 F hP (Or.inr rfl) dX7_count_141 ?_
    exact g_iret B hP hS hf dX7_count_144
  rw [if_neg h10] at hf
  by_cases h11 : p1 = (10 : Int32)
  · rw [if_pos h11] at hf
    refine lv_tableIn (tgt := 145) (off := 144) hx hb dX7_count_1 (by rw [h11]; decide) (by rw [h11]; decide) (by rw [h11]; rfl) (by decide) ?_
    refine lv_aload_n hx hb dX7_count_145 rfl (lv_at hl 0 rfl) ?_
    refine gf_X7_14 F hP dX7_count_146 ?_
    refine gf_X7_89 F hP (Or.inl rfl) dX7_count_149 ?_
    exact g_iret B hP hS hf dX7_count_152
  rw [if_neg h11] at hf
  by_cases h12 : p1 = (11 : Int32)
  · rw [if_pos h12] at hf
    refine lv_tableIn (tgt := 153) (off := 152) hx hb dX7_count_1 (by rw [h12]; decide) (by rw [h12]; decide) (by rw [h12]; rfl) (by decide) ?_
    refine lv_aload_n hx hb dX7_count_153 rfl (lv_at hl 0 rfl) ?_
    obtain ⟨r14, σ13, h15, hf⟩ := cl_e hf
    refine kc_X7_226 F hP hS h15 ⟨Nat.le_of_ble_eq_true rfl, Nat.le_of_ble_eq_true rfl⟩ hl.1 (Nat.le_of_ble_eq_true rfl) ⟨Nat.zero_le _, Nat.zero_le _⟩ dX7_count_154 (fun H locs hP hS => ?_)
    exact g_iret B hP hS hf dX7_count_157
  rw [if_neg h12] at hf
  by_cases h16 : p1 = (12 : Int32)
  · rw [if_pos h16] at hf
    refine lv_tableIn (tgt := 158) (off := 157) hx hb dX7_count_1 (by rw [h16]; decide) (by rw [h16]; decide) (by rw [h16]; rfl) (by decide) ?_
    refine lv_aload_n hx hb dX7_count_158 rfl (lv_at hl 0 rfl) ?_
    refine gf_X7_229 F hP dX7_count_159 ?_
    exact g_iret B hP hS hf dX7_count_162
  rw [if_neg h16] at hf
  have nh1 := lv_neT h1 (show ((0 : Int32)).toInt = 0 by decide)
  have nh2 := lv_neT h2 (show ((1 : Int32)).toInt = 1 by decide)
  have nh3 := lv_neT h3 (show ((2 : Int32)).toInt = 2 by decide)
  have nh4 := lv_neT h4 (show ((3 : Int32)).toInt = 3 by decide)
  have nh5 := lv_neT h5 (show ((4 : Int32)).toInt = 4 by decide)
  have nh6 := lv_neT h6 (show ((5 : Int32)).toInt = 5 by decide)
  have nh7 := lv_neT h7 (show ((6 : Int32)).toInt = 6 by decide)
  have nh8 := lv_neT h8 (show ((7 : Int32)).toInt = 7 by decide)
  have nh9 := lv_neT h9 (show ((8 : Int32)).toInt = 8 by decide)
  have nh10 := lv_neT h10 (show ((9 : Int32)).toInt = 9 by decide)
  have nh11 := lv_neT h11 (show ((10 : Int32)).toInt = 10 by decide)
  have nh12 := lv_neT h12 (show ((11 : Int32)).toInt = 11 by decide)
  have nh16 := lv_neT h16 (show ((12 : Int32)).toInt = 12 by decide)
  refine lv_tableOut (tgt := 163) hx hb dX7_count_1 (by omega) (by decide) ?_
  refine lv_iconst (v := (-1)) hx hb dX7_count_163 (by decide) ?_
  exact g_iret B hP hS hf dX7_count_164
theorem c_X7_count (l : Launch) {E : cEv} (hI : gIj (cG E)) {p1 : Int32} {σ σ' : St} {r : Int32} (hf : f_X7_count p1 σ = some (r, σ')) : gMi l yX7_count cX7_count 2 .int rm_X7_count [.ref (cAd E 0), .int p1] (cG E) σ r σ' :=
  g_entry (by decide) (Nat.le_of_ble_eq_true rfl) hI (fun p e s m args below meth c B hP hS ls hl => w_X7_count_e B _ σ hf _ _ ls hP hS hl)
