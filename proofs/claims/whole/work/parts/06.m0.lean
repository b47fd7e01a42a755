section SD
variable {p : Program} {l : Launch} {e : Env} {R : Room} {s : State} {m : MethodId} {args : Array Value} {below : List Frame} {meth : Method} {c : Code} {H : Heap} {locs : List Loc} {cells slots : Nat} {Q : State → Prop}
variable {cc : ByteArray} {pc nL : Nat} {ls : Array Slot} {rest : List Value} {E : mEv} {σ : St}
theorem pf_X8_124 (F : gFx p m c cc nL s args RX8 (mG E)) (hP : gW (mG E) σ H) (hS : va_S (gA (mG E)) s.heap H locs) {x : Int32} (hdg : decode cc pc = .ok (.putfield 124, 3)) (kk : ∀ (H1 : Heap) (locs1 : List Loc), gW (mG E) (up2 σ 0 5 x) H1 → va_S (gA (mG E)) s.heap H1 locs1 → W p l e R s m args below meth c H1 locs1 cells slots Q (F0 m (pc + 3) ls rest)) : W p l e R s m args below meth c H locs cells slots Q (F0 m pc ls (.int x :: .ref (mAd E 0) :: rest)) :=
  g_put F hP hS (k := 0) min0 (me_0 E _) rfl inX8 tyX8 tyX8_ok nmX8 5 (by decide) tw_789 rfl rfl rfl rfl (Nat.le_of_ble_eq_true rfl) (x := x) (jj := 5) (me_0 E _) hdg kk
theorem pf_X8_128 (F : gFx p m c cc nL s args RX8 (mG E)) (hP : gW (mG E) σ H) (hS : va_S (gA (mG E)) s.heap H locs) {x : Int32} (hdg : decode cc pc = .ok (.putfield 128, 3)) (kk : ∀ (H1 : Heap) (locs1 : List Loc), gW (mG E) (up2 σ 0 6 x) H1 → va_S (gA (mG E)) s.heap H1 locs1 → W p l e R s m args below meth c H1 locs1 cells slots Q (F0 m (pc + 3) ls rest)) : W p l e R s m args below meth c H locs cells slots Q (F0 m pc ls (.int x :: .ref (mAd E 0) :: rest)) :=
  g_put F hP hS (k := 0) min0 (me_0 E _) rfl inX8 tyX8 tyX8_ok nmX8 6 (by decide) tw_790 rfl rfl rfl rfl (Nat.le_of_ble_eq_true rfl) (x := x) (jj := 6) (me_0 E _) hdg kk
theorem pf_X8_131 (F : gFx p m c cc nL s args RX8 (mG E)) (hP : gW (mG E) σ H) (hS : va_S (gA (mG E)) s.heap H locs) {x : Int32} (hdg : decode cc pc = .ok (.putfield 131, 3)) (kk : ∀ (H1 : Heap) (locs1 : List Loc), gW (mG E) (up2 σ 0 7 x) H1 → va_S (gA (mG E)) s.heap H1 locs1 → W p l e R s m args below meth c H1 locs1 cells slots Q (F0 m (pc + 3) ls rest)) : W p l e R s m args below meth c H locs cells slots Q (F0 m pc ls (.int x :: .ref (mAd E 0) :: rest)) :=
  g_put F hP hS (k := 0) min0 (me_0 E _) rfl inX8 tyX8 tyX8_ok nmX8 7 (by decide) tw_791 rfl rfl rfl rfl (Nat.le_of_ble_eq_true rfl) (x := x) (jj := 7) (me_0 E _) hdg kk
theorem pf_X8_142 (F : gFx p m c cc nL s args RX8 (mG E)) (hP : gW (mG E) σ H) (hS : va_S (gA (mG E)) s.heap H locs) {x : Int32} (hdg : decode cc pc = .ok (.putfield 142, 3)) (kk : ∀ (H1 : Heap) (locs1 : List Loc), gW (mG E) (up2 σ 0 8 x) H1 → va_S (gA (mG E)) s.heap H1 locs1 → W p l e R s m args below meth c H1 locs1 cells slots Q (F0 m (pc + 3) ls rest)) : W p l e R s m args below meth c H locs cells slots Q (F0 m pc ls (.int x :: .ref (mAd E 0) :: rest)) :=
  g_put F hP hS (k := 0) min0 (me_0 E _) rfl inX8 tyX8 tyX8_ok nmX8 8 (by decide) tw_792 rfl rfl rfl rfl (Nat.le_of_ble_eq_true rfl) (x := x) (jj := 8) (me_0 E _) hdg kk
theorem pf_X8_151 (F : gFx p m c cc nL s args RX8 (mG E)) (hP : gW (mG E) σ H) (hS : va_S (gA (mG E)) s.heap H locs) {x : Int32} (hdg : decode cc pc = .ok (.putfield 151, 3)) (kk : ∀ (H1 : Heap) (locs1 : List Loc), gW (mG E) (up2 σ 0 9 x) H1 → va_S (gA (mG E)) s.heap H1 locs1 → W p l e R s m args below meth c H1 locs1 cells slots Q (F0 m (pc + 3) ls rest)) : W p l e R s m args below meth c H locs cells slots Q (F0 m pc ls (.int x :: .ref (mAd E 0) :: rest)) :=
  g_put F hP hS (k := 0) min0 (me_0 E _) rfl inX8 tyX8 tyX8_ok nmX8 9 (by decide) tw_793 rfl rfl rfl rfl (Nat.le_of_ble_eq_true rfl) (x := x) (jj := 9) (me_0 E _) hdg kk
theorem gf_X8_16 (F : gFx p m c cc nL s args RX8 (mG E)) (hP : gW (mG E) σ H) (hdg : decode cc pc = .ok (.getfield 16, 3)) (kk : W p l e R s m args below meth c H locs cells slots Q (F0 m (pc + 3) ls (.ref (mAd E 10) :: rest))) : W p l e R s m args below meth c H locs cells slots Q (F0 m pc ls (.ref (mAd E 0) :: rest)) :=
  g_get F hP (k := 0) min0 (me_0 E _) rfl inX8 10 (by decide) tw_794 rfl rfl hdg kk
theorem gf_X8_19 (F : gFx p m c cc nL s args RX8 (mG E)) (hP : gW (mG E) σ H) (hdg : decode cc pc = .ok (.getfield 19, 3)) (kk : W p l e R s m args below meth c H locs cells slots Q (F0 m (pc + 3) ls (.ref (mAd E 11) :: rest))) : W p l e R s m args below meth c H locs cells slots Q (F0 m pc ls (.ref (mAd E 0) :: rest)) :=
  g_get F hP (k := 0) min0 (me_0 E _) rfl inX8 11 (by decide) tw_795 rfl rfl hdg kk
theorem pf_X8_154 (F : gFx p m c cc nL s args RX8 (mG E)) (hP : gW (mG E) σ H) (hS : va_S (gA (mG E)) s.heap H locs) {x : Int32} (hdg : decode cc pc = .ok (.putfield 154, 3)) (kk : ∀ (H1 : Heap) (locs1 : List Loc), gW (mG E) (up2 σ 0 12 x) H1 → va_S (gA (mG E)) s.heap H1 locs1 → W p l e R s m args below meth c H1 locs1 cells slots Q (F0 m (pc + 3) ls rest)) : W p l e R s m args below meth c H locs cells slots Q (F0 m pc ls (.int x :: .ref (mAd E 0) :: rest)) :=
  g_put F hP hS (k := 0) min0 (me_0 E _) rfl inX8 tyX8 tyX8_ok nmX8 12 (by decide) tw_796 rfl rfl rfl rfl (Nat.le_of_ble_eq_true rfl) (x := x) (jj := 12) (me_0 E _) hdg kk
end SD
/-! PromisedSlotsModel.empty()V -/
def f_X8_empty (σ : St) : Option (Unit × St) :=
  vl (up2 σ 0 5 (-1 : Int32)) fun σ1 =>
  vl (up2 σ1 0 6 (0 : Int32)) fun σ2 =>
  vl (up2 σ2 0 7 (0 : Int32)) fun σ3 =>
  vl (up2 σ3 0 8 (4 : Int32)) fun σ4 =>
  vl (up2 σ4 0 9 (1 : Int32)) fun σ5 =>
  gd (ix (0 : Int32) 4) <|
  vl (up2 σ5 10 (nt (0 : Int32)) (-4 : Int32)) fun σ7 =>
  gd (ix (0 : Int32) 4) <|
  vl (up2 σ7 11 (nt (0 : Int32)) (0 : Int32)) fun σ9 =>
  vl (up2 σ9 0 12 (0 : Int32)) fun σ10 =>
  some ((), σ10)
abbrev rm_X8_empty : Room := { frames := 0, cells := 0, slots := 0, locals := 0 }
set_option maxHeartbeats 4000000 in
set_option maxRecDepth 100000 in
theorem w_X8_empty_e {p : Program} {l : Launch} {e : Env} {s : State} {m : MethodId} {args : Array Value} {below : List Frame} {meth : Method} {c : Code} {E : mEv} {u : Unit} {σ' : St} (B : gBx p m meth c cX8_empty 1 none s args RX8 (mG E)) (σ : St) (hf : f_X8_empty σ = some (u, σ')) (H : Heap) (locs : List Loc) (ls : Array Slot) (hP : gW (mG E) σ H) (hS : va_S (gA (mG E)) s.heap H locs) (hl : lv_has ls 1 [(0, .ref (mAd E 0))]) : W p l e rm_X8_empty s m args below meth c H locs 0 0 (gQv below args s (mG E) σ') (F0 m 0 ls []) := by
  unfold f_X8_empty at hf
  obtain ⟨F, hr, hlk⟩ := id B
  have hx := F.1
  have hb := F.2.1
  have hml := F.2.2.1
  have hown := F.2.2.2.1
  have hts := F.2.2.2.2.1
  refine lv_aload_n hx hb dX8_empty_0 rfl (lv_at hl 0 rfl) ?_
  refine lv_iconst (v := (-1)) hx hb dX8_empty_1 (by decide) ?_
  refine pf_X8_124 F hP hS dX8_empty_2 (fun H locs hP hS => ?_)
  obtain ⟨σ1, eσ1, hf⟩ := vl_x hf
  rw [← eσ1] at hP
  refine lv_aload_n hx hb dX8_empty_5 rfl (lv_at hl 0 rfl) ?_
  refine lv_iconst (v := 0) hx hb dX8_empty_6 (by decide) ?_
  refine pf_X8_128 F hP hS dX8_empty_7 (fun H locs hP hS => ?_)
  obtain ⟨σ2, eσ2, hf⟩ := vl_x hf
  rw [← eσ2] at hP
  refine lv_aload_n hx hb dX8_empty_10 rfl (lv_at hl 0 rfl) ?_
  refine lv_iconst (v := 0) hx hb dX8_empty_11 (by decide) ?_
  refine pf_X8_131 F hP hS dX8_empty_12 (fun H locs hP hS => ?_)
  obtain ⟨σ3, eσ3, hf⟩ := vl_x hf
  rw [← eσ3] at hP
  refine lv_aload_n hx hb dX8_empty_15 rfl (lv_at hl 0 rfl) ?_
  refine lv_iconst (v := 4) hx hb dX8_empty_16 (by decide) ?_
  refine pf_X8_142 F hP hS dX8_empty_17 (fun H locs hP hS => ?_)
  obtain ⟨σ4, eσ4, hf⟩ := vl_x hf
  rw [← eσ4] at hP
  refine lv_aload_n hx hb dX8_empty_20 rfl (lv_at hl 0 rfl) ?_
  refine lv_iconst (v := 1) hx hb dX8_empty_21 (by decide) ?_
  refine pf_X8_151 F hP hS dX8_empty_22 (fun H locs hP hS => ?_)
  obtain ⟨σ5, eσ5, hf⟩ := vl_x hf
  rw [← eσ5] at hP
  refine lv_aload_n hx hb dX8_empty_25 rfl (lv_at hl 0 rfl) ?_
  refine gf_X8_16 F hP dX8_empty_26 ?_
  refine lv_iconst (v := 0) hx hb dX8_empty_29 (by decide) ?_
  refine lv_bipush (v := (-4)) hx hb dX8_empty_30 (by decide) ?_
  obtain ⟨h6, hf⟩ := gd_e hf
  refine m_iast F hP hS ⟨by decide, by decide⟩ rfl h6 dX8_empty_32 (fun H locs hP hS => ?_)
  obtain ⟨σ7, eσ7, hf⟩ := vl_x hf
  rw [← eσ7] at hP
  refine lv_aload_n hx hb dX8_empty_33 rfl (lv_at hl 0 rfl) ?_
  refine gf_X8_19 F hP dX8_empty_34 ?_
  refine lv_iconst (v := 0) hx hb dX8_empty_37 (by decide) ?_
  refine lv_iconst (v := 0) hx hb dX8_empty_38 (by decide) ?_
  obtain ⟨h8, hf⟩ := gd_e hf
  refine m_iast F hP hS ⟨by decide, by decide⟩ rfl h8 dX8_empty_39 (fun H locs hP hS => ?_)
  obtain ⟨σ9, eσ9, hf⟩ := vl_x hf
  rw [← eσ9] at hP
  refine lv_aload_n hx hb dX8_empty_40 rfl (lv_at hl 0 rfl) ?_
  refine lv_iconst (v := 0) hx hb dX8_empty_41 (by decide) ?_
  refine pf_X8_154 F hP hS dX8_empty_42 (fun H locs hP hS => ?_)
  obtain ⟨σ10, eσ10, hf⟩ := vl_x hf
  rw [← eσ10] at hP
  exact g_vret B hP hS hf dX8_empty_45
theorem c_X8_empty (l : Launch) {E : mEv} (hI : gIj (mG E)) {σ σ' : St} {u : Unit} (hf : f_X8_empty σ = some (u, σ')) : gMv l yX8_empty cX8_empty 1 rm_X8_empty [.ref (mAd E 0)] (mG E) σ σ' :=
  g_entry (by decide) (Nat.le_of_ble_eq_true rfl) hI (fun p e s m args below meth c B hP hS ls hl => w_X8_empty_e B σ hf _ _ ls hP hS hl)
section SD
variable {p : Program} {l : Launch} {e : Env} {R : Room} {s : State} {m : MethodId} {args : Array Value} {below : List Frame} {meth : Method} {c : Code} {H : Heap} {locs : List Loc} {cells slots : Nat} {Q : State → Prop}
variable {cc : ByteArray} {pc nL : Nat} {ls : Array Slot} {rest : List Value} {E : mEv} {σ : St}
theorem gf_X8_22 (F : gFx p m c cc nL s args RX8 (mG E)) (hP : gW (mG E) σ H) (hdg : decode cc pc = .ok (.getfield 22, 3)) (kk : W p l e R s m args below meth c H locs cells slots Q (F0 m (pc + 3) ls (.ref (mAd E 13) :: rest))) : W p l e R s m args below meth c H locs cells slots Q (F0 m pc ls (.ref (mAd E 0) :: rest)) :=
  g_get F hP (k := 0) min0 (me_0 E _) rfl inX8 13 (by decide) tw_797 rfl rfl hdg kk
theorem gf_X8_154 (F : gFx p m c cc nL s args RX8 (mG E)) (hP : gW (mG E) σ H) (hdg : decode cc pc = .ok (.getfield 154, 3)) (kk : W p l e R s m args below meth c H locs cells slots Q (F0 m (pc + 3) ls (.int (σ 0 12) :: rest))) : W p l e R s m args below meth c H locs cells slots Q (F0 m pc ls (.ref (mAd E 0) :: rest)) :=
  g_get F hP (k := 0) min0 (me_0 E _) rfl inX8 12 (by decide) tw_796 rfl rfl hdg kk
theorem gf_X8_25 (F : gFx p m c cc nL s args RX8 (mG E)) (hP : gW (mG E) σ H) (hdg : decode cc pc = .ok (.getfield 25, 3)) (kk : W p l e R s m args below meth c H locs cells slots Q (F0 m (pc + 3) ls (.ref (mAd E 14) :: rest))) : W p l e R s m args below meth c H locs cells slots Q (F0 m pc ls (.ref (mAd E 0) :: rest)) :=
  g_get F hP (k := 0) min0 (me_0 E _) rfl inX8 14 (by decide) tw_798 rfl rfl hdg kk
theorem gf_X8_28 (F : gFx p m c cc nL s args RX8 (mG E)) (hP : gW (mG E) σ H) (hdg : decode cc pc = .ok (.getfield 28, 3)) (kk : W p l e R s m args below meth c H locs cells slots Q (F0 m (pc + 3) ls (.ref (mAd E 15) :: rest))) : W p l e R s m args below meth c H locs cells slots Q (F0 m pc ls (.ref (mAd E 0) :: rest)) :=
  g_get F hP (k := 0) min0 (me_0 E _) rfl inX8 15 (by decide) tw_799 rfl rfl hdg kk
end SD
/-! PromisedSlotsModel.deviceIs(III)V -/
def f_X8_deviceIs (p1 : Int32) (p2 : Int32) (p3 : Int32) (σ : St) : Option (Unit × St) :=
  gd (ix (σ 0 12) 8) <|
  vl (up2 σ 13 (nt (σ 0 12)) p1) fun σ2 =>
  gd (ix (σ2 0 12) 8) <|
  vl (up2 σ2 14 (nt (σ2 0 12)) p2) fun σ4 =>
  gd (ix (σ4 0 12) 8) <|
  vl (up2 σ4 15 (nt (σ4 0 12)) p3) fun σ6 =>
  vl (up2 σ6 0 12 ((σ6 0 12) + (1 : Int32))) fun σ7 =>
  some ((), σ7)
abbrev rm_X8_deviceIs : Room := { frames := 0, cells := 0, slots := 0, locals := 0 }
set_option maxHeartbeats 4000000 in
set_option maxRecDepth 100000 in
theorem w_X8_deviceIs_e {p : Program} {l : Launch} {e : Env} {s : State} {m : MethodId} {args : Array Value} {below : List Frame} {meth : Method} {c : Code} {E : mEv} {u : Unit} {σ' : St} (B : gBx p m meth c cX8_deviceIs 4 none s args RX8 (mG E)) (p1 : Int32) (p2 : Int32) (p3 : Int32) (σ : St) (hf : f_X8_deviceIs p1 p2 p3 σ = some (u, σ')) (H : Heap) (locs : List Loc) (ls : Array Slot) (hP : gW (mG E) σ H) (hS : va_S (gA (mG E)) s.heap H locs) (hl : lv_has ls 4 [(0, .ref (mAd E 0)), (1, .int p1), (2, .int p2), (3, .int p3)]) : W p l e rm_X8_deviceIs s m args below meth c H locs 0 0 (gQv below args s (mG E) σ') (F0 m 0 ls []) := by
  unfold f_X8_deviceIs at hf
  obtain ⟨F, hr, hlk⟩ := id B
  have hx := F.1
  have hb := F.2.1
  have hml := F.2.2.1
  have hown := F.2.2.2.1
  have hts := F.2.2.2.2.1
  refine lv_aload_n hx hb dX8_deviceIs_0 rfl (lv_at hl 0 rfl) ?_
  refine gf_X8_22 F hP dX8_deviceIs_1 ?_
  refine lv_aload_n hx hb dX8_deviceIs_4 rfl (lv_at hl 0 rfl) ?_
  refine gf_X8_154 F hP dX8_deviceIs_5 ?_
  refine lv_iload_n hx hb dX8_deviceIs_8 rfl (lv_at hl 1 rfl) ?_
  obtain ⟨h1, hf⟩ := gd_e hf
  refine m_iast F hP hS ⟨by decide, by decide⟩ rfl h1 dX8_deviceIs_9 (fun H locs hP hS => ?_)
  obtain ⟨σ2, eσ2, hf⟩ := vl_x hf
  rw [← eσ2] at hP
  refine lv_aload_n hx hb dX8_deviceIs_10 rfl (lv_at hl 0 rfl) ?_
  refine gf_X8_25 F hP dX8_deviceIs_11 ?_
  refine lv_aload_n hx hb dX8_deviceIs_14 rfl (lv_at hl 0 rfl) ?_
  refine gf_X8_154 F hP dX8_deviceIs_15 ?_
  refine lv_iload_n hx hb dX8_deviceIs_18 rfl (lv_at hl 2 rfl) ?_
  obtain ⟨h3, hf⟩ := gd_e hf
  refine m_iast F hP hS ⟨by decide, by decide⟩ rfl h3 dX8_deviceIs_19 (fun H locs hP hS => ?_)
  obtain ⟨σ4, eσ4, hf⟩ := vl_x hf
  rw [← eσ4] at hP
  refine lv_aload_n hx hb dX8_deviceIs_20 rfl (lv_at hl 0 rfl) ?_
  refine gf_X8_28 F hP dX8_deviceIs_21 ?_
  refine lv_aload_n hx hb dX8_deviceIs_24 rfl (lv_at hl 0 rfl) ?_
  refine gf_X8_154 F hP dX8_deviceIs_25 ?_
  refine lv_iload_n hx hb dX8_deviceIs_28 rfl (lv_at hl 3 rfl) ?_
  obtain ⟨h5, hf⟩ := gd_e hf
  refine m_iast F hP hS ⟨by decide, by decide⟩ rfl h5 dX8_deviceIs_29 (fun H locs hP hS => ?_)
  obtain ⟨σ6, eσ6, hf⟩ := vl_x hf
  rw [← eσ6] at hP
  refine lv_aload_n hx hb dX8_deviceIs_30 rfl (lv_at hl 0 rfl) ?_
  refine lv_dup hx hb dX8_deviceIs_31 rfl ?_
  refine gf_X8_154 F hP dX8_deviceIs_32 ?_
  refine lv_iconst (v := 1) hx hb dX8_deviceIs_35 (by decide) ?_
  refine lv_iadd hx hb dX8_deviceIs_36 ?_
  refine pf_X8_154 F hP hS dX8_deviceIs_37 (fun H locs hP hS => ?_)
  obtain ⟨σ7, eσ7, hf⟩ := vl_x hf
  rw [← eσ7] at hP
  exact g_vret B hP hS hf dX8_deviceIs_40
theorem c_X8_deviceIs (l : Launch) {E : mEv} (hI : gIj (mG E)) {p1 : Int32} {p2 : Int32} {p3 : Int32} {σ σ' : St} {u : Unit} (hf : f_X8_deviceIs p1 p2 p3 σ = some (u, σ')) : gMv l yX8_deviceIs cX8_deviceIs 4 rm_X8_deviceIs [.ref (mAd E 0), .int p1, .int p2, .int p3] (mG E) σ σ' :=
  g_entry (by decide) (Nat.le_of_ble_eq_true rfl) hI (fun p e s m args below meth c B hP hS ls hl => w_X8_deviceIs_e B _ _ _ σ hf _ _ ls hP hS hl)
section SD
variable {p : Program} {l : Launch} {e : Env} {R : Room} {s : State} {m : MethodId} {args : Array Value} {below : List Frame} {meth : Method} {c : Code} {H : Heap} {locs : List Loc} {cells slots : Nat} {Q : State → Prop}
variable {cc : ByteArray} {pc nL : Nat} {ls : Array Slot} {rest : List Value} {E : mEv} {σ : St}
theorem gf_X8_151 (F : gFx p m c cc nL s args RX8 (mG E)) (hP : gW (mG E) σ H) (hdg : decode cc pc = .ok (.getfield 151, 3)) (kk : W p l e R s m args below meth c H locs cells slots Q (F0 m (pc + 3) ls (.int (σ 0 9) :: rest))) : W p l e R s m args below meth c H locs cells slots Q (F0 m pc ls (.ref (mAd E 0) :: rest)) :=
  g_get F hP (k := 0) min0 (me_0 E _) rfl inX8 9 (by decide) tw_793 rfl rfl hdg kk
end SD
/-! PromisedSlotsModel.coordIs(II)V -/
def f_X8_coordIs (p1 : Int32) (p2 : Int32) (σ : St) : Option (Unit × St) :=
  gd (ix (σ 0 9) 4) <|
  vl (up2 σ 10 (nt (σ 0 9)) p1) fun σ2 =>
  gd (ix (σ2 0 9) 4) <|
  vl (up2 σ2 11 (nt (σ2 0 9)) p2) fun σ4 =>
  vl (up2 σ4 0 9 ((σ4 0 9) + (1 : Int32))) fun σ5 =>
  some ((), σ5)
abbrev rm_X8_coordIs : Room := { frames := 0, cells := 0, slots := 0, locals := 0 }
set_option maxHeartbeats 4000000 in
set_option maxRecDepth 100000 in
theorem w_X8_coordIs_e {p : Program} {l : Launch} {e : Env} {s : State} {m : MethodId} {args : Array Value} {below : List Frame} {meth : Method} {c : Code} {E : mEv} {u : Unit} {σ' : St} (B : gBx p m meth c cX8_coordIs 3 none s args RX8 (mG E)) (p1 : Int32) (p2 : Int32) (σ : St) (hf : f_X8_coordIs p1 p2 σ = some (u, σ')) (H : Heap) (locs : List Loc) (ls : Array Slot) (hP : gW (mG E) σ H) (hS : va_S (gA (mG E)) s.heap H locs) (hl : lv_has ls 3 [(0, .ref (mAd E 0)), (1, .int p1), (2, .int p2)]) : W p l e rm_X8_coordIs s m args below meth c H locs 0 0 (gQv below args s (mG E) σ') (F0 m 0 ls []) := by
  unfold f_X8_coordIs at hf
  obtain ⟨F, hr, hlk⟩ := id B
  have hx := F.1
  have hb := F.2.1
  have hml := F.2.2.1
  have hown := F.2.2.2.1
  have hts := F.2.2.2.2.1
  refine lv_aload_n hx hb dX8_coordIs_0 rfl (lv_at hl 0 rfl) ?_
  refine gf_X8_16 F hP dX8_coordIs_1 ?_
  refine lv_aload_n hx hb dX8_coordIs_4 rfl (lv_at hl 0 rfl) ?_
  refine gf_X8_151 F hP dX8_coordIs_5 ?_
  refine lv_iload_n hx hb dX8_coordIs_8 rfl (lv_at hl 1 rfl) ?_
  obtain ⟨h1, hf⟩ := gd_e hf
  refine m_iast F hP hS ⟨by decide, by decide⟩ rfl h1 dX8_coordIs_9 (fun H locs hP hS => ?_)
  obtain ⟨σ2, eσ2, hf⟩ := vl_x hf
  rw [← eσ2] at hP
  refine lv_aload_n hx hb dX8_coordIs_10 rfl (lv_at hl 0 rfl) ?_
  refine gf_X8_19 F hP dX8_coordIs_11 ?_
  refine lv_aload_n hx hb dX8_coordIs_14 rfl (lv_at hl 0 rfl) ?_
  refine gf_X8_151 F hP dX8_coordIs_15 ?_
  refine lv_iload_n hx hb dX8_coordIs_18 rfl (lv_at hl 2 rfl) ?_
  obtain ⟨h3, hf⟩ := gd_e hf
  refine m_iast F hP hS ⟨by decide, by decide⟩ rfl h3 dX8_coordIs_19 (fun H locs hP hS => ?_)
  obtain ⟨σ4, eσ4, hf⟩ := vl_x hf
  rw [← eσ4] at hP
  refine lv_aload_n hx hb dX8_coordIs_20 rfl (lv_at hl 0 rfl) ?_
  refine lv_dup hx hb dX8_coordIs_21 rfl ?_
  refine gf_X8_151 F hP dX8_coordIs_22 ?_
  refine lv_iconst (v := 1) hx hb dX8_coordIs_25 (by decide) ?_
  refine lv_iadd hx hb dX8_coordIs_26 ?_
  refine pf_X8_151 F hP hS dX8_coordIs_27 (fun H locs hP hS => ?_)
  obtain ⟨σ5, eσ5, hf⟩ := vl_x hf
  rw [← eσ5] at hP
  exact g_vret B hP hS hf dX8_coordIs_30
theorem c_X8_coordIs (l : Launch) {E : mEv} (hI : gIj (mG E)) {p1 : Int32} {p2 : Int32} {σ σ' : St} {u : Unit} (hf : f_X8_coordIs p1 p2 σ = some (u, σ')) : gMv l yX8_coordIs cX8_coordIs 3 rm_X8_coordIs [.ref (mAd E 0), .int p1, .int p2] (mG E) σ σ' :=
  g_entry (by decide) (Nat.le_of_ble_eq_true rfl) hI (fun p e s m args below meth c B hP hS ls hl => w_X8_coordIs_e B _ _ σ hf _ _ ls hP hS hl)
/-! PromisedSlotsModel.beatOf(I)I -/
def f_X8_beatOf (p1 : Int32) (σ : St) : Option (Int32 × St) :=
  some (((48 : Int32) <<< (p1 &&& 31)), σ)
abbrev rm_X8_beatOf : Room := { frames := 0, cells := 0, slots := 0, locals := 0 }
set_option maxHeartbeats 4000000 in
set_option maxRecDepth 100000 in
theorem w_X8_beatOf_e {p : Program} {l : Launch} {e : Env} {s : State} {m : MethodId} {args : Array Value} {below : List Frame} {meth : Method} {c : Code} {E : mEv} {r : Int32} {σ' : St} (B : gBx p m meth c cX8_beatOf 1 (some .int) s args RX8 (mG E)) (p1 : Int32) (σ : St) (hf : f_X8_beatOf p1 σ = some (r, σ')) (H : Heap) (locs : List Loc) (ls : Array Slot) (hP : gW (mG E) σ H) (hS : va_S (gA (mG E)) s.heap H locs) (hl : lv_has ls 1 [(0, .int p1)]) : W p l e rm_X8_beatOf s m args below meth c H locs 0 0 (gQi below args s (mG E) r σ') (F0 m 0 ls []) := by
  unfold f_X8_beatOf at hf
  obtain ⟨F, hr, hlk⟩ := id B
  have hx := F.1
  have hb := F.2.1
  have hml := F.2.2.1
  have hown := F.2.2.2.1
  have hts := F.2.2.2.2.1
  refine lv_bipush (v := (48)) hx hb dX8_beatOf_0 (by decide) ?_
  refine lv_iload_n hx hb dX8_beatOf_2 rfl (lv_at hl 0 rfl) ?_
  refine lv_ishl hx hb dX8_beatOf_3 ?_
  exact g_iret B hP hS hf dX8_beatOf_4
theorem c_X8_beatOf (l : Launch) {E : mEv} (hI : gIj (mG E)) {p1 : Int32} {σ σ' : St} {r : Int32} (hf : f_X8_beatOf p1 σ = some (r, σ')) : gMi l yX8_beatOf cX8_beatOf 1 .int rm_X8_beatOf [.int p1] (mG E) σ r σ' :=
  g_entry (by decide) (Nat.le_of_ble_eq_true rfl) hI (fun p e s m args below meth c B hP hS ls hl => w_X8_beatOf_e B _ σ hf _ _ ls hP hS hl)
section SD
variable {p : Program} {l : Launch} {e : Env} {R : Room} {s : State} {m : MethodId} {args : Array Value} {below : List Frame} {meth : Method} {c : Code} {H : Heap} {locs : List Loc} {cells slots : Nat} {Q : State → Prop}
variable {cc : ByteArray} {pc nL : Nat} {ls : Array Slot} {rest : List Value} {E : mEv} {σ : St}
theorem gf_X8_31 (F : gFx p m c cc nL s args RX8 (mG E)) (hP : gW (mG E) σ H) (hdg : decode cc pc = .ok (.getfield 31, 3)) (kk : W p l e R s m args below meth c H locs cells slots Q (F0 m (pc + 3) ls (.ref (mAd E 25) :: rest))) : W p l e R s m args below meth c H locs cells slots Q (F0 m pc ls (.ref (mAd E 0) :: rest)) :=
  g_get F hP (k := 0) min0 (me_0 E _) rfl inX8 25 (by decide) tw_809 rfl rfl hdg kk
theorem gf_X8_34 (F : gFx p m c cc nL s args RX8 (mG E)) (hP : gW (mG E) σ H) (hdg : decode cc pc = .ok (.getfield 34, 3)) (kk : W p l e R s m args below meth c H locs cells slots Q (F0 m (pc + 3) ls (.ref (mAd E 26) :: rest))) : W p l e R s m args below meth c H locs cells slots Q (F0 m pc ls (.ref (mAd E 0) :: rest)) :=
  g_get F hP (k := 0) min0 (me_0 E _) rfl inX8 26 (by decide) tw_810 rfl rfl hdg kk
theorem gf_X8_40 (F : gFx p m c cc nL s args RX8 (mG E)) (hP : gW (mG E) σ H) (hdg : decode cc pc = .ok (.getfield 40, 3)) (kk : W p l e R s m args below meth c H locs cells slots Q (F0 m (pc + 3) ls (.ref (mAd E 28) :: rest))) : W p l e R s m args below meth c H locs cells slots Q (F0 m pc ls (.ref (mAd E 0) :: rest)) :=
  g_get F hP (k := 0) min0 (me_0 E _) rfl inX8 28 (by decide) tw_812 rfl rfl hdg kk
theorem gf_X8_46 (F : gFx p m c cc nL s args RX8 (mG E)) (hP : gW (mG E) σ H) (hdg : decode cc pc = .ok (.getfield 46, 3)) (kk : W p l e R s m args below meth c H locs cells slots Q (F0 m (pc + 3) ls (.ref (mAd E 30) :: rest))) : W p l e R s m args below meth c H locs cells slots Q (F0 m pc ls (.ref (mAd E 0) :: rest)) :=
  g_get F hP (k := 0) min0 (me_0 E _) rfl inX8 30 (by decide) tw_814 rfl rfl hdg kk
theorem gf_X8_43 (F : gFx p m c cc nL s args RX8 (mG E)) (hP : gW (mG E) σ H) (hdg : decode cc pc = .ok (.getfield 43, 3)) (kk : W p l e R s m args below meth c H locs cells slots Q (F0 m (pc + 3) ls (.ref (mAd E 29) :: rest))) : W p l e R s m args below meth c H locs cells slots Q (F0 m pc ls (.ref (mAd E 0) :: rest)) :=
  g_get F hP (k := 0) min0 (me_0 E _) rfl inX8 29 (by decide) tw_813 rfl rfl hdg kk
end SD
/-! PromisedSlotsModel.coordBegins(III)V -/
def f_X8_coordBegins (p1 : Int32) (p2 : Int32) (p3 : Int32) (σ : St) : Option (Unit × St) :=
  gd (ix p1 4) <|
  vl (up2 σ 25 (nt p1) p2) fun σ2 =>
  gd (ix p1 4) <|
  vl (up2 σ2 26 (nt p1) p3) fun σ4 =>
  gd (ix p1 4) <|
  vl (up2 σ4 28 (nt p1) (0 : Int32)) fun σ6 =>
  gd (ix p1 4) <|
  vl (up2 σ6 30 (nt p1) (0 : Int32)) fun σ8 =>
  gd (ix p1 4) <|
  vl (up2 σ8 29 (nt p1) (0 : Int32)) fun σ10 =>
  some ((), σ10)
abbrev rm_X8_coordBegins : Room := { frames := 0, cells := 0, slots := 0, locals := 0 }
set_option maxHeartbeats 4000000 in
set_option maxRecDepth 100000 in
theorem w_X8_coordBegins_e {p : Program} {l : Launch} {e : Env} {s : State} {m : MethodId} {args : Array Value} {below : List Frame} {meth : Method} {c : Code} {E : mEv} {u : Unit} {σ' : St} (B : gBx p m meth c cX8_coordBegins 4 none s args RX8 (mG E)) (p1 : Int32) (p2 : Int32) (p3 : Int32) (σ : St) (hf : f_X8_coordBegins p1 p2 p3 σ = some (u, σ')) (H : Heap) (locs : List Loc) (ls : Array Slot) (hP : gW (mG E) σ H) (hS : va_S (gA (mG E)) s.heap H locs) (hl : lv_has ls 4 [(0, .ref (mAd E 0)), (1, .int p1), (2, .int p2), (3, .int p3)]) : W p l e rm_X8_coordBegins s m args below meth c H locs 0 0 (gQv below args s (mG E) σ') (F0 m 0 ls []) := by
  unfold f_X8_coordBegins at hf
  obtain ⟨F, hr, hlk⟩ := id B
  have hx := F.1
  have hb := F.2.1
  have hml := F.2.2.1
  have hown := F.2.2.2.1
  have hts := F.2.2.2.2.1
  refine lv_aload_n hx hb dX8_coordBegins_0 rfl (lv_at hl 0 rfl) ?_
  refine gf_X8_31 F hP dX8_coordBegins_1 ?_
  refine lv_iload_n hx hb dX8_coordBegins_4 rfl (lv_at hl 1 rfl) ?_
  refine lv_iload_n hx hb dX8_coordBegins_5 rfl (lv_at hl 2 rfl) ?_
  obtain ⟨h1, hf⟩ := gd_e hf
  refine m_iast F hP hS ⟨by decide, by decide⟩ rfl h1 dX8_coordBegins_6 (fun H locs hP hS => ?_)
  obtain ⟨σ2, eσ2, hf⟩ := vl_x hf
  rw [← eσ2] at hP
  refine lv_aload_n hx hb dX8_coordBegins_7 rfl (lv_at hl 0 rfl) ?_
  refine gf_X8_34 F hP dX8_coordBegins_8 ?_
  refine lv_iload_n hx hb dX8_coordBegins_11 rfl (lv_at hl 1 rfl) ?_
  refine lv_iload_n hx hb dX8_coordBegins_12 rfl (lv_at hl 3 rfl) ?_
  obtain ⟨h3, hf⟩ := gd_e hf
  refine m_iast F hP hS ⟨by decide, by decide⟩ rfl h3 dX8_coordBegins_13 (fun H locs hP hS => ?_)
  obtain ⟨σ4, eσ4, hf⟩ := vl_x hf
  rw [← eσ4] at hP
  refine lv_aload_n hx hb dX8_coordBegins_14 rfl (lv_at hl 0 rfl) ?_
  refine gf_X8_40 F hP dX8_coordBegins_15 ?_
  refine lv_iload_n hx hb dX8_coordBegins_18 rfl (lv_at hl 1 rfl) ?_
  refine lv_iconst (v := 0) hx hb dX8_coordBegins_19 (by decide) ?_
  obtain ⟨h5, hf⟩ := gd_e hf
  refine m_iast F hP hS ⟨by decide, by decide⟩ rfl h5 dX8_coordBegins_20 (fun H locs hP hS => ?_)
  obtain ⟨σ6, eσ6, hf⟩ := vl_x hf
  rw [← eσ6] at hP
  refine lv_aload_n hx hb dX8_coordBegins_21 rfl (lv_at hl 0 rfl) ?_
  refine gf_X8_46 F hP dX8_coordBegins_22 ?_
  refine lv_iload_n hx hb dX8_coordBegins_25 rfl (lv_at hl 1 rfl) ?_
  refine lv_iconst (v := 0) hx hb dX8_coordBegins_26 (by decide) ?_
  obtain ⟨h7, hf⟩ := gd_e hf
  refine m_iast F hP hS ⟨by decide, by decide⟩ rfl h7 dX8_coordBegins_27 (fun H locs hP hS => ?_)
  obtain ⟨σ8, eσ8, hf⟩ := vl_x hf
  rw [← eσ8] at hP
  refine lv_aload_n hx hb dX8_coordBegins_28 rfl (lv_at hl 0 rfl) ?_
  refine gf_X8_43 F hP dX8_coordBegins_29 ?_
  refine lv_iload_n hx hb dX8_coordBegins_32 rfl (lv_at hl 1 rfl) ?_
  refine lv_iconst (v := 0) hx hb dX8_coordBegins_33 (by decide) ?_
  obtain ⟨h9, hf⟩ := gd_e hf
  refine m_iast F hP hS ⟨by decide, by decide⟩ rfl h9 dX8_coordBegins_34 (fun H locs hP hS => ?_)
  obtain ⟨σ10, eσ10, hf⟩ := vl_x hf
  rw [← eσ10] at hP
  exact g_vret B hP hS hf dX8_coordBegins_35
theorem c_X8_coordBegins (l : Launch) {E : mEv} (hI : gIj (mG E)) {p1 : Int32} {p2 : Int32} {p3 : Int32} {σ σ' : St} {u : Unit} (hf : f_X8_coordBegins p1 p2 p3 σ = some (u, σ')) : gMv l yX8_coordBegins cX8_coordBegins 4 rm_X8_coordBegins [.ref (mAd E 0), .int p1, .int p2, .int p3] (mG E) σ σ' :=
  g_entry (by decide) (Nat.le_of_ble_eq_true rfl) hI (fun p e s m args below meth c B hP hS ls hl => w_X8_coordBegins_e B _ _ _ σ hf _ _ ls hP hS hl)
section SD
variable {p : Program} {l : Launch} {e : Env} {R : Room} {s : State} {m : MethodId} {args : Array Value} {below : List Frame} {meth : Method} {c : Code} {H : Heap} {locs : List Loc} {cells slots : Nat} {Q : State → Prop}
variable {cc : ByteArray} {pc nL : Nat} {ls : Array Slot} {rest : List Value} {E : mEv} {σ : St}
theorem gf_X8_61 (F : gFx p m c cc nL s args RX8 (mG E)) (hP : gW (mG E) σ H) (hdg : decode cc pc = .ok (.getfield 61, 3)) (kk : W p l e R s m args below meth c H locs cells slots Q (F0 m (pc + 3) ls (.ref (mAd E 36) :: rest))) : W p l e R s m args below meth c H locs cells slots Q (F0 m pc ls (.ref (mAd E 0) :: rest)) :=
  g_get F hP (k := 0) min0 (me_0 E _) rfl inX8 36 (by decide) tw_820 rfl rfl hdg kk
theorem gf_X8_64 (F : gFx p m c cc nL s args RX8 (mG E)) (hP : gW (mG E) σ H) (hdg : decode cc pc = .ok (.getfield 64, 3)) (kk : W p l e R s m args below meth c H locs cells slots Q (F0 m (pc + 3) ls (.ref (mAd E 37) :: rest))) : W p l e R s m args below meth c H locs cells slots Q (F0 m pc ls (.ref (mAd E 0) :: rest)) :=
  g_get F hP (k := 0) min0 (me_0 E _) rfl inX8 37 (by decide) tw_821 rfl rfl hdg kk
theorem gf_X8_67 (F : gFx p m c cc nL s args RX8 (mG E)) (hP : gW (mG E) σ H) (hdg : decode cc pc = .ok (.getfield 67, 3)) (kk : W p l e R s m args below meth c H locs cells slots Q (F0 m (pc + 3) ls (.ref (mAd E 38) :: rest))) : W p l e R s m args below meth c H locs cells slots Q (F0 m pc ls (.ref (mAd E 0) :: rest)) :=
  g_get F hP (k := 0) min0 (me_0 E _) rfl inX8 38 (by decide) tw_822 rfl rfl hdg kk
theorem gf_X8_70 (F : gFx p m c cc nL s args RX8 (mG E)) (hP : gW (mG E) σ H) (hdg : decode cc pc = .ok (.getfield 70, 3)) (kk : W p l e R s m args below meth c H locs cells slots Q (F0 m (pc + 3) ls (.ref (mAd E 39) :: rest))) : W p l e R s m args below meth c H locs cells slots Q (F0 m pc ls (.ref (mAd E 0) :: rest)) :=
  g_get F hP (k := 0) min0 (me_0 E _) rfl inX8 39 (by decide) tw_823 rfl rfl hdg kk
theorem gf_X8_73 (F : gFx p m c cc nL s args RX8 (mG E)) (hP : gW (mG E) σ H) (hdg : decode cc pc = .ok (.getfield 73, 3)) (kk : W p l e R s m args below meth c H locs cells slots Q (F0 m (pc + 3) ls (.ref (mAd E 40) :: rest))) : W p l e R s m args below meth c H locs cells slots Q (F0 m pc ls (.ref (mAd E 0) :: rest)) :=
  g_get F hP (k := 0) min0 (me_0 E _) rfl inX8 40 (by decide) tw_824 rfl rfl hdg kk
theorem gf_X8_76 (F : gFx p m c cc nL s args RX8 (mG E)) (hP : gW (mG E) σ H) (hdg : decode cc pc = .ok (.getfield 76, 3)) (kk : W p l e R s m args below meth c H locs cells slots Q (F0 m (pc + 3) ls (.ref (mAd E 41) :: rest))) : W p l e R s m args below meth c H locs cells slots Q (F0 m pc ls (.ref (mAd E 0) :: rest)) :=
  g_get F hP (k := 0) min0 (me_0 E _) rfl inX8 41 (by decide) tw_825 rfl rfl hdg kk
theorem gf_X8_79 (F : gFx p m c cc nL s args RX8 (mG E)) (hP : gW (mG E) σ H) (hdg : decode cc pc = .ok (.getfield 79, 3)) (kk : W p l e R s m args below meth c H locs cells slots Q (F0 m (pc + 3) ls (.ref (mAd E 42) :: rest))) : W p l e R s m args below meth c H locs cells slots Q (F0 m pc ls (.ref (mAd E 0) :: rest)) :=
  g_get F hP (k := 0) min0 (me_0 E _) rfl inX8 42 (by decide) tw_826 rfl rfl hdg kk
theorem gf_X8_82 (F : gFx p m c cc nL s args RX8 (mG E)) (hP : gW (mG E) σ H) (hdg : decode cc pc = .ok (.getfield 82, 3)) (kk : W p l e R s m args below meth c H locs cells slots Q (F0 m (pc + 3) ls (.ref (mAd E 43) :: rest))) : W p l e R s m args below meth c H locs cells slots Q (F0 m pc ls (.ref (mAd E 0) :: rest)) :=
  g_get F hP (k := 0) min0 (me_0 E _) rfl inX8 43 (by decide) tw_827 rfl rfl hdg kk
theorem gf_X8_85 (F : gFx p m c cc nL s args RX8 (mG E)) (hP : gW (mG E) σ H) (hdg : decode cc pc = .ok (.getfield 85, 3)) (kk : W p l e R s m args below meth c H locs cells slots Q (F0 m (pc + 3) ls (.ref (mAd E 44) :: rest))) : W p l e R s m args below meth c H locs cells slots Q (F0 m pc ls (.ref (mAd E 0) :: rest)) :=
  g_get F hP (k := 0) min0 (me_0 E _) rfl inX8 44 (by decide) tw_828 rfl rfl hdg kk
theorem gf_X8_88 (F : gFx p m c cc nL s args RX8 (mG E)) (hP : gW (mG E) σ H) (hdg : decode cc pc = .ok (.getfield 88, 3)) (kk : W p l e R s m args below meth c H locs cells slots Q (F0 m (pc + 3) ls (.ref (mAd E 45) :: rest))) : W p l e R s m args below meth c H locs cells slots Q (F0 m pc ls (.ref (mAd E 0) :: rest)) :=
  g_get F hP (k := 0) min0 (me_0 E _) rfl inX8 45 (by decide) tw_829 rfl rfl hdg kk
theorem gf_X8_91 (F : gFx p m c cc nL s args RX8 (mG E)) (hP : gW (mG E) σ H) (hdg : decode cc pc = .ok (.getfield 91, 3)) (kk : W p l e R s m args below meth c H locs cells slots Q (F0 m (pc + 3) ls (.ref (mAd E 46) :: rest))) : W p l e R s m args below meth c H locs cells slots Q (F0 m pc ls (.ref (mAd E 0) :: rest)) :=
  g_get F hP (k := 0) min0 (me_0 E _) rfl inX8 46 (by decide) tw_830 rfl rfl hdg kk
theorem gf_X8_94 (F : gFx p m c cc nL s args RX8 (mG E)) (hP : gW (mG E) σ H) (hdg : decode cc pc = .ok (.getfield 94, 3)) (kk : W p l e R s m args below meth c H locs cells slots Q (F0 m (pc + 3) ls (.ref (mAd E 47) :: rest))) : W p l e R s m args below meth c H locs cells slots Q (F0 m pc ls (.ref (mAd E 0) :: rest)) :=
  g_get F hP (k := 0) min0 (me_0 E _) rfl inX8 47 (by decide) tw_831 rfl rfl hdg kk
theorem gf_X8_97 (F : gFx p m c cc nL s args RX8 (mG E)) (hP : gW (mG E) σ H) (hdg : decode cc pc = .ok (.getfield 97, 3)) (kk : W p l e R s m args below meth c H locs cells slots Q (F0 m (pc + 3) ls (.ref (mAd E 48) :: rest))) : W p l e R s m args below meth c H locs cells slots Q (F0 m pc ls (.ref (mAd E 0) :: rest)) :=
  g_get F hP (k := 0) min0 (me_0 E _) rfl inX8 48 (by decide) tw_832 rfl rfl hdg kk
theorem gf_X8_100 (F : gFx p m c cc nL s args RX8 (mG E)) (hP : gW (mG E) σ H) (hdg : decode cc pc = .ok (.getfield 100, 3)) (kk : W p l e R s m args below meth c H locs cells slots Q (F0 m (pc + 3) ls (.ref (mAd E 49) :: rest))) : W p l e R s m args below meth c H locs cells slots Q (F0 m pc ls (.ref (mAd E 0) :: rest)) :=
  g_get F hP (k := 0) min0 (me_0 E _) rfl inX8 49 (by decide) tw_833 rfl rfl hdg kk
end SD
/-! PromisedSlotsModel.deviceBegins(I)V -/
def f_X8_deviceBegins (p1 : Int32) (σ : St) : Option (Unit × St) :=
  gd (ix p1 8) <|
  gd (ix p1 8) <|
  vl (up2 σ 36 (nt p1) (σ 13 (nt p1))) fun σ3 =>
  gd (ix p1 8) <|
  gd (ix p1 8) <|
  vl (up2 σ3 37 (nt p1) (σ3 14 (nt p1))) fun σ6 =>
  gd (ix p1 8) <|
  gd (ix p1 8) <|
  vl (up2 σ6 38 (nt p1) (σ6 15 (nt p1))) fun σ9 =>
  gd (ix p1 8) <|
  vl (up2 σ9 39 (nt p1) (0 : Int32)) fun σ11 =>
  gd (ix p1 8) <|
  vl (up2 σ11 40 (nt p1) (0 : Int32)) fun σ13 =>
  gd (ix p1 8) <|
  vl (up2 σ13 41 (nt p1) (0 : Int32)) fun σ15 =>
  gd (ix p1 8) <|
  vl (up2 σ15 42 (nt p1) (0 : Int32)) fun σ17 =>
  gd (ix p1 8) <|
  vl (up2 σ17 43 (nt p1) (0 : Int32)) fun σ19 =>
  gd (ix p1 8) <|
  vl (up2 σ19 44 (nt p1) (0 : Int32)) fun σ21 =>
  gd (ix p1 8) <|
  vl (up2 σ21 45 (nt p1) (0 : Int32)) fun σ23 =>
  gd (ix p1 8) <|
  gd (ix p1 8) <|
  vl (up2 σ23 46 (nt p1) (σ23 15 (nt p1))) fun σ26 =>
  gd (ix p1 8) <|
  vl (up2 σ26 47 (nt p1) (0 : Int32)) fun σ28 =>
  gd (ix p1 8) <|
  vl (up2 σ28 48 (nt p1) (0 : Int32)) fun σ30 =>
  gd (ix p1 8) <|
  vl (up2 σ30 49 (nt p1) (0 : Int32)) fun σ32 =>
  some ((), σ32)
abbrev rm_X8_deviceBegins : Room := { frames := 0, cells := 0, slots := 0, locals := 0 }
set_option maxHeartbeats 4000000 in
set_option maxRecDepth 100000 in
theorem w_X8_deviceBegins_e {p : Program} {l : Launch} {e : Env} {s : State} {m : MethodId} {args : Array Value} {below : List Frame} {meth : Method} {c : Code} {E : mEv} {u : Unit} {σ' : St} (B : gBx p m meth c cX8_deviceBegins 2 none s args RX8 (mG E)) (p1 : Int32) (σ : St) (hf : f_X8_deviceBegins p1 σ = some (u, σ')) (H : Heap) (locs : List Loc) (ls : Array Slot) (hP : gW (mG E) σ H) (hS : va_S (gA (mG E)) s.heap H locs) (hl : lv_has ls 2 [(0, .ref (mAd E 0)), (1, .int p1)]) : W p l e rm_X8_deviceBegins s m args below meth c H locs 0 0 (gQv below args s (mG E) σ') (F0 m 0 ls []) := by
  unfold f_X8_deviceBegins at hf
  obtain ⟨F, hr, hlk⟩ := id B
  have hx := F.1
  have hb := F.2.1
  have hml := F.2.2.1
  have hown := F.2.2.2.1
  have hts := F.2.2.2.2.1
  refine lv_aload_n hx hb dX8_deviceBegins_0 rfl (lv_at hl 0 rfl) ?_
  refine gf_X8_61 F hP dX8_deviceBegins_1 ?_
  refine lv_iload_n hx hb dX8_deviceBegins_4 rfl (lv_at hl 1 rfl) ?_
  refine lv_aload_n hx hb dX8_deviceBegins_5 rfl (lv_at hl 0 rfl) ?_
  refine gf_X8_22 F hP dX8_deviceBegins_6 ?_
  refine lv_iload_n hx hb dX8_deviceBegins_9 rfl (lv_at hl 1 rfl) ?_
  obtain ⟨h1, hf⟩ := gd_e hf
  refine m_iald F hP ⟨by decide, by decide⟩ rfl h1 dX8_deviceBegins_10 ?_
  obtain ⟨h2, hf⟩ := gd_e hf
  refine m_iast F hP hS ⟨by decide, by decide⟩ rfl h2 dX8_deviceBegins_11 (fun H locs hP hS => ?_)
  obtain ⟨σ3, eσ3, hf⟩ := vl_x hf
  rw [← eσ3] at hP
  refine lv_aload_n hx hb dX8_deviceBegins_12 rfl (lv_at hl 0 rfl) ?_
  refine gf_X8_64 F hP dX8_deviceBegins_13 ?_
  refine lv_iload_n hx hb dX8_deviceBegins_16 rfl (lv_at hl 1 rfl) ?_
  refine lv_aload_n hx hb dX8_deviceBegins_17 rfl (lv_at hl 0 rfl) ?_
  refine gf_X8_25 F hP dX8_deviceBegins_18 ?_
  refine lv_iload_n hx hb dX8_deviceBegins_21 rfl (lv_at hl 1 rfl) ?_
  obtain ⟨h4, hf⟩ := gd_e hf
  refine m_iald F hP ⟨by decide, by decide⟩ rfl h4 dX8_deviceBegins_22 ?_
  obtain ⟨h5, hf⟩ := gd_e hf
  refine m_iast F hP hS ⟨by decide, by decide⟩ rfl h5 dX8_deviceBegins_23 (fun H locs hP hS => ?_)
  obtain ⟨σ6, eσ6, hf⟩ := vl_x hf
  rw [← eσ6] at hP
  refine lv_aload_n hx hb dX8_deviceBegins_24 rfl (lv_at hl 0 rfl) ?_
  refine gf_X8_67 F hP dX8_deviceBegins_25 ?_
  refine lv_iload_n hx hb dX8_deviceBegins_28 rfl (lv_at hl 1 rfl) ?_
  refine lv_aload_n hx hb dX8_deviceBegins_29 rfl (lv_at hl 0 rfl) ?_
  refine gf_X8_28 F hP dX8_deviceBegins_30 ?_
  refine lv_iload_n hx hb dX8_deviceBegins_33 rfl (lv_at hl 1 rfl) ?_
  obtain ⟨h7, hf⟩ := gd_e hf
  refine m_iald F hP ⟨by decide, by decide⟩ rfl h7 dX8_deviceBegins_34 ?_
  obtain ⟨h8, hf⟩ := gd_e hf
  refine m_iast F hP hS ⟨by decide, by decide⟩ rfl h8 dX8_deviceBegins_35 (fun H locs hP hS => ?_)
  obtain ⟨σ9, eσ9, hf⟩ := vl_x hf
  rw [← eσ9] at hP
  refine lv_aload_n hx hb dX8_deviceBegins_36 rfl (lv_at hl 0 rfl) ?_
  refine gf_X8_70 F hP dX8_deviceBegins_37 ?_
  refine lv_iload_n hx hb dX8_deviceBegins_40 rfl (lv_at hl 1 rfl) ?_
  refine lv_iconst (v := 0) hx hb dX8_deviceBegins_41 (by decide) ?_
  obtain ⟨h10, hf⟩ := gd_e hf
  refine m_iast F hP hS ⟨by decide, by decide⟩ rfl h10 dX8_deviceBegins_42 (fun H locs hP hS => ?_)
  obtain ⟨σ11, eσ11, hf⟩ := vl_x hf
  rw [← eσ11] at hP
  refine lv_aload_n hx hb dX8_deviceBegins_43 rfl (lv_at hl 0 rfl) ?_
  refine gf_X8_73 F hP dX8_deviceBegins_44 ?_
  refine lv_iload_n hx hb dX8_deviceBegins_47 rfl (lv_at hl 1 rfl) ?_
  refine lv_iconst (v := 0) hx hb dX8_deviceBegins_48 (by decide) ?_
  obtain ⟨h12, hf⟩ := gd_e hf
  refine m_iast F hP hS ⟨by decide, by decide⟩ rfl h12 dX8_deviceBegins_49 (fun H locs hP hS => ?_)
  obtain ⟨σ13, eσ13, hf⟩ := vl_x hf
  rw [← eσ13] at hP
  refine lv_aload_n hx hb dX8_deviceBegins_50 rfl (lv_at hl 0 rfl) ?_
  refine gf_X8_76 F hP dX8_deviceBegins_51 ?_
  refine lv_iload_n hx hb dX8_deviceBegins_54 rfl (lv_at hl 1 rfl) ?_
  refine lv_iconst (v := 0) hx hb dX8_deviceBegins_55 (by decide) ?_
  obtain ⟨h14, hf⟩ := gd_e hf
  refine m_iast F hP hS ⟨by decide, by decide⟩ rfl h14 dX8_deviceBegins_56 (fun H locs hP hS => ?_)
  obtain ⟨σ15, eσ15, hf⟩ := vl_x hf
  rw [← eσ15] at hP
  refine lv_aload_n hx hb dX8_deviceBegins_57 rfl (lv_at hl 0 rfl) ?_
  refine gf_X8_79 F hP dX8_deviceBegins_58 ?_
  refine lv_iload_n hx hb dX8_deviceBegins_61 rfl (lv_at hl 1 rfl) ?_
  refine lv_iconst (v := 0) hx hb dX8_deviceBegins_62 (by decide) ?_
  obtain ⟨h16, hf⟩ := gd_e hf
  refine m_iast F hP hS ⟨by decide, by decide⟩ rfl h16 dX8_deviceBegins_63 (fun H locs hP hS => ?_)
  obtain ⟨σ17, eσ17, hf⟩ := vl_x hf
  rw [← eσ17] at hP
  refine lv_aload_n hx hb dX8_deviceBegins_64 rfl (lv_at hl 0 rfl) ?_
  refine gf_X8_82 F hP dX8_deviceBegins_65 ?_
  refine lv_iload_n hx hb dX8_deviceBegins_68 rfl (lv_at hl 1 rfl) ?_
  refine lv_iconst (v := 0) hx hb dX8_deviceBegins_69 (by decide) ?_
  obtain ⟨h18, hf⟩ := gd_e hf
  refine m_iast F hP hS ⟨by decide, by decide⟩ rfl h18 dX8_deviceBegins_70 (fun H locs hP hS => ?_)
  obtain ⟨σ19, eσ19, hf⟩ := vl_x hf
  rw [← eσ19] at hP
  refine lv_aload_n hx hb dX8_deviceBegins_71 rfl (lv_at hl 0 rfl) ?_
  refine gf_X8_85 F hP dX8_deviceBegins_72 ?_
  refine lv_iload_n hx hb dX8_deviceBegins_75 rfl (lv_at hl 1 rfl) ?_
  refine lv_iconst (v := 0) hx hb dX8_deviceBegins_76 (by decide) ?_
  obtain ⟨h20, hf⟩ := gd_e hf
  refine m_iast F hP hS ⟨by decide, by decide⟩ rfl h20 dX8_deviceBegins_77 (fun H locs hP hS => ?_)
  obtain ⟨σ21, eσ21, hf⟩ := vl_x hf
  rw [← eσ21] at hP
  refine lv_aload_n hx hb dX8_deviceBegins_78 rfl (lv_at hl 0 rfl) ?_
  refine gf_X8_88 F hP dX8_deviceBegins_79 ?_
  refine lv_iload_n hx hb dX8_deviceBegins_82 rfl (lv_at hl 1 rfl) ?_
  refine lv_iconst (v := 0) hx hb dX8_deviceBegins_83 (by decide) ?_
  obtain ⟨h22, hf⟩ := gd_e hf
  refine m_iast F hP hS ⟨by decide, by decide⟩ rfl h22 dX8_deviceBegins_84 (fun H locs hP hS => ?_)
  obtain ⟨σ23, eσ23, hf⟩ := vl_x hf
  rw [← eσ23] at hP
  refine lv_aload_n hx hb dX8_deviceBegins_85 rfl (lv_at hl 0 rfl) ?_
  refine gf_X8_91 F hP dX8_deviceBegins_86 ?_
  refine lv_iload_n hx hb dX8_deviceBegins_89 rfl (lv_at hl 1 rfl) ?_
  refine lv_aload_n hx hb dX8_deviceBegins_90 rfl (lv_at hl 0 rfl) ?_
  refine gf_X8_28 F hP dX8_deviceBegins_91 ?_
  refine lv_iload_n hx hb dX8_deviceBegins_94 rfl (lv_at hl 1 rfl) ?_
  obtain ⟨h24, hf⟩ := gd_e hf
  refine m_iald F hP ⟨by decide, by decide⟩ rfl h24 dX8_deviceBegins_95 ?_
  obtain ⟨h25, hf⟩ := gd_e hf
  refine m_iast F hP hS ⟨by decide, by decide⟩ rfl h25 dX8_deviceBegins_96 (fun H locs hP hS => ?_)
  obtain ⟨σ26, eσ26, hf⟩ := vl_x hf
  rw [← eσ26] at hP
  refine lv_aload_n hx hb dX8_deviceBegins_97 rfl (lv_at hl 0 rfl) ?_
  refine gf_X8_94 F hP dX8_deviceBegins_98 ?_
  refine lv_iload_n hx hb dX8_deviceBegins_101 rfl (lv_at hl 1 rfl) ?_
  refine lv_iconst (v := 0) hx hb dX8_deviceBegins_102 (by decide) ?_
  obtain ⟨h27, hf⟩ := gd_e hf
  refine m_iast F hP hS ⟨by decide, by decide⟩ rfl h27 dX8_deviceBegins_103 (fun H locs hP hS => ?_)
  obtain ⟨σ28, eσ28, hf⟩ := vl_x hf
  rw [← eσ28] at hP
  refine lv_aload_n hx hb dX8_deviceBegins_104 rfl (lv_at hl 0 rfl) ?_
  refine gf_X8_97 F hP dX8_deviceBegins_105 ?_
  refine lv_iload_n hx hb dX8_deviceBegins_108 rfl (lv_at hl 1 rfl) ?_
  refine lv_iconst (v := 0) hx hb dX8_deviceBegins_109 (by decide) ?_
  obtain ⟨h29, hf⟩ := gd_e hf
  refine m_iast F hP hS ⟨by decide, by decide⟩ rfl h29 dX8_deviceBegins_110 (fun H locs hP hS => ?_)
  obtain ⟨σ30, eσ30, hf⟩ := vl_x hf
  rw [← eσ30] at hP
  refine lv_aload_n hx hb dX8_deviceBegins_111 rfl (lv_at hl 0 rfl) ?_
  refine gf_X8_100 F hP dX8_deviceBegins_112 ?_
  refine lv_iload_n hx hb dX8_deviceBegins_115 rfl (lv_at hl 1 rfl) ?_
  refine lv_iconst (v := 0) hx hb dX8_deviceBegins_116 (by decide) ?_
  obtain ⟨h31, hf⟩ := gd_e hf
  refine m_iast F hP hS ⟨by decide, by decide⟩ rfl h31 dX8_deviceBegins_117 (fun H locs hP hS => ?_)
  obtain ⟨σ32, eσ32, hf⟩ := vl_x hf
  rw [← eσ32] at hP
  exact g_vret B hP hS hf dX8_deviceBegins_118
theorem c_X8_deviceBegins (l : Launch) {E : mEv} (hI : gIj (mG E)) {p1 : Int32} {σ σ' : St} {u : Unit} (hf : f_X8_deviceBegins p1 σ = some (u, σ')) : gMv l yX8_deviceBegins cX8_deviceBegins 2 rm_X8_deviceBegins [.ref (mAd E 0), .int p1] (mG E) σ σ' :=
  g_entry (by decide) (Nat.le_of_ble_eq_true rfl) hI (fun p e s m args below meth c B hP hS ls hl => w_X8_deviceBegins_e B _ σ hf _ _ ls hP hS hl)
section SD
variable {p : Program} {l : Launch} {e : Env} {R : Room} {s : State} {m : MethodId} {args : Array Value} {below : List Frame} {meth : Method} {c : Code} {H : Heap} {locs : List Loc} {cells slots : Nat} {Q : State → Prop}
variable {cc : ByteArray} {pc nL : Nat} {ls : Array Slot} {rest : List Value} {E : mEv} {σ : St}
theorem gf_X8_124 (F : gFx p m c cc nL s args RX8 (mG E)) (hP : gW (mG E) σ H) (hdg : decode cc pc = .ok (.getfield 124, 3)) (kk : W p l e R s m args below meth c H locs cells slots Q (F0 m (pc + 3) ls (.int (σ 0 5) :: rest))) : W p l e R s m args below meth c H locs cells slots Q (F0 m pc ls (.ref (mAd E 0) :: rest)) :=
  g_get F hP (k := 0) min0 (me_0 E _) rfl inX8 5 (by decide) tw_789 rfl rfl hdg kk
theorem kc_X8_186 (F : gFx p m c cc nL s args RX8 (mG E)) (hP : gW (mG E) σ H) (hS : va_S (gA (mG E)) s.heap H locs) {p1 : Int32} {r : Int32} {σ' : St} (hf : f_X8_beatOf p1 σ = some (r, σ')) (hR : rm_X8_beatOf.frames + 1 ≤ R.frames ∧ 8 + (1 + 11) + rm_X8_beatOf.locals ≤ R.locals) (hsz : ls.size = nL) (hrest : (rest.map fun v => v.category).sum ≤ 8) (hcs : cells ≤ R.cells ∧ slots ≤ R.slots) (hdg : decode cc pc = .ok (.invokestatic 186, 3)) (kk : ∀ (H1 : Heap) (locs1 : List Loc), gW (mG E) σ' H1 → va_S (gA (mG E)) s.heap H1 locs1 → W p l e R s m args below meth c H1 locs1 cells slots Q (F0 m (pc + 3) ls (.int r :: rest))) : W p l e R s m args below meth c H locs cells slots Q (F0 m pc ls (.int p1 :: rest)) :=
  g_callSi F hP hS (c_X8_beatOf l F.2.2.2.2.2.2.2 hf) (g_cwS (n := 1) F tw_773 tw_774 tw_14 tw_775 (by decide +kernel) rfl rfl hR) (As := [.int p1]) rfl hsz rfl hrest hdg hcs kk
theorem pf_X8_222 (F : gFx p m c cc nL s args RX8 (mG E)) (hP : gW (mG E) σ H) (hS : va_S (gA (mG E)) s.heap H locs) {x : Int32} (hdg : decode cc pc = .ok (.putfield 222, 3)) (kk : ∀ (H1 : Heap) (locs1 : List Loc), gW (mG E) (up2 σ 0 16 x) H1 → va_S (gA (mG E)) s.heap H1 locs1 → W p l e R s m args below meth c H1 locs1 cells slots Q (F0 m (pc + 3) ls rest)) : W p l e R s m args below meth c H locs cells slots Q (F0 m pc ls (.int x :: .ref (mAd E 0) :: rest)) :=
  g_put F hP hS (k := 0) min0 (me_0 E _) rfl inX8 tyX8 tyX8_ok nmX8 16 (by decide) tw_800 rfl rfl rfl rfl (Nat.le_of_ble_eq_true rfl) (x := x) (jj := 16) (me_0 E _) hdg kk
theorem gf_X8_128 (F : gFx p m c cc nL s args RX8 (mG E)) (hP : gW (mG E) σ H) (hdg : decode cc pc = .ok (.getfield 128, 3)) (kk : W p l e R s m args below meth c H locs cells slots Q (F0 m (pc + 3) ls (.int (σ 0 6) :: rest))) : W p l e R s m args below meth c H locs cells slots Q (F0 m pc ls (.ref (mAd E 0) :: rest)) :=
  g_get F hP (k := 0) min0 (me_0 E _) rfl inX8 6 (by decide) tw_790 rfl rfl hdg kk
theorem pf_X8_225 (F : gFx p m c cc nL s args RX8 (mG E)) (hP : gW (mG E) σ H) (hS : va_S (gA (mG E)) s.heap H locs) {x : Int32} (hdg : decode cc pc = .ok (.putfield 225, 3)) (kk : ∀ (H1 : Heap) (locs1 : List Loc), gW (mG E) (up2 σ 0 17 x) H1 → va_S (gA (mG E)) s.heap H1 locs1 → W p l e R s m args below meth c H1 locs1 cells slots Q (F0 m (pc + 3) ls rest)) : W p l e R s m args below meth c H locs cells slots Q (F0 m pc ls (.int x :: .ref (mAd E 0) :: rest)) :=
  g_put F hP hS (k := 0) min0 (me_0 E _) rfl inX8 tyX8 tyX8_ok nmX8 17 (by decide) tw_801 rfl rfl rfl rfl (Nat.le_of_ble_eq_true rfl) (x := x) (jj := 17) (me_0 E _) hdg kk
theorem pf_X8_228 (F : gFx p m c cc nL s args RX8 (mG E)) (hP : gW (mG E) σ H) (hS : va_S (gA (mG E)) s.heap H locs) {x : Int32} (hdg : decode cc pc = .ok (.putfield 228, 3)) (kk : ∀ (H1 : Heap) (locs1 : List Loc), gW (mG E) (up2 σ 0 18 x) H1 → va_S (gA (mG E)) s.heap H1 locs1 → W p l e R s m args below meth c H1 locs1 cells slots Q (F0 m (pc + 3) ls rest)) : W p l e R s m args below meth c H locs cells slots Q (F0 m pc ls (.int x :: .ref (mAd E 0) :: rest)) :=
  g_put F hP hS (k := 0) min0 (me_0 E _) rfl inX8 tyX8 tyX8_ok nmX8 18 (by decide) tw_802 rfl rfl rfl rfl (Nat.le_of_ble_eq_true rfl) (x := x) (jj := 18) (me_0 E _) hdg kk
theorem gf_X8_131 (F : gFx p m c cc nL s args RX8 (mG E)) (hP : gW (mG E) σ H) (hdg : decode cc pc = .ok (.getfield 131, 3)) (kk : W p l e R s m args below meth c H locs cells slots Q (F0 m (pc + 3) ls (.int (σ 0 7) :: rest))) : W p l e R s m args below meth c H locs cells slots Q (F0 m pc ls (.ref (mAd E 0) :: rest)) :=
  g_get F hP (k := 0) min0 (me_0 E _) rfl inX8 7 (by decide) tw_791 rfl rfl hdg kk
theorem pf_X8_231 (F : gFx p m c cc nL s args RX8 (mG E)) (hP : gW (mG E) σ H) (hS : va_S (gA (mG E)) s.heap H locs) {x : Int32} (hdg : decode cc pc = .ok (.putfield 231, 3)) (kk : ∀ (H1 : Heap) (locs1 : List Loc), gW (mG E) (up2 σ 0 19 x) H1 → va_S (gA (mG E)) s.heap H1 locs1 → W p l e R s m args below meth c H1 locs1 cells slots Q (F0 m (pc + 3) ls rest)) : W p l e R s m args below meth c H locs cells slots Q (F0 m pc ls (.int x :: .ref (mAd E 0) :: rest)) :=
  g_put F hP hS (k := 0) min0 (me_0 E _) rfl inX8 tyX8 tyX8_ok nmX8 19 (by decide) tw_803 rfl rfl rfl rfl (Nat.le_of_ble_eq_true rfl) (x := x) (jj := 19) (me_0 E _) hdg kk
theorem gf_X8_142 (F : gFx p m c cc nL s args RX8 (mG E)) (hP : gW (mG E) σ H) (hdg : decode cc pc = .ok (.getfield 142, 3)) (kk : W p l e R s m args below meth c H locs cells slots Q (F0 m (pc + 3) ls (.int (σ 0 8) :: rest))) : W p l e R s m args below meth c H locs cells slots Q (F0 m pc ls (.ref (mAd E 0) :: rest)) :=
  g_get F hP (k := 0) min0 (me_0 E _) rfl inX8 8 (by decide) tw_792 rfl rfl hdg kk
theorem pf_X8_234 (F : gFx p m c cc nL s args RX8 (mG E)) (hP : gW (mG E) σ H) (hS : va_S (gA (mG E)) s.heap H locs) {x : Int32} (hdg : decode cc pc = .ok (.putfield 234, 3)) (kk : ∀ (H1 : Heap) (locs1 : List Loc), gW (mG E) (up2 σ 0 20 x) H1 → va_S (gA (mG E)) s.heap H1 locs1 → W p l e R s m args below meth c H1 locs1 cells slots Q (F0 m (pc + 3) ls rest)) : W p l e R s m args below meth c H locs cells slots Q (F0 m pc ls (.int x :: .ref (mAd E 0) :: rest)) :=
  g_put F hP hS (k := 0) min0 (me_0 E _) rfl inX8 tyX8 tyX8_ok nmX8 20 (by decide) tw_804 rfl rfl rfl rfl (Nat.le_of_ble_eq_true rfl) (x := x) (jj := 20) (me_0 E _) hdg kk
theorem pf_X8_237 (F : gFx p m c cc nL s args RX8 (mG E)) (hP : gW (mG E) σ H) (hS : va_S (gA (mG E)) s.heap H locs) {x : Int32} (hdg : decode cc pc = .ok (.putfield 237, 3)) (kk : ∀ (H1 : Heap) (locs1 : List Loc), gW (mG E) (up2 σ 0 21 x) H1 → va_S (gA (mG E)) s.heap H1 locs1 → W p l e R s m args below meth c H1 locs1 cells slots Q (F0 m (pc + 3) ls rest)) : W p l e R s m args below meth c H locs cells slots Q (F0 m pc ls (.int x :: .ref (mAd E 0) :: rest)) :=
  g_put F hP hS (k := 0) min0 (me_0 E _) rfl inX8 tyX8 tyX8_ok nmX8 21 (by decide) tw_805 rfl rfl rfl rfl (Nat.le_of_ble_eq_true rfl) (x := x) (jj := 21) (me_0 E _) hdg kk
theorem pf_X8_240 (F : gFx p m c cc nL s args RX8 (mG E)) (hP : gW (mG E) σ H) (hS : va_S (gA (mG E)) s.heap H locs) {x : Int32} (hdg : decode cc pc = .ok (.putfield 240, 3)) (kk : ∀ (H1 : Heap) (locs1 : List Loc), gW (mG E) (up2 σ 0 22 x) H1 → va_S (gA (mG E)) s.heap H1 locs1 → W p l e R s m args below meth c H1 locs1 cells slots Q (F0 m (pc + 3) ls rest)) : W p l e R s m args below meth c H locs cells slots Q (F0 m pc ls (.int x :: .ref (mAd E 0) :: rest)) :=
  g_put F hP hS (k := 0) min0 (me_0 E _) rfl inX8 tyX8 tyX8_ok nmX8 22 (by decide) tw_806 rfl rfl rfl rfl (Nat.le_of_ble_eq_true rfl) (x := x) (jj := 22) (me_0 E _) hdg kk
theorem pf_X8_243 (F : gFx p m c cc nL s args RX8 (mG E)) (hP : gW (mG E) σ H) (hS : va_S (gA (mG E)) s.heap H locs) {x : Int32} (hdg : decode cc pc = .ok (.putfield 243, 3)) (kk : ∀ (H1 : Heap) (locs1 : List Loc), gW (mG E) (up2 σ 0 23 x) H1 → va_S (gA (mG E)) s.heap H1 locs1 → W p l e R s m args below meth c H1 locs1 cells slots Q (F0 m (pc + 3) ls rest)) : W p l e R s m args below meth c H locs cells slots Q (F0 m pc ls (.int x :: .ref (mAd E 0) :: rest)) :=
  g_put F hP hS (k := 0) min0 (me_0 E _) rfl inX8 tyX8 tyX8_ok nmX8 23 (by decide) tw_807 rfl rfl rfl rfl (Nat.le_of_ble_eq_true rfl) (x := x) (jj := 23) (me_0 E _) hdg kk
theorem pf_X8_246 (F : gFx p m c cc nL s args RX8 (mG E)) (hP : gW (mG E) σ H) (hS : va_S (gA (mG E)) s.heap H locs) {x : Int32} (hdg : decode cc pc = .ok (.putfield 246, 3)) (kk : ∀ (H1 : Heap) (locs1 : List Loc), gW (mG E) (up2 σ 0 24 x) H1 → va_S (gA (mG E)) s.heap H1 locs1 → W p l e R s m args below meth c H1 locs1 cells slots Q (F0 m (pc + 3) ls rest)) : W p l e R s m args below meth c H locs cells slots Q (F0 m pc ls (.int x :: .ref (mAd E 0) :: rest)) :=
  g_put F hP hS (k := 0) min0 (me_0 E _) rfl inX8 tyX8 tyX8_ok nmX8 24 (by decide) tw_808 rfl rfl rfl rfl (Nat.le_of_ble_eq_true rfl) (x := x) (jj := 24) (me_0 E _) hdg kk
theorem pf_X8_219 (F : gFx p m c cc nL s args RX8 (mG E)) (hP : gW (mG E) σ H) (hS : va_S (gA (mG E)) s.heap H locs) {x : Int32} (hdg : decode cc pc = .ok (.putfield 219, 3)) (kk : ∀ (H1 : Heap) (locs1 : List Loc), gW (mG E) (up2 σ 0 35 x) H1 → va_S (gA (mG E)) s.heap H1 locs1 → W p l e R s m args below meth c H1 locs1 cells slots Q (F0 m (pc + 3) ls rest)) : W p l e R s m args below meth c H locs cells slots Q (F0 m pc ls (.int x :: .ref (mAd E 0) :: rest)) :=
  g_put F hP hS (k := 0) min0 (me_0 E _) rfl inX8 tyX8 tyX8_ok nmX8 35 (by decide) tw_819 rfl rfl rfl rfl (Nat.le_of_ble_eq_true rfl) (x := x) (jj := 35) (me_0 E _) hdg kk
theorem gf_X8_219 (F : gFx p m c cc nL s args RX8 (mG E)) (hP : gW (mG E) σ H) (hdg : decode cc pc = .ok (.getfield 219, 3)) (kk : W p l e R s m args below meth c H locs cells slots Q (F0 m (pc + 3) ls (.int (σ 0 35) :: rest))) : W p l e R s m args below meth c H locs cells slots Q (F0 m pc ls (.ref (mAd E 0) :: rest)) :=
  g_get F hP (k := 0) min0 (me_0 E _) rfl inX8 35 (by decide) tw_819 rfl rfl hdg kk
theorem kc_X8_252 (F : gFx p m c cc nL s args RX8 (mG E)) (hP : gW (mG E) σ H) (hS : va_S (gA (mG E)) s.heap H locs) {p1 : Int32} {u : Unit} {σ' : St} (hf : f_X8_deviceBegins p1 σ = some (u, σ')) (hR : rm_X8_deviceBegins.frames + 1 ≤ R.frames ∧ 8 + (2 + 11) + rm_X8_deviceBegins.locals ≤ R.locals) (hsz : ls.size = nL) (hrest : (rest.map fun v => v.category).sum ≤ 8) (hcs : cells ≤ R.cells ∧ slots ≤ R.slots) (hdg : decode cc pc = .ok (.invokevirtual 252, 3)) (kk : ∀ (H1 : Heap) (locs1 : List Loc), gW (mG E) σ' H1 → va_S (gA (mG E)) s.heap H1 locs1 → W p l e R s m args below meth c H1 locs1 cells slots Q (F0 m (pc + 3) ls rest)) : W p l e R s m args below meth c H locs cells slots Q (F0 m pc ls (.int p1 :: .ref (mAd E 0) :: rest)) :=
  g_callVv F hP hS (c_X8_deviceBegins l F.2.2.2.2.2.2.2 hf) (g_cwV (n := 1) F tw_780 tw_782 ts_33 tw_14 tw_783 (by decide +kernel) rfl rfl hR) (k := 0) min0 (me_0 E _) rfl (As := [.int p1]) rfl hsz rfl hrest hdg hcs kk
theorem kc_X8_249 (F : gFx p m c cc nL s args RX8 (mG E)) (hP : gW (mG E) σ H) (hS : va_S (gA (mG E)) s.heap H locs) {p1 : Int32} {p2 : Int32} {p3 : Int32} {u : Unit} {σ' : St} (hf : f_X8_coordBegins p1 p2 p3 σ = some (u, σ')) (hR : rm_X8_coordBegins.frames + 1 ≤ R.frames ∧ 8 + (4 + 11) + rm_X8_coordBegins.locals ≤ R.locals) (hsz : ls.size = nL) (hrest : (rest.map fun v => v.category).sum ≤ 8) (hcs : cells ≤ R.cells ∧ slots ≤ R.slots) (hdg : decode cc pc = .ok (.invokevirtual 249, 3)) (kk : ∀ (H1 : Heap) (locs1 : List Loc), gW (mG E) σ' H1 → va_S (gA (mG E)) s.heap H1 locs1 → W p l e R s m args below meth c H1 locs1 cells slots Q (F0 m (pc + 3) ls rest)) : W p l e R s m args below meth c H locs cells slots Q (F0 m pc ls (.int p3 :: .int p2 :: .int p1 :: .ref (mAd E 0) :: rest)) :=
  g_callVv F hP hS (c_X8_coordBegins l F.2.2.2.2.2.2.2 hf) (g_cwV (n := 3) F tw_776 tw_778 ts_32 tw_14 tw_779 (by decide +kernel) rfl rfl hR) (k := 0) min0 (me_0 E _) rfl (As := [.int p1, .int p2, .int p3]) rfl hsz rfl hrest hdg hcs kk
theorem gf_X8_37 (F : gFx p m c cc nL s args RX8 (mG E)) (hP : gW (mG E) σ H) (hdg : decode cc pc = .ok (.getfield 37, 3)) (kk : W p l e R s m args below meth c H locs cells slots Q (F0 m (pc + 3) ls (.ref (mAd E 27) :: rest))) : W p l e R s m args below meth c H locs cells slots Q (F0 m pc ls (.ref (mAd E 0) :: rest)) :=
  g_get F hP (k := 0) min0 (me_0 E _) rfl inX8 27 (by decide) tw_811 rfl rfl hdg kk
end SD
/-! PromisedSlotsModel.begin()V -/
def b_X8_begin_149 (K149 : (Int32 × St → Option (Unit × St))) (a1 : Int32) (σ : St) : Option (Unit × St) :=
  if (σ 0 35) ≤ a1 then
    some ((), σ)
  else
    gd (ix a1 8) <|
    gd (ix (σ 36 (nt a1)) 4) <|
    gd (ix (σ 36 (nt a1)) 4) <|
    vl (up2 σ 29 (nt (σ 36 (nt a1))) ((σ 29 (nt (σ 36 (nt a1)))) ||| ((1 : Int32) <<< (a1 &&& 31)))) fun σ23 =>
    vl (a1 + (1 : Int32)) fun x24 =>
    K149 (x24, σ23)
def b_X8_begin_130 (K130 : (Int32 × St → Option (Unit × St))) (a1 : Int32) (σ : St) : Option (Unit × St) :=
  if (8 : Int32) ≤ a1 then
    lp (fun K a => b_X8_begin_149 K a.1 a.2) FU ((0 : Int32), σ)
  else
    cl (f_X8_deviceBegins a1 σ) fun r26 σ25 =>
    vl (a1 + (1 : Int32)) fun x28 =>
    K130 (x28, σ25)
def b_X8_begin_73 (K73 : (Int32 × St → Option (Unit × St))) (a1 : Int32) (σ : St) : Option (Unit × St) :=
  if (4 : Int32) ≤ a1 then
    vl (up2 σ 0 35 (σ 0 12)) fun σ17 =>
    lp (fun K a => b_X8_begin_130 K a.1 a.2) FU ((0 : Int32), σ17)
  else
    gd (ix a1 4) <|
    vl (up2 σ 29 (nt a1) (0 : Int32)) fun σ30 =>
    gd (ix a1 4) <|
    gd (ix a1 4) <|
    cl (f_X8_coordBegins a1 (σ30 10 (nt a1)) (σ30 11 (nt a1)) σ30) fun r34 σ33 =>
    gd (ix a1 4) <|
    gd (ix a1 4) <|
    vl (up2 σ33 27 (nt a1) (σ33 11 (nt a1))) fun σ38 =>
    vl (a1 + (1 : Int32)) fun x39 =>
    K73 (x39, σ38)
def f_X8_begin (σ : St) : Option (Unit × St) :=
  cl (f_X8_beatOf (σ 0 5) σ) fun r2 σ1 =>
  vl (up2 σ1 0 16 r2) fun σ4 =>
  cl (f_X8_beatOf (σ4 0 6) σ4) fun r6 σ5 =>
  vl (up2 σ5 0 17 r6) fun σ8 =>
  vl (up2 σ8 0 18 ((3 : Int32) <<< ((σ8 0 6) &&& 31))) fun σ9 =>
  vl (up2 σ9 0 19 (σ9 0 7)) fun σ10 =>
  vl (up2 σ10 0 20 (σ10 0 8)) fun σ11 =>
  vl (up2 σ11 0 21 (0 : Int32)) fun σ12 =>
  vl (up2 σ12 0 22 (1 : Int32)) fun σ13 =>
  vl (up2 σ13 0 23 (0 : Int32)) fun σ14 =>
  vl (up2 σ14 0 24 (σ14 0 9)) fun σ15 =>
  lp (fun K a => b_X8_begin_73 K a.1 a.2) FU ((0 : Int32), σ15)
abbrev rm_X8_begin : Room := { frames := 1, cells := 0, slots := 0, locals := 23 }
def P_X8_begin_73 (p : Program) (l : Launch) (e : Env) (s : State) (m : MethodId) (args : Array Value) (below : List Frame) (meth : Method) (c : Code) (E : mEv) (σ' : St) (a : Int32 × St) : Prop := ∀ (H : Heap) (locs : List Loc) (ls : Array Slot), gW (mG E) a.2 H → va_S (gA (mG E)) s.heap H locs → lv_has ls 2 [(0, .ref (mAd E 0)), (1, .int a.1)] → W p l e rm_X8_begin s m args below meth c H locs 0 0 (gQv below args s (mG E) σ') (F0 m 73 ls [])
def P_X8_begin_130 (p : Program) (l : Launch) (e : Env) (s : State) (m : MethodId) (args : Array Value) (below : List Frame) (meth : Method) (c : Code) (E : mEv) (σ' : St) (a : Int32 × St) : Prop := ∀ (H : Heap) (locs : List Loc) (ls : Array Slot), gW (mG E) a.2 H → va_S (gA (mG E)) s.heap H locs → lv_has ls 2 [(0, .ref (mAd E 0)), (1, .int a.1)] → W p l e rm_X8_begin s m args below meth c H locs 0 0 (gQv below args s (mG E) σ') (F0 m 130 ls [])
def P_X8_begin_149 (p : Program) (l : Launch) (e : Env) (s : State) (m : MethodId) (args : Array Value) (below : List Frame) (meth : Method) (c : Code) (E : mEv) (σ' : St) (a : Int32 × St) : Prop := ∀ (H : Heap) (locs : List Loc) (ls : Array Slot), gW (mG E) a.2 H → va_S (gA (mG E)) s.heap H locs → lv_has ls 2 [(0, .ref (mAd E 0)), (1, .int a.1)] → W p l e rm_X8_begin s m args below meth c H locs 0 0 (gQv below args s (mG E) σ') (F0 m 149 ls [])
set_option maxHeartbeats 4000000 in
set_option maxRecDepth 100000 in
theorem w_X8_begin_149 {p : Program} {l : Launch} {e : Env} {s : State} {m : MethodId} {args : Array Value} {below : List Frame} {meth : Method} {c : Code} {E : mEv} {u : Unit} {σ' : St} (B : gBx p m meth c cX8_begin 2 none s args RX8 (mG E)) {K149 : (Int32 × St → Option (Unit × St))} (hK149 : ∀ a, K149 a = some (u, σ') → P_X8_begin_149 p l e s m args below meth c E σ' a) (a1 : Int32) (σ : St) (hf : b_X8_begin_149 K149 a1 σ = some (u, σ')) (H : Heap) (locs : List Loc) (ls : Array Slot) (hP : gW (mG E) σ H) (hS : va_S (gA (mG E)) s.heap H locs) (hl : lv_has ls 2 [(0, .ref (mAd E 0)), (1, .int a1)]) : W p l e rm_X8_begin s m args below meth c H locs 0 0 (gQv below args s (mG E) σ') (F0 m 149 ls []) := by
  unfold b_X8_begin_149 at hf
  obtain ⟨F, hr, hlk⟩ := id B
  have hx := F.1
  have hb := F.2.1
  have hml := F.2.2.1
  have hown := F.2.2.2.1
  have hts := F.2.2.2.2.1
  refine lv_iload_n hx hb dX8_begin_149 rfl (lv_at hl 1 rfl) ?_
  refine lv_aload_n hx hb dX8_begin_150 rfl (lv_at hl 0 rfl) ?_
  refine gf_X8_219 F hP dX8_begin_151 ?_
  refine lv_icmp_ge (tgt := 180) hx hb dX8_begin_154 (by decide) (fun h19 => ?_) (fun h19 => ?_)
  · rw [if_pos h19] at hf
    exact g_vret B hP hS hf dX8_begin_180
  · rw [if_neg h19] at hf
    refine lv_aload_n hx hb dX8_begin_157 rfl (lv_at hl 0 rfl) ?_
    refine gf_X8_43 F hP dX8_begin_158 ?_
    refine lv_aload_n hx hb dX8_begin_161 rfl (lv_at hl 0 rfl) ?_
    refine gf_X8_61 F hP dX8_begin_162 ?_
    refine lv_iload_n hx hb dX8_begin_165 rfl (lv_at hl 1 rfl) ?_
    obtain ⟨h20, hf⟩ := gd_e hf
    refine m_iald F hP ⟨by decide, by decide⟩ rfl h20 dX8_begin_166 ?_
    refine lv_dup2_11 hx hb dX8_begin_167 rfl rfl ?_
    obtain ⟨h21, hf⟩ := gd_e hf
    refine m_iald F hP ⟨by decide, by decide⟩ rfl h21 dX8_begin_168 ?_
    refine lv_iconst (v := 1) hx hb dX8_begin_169 (by decide) ?_
    refine lv_iload_n hx hb dX8_begin_170 rfl (lv_at hl 1 rfl) ?_
    refine lv_ishl hx hb dX8_begin_171 ?_
    refine lv_ior hx hb dX8_begin_172 ?_
    obtain ⟨h22, hf⟩ := gd_e hf
    refine m_iast F hP hS ⟨by decide, by decide⟩ rfl h22 dX8_begin_173 (fun H locs hP hS => ?_)
    obtain ⟨σ23, eσ23, hf⟩ := vl_x hf
    rw [← eσ23] at hP
    refine lv_iinc (v := a1 + (1 : Int32)) (lv' := [(1, .int (a1 + (1 : Int32))), (0, .ref (mAd E 0))]) hx hb dX8_begin_174 hl (k := 1) rfl rfl (by decide) rfl (fun ls hl => ?_)
    obtain ⟨x24, ex24, hf⟩ := vl_x hf
    rw [← ex24] at hl
    refine lv_goto (tgt := 149) hx hb dX8_begin_177 (by decide) ?_
    exact hK149 _ hf _ _ _ hP hS (lv_sub hl [1, 0] rfl)
set_option maxHeartbeats 4000000 in
set_option maxRecDepth 100000 in
theorem w_X8_begin_130 {p : Program} {l : Launch} {e : Env} {s : State} {m : MethodId} {args : Array Value} {below : List Frame} {meth : Method} {c : Code} {E : mEv} {u : Unit} {σ' : St} (B : gBx p m meth c cX8_begin 2 none s args RX8 (mG E)) {K130 : (Int32 × St → Option (Unit × St))} (hK130 : ∀ a, K130 a = some (u, σ') → P_X8_begin_130 p l e s m args below meth c E σ' a) (a1 : Int32) (σ : St) (hf : b_X8_begin_130 K130 a1 σ = some (u, σ')) (H : Heap) (locs : List Loc) (ls : Array Slot) (hP : gW (mG E) σ H) (hS : va_S (gA (mG E)) s.heap H locs) (hl : lv_has ls 2 [(0, .ref (mAd E 0)), (1, .int a1)]) : W p l e rm_X8_begin s m args below meth c H locs 0 0 (gQv below args s (mG E) σ') (F0 m 130 ls []) := by
  unfold b_X8_begin_130 at hf
  obtain ⟨F, hr, hlk⟩ := id B
  have hx := F.1
  have hb := F.2.1
  have hml := F.2.2.1
  have hown := F.2.2.2.1
  have hts := F.2.2.2.2.1
  refine lv_iload_n hx hb dX8_begin_130 rfl (lv_at hl 1 rfl) ?_
  refine lv_bipush (v := (8)) hx hb dX8_begin_131 (by decide) ?_
  refine lv_icmp_ge (tgt := 147) hx hb dX8_begin_133 (by decide) (fun h18 => ?_) (fun h18 => ?_)
  · rw [if_pos h18] at hf
    refine lv_iconst (v := 0) hx hb dX8_begin_147 (by decide) ?_
    refine lv_istore_n (lv' := [(1, .int (0 : Int32)), (0, .ref (mAd E 0))]) hx hb dX8_begin_148 rfl hl (by decide) rfl (fun ls hl => ?_)
    exact lp_w (P := P_X8_begin_149 p l e s m args below meth c E σ') (fun K hK a ha => w_X8_begin_149 B hK a.1 a.2 ha) FU _ hf _ _ _ hP hS (lv_sub hl [1, 0] rfl)
  · rw [if_neg h18] at hf
    refine lv_aload_n hx hb dX8_begin_136 rfl (lv_at hl 0 rfl) ?_
    refine lv_iload_n hx hb dX8_begin_137 rfl (lv_at hl 1 rfl) ?_
    obtain ⟨r26, σ25, h27, hf⟩ := cl_e hf
    refine kc_X8_252 F hP hS h27 ⟨Nat.le_of_ble_eq_true rfl, Nat.le_of_ble_eq_true rfl⟩ hl.1 (Nat.le_of_ble_eq_true rfl) ⟨Nat.zero_le _, Nat.zero_le _⟩ dX8_begin_138 (fun H locs hP hS => ?_)
    refine lv_iinc (v := a1 + (1 : Int32)) (lv' := [(1, .int (a1 + (1 : Int32))), (0, .ref (mAd E 0))]) hx hb dX8_begin_141 hl (k := 1) rfl rfl (by decide) rfl (fun ls hl => ?_)
    obtain ⟨x28, ex28, hf⟩ := vl_x hf
    rw [← ex28] at hl
    refine lv_goto (tgt := 130) hx hb dX8_begin_144 (by decide) ?_
    exact hK130 _ hf _ _ _ hP hS (lv_sub hl [1, 0] rfl)
set_option maxHeartbeats 4000000 in
set_option maxRecDepth 100000 in
theorem w_X8_begin_73 {p : Program} {l : Launch} {e : Env} {s : State} {m : MethodId} {args : Array Value} {below : List Frame} {meth : Method} {c : Code} {E : mEv} {u : Unit} {σ' : St} (B : gBx p m meth c cX8_begin 2 none s args RX8 (mG E)) {K73 : (Int32 × St → Option (Unit × St))} (hK73 : ∀ a, K73 a = some (u, σ') → P_X8_begin_73 p l e s m args below meth c E σ' a) (a1 : Int32) (σ : St) (hf : b_X8_begin_73 K73 a1 σ = some (u, σ')) (H : Heap) (locs : List Loc) (ls : Array Slot) (hP : gW (mG E) σ H) (hS : va_S (gA (mG E)) s.heap H locs) (hl : lv_has ls 2 [(0, .ref (mAd E 0)), (1, .int a1)]) : W p l e rm_X8_begin s m args below meth c H locs 0 0 (gQv below args s (mG E) σ') (F0 m 73 ls []) := by
  unfold b_X8_begin_73 at hf
  obtain ⟨F, hr, hlk⟩ := id B
  have hx := F.1
  have hb := F.2.1
  have hml := F.2.2.1
  have hown := F.2.2.2.1
  have hts := F.2.2.2.2.1
  refine lv_iload_n hx hb dX8_begin_73 rfl (lv_at hl 1 rfl) ?_
  refine lv_iconst (v := 4) hx hb dX8_begin_74 (by decide) ?_
  refine lv_icmp_ge (tgt := 120) hx hb dX8_begin_75 (by decide) (fun h16 => ?_) (fun h16 => ?_)
  · rw [if_pos h16] at hf
    refine lv_aload_n hx hb dX8_begin_120 rfl (lv_at hl 0 rfl) ?_
    refine lv_aload_n hx hb dX8_begin_121 rfl (lv_at hl 0 rfl) ?_
    refine gf_X8_154 F hP dX8_begin_122 ?_
    refine pf_X8_219 F hP hS dX8_begin_125 (fun H locs hP hS => ?_)
    obtain ⟨σ17, eσ17, hf⟩ := vl_x hf
    rw [← eσ17] at hP
    refine lv_iconst (v := 0) hx hb dX8_begin_128 (by decide) ?_
    refine lv_istore_n (lv' := [(1, .int (0 : Int32)), (0, .ref (mAd E 0))]) hx hb dX8_begin_129 rfl hl (by decide) rfl (fun ls hl => ?_)
    exact lp_w (P := P_X8_begin_130 p l e s m args below meth c E σ') (fun K hK a ha => w_X8_begin_130 B hK a.1 a.2 ha) FU _ hf _ _ _ hP hS (lv_sub hl [1, 0] rfl)
  · rw [if_neg h16] at hf
    refine lv_aload_n hx hb dX8_begin_78 rfl (lv_at hl 0 rfl) ?_
    refine gf_X8_43 F hP dX8_begin_79 ?_
    refine lv_iload_n hx hb dX8_begin_82 rfl (lv_at hl 1 rfl) ?_
    refine lv_iconst (v := 0) hx hb dX8_begin_83 (by decide) ?_
    obtain ⟨h29, hf⟩ := gd_e hf
    refine m_iast F hP hS ⟨by decide, by decide⟩ rfl h29 dX8_begin_84 (fun H locs hP hS => ?_)
    obtain ⟨σ30, eσ30, hf⟩ := vl_x hf
    rw [← eσ30] at hP
    refine lv_aload_n hx hb dX8_begin_85 rfl (lv_at hl 0 rfl) ?_
    refine lv_iload_n hx hb dX8_begin_86 rfl (lv_at hl 1 rfl) ?_
    refine lv_aload_n hx hb dX8_begin_87 rfl (lv_at hl 0 rfl) ?_
    refine gf_X8_16 F hP dX8_begin_88 ?_
    refine lv_iload_n hx hb dX8_begin_91 rfl (lv_at hl 1 rfl) ?_
    obtain ⟨h31, hf⟩ := gd_e hf
    refine m_iald F hP ⟨by decide, by decide⟩ rfl h31 dX8_begin_92 ?_
    refine lv_aload_n hx hb dX8_begin_93 rfl (lv_at hl 0 rfl) ?_
    refine gf_X8_19 F hP dX8_begin_94 ?_
    refine lv_iload_n hx hb dX8_begin_97 rfl (lv_at hl 1 rfl) ?_
    obtain ⟨h32, hf⟩ := gd_e hf
    refine m_iald F hP ⟨by decide, by decide⟩ rfl h32 dX8_begin_98 ?_
    obtain ⟨r34, σ33, h35, hf⟩ := cl_e hf
    refine kc_X8_249 F hP hS h35 ⟨Nat.le_of_ble_eq_true rfl, Nat.le_of_ble_eq_true rfl⟩ hl.1 (Nat.le_of_ble_eq_true rfl) ⟨Nat.zero_le _, Nat.zero_le _⟩ dX8_begin_99 (fun H locs hP hS => ?_)
    refine lv_aload_n hx hb dX8_begin_102 rfl (lv_at hl 0 rfl) ?_
    refine gf_X8_37 F hP dX8_begin_103 ?_
    refine lv_iload_n hx hb dX8_begin_106 rfl (lv_at hl 1 rfl) ?_
    refine lv_aload_n hx hb dX8_begin_107 rfl (lv_at hl 0 rfl) ?_
    refine gf_X8_19 F hP dX8_begin_108 ?_
    refine lv_iload_n hx hb dX8_begin_111 rfl (lv_at hl 1 rfl) ?_
    obtain ⟨h36, hf⟩ := gd_e hf
    refine m_iald F hP ⟨by decide, by decide⟩ rfl h36 dX8_begin_112 ?_
    obtain ⟨h37, hf⟩ := gd_e hf
    refine m_iast F hP hS ⟨by decide, by decide⟩ rfl h37 dX8_begin_113 (fun H locs hP hS => ?_)
    obtain ⟨σ38, eσ38, hf⟩ := vl_x hf
    rw [← eσ38] at hP
    refine lv_iinc (v := a1 + (1 : Int32)) (lv' := [(1, .int (a1 + (1 : Int32))), (0, .ref (mAd E 0))]) hx hb dX8_begin_114 hl (k := 1) rfl rfl (by decide) rfl (fun ls hl => ?_)
    obtain ⟨x39, ex39, hf⟩ := vl_x hf
    rw [← ex39] at hl
    refine lv_goto (tgt := 73) hx hb dX8_begin_117 (by decide) ?_
    exact hK73 _ hf _ _ _ hP hS (lv_sub hl [1, 0] rfl)
set_option maxHeartbeats 4000000 in
set_option maxRecDepth 100000 in
theorem w_X8_begin_e {p : Program} {l : Launch} {e : Env} {s : State} {m : MethodId} {args : Array Value} {below : List Frame} {meth : Method} {c : Code} {E : mEv} {u : Unit} {σ' : St} (B : gBx p m meth c cX8_begin 2 none s args RX8 (mG E)) (σ : St) (hf : f_X8_begin σ = some (u, σ')) (H : Heap) (locs : List Loc) (ls : Array Slot) (hP : gW (mG E) σ H) (hS : va_S (gA (mG E)) s.heap H locs) (hl : lv_has ls 2 [(0, .ref (mAd E 0))]) : W p l e rm_X8_begin s m args below meth c H locs 0 0 (gQv below args s (mG E) σ') (F0 m 0 ls []) := by
  unfold f_X8_begin at hf
  obtain ⟨F, hr, hlk⟩ := id B
  have hx := F.1
  have hb := F.2.1
  have hml := F.2.2.1
  have hown := F.2.2.2.1
  have hts := F.2.2.2.2.1
  refine lv_aload_n hx hb dX8_begin_0 rfl (lv_at hl 0 rfl) ?_
  refine lv_aload_n hx hb dX8_begin_1 rfl (lv_at hl 0 rfl) ?_
  refine gf_X8_124 F hP dX8_begin_2 ?_
  obtain ⟨r2, σ1, h3, hf⟩ := cl_e hf
  refine kc_X8_186 F hP hS h3 ⟨Nat.le_of_ble_eq_true rfl, Nat.le_of_ble_eq_true rfl⟩ hl.1 (Nat.le_of_ble_eq_true rfl) ⟨Nat.zero_le _, Nat.zero_le _⟩ dX8_begin_5 (fun H locs hP hS => ?_)
  refine pf_X8_222 F hP hS dX8_begin_8 (fun H locs hP hS => ?_)
  obtain ⟨σ4, eσ4, hf⟩ := vl_x hf
  rw [← eσ4] at hP
  refine lv_aload_n hx hb dX8_begin_11 rfl (lv_at hl 0 rfl) ?_
  refine lv_aload_n hx hb dX8_begin_12 rfl (lv_at hl 0 rfl) ?_
  refine gf_X8_128 F hP dX8_begin_13 ?_
  obtain ⟨r6, σ5, h7, hf⟩ := cl_e hf
  refine kc_X8_186 F hP hS h7 ⟨Nat.le_of_ble_eq_true rfl, Nat.le_of_ble_eq_true rfl⟩ hl.1 (Nat.le_of_ble_eq_true rfl) ⟨Nat.zero_le _, Nat.zero_le _⟩ dX8_begin_16 (fun H locs hP hS => ?_)
  refine pf_X8_225 F hP hS dX8_begin_19 (fun H locs hP hS => ?_)
  obtain ⟨σ8, eσ8, hf⟩ := vl_x hf
  rw [← eσ8] at hP
  refine lv_aload_n hx hb dX8_begin_22 rfl (lv_at hl 0 rfl) ?_
  refine lv_iconst (v := 3) hx hb dX8_begin_23 (by decide) ?_
  refine lv_aload_n hx hb dX8_begin_24 rfl (lv_at hl 0 rfl) ?_
  refine gf_X8_128 F hP dX8_begin_25 ?_
  refine lv_ishl hx hb dX8_begin_28 ?_
  refine pf_X8_228 F hP hS dX8_begin_29 (fun H locs hP hS => ?_)
  obtain ⟨σ9, eσ9, hf⟩ := vl_x hf
  rw [← eσ9] at hP
  refine lv_aload_n hx hb dX8_begin_32 rfl (lv_at hl 0 rfl) ?_
  refine lv_aload_n hx hb dX8_begin_33 rfl (lv_at hl 0 rfl) ?_
  refine gf_X8_131 F hP dX8_begin_34 ?_
  refine pf_X8_231 F hP hS dX8_begin_37 (fun H locs hP hS => ?_)
  obtain ⟨σ10, eσ10, hf⟩ := vl_x hf
  rw [← eσ10] at hP
  refine lv_aload_n hx hb dX8_begin_40 rfl (lv_at hl 0 rfl) ?_
  refine lv_aload_n hx hb dX8_begin_41 rfl (lv_at hl 0 rfl) ?_
  refine gf_X8_142 F hP dX8_begin_42 ?_
  refine pf_X8_234 F hP hS dX8_begin_45 (fun H locs hP hS => ?_)
  obtain ⟨σ11, eσ11, hf⟩ := vl_x hf
  rw [← eσ11] at hP
  refine lv_aload_n hx hb dX8_begin_48 rfl (lv_at hl 0 rfl) ?_
  refine lv_iconst (v := 0) hx hb dX8_begin_49 (by decide) ?_
  refine pf_X8_237 F hP hS dX8_begin_50 (fun H locs hP hS => ?_)
  obtain ⟨σ12, eσ12, hf⟩ := vl_x hf
  rw [← eσ12] at hP
  refine lv_aload_n hx hb dX8_begin_53 rfl (lv_at hl 0 rfl) ?_
  refine lv_iconst (v := 1) hx hb dX8_begin_54 (by decide) ?_
  refine pf_X8_240 F hP hS dX8_begin_55 (fun H locs hP hS => ?_)
  obtain ⟨σ13, eσ13, hf⟩ := vl_x hf
  rw [← eσ13] at hP
  refine lv_aload_n hx hb dX8_begin_58 rfl (lv_at hl 0 rfl) ?_
  refine lv_iconst (v := 0) hx hb dX8_begin_59 (by decide) ?_
  refine pf_X8_243 F hP hS dX8_begin_60 (fun H locs hP hS => ?_)
  obtain ⟨σ14, eσ14, hf⟩ := vl_x hf
  rw [← eσ14] at hP
  refine lv_aload_n hx hb dX8_begin_63 rfl (lv_at hl 0 rfl) ?_
  refine lv_aload_n hx hb dX8_begin_64 rfl (lv_at hl 0 rfl) ?_
  refine gf_X8_151 F hP dX8_begin_65 ?_
  refine pf_X8_246 F hP hS dX8_begin_68 (fun H locs hP hS => ?_)
  obtain ⟨σ15, eσ15, hf⟩ := vl_x hf
  rw [← eσ15] at hP
  refine lv_iconst (v := 0) hx hb dX8_begin_71 (by decide) ?_
  refine lv_istore_n (lv' := [(1, .int (0 : Int32)), (0, .ref (mAd E 0))]) hx hb dX8_begin_72 rfl hl (by decide) rfl (fun ls hl => ?_)
  exact lp_w (P := P_X8_begin_73 p l e s m args below meth c E σ') (fun K hK a ha => w_X8_begin_73 B hK a.1 a.2 ha) FU _ hf _ _ _ hP hS (lv_sub hl [1, 0] rfl)
theorem c_X8_begin (l : Launch) {E : mEv} (hI : gIj (mG E)) {σ σ' : St} {u : Unit} (hf : f_X8_begin σ = some (u, σ')) : gMv l yX8_begin cX8_begin 2 rm_X8_begin [.ref (mAd E 0)] (mG E) σ σ' :=
  g_entry (by decide) (Nat.le_of_ble_eq_true rfl) hI (fun p e s m args below meth c B hP hS ls hl => w_X8_begin_e B σ hf _ _ ls hP hS hl)
section SD
variable {p : Program} {l : Launch} {e : Env} {R : Room} {s : State} {m : MethodId} {args : Array Value} {below : List Frame} {meth : Method} {c : Code} {H : Heap} {locs : List Loc} {cells slots : Nat} {Q : State → Prop}
variable {cc : ByteArray} {pc nL : Nat} {ls : Array Slot} {rest : List Value} {E : mEv} {σ : St}
theorem gf_X8_148 (F : gFx p m c cc nL s args RX8 (mG E)) (hP : gW (mG E) σ H) (hdg : decode cc pc = .ok (.getfield 148, 3)) (kk : W p l e R s m args below meth c H locs cells slots Q (F0 m (pc + 3) ls (.int (σ 0 3) :: rest))) : W p l e R s m args below meth c H locs cells slots Q (F0 m pc ls (.ref (mAd E 0) :: rest)) :=
  g_get F hP (k := 0) min0 (me_0 E _) rfl inX8 3 (by decide) tw_787 rfl rfl hdg kk
theorem gf_X8_13 (F : gFx p m c cc nL s args RX8 (mG E)) (hP : gW (mG E) σ H) (hdg : decode cc pc = .ok (.getfield 13, 3)) (kk : W p l e R s m args below meth c H locs cells slots Q (F0 m (pc + 3) ls (.ref (mAd E 4) :: rest))) : W p l e R s m args below meth c H locs cells slots Q (F0 m pc ls (.ref (mAd E 0) :: rest)) :=
  g_get F hP (k := 0) min0 (me_0 E _) rfl inX8 4 (by decide) tw_788 rfl rfl hdg kk
end SD
/-! PromisedSlotsModel.cause(I)I -/
def f_X8_cause (p1 : Int32) (σ : St) : Option (Int32 × St) :=
  if 0 ≤ p1 then
    if (σ 0 3) ≤ p1 then
      some ((-4 : Int32), σ)
    else
      gd (ix p1 3) <|
      some ((σ 4 (nt p1)), σ)
  else
    some ((-1 : Int32), σ)
abbrev rm_X8_cause : Room := { frames := 0, cells := 0, slots := 0, locals := 0 }
set_option maxHeartbeats 4000000 in
set_option maxRecDepth 100000 in
theorem w_X8_cause_e {p : Program} {l : Launch} {e : Env} {s : State} {m : MethodId} {args : Array Value} {below : List Frame} {meth : Method} {c : Code} {E : mEv} {r : Int32} {σ' : St} (B : gBx p m meth c cX8_cause 2 (some .int) s args RX8 (mG E)) (p1 : Int32) (σ : St) (hf : f_X8_cause p1 σ = some (r, σ')) (H : Heap) (locs : List Loc) (ls : Array Slot) (hP : gW (mG E) σ H) (hS : va_S (gA (mG E)) s.heap H locs) (hl : lv_has ls 2 [(0, .ref (mAd E 0)), (1, .int p1)]) : W p l e rm_X8_cause s m args below meth c H locs 0 0 (gQi below args s (mG E) r σ') (F0 m 0 ls []) := by
  unfold f_X8_cause at hf
  obtain ⟨F, hr, hlk⟩ := id B
  have hx := F.1
  have hb := F.2.1
  have hml := F.2.2.1
  have hown := F.2.2.2.1
  have hts := F.2.2.2.2.1
  refine lv_iload_n hx hb dX8_cause_0 rfl (lv_at hl 1 rfl) ?_
  refine lv_if_ge (tgt := 8) hx hb dX8_cause_1 (by decide) (fun h1 => ?_) (fun h1 => ?_)
  · rw [if_pos h1] at hf
    refine lv_iload_n hx hb dX8_cause_8 rfl (lv_at hl 1 rfl) ?_
    refine lv_aload_n hx hb dX8_cause_9 rfl (lv_at hl 0 rfl) ?_
    refine gf_X8_148 F hP dX8_cause_10 ?_
    refine lv_icmp_ge (tgt := 25) hx hb dX8_cause_13 (by decide) (fun h2 => ?_) (fun h2 => ?_)
    · rw [if_pos h2] at hf
      refine lv_bipush (v := (-4)) hx hb dX8_cause_25 (by decide) ?_
      exact g_iret B hP hS hf dX8_cause_27
    · rw [if_neg h2] at hf
      refine lv_aload_n hx hb dX8_cause_16 rfl (lv_at hl 0 rfl) ?_
      refine gf_X8_13 F hP dX8_cause_17 ?_
      refine lv_iload_n hx hb dX8_cause_20 rfl (lv_at hl 1 rfl) ?_
      obtain ⟨h3, hf⟩ := gd_e hf
      refine m_iald F hP ⟨by decide, by decide⟩ rfl h3 dX8_cause_21 ?_
      refine lv_goto (tgt := 27) hx hb dX8_cause_22 (by decide) ?_
      exact g_iret B hP hS hf dX8_cause_27
  · rw [if_neg h1] at hf
    refine lv_iconst (v := (-1)) hx hb dX8_cause_4 (by decide) ?_
    refine lv_goto (tgt := 27) hx hb dX8_cause_5 (by decide) ?_
    exact g_iret B hP hS hf dX8_cause_27
theorem c_X8_cause (l : Launch) {E : mEv} (hI : gIj (mG E)) {p1 : Int32} {σ σ' : St} {r : Int32} (hf : f_X8_cause p1 σ = some (r, σ')) : gMi l yX8_cause cX8_cause 2 .int rm_X8_cause [.ref (mAd E 0), .int p1] (mG E) σ r σ' :=
  g_entry (by decide) (Nat.le_of_ble_eq_true rfl) hI (fun p e s m args below meth c B hP hS ls hl => w_X8_cause_e B _ σ hf _ _ ls hP hS hl)
/-! PromisedSlotsModel.in(JJJ)Z -/
def f_X8_in (p1 : Int64) (p2 : Int64) (p3 : Int64) (σ : St) : Option (Int32 × St) :=
  if (lg_cmp p1 p2) < 0 then
    some ((0 : Int32), σ)
  else
    if 0 < (lg_cmp p1 p3) then
      some ((0 : Int32), σ)
    else
      some ((1 : Int32), σ)
abbrev rm_X8_in : Room := { frames := 0, cells := 0, slots := 0, locals := 0 }
set_option maxHeartbeats 4000000 in
set_option maxRecDepth 100000 in
theorem w_X8_in_e {p : Program} {l : Launch} {e : Env} {s : State} {m : MethodId} {args : Array Value} {below : List Frame} {meth : Method} {c : Code} {E : mEv} {r : Int32} {σ' : St} (B : gBx p m meth c cX8_in 6 (some .boolean) s args RX8 (mG E)) (p1 : Int64) (p2 : Int64) (p3 : Int64) (σ : St) (hf : f_X8_in p1 p2 p3 σ = some (r, σ')) (H : Heap) (locs : List Loc) (ls : Array Slot) (hP : gW (mG E) σ H) (hS : va_S (gA (mG E)) s.heap H locs) (hl : lv_has ls 6 [(0, .long p1), (2, .long p2), (4, .long p3)]) : W p l e rm_X8_in s m args below meth c H locs 0 0 (gQi below args s (mG E) r σ') (F0 m 0 ls []) := by
  unfold f_X8_in at hf
  obtain ⟨F, hr, hlk⟩ := id B
  have hx := F.1
  have hb := F.2.1
  have hml := F.2.2.1
  have hown := F.2.2.2.1
  have hts := F.2.2.2.2.1
  refine lv_lload_n hx hb dX8_in_0 rfl (lv_at hl 0 rfl) ?_
  refine lv_lload_n hx hb dX8_in_1 rfl (lv_at hl 1 rfl) ?_
  refine W.lcmp hx hb dX8_in_2 ?_
  refine lv_if_lt (tgt := 17) hx hb dX8_in_3 (by decide) (fun h1 => ?_) (fun h1 => ?_)
  · rw [if_pos h1] at hf
    refine lv_iconst (v := 0) hx hb dX8_in_17 (by decide) ?_
    exact g_zret B hP hS hf (by decide) dX8_in_18
  · rw [if_neg h1] at hf
    refine lv_lload_n hx hb dX8_in_6 rfl (lv_at hl 0 rfl) ?_
    refine lv_lload hx hb dX8_in_7 (lv_at hl 2 rfl) ?_
    refine W.lcmp hx hb dX8_in_9 ?_
    refine lv_if_gt (tgt := 17) hx hb dX8_in_10 (by decide) (fun h2 => ?_) (fun h2 => ?_)
    · rw [if_pos h2] at hf
      refine lv_iconst (v := 0) hx hb dX8_in_17 (by decide) ?_
      exact g_zret B hP hS hf (by decide) dX8_in_18
    · rw [if_neg h2] at hf
      refine lv_iconst (v := 1) hx hb dX8_in_13 (by decide) ?_
      refine lv_goto (tgt := 18) hx hb dX8_in_14 (by decide) ?_
      exact g_zret B hP hS hf (by decide) dX8_in_18
theorem c_X8_in (l : Launch) {E : mEv} (hI : gIj (mG E)) {p1 : Int64} {p2 : Int64} {p3 : Int64} {σ σ' : St} {r : Int32} (hf : f_X8_in p1 p2 p3 σ = some (r, σ')) : gMi l yX8_in cX8_in 6 .boolean rm_X8_in [.long p1, .long p2, .long p3] (mG E) σ r σ' :=
  g_entry (by decide) (Nat.le_of_ble_eq_true rfl) hI (fun p e s m args below meth c B hP hS ls hl => w_X8_in_e B _ _ _ σ hf _ _ ls hP hS hl)
section SD
variable {p : Program} {l : Launch} {e : Env} {R : Room} {s : State} {m : MethodId} {args : Array Value} {below : List Frame} {meth : Method} {c : Code} {H : Heap} {locs : List Loc} {cells slots : Nat} {Q : State → Prop}
variable {cc : ByteArray} {pc nL : Nat} {ls : Array Slot} {rest : List Value} {E : mEv} {σ : St}
theorem kc_X8_161 (F : gFx p m c cc nL s args RX8 (mG E)) (hP : gW (mG E) σ H) (hS : va_S (gA (mG E)) s.heap H locs) {p1 : Int64} {p2 : Int64} {p3 : Int64} {r : Int32} {σ' : St} (hf : f_X8_in p1 p2 p3 σ = some (r, σ')) (hR : rm_X8_in.frames + 1 ≤ R.frames ∧ 8 + (6 + 11) + rm_X8_in.locals ≤ R.locals) (hsz : ls.size = nL) (hrest : (rest.map fun v => v.category).sum ≤ 8) (hcs : cells ≤ R.cells ∧ slots ≤ R.slots) (hdg : decode cc pc = .ok (.invokestatic 161, 3)) (kk : ∀ (H1 : Heap) (locs1 : List Loc), gW (mG E) σ' H1 → va_S (gA (mG E)) s.heap H1 locs1 → W p l e R s m args below meth c H1 locs1 cells slots Q (F0 m (pc + 3) ls (.int r :: rest))) : W p l e R s m args below meth c H locs cells slots Q (F0 m pc ls (.long p3 :: .long p2 :: .long p1 :: rest)) :=
  g_callSi F hP hS (c_X8_in l F.2.2.2.2.2.2.2 hf) (g_cwS (n := 3) F tw_969 tw_970 tw_14 tw_971 (by decide +kernel) rfl rfl hR) (As := [.long p1, .long p2, .long p3]) rfl hsz rfl hrest hdg hcs kk
theorem gf_X8_165 (F : gFx p m c cc nL s args RX8 (mG E)) (hP : gW (mG E) σ H) (hdg : decode cc pc = .ok (.getfield 165, 3)) (kk : W p l e R s m args below meth c H locs cells slots Q (F0 m (pc + 3) ls (.int (σ 0 0) :: rest))) : W p l e R s m args below meth c H locs cells slots Q (F0 m pc ls (.ref (mAd E 0) :: rest)) :=
  g_get F hP (k := 0) min0 (me_0 E _) rfl inX8 0 (by decide) tw_784 rfl rfl hdg kk
theorem gf_X8_7 (F : gFx p m c cc nL s args RX8 (mG E)) (hP : gW (mG E) σ H) (hdg : decode cc pc = .ok (.getfield 7, 3)) (kk : W p l e R s m args below meth c H locs cells slots Q (F0 m (pc + 3) ls (.ref (mAd E 1) :: rest))) : W p l e R s m args below meth c H locs cells slots Q (F0 m pc ls (.ref (mAd E 0) :: rest)) :=
  g_get F hP (k := 0) min0 (me_0 E _) rfl inX8 1 (by decide) tw_785 rfl rfl hdg kk
theorem pf_X8_165 (F : gFx p m c cc nL s args RX8 (mG E)) (hP : gW (mG E) σ H) (hS : va_S (gA (mG E)) s.heap H locs) {x : Int32} (hdg : decode cc pc = .ok (.putfield 165, 3)) (kk : ∀ (H1 : Heap) (locs1 : List Loc), gW (mG E) (up2 σ 0 0 x) H1 → va_S (gA (mG E)) s.heap H1 locs1 → W p l e R s m args below meth c H1 locs1 cells slots Q (F0 m (pc + 3) ls rest)) : W p l e R s m args below meth c H locs cells slots Q (F0 m pc ls (.int x :: .ref (mAd E 0) :: rest)) :=
  g_put F hP hS (k := 0) min0 (me_0 E _) rfl inX8 tyX8 tyX8_ok nmX8 0 (by decide) tw_784 rfl rfl rfl rfl (Nat.le_of_ble_eq_true rfl) (x := x) (jj := 0) (me_0 E _) hdg kk
end SD
/-! PromisedSlotsModel.write(I)I -/
def f_X8_write (p1 : Int32) (σ : St) : Option (Int32 × St) :=
  cl (f_X8_in (p1.toInt64) (32 : Int64) (126 : Int64) σ) fun r2 σ1 =>
  if r2 = 0 then
    some ((-1 : Int32), σ1)
  else
    if (σ1 0 0) = (200 : Int32) then
      some ((-3 : Int32), σ1)
    else
      gd (ix (σ1 0 0) 200) <|
      vl (up2 σ1 1 (nt (σ1 0 0)) p1) fun σ7 =>
      vl (up2 σ7 0 0 ((σ7 0 0) + (1 : Int32))) fun σ8 =>
      some ((σ8 0 0), σ8)
abbrev rm_X8_write : Room := { frames := 1, cells := 0, slots := 0, locals := 25 }
set_option maxHeartbeats 4000000 in
set_option maxRecDepth 100000 in
theorem w_X8_write_e {p : Program} {l : Launch} {e : Env} {s : State} {m : MethodId} {args : Array Value} {below : List Frame} {meth : Method} {c : Code} {E : mEv} {r : Int32} {σ' : St} (B : gBx p m meth c cX8_write 2 (some .int) s args RX8 (mG E)) (p1 : Int32) (σ : St) (hf : f_X8_write p1 σ = some (r, σ')) (H : Heap) (locs : List Loc) (ls : Array Slot) (hP : gW (mG E) σ H) (hS : va_S (gA (mG E)) s.heap H locs) (hl : lv_has ls 2 [(0, .ref (mAd E 0)), (1, .int p1)]) : W p l e rm_X8_write s m args below meth c H locs 0 0 (gQi below args s (mG E) r σ') (F0 m 0 ls []) := by
  unfold f_X8_write at hf
  obtain ⟨F, hr, hlk⟩ := id B
  have hx := F.1
  have hb := F.2.1
  have hml := F.2.2.1
  have hown := F.2.2.2.1
  have hts := F.2.2.2.2.1
  refine lv_iload_n hx hb dX8_write_0 rfl (lv_at hl 1 rfl) ?_
  refine lv_i2l hx hb dX8_write_1 rfl ?_
  refine lv_ldc2 hx hb hown (hts _ tw_967) dX8_write_2 ?_
  refine lv_ldc2 hx hb hown (hts _ tw_968) dX8_write_5 ?_
  obtain ⟨r2, σ1, h3, hf⟩ := cl_e hf
  refine kc_X8_161 F hP hS h3 ⟨Nat.le_of_ble_eq_true rfl, Nat.le_of_ble_eq_true rfl⟩ hl.1 (Nat.le_of_ble_eq_true rfl) ⟨Nat.zero_le _, Nat.zero_le _⟩ dX8_write_8 (fun H locs hP hS => ?_)
  refine lv_if_ne (tgt := 16) hx hb dX8_write_11 (by decide) (fun h4 => ?_) (fun h4 => ?_)
  · rw [if_neg h4] at hf
    refine lv_aload_n hx hb dX8_write_16 rfl (lv_at hl 0 rfl) ?_
    refine gf_X8_165 F hP dX8_write_17 ?_
    refine lv_sipush (v := (200)) hx hb dX8_write_20 (by decide) ?_
    refine lv_icmp_ne (tgt := 29) hx hb dX8_write_23 (by decide) (fun h5 => ?_) (fun h5 => ?_)
    · rw [if_neg h5] at hf
      refine lv_aload_n hx hb dX8_write_29 rfl (lv_at hl 0 rfl) ?_
      refine gf_X8_7 F hP dX8_write_30 ?_
      refine lv_aload_n hx hb dX8_write_33 rfl (lv_at hl 0 rfl) ?_
      refine gf_X8_165 F hP dX8_write_34 ?_
      refine lv_iload_n hx hb dX8_write_37 rfl (lv_at hl 1 rfl) ?_
      obtain ⟨h6, hf⟩ := gd_e hf
      refine m_iast F hP hS ⟨by decide, by decide⟩ rfl h6 dX8_write_38 (fun H locs hP hS => ?_)
      obtain ⟨σ7, eσ7, hf⟩ := vl_x hf
      rw [← eσ7] at hP
      refine lv_aload_n hx hb dX8_write_39 rfl (lv_at hl 0 rfl) ?_
      refine lv_dup hx hb dX8_write_40 rfl ?_
      refine gf_X8_165 F hP dX8_write_41 ?_
      refine lv_iconst (v := 1) hx hb dX8_write_44 (by decide) ?_
      refine lv_iadd hx hb dX8_write_45 ?_
      refine pf_X8_165 F hP hS dX8_write_46 (fun H locs hP hS => ?_)
      obtain ⟨σ8, eσ8, hf⟩ := vl_x hf
      rw [← eσ8] at hP
      refine lv_aload_n hx hb dX8_write_49 rfl (lv_at hl 0 rfl) ?_
      refine gf_X8_165 F hP dX8_write_50 ?_
      exact g_iret B hP hS hf dX8_write_53
    · rw [if_pos h5] at hf
      refine lv_bipush (v := (-3)) hx hb dX8_write_26 (by decide) ?_
      exact g_iret B hP hS hf dX8_write_28
  · rw [if_pos h4] at hf
    refine lv_iconst (v := (-1)) hx hb dX8_write_14 (by decide) ?_
    exact g_iret B hP hS hf dX8_write_15
theorem c_X8_write (l : Launch) {E : mEv} (hI : gIj (mG E)) {p1 : Int32} {σ σ' : St} {r : Int32} (hf : f_X8_write p1 σ = some (r, σ')) : gMi l yX8_write cX8_write 2 .int rm_X8_write [.ref (mAd E 0), .int p1] (mG E) σ r σ' :=
  g_entry (by decide) (Nat.le_of_ble_eq_true rfl) hI (fun p e s m args below meth c B hP hS ls hl => w_X8_write_e B _ σ hf _ _ ls hP hS hl)
/-! PromisedSlotsModel.wipe()I -/
def f_X8_wipe (σ : St) : Option (Int32 × St) :=
  vl (σ 0 0) fun x1 =>
  vl (up2 σ 0 0 (0 : Int32)) fun σ2 =>
  some (x1, σ2)
abbrev rm_X8_wipe : Room := { frames := 0, cells := 0, slots := 0, locals := 0 }
set_option maxHeartbeats 4000000 in
set_option maxRecDepth 100000 in
theorem w_X8_wipe_e {p : Program} {l : Launch} {e : Env} {s : State} {m : MethodId} {args : Array Value} {below : List Frame} {meth : Method} {c : Code} {E : mEv} {r : Int32} {σ' : St} (B : gBx p m meth c cX8_wipe 2 (some .int) s args RX8 (mG E)) (σ : St) (hf : f_X8_wipe σ = some (r, σ')) (H : Heap) (locs : List Loc) (ls : Array Slot) (hP : gW (mG E) σ H) (hS : va_S (gA (mG E)) s.heap H locs) (hl : lv_has ls 2 [(0, .ref (mAd E 0))]) : W p l e rm_X8_wipe s m args below meth c H locs 0 0 (gQi below args s (mG E) r σ') (F0 m 0 ls []) := by
  unfold f_X8_wipe at hf
  obtain ⟨F, hr, hlk⟩ := id B
  have hx := F.1
  have hb := F.2.1
  have hml := F.2.2.1
  have hown := F.2.2.2.1
  have hts := F.2.2.2.2.1
  refine lv_aload_n hx hb dX8_wipe_0 rfl (lv_at hl 0 rfl) ?_
  refine gf_X8_165 F hP dX8_wipe_1 ?_
  obtain ⟨x1, ex1, hf⟩ := vl_x hf
  rw [← ex1]
  refine lv_istore_n (lv' := [(1, .int x1), (0, .ref (mAd E 0))]) hx hb dX8_wipe_4 rfl hl (by decide) rfl (fun ls hl => ?_)
  refine lv_aload_n hx hb dX8_wipe_5 rfl (lv_at hl 1 rfl) ?_
  refine lv_iconst (v := 0) hx hb dX8_wipe_6 (by decide) ?_
  refine pf_X8_165 F hP hS dX8_wipe_7 (fun H locs hP hS => ?_)
  obtain ⟨σ2, eσ2, hf⟩ := vl_x hf
  rw [← eσ2] at hP
  refine lv_iload_n hx hb dX8_wipe_10 rfl (lv_at hl 0 rfl) ?_
  exact g_iret B hP hS hf dX8_wipe_11
theorem c_X8_wipe (l : Launch) {E : mEv} (hI : gIj (mG E)) {σ σ' : St} {r : Int32} (hf : f_X8_wipe σ = some (r, σ')) : gMi l yX8_wipe cX8_wipe 2 .int rm_X8_wipe [.ref (mAd E 0)] (mG E) σ r σ' :=
  g_entry (by decide) (Nat.le_of_ble_eq_true rfl) hI (fun p e s m args below meth c B hP hS ls hl => w_X8_wipe_e B σ hf _ _ ls hP hS hl)
/-! PromisedSlotsModel.letterAt(I)I -/
def f_X8_letterAt (p1 : Int32) (σ : St) : Option (Int32 × St) :=
  if (σ 0 0) ≤ p1 then
    some ((0 : Int32), σ)
  else
    gd (ix p1 200) <|
    some ((σ 1 (nt p1)), σ)
abbrev rm_X8_letterAt : Room := { frames := 0, cells := 0, slots := 0, locals := 0 }
set_option maxHeartbeats 4000000 in
set_option maxRecDepth 100000 in
theorem w_X8_letterAt_e {p : Program} {l : Launch} {e : Env} {s : State} {m : MethodId} {args : Array Value} {below : List Frame} {meth : Method} {c : Code} {E : mEv} {r : Int32} {σ' : St} (B : gBx p m meth c cX8_letterAt 2 (some .int) s args RX8 (mG E)) (p1 : Int32) (σ : St) (hf : f_X8_letterAt p1 σ = some (r, σ')) (H : Heap) (locs : List Loc) (ls : Array Slot) (hP : gW (mG E) σ H) (hS : va_S (gA (mG E)) s.heap H locs) (hl : lv_has ls 2 [(0, .ref (mAd E 0)), (1, .int p1)]) : W p l e rm_X8_letterAt s m args below meth c H locs 0 0 (gQi below args s (mG E) r σ') (F0 m 0 ls []) := by
  unfold f_X8_letterAt at hf
  obtain ⟨F, hr, hlk⟩ := id B
  have hx := F.1
  have hb := F.2.1
  have hml := F.2.2.1
  have hown := F.2.2.2.1
  have hts := F.2.2.2.2.1
  refine lv_iload_n hx hb dX8_letterAt_0 rfl (lv_at hl 1 rfl) ?_
  refine lv_aload_n hx hb dX8_letterAt_1 rfl (lv_at hl 0 rfl) ?_
  refine gf_X8_165 F hP dX8_letterAt_2 ?_
  refine lv_icmp_ge (tgt := 17) hx hb dX8_letterAt_5 (by decide) (fun h1 => ?_) (fun h1 => ?_)
  · rw [if_pos h1] at hf
    refine lv_iconst (v := 0) hx hb dX8_letterAt_17 (by decide) ?_
    exact g_iret B hP hS hf dX8_letterAt_18
  · rw [if_neg h1] at hf
    refine lv_aload_n hx hb dX8_letterAt_8 rfl (lv_at hl 0 rfl) ?_
    refine gf_X8_7 F hP dX8_letterAt_9 ?_
    refine lv_iload_n hx hb dX8_letterAt_12 rfl (lv_at hl 1 rfl) ?_
    obtain ⟨h2, hf⟩ := gd_e hf
    refine m_iald F hP ⟨by decide, by decide⟩ rfl h2 dX8_letterAt_13 ?_
    refine lv_goto (tgt := 18) hx hb dX8_letterAt_14 (by decide) ?_
    exact g_iret B hP hS hf dX8_letterAt_18
theorem c_X8_letterAt (l : Launch) {E : mEv} (hI : gIj (mG E)) {p1 : Int32} {σ σ' : St} {r : Int32} (hf : f_X8_letterAt p1 σ = some (r, σ')) : gMi l yX8_letterAt cX8_letterAt 2 .int rm_X8_letterAt [.ref (mAd E 0), .int p1] (mG E) σ r σ' :=
  g_entry (by decide) (Nat.le_of_ble_eq_true rfl) hI (fun p e s m args below meth c B hP hS ls hl => w_X8_letterAt_e B _ σ hf _ _ ls hP hS hl)
section SD
variable {p : Program} {l : Launch} {e : Env} {R : Room} {s : State} {m : MethodId} {args : Array Value} {below : List Frame} {meth : Method} {c : Code} {H : Heap} {locs : List Loc} {cells slots : Nat} {Q : State → Prop}
variable {cc : ByteArray} {pc nL : Nat} {ls : Array Slot} {rest : List Value} {E : mEv} {σ : St}
theorem gf_X8_168 (F : gFx p m c cc nL s args RX8 (mG E)) (hP : gW (mG E) σ H) (hdg : decode cc pc = .ok (.getfield 168, 3)) (kk : W p l e R s m args below meth c H locs cells slots Q (F0 m (pc + 3) ls (.int (σ 0 56) :: rest))) : W p l e R s m args below meth c H locs cells slots Q (F0 m pc ls (.ref (mAd E 0) :: rest)) :=
  g_get F hP (k := 0) min0 (me_0 E _) rfl inX8 56 (by decide) tw_840 rfl rfl hdg kk
theorem pf_X8_168 (F : gFx p m c cc nL s args RX8 (mG E)) (hP : gW (mG E) σ H) (hS : va_S (gA (mG E)) s.heap H locs) {x : Int32} (hdg : decode cc pc = .ok (.putfield 168, 3)) (kk : ∀ (H1 : Heap) (locs1 : List Loc), gW (mG E) (up2 σ 0 56 x) H1 → va_S (gA (mG E)) s.heap H1 locs1 → W p l e R s m args below meth c H1 locs1 cells slots Q (F0 m (pc + 3) ls rest)) : W p l e R s m args below meth c H locs cells slots Q (F0 m pc ls (.int x :: .ref (mAd E 0) :: rest)) :=
  g_put F hP hS (k := 0) min0 (me_0 E _) rfl inX8 tyX8 tyX8_ok nmX8 56 (by decide) tw_840 rfl rfl rfl rfl (Nat.le_of_ble_eq_true rfl) (x := x) (jj := 56) (me_0 E _) hdg kk
theorem gf_X8_171 (F : gFx p m c cc nL s args RX8 (mG E)) (hP : gW (mG E) σ H) (hdg : decode cc pc = .ok (.getfield 171, 3)) (kk : W p l e R s m args below meth c H locs cells slots Q (F0 m (pc + 3) ls (.int (σ 0 2) :: rest))) : W p l e R s m args below meth c H locs cells slots Q (F0 m pc ls (.ref (mAd E 0) :: rest)) :=
  g_get F hP (k := 0) min0 (me_0 E _) rfl inX8 2 (by decide) tw_786 rfl rfl hdg kk
theorem kc_X8_174 (F : gFx p m c cc nL s args RX8 (mG E)) (hP : gW (mG E) σ H) (hS : va_S (gA (mG E)) s.heap H locs) {p1 : Int32} {r : Int32} {σ' : St} (hf : f_X8_letterAt p1 σ = some (r, σ')) (hR : rm_X8_letterAt.frames + 1 ≤ R.frames ∧ 8 + (2 + 11) + rm_X8_letterAt.locals ≤ R.locals) (hsz : ls.size = nL) (hrest : (rest.map fun v => v.category).sum ≤ 8) (hcs : cells ≤ R.cells ∧ slots ≤ R.slots) (hdg : decode cc pc = .ok (.invokevirtual 174, 3)) (kk : ∀ (H1 : Heap) (locs1 : List Loc), gW (mG E) σ' H1 → va_S (gA (mG E)) s.heap H1 locs1 → W p l e R s m args below meth c H1 locs1 cells slots Q (F0 m (pc + 3) ls (.int r :: rest))) : W p l e R s m args below meth c H locs cells slots Q (F0 m pc ls (.int p1 :: .ref (mAd E 0) :: rest)) :=
  g_callVi F hP hS (c_X8_letterAt l F.2.2.2.2.2.2.2 hf) (g_cwV (n := 1) F tw_984 tw_986 ts_35 tw_14 tw_987 (by decide +kernel) rfl rfl hR) (k := 0) min0 (me_0 E _) rfl (As := [.int p1]) rfl hsz rfl hrest hdg hcs kk
theorem pf_X8_171 (F : gFx p m c cc nL s args RX8 (mG E)) (hP : gW (mG E) σ H) (hS : va_S (gA (mG E)) s.heap H locs) {x : Int32} (hdg : decode cc pc = .ok (.putfield 171, 3)) (kk : ∀ (H1 : Heap) (locs1 : List Loc), gW (mG E) (up2 σ 0 2 x) H1 → va_S (gA (mG E)) s.heap H1 locs1 → W p l e R s m args below meth c H1 locs1 cells slots Q (F0 m (pc + 3) ls rest)) : W p l e R s m args below meth c H locs cells slots Q (F0 m pc ls (.int x :: .ref (mAd E 0) :: rest)) :=
  g_put F hP hS (k := 0) min0 (me_0 E _) rfl inX8 tyX8 tyX8_ok nmX8 2 (by decide) tw_786 rfl rfl rfl rfl (Nat.le_of_ble_eq_true rfl) (x := x) (jj := 2) (me_0 E _) hdg kk
end SD
/-! PromisedSlotsModel.number(III)I -/
def f_X8_number_84 (a2 : Int32) (a3 : Int32) (a4 : Int32) (σ : St) : Option (Int32 × St) :=
  if (σ 0 56) = 0 then
    cl (f_X8_in (a4.toInt64) (a2.toInt64) (a3.toInt64) σ) fun r5 σ4 =>
    if r5 = 0 then
      vl (up2 σ4 0 56 (12 : Int32)) fun σ9 =>
      some (a4, σ9)
    else
      vl (up2 σ4 0 56 (σ4 0 56)) fun σ8 =>
      some (a4, σ8)
  else
    vl (up2 σ 0 56 (σ 0 56)) fun σ3 =>
    some (a4, σ3)
def b_X8_number_6 (K6 : (Int32 × Int32 × Int32 × Int32 × Int32 × St → Option (Int32 × St))) (a1 : Int32) (a2 : Int32) (a3 : Int32) (a4 : Int32) (a5 : Int32) (σ : St) : Option (Int32 × St) :=
  if a1 ≤ a5 then
    f_X8_number_84 a2 a3 a4 σ
  else
    if (σ 0 56) = 0 then
      cl (f_X8_letterAt (σ 0 2) σ) fun r12 σ11 =>
      cl (f_X8_in (r12.toInt64) (48 : Int64) (57 : Int64) σ11) fun r15 σ14 =>
      if r15 = 0 then
        vl (up2 σ14 0 56 (11 : Int32)) fun σ18 =>
        vl (a5 + (1 : Int32)) fun x19 =>
        K6 (a1, a2, a3, a4, x19, σ18)
      else
        cl (f_X8_letterAt (σ14 0 2) σ14) fun r21 σ20 =>
        vl ((((10 : Int32) * a4) + r21) - (48 : Int32)) fun x23 =>
        vl (up2 σ20 0 2 ((σ20 0 2) + (1 : Int32))) fun σ24 =>
        vl (a5 + (1 : Int32)) fun x25 =>
        K6 (a1, a2, a3, x23, x25, σ24)
    else
      f_X8_number_84 a2 a3 a4 σ
def f_X8_number (p1 : Int32) (p2 : Int32) (p3 : Int32) (σ : St) : Option (Int32 × St) :=
  lp (fun K a => b_X8_number_6 K a.1 a.2.1 a.2.2.1 a.2.2.2.1 a.2.2.2.2.1 a.2.2.2.2.2) FU (p1, p2, p3, (0 : Int32), (0 : Int32), σ)
abbrev rm_X8_number : Room := { frames := 1, cells := 0, slots := 0, locals := 25 }
def P_X8_number_6 (p : Program) (l : Launch) (e : Env) (s : State) (m : MethodId) (args : Array Value) (below : List Frame) (meth : Method) (c : Code) (E : mEv) (r : Int32) (σ' : St) (a : Int32 × Int32 × Int32 × Int32 × Int32 × St) : Prop := ∀ (H : Heap) (locs : List Loc) (ls : Array Slot), gW (mG E) a.2.2.2.2.2 H → va_S (gA (mG E)) s.heap H locs → lv_has ls 6 [(0, .ref (mAd E 0)), (1, .int a.1), (2, .int a.2.1), (3, .int a.2.2.1), (4, .int a.2.2.2.1), (5, .int a.2.2.2.2.1)] → W p l e rm_X8_number s m args below meth c H locs 0 0 (gQi below args s (mG E) r σ') (F0 m 6 ls [])
set_option maxHeartbeats 4000000 in
set_option maxRecDepth 100000 in
theorem w_X8_number_84 {p : Program} {l : Launch} {e : Env} {s : State} {m : MethodId} {args : Array Value} {below : List Frame} {meth : Method} {c : Code} {E : mEv} {r : Int32} {σ' : St} (B : gBx p m meth c cX8_number 6 (some .int) s args RX8 (mG E)) (a2 : Int32) (a3 : Int32) (a4 : Int32) (σ : St) (hf : f_X8_number_84 a2 a3 a4 σ = some (r, σ')) (H : Heap) (locs : List Loc) (ls : Array Slot) (hP : gW (mG E) σ H) (hS : va_S (gA (mG E)) s.heap H locs) (hl : lv_has ls 6 [(0, .ref (mAd E 0)), (2, .int a2), (3, .int a3), (4, .int a4)]) : W p l e rm_X8_number s m args below meth c H locs 0 0 (gQi below args s (mG E) r σ') (F0 m 84 ls []) := by
  unfold f_X8_number_84 at hf
  obtain ⟨F, hr, hlk⟩ := id B
  have hx := F.1
  have hb := F.2.1
  have hml := F.2.2.1
  have hown := F.2.2.2.1
  have hts := F.2.2.2.2.1
  refine lv_aload_n hx hb dX8_number_84 rfl (lv_at hl 0 rfl) ?_
  refine lv_aload_n hx hb dX8_number_85 rfl (lv_at hl 0 rfl) ?_
  refine gf_X8_168 F hP dX8_number_86 ?_
  refine lv_if_ne (tgt := 110) hx hb dX8_number_89 (by decide) (fun h2 => ?_) (fun h2 => ?_)
  · rw [if_neg h2] at hf
    refine lv_aload_n hx hb dX8_number_110 rfl (lv_at hl 0 rfl) ?_
    refine gf_X8_168 F hP dX8_number_111 ?_
    refine pf_X8_168 F hP hS dX8_number_114 (fun H locs hP hS => ?_)
    obtain ⟨σ3, eσ3, hf⟩ := vl_x hf
    rw [← eσ3] at hP
    refine lv_iload hx hb dX8_number_117 (lv_at hl 3 rfl) ?_
    exact g_iret B hP hS hf dX8_number_119
  · rw [if_pos h2] at hf
    refine lv_iload hx hb dX8_number_92 (lv_at hl 3 rfl) ?_
    refine lv_i2l hx hb dX8_number_94 rfl ?_
    refine lv_iload_n hx hb dX8_number_95 rfl (lv_at hl 1 rfl) ?_
    refine lv_i2l hx hb dX8_number_96 rfl ?_
    refine lv_iload_n hx hb dX8_number_97 rfl (lv_at hl 2 rfl) ?_
    refine lv_i2l hx hb dX8_number_98 rfl ?_
    obtain ⟨r5, σ4, h6, hf⟩ := cl_e hf
    refine kc_X8_161 F hP hS h6 ⟨Nat.le_of_ble_eq_true rfl, Nat.le_of_ble_eq_true rfl⟩ hl.1 (Nat.le_of_ble_eq_true rfl) ⟨Nat.zero_le _, Nat.zero_le _⟩ dX8_number_99 (fun H locs hP hS => ?_)
    refine lv_if_ne (tgt := 110) hx hb dX8_number_102 (by decide) (fun h7 => ?_) (fun h7 => ?_)
    · rw [if_neg h7] at hf
      refine lv_aload_n hx hb dX8_number_110 rfl (lv_at hl 0 rfl) ?_
      refine gf_X8_168 F hP dX8_number_111 ?_
      refine pf_X8_168 F hP hS dX8_number_114 (fun H locs hP hS => ?_)
      obtain ⟨σ8, eσ8, hf⟩ := vl_x hf
      rw [← eσ8] at hP
      refine lv_iload hx hb dX8_number_117 (lv_at hl 3 rfl) ?_
      exact g_iret B hP hS hf dX8_number_119
    · rw [if_pos h7] at hf
      refine lv_bipush (v := (12)) hx hb dX8_number_105 (by decide) ?_
      refine lv_goto (tgt := 114) hx hb dX8_number_107 (by decide) ?_
      refine pf_X8_168 F hP hS dX8_number_114 (fun H locs hP hS => ?_)
      obtain ⟨σ9, eσ9, hf⟩ := vl_x hf
      rw [← eσ9] at hP
      refine lv_iload hx hb dX8_number_117 (lv_at hl 3 rfl) ?_
      exact g_iret B hP hS hf dX8_number_119
set_option maxHeartbeats 4000000 in
set_option maxRecDepth 100000 in
theorem w_X8_number_6 {p : Program} {l : Launch} {e : Env} {s : State} {m : MethodId} {args : Array Value} {below : List Frame} {meth : Method} {c : Code} {E : mEv} {r : Int32} {σ' : St} (B : gBx p m meth c cX8_number 6 (some .int) s args RX8 (mG E)) {K6 : (Int32 × Int32 × Int32 × Int32 × Int32 × St → Option (Int32 × St))} (hK6 : ∀ a, K6 a = some (r, σ') → P_X8_number_6 p l e s m args below meth c E r σ' a) (a1 : Int32) (a2 : Int32) (a3 : Int32) (a4 : Int32) (a5 : Int32) (σ : St) (hf : b_X8_number_6 K6 a1 a2 a3 a4 a5 σ = some (r, σ')) (H : Heap) (locs : List Loc) (ls : Array Slot) (hP : gW (mG E) σ H) (hS : va_S (gA (mG E)) s.heap H locs) (hl : lv_has ls 6 [(0, .ref (mAd E 0)), (1, .int a1), (2, .int a2), (3, .int a3), (4, .int a4), (5, .int a5)]) : W p l e rm_X8_number s m args below meth c H locs 0 0 (gQi below args s (mG E) r σ') (F0 m 6 ls []) := by
  unfold b_X8_number_6 at hf
  obtain ⟨F, hr, hlk⟩ := id B
  have hx := F.1
  have hb := F.2.1
  have hml := F.2.2.1
  have hown := F.2.2.2.1
  have hts := F.2.2.2.2.1
  refine lv_iload hx hb dX8_number_6 (lv_at hl 5 rfl) ?_
  refine lv_iload_n hx hb dX8_number_8 rfl (lv_at hl 1 rfl) ?_
  refine lv_icmp_ge (tgt := 84) hx hb dX8_number_9 (by decide) (fun h1 => ?_) (fun h1 => ?_)
  · rw [if_pos h1] at hf
    exact w_X8_number_84 B _ _ _ σ hf _ _ _ hP hS (lv_sub hl [0, 2, 3, 4] rfl)
  · rw [if_neg h1] at hf
    refine lv_aload_n hx hb dX8_number_12 rfl (lv_at hl 0 rfl) ?_
    refine gf_X8_168 F hP dX8_number_13 ?_
    refine lv_if_ne (tgt := 84) hx hb dX8_number_16 (by decide) (fun h10 => ?_) (fun h10 => ?_)
    · rw [if_neg h10] at hf
      exact w_X8_number_84 B _ _ _ σ hf _ _ _ hP hS (lv_sub hl [0, 2, 3, 4] rfl)
    · rw [if_pos h10] at hf
      refine lv_aload_n hx hb dX8_number_19 rfl (lv_at hl 0 rfl) ?_
      refine lv_aload_n hx hb dX8_number_20 rfl (lv_at hl 0 rfl) ?_
      refine gf_X8_171 F hP dX8_number_21 ?_
      obtain ⟨r12, σ11, h13, hf⟩ := cl_e hf
      refine kc_X8_174 F hP hS h13 ⟨Nat.le_of_ble_eq_true rfl, Nat.le_of_ble_eq_true rfl⟩ hl.1 (Nat.le_of_ble_eq_true rfl) ⟨Nat.zero_le _, Nat.zero_le _⟩ dX8_number_24 (fun H locs hP hS => ?_)
      refine lv_i2l hx hb dX8_number_27 rfl ?_
      refine lv_ldc2 hx hb hown (hts _ tw_1000) dX8_number_28 ?_
      refine lv_ldc2 hx hb hown (hts _ tw_1001) dX8_number_31 ?_
      obtain ⟨r15, σ14, h16, hf⟩ := cl_e hf
      refine kc_X8_161 F hP hS h16 ⟨Nat.le_of_ble_eq_true rfl, Nat.le_of_ble_eq_true rfl⟩ hl.1 (Nat.le_of_ble_eq_true rfl) ⟨Nat.zero_le _, Nat.zero_le _⟩ dX8_number_34 (fun H locs hP hS => ?_)
      refine lv_if_eq (tgt := 72) hx hb dX8_number_37 (by decide) (fun h17 => ?_) (fun h17 => ?_)
      · rw [if_pos h17] at hf
        refine lv_aload_n hx hb dX8_number_72 rfl (lv_at hl 0 rfl) ?_
        refine lv_bipush (v := (11)) hx hb dX8_number_73 (by decide) ?_
        refine pf_X8_168 F hP hS dX8_number_75 (fun H locs hP hS => ?_)
        obtain ⟨σ18, eσ18, hf⟩ := vl_x hf
        rw [← eσ18] at hP
        refine lv_iinc (v := a5 + (1 : Int32)) (lv' := [(5, .int (a5 + (1 : Int32))), (0, .ref (mAd E 0)), (1, .int a1), (2, .int a2), (3, .int a3), (4, .int a4)]) hx hb dX8_number_78 hl (k := 5) rfl rfl (by decide) rfl (fun ls hl => ?_)
        obtain ⟨x19, ex19, hf⟩ := vl_x hf
        rw [← ex19] at hl
        refine lv_goto (tgt := 6) hx hb dX8_number_81 (by decide) ?_
        exact hK6 _ hf _ _ _ hP hS (lv_sub hl [1, 2, 3, 4, 5, 0] rfl)
      · rw [if_neg h17] at hf
        refine lv_bipush (v := (10)) hx hb dX8_number_40 (by decide) ?_
        refine lv_iload hx hb dX8_number_42 (lv_at hl 4 rfl) ?_
        refine lv_imul hx hb dX8_number_44 ?_
        refine lv_aload_n hx hb dX8_number_45 rfl (lv_at hl 0 rfl) ?_
        refine lv_aload_n hx hb dX8_number_46 rfl (lv_at hl 0 rfl) ?_
        refine gf_X8_171 F hP dX8_number_47 ?_
        obtain ⟨r21, σ20, h22, hf⟩ := cl_e hf
        refine kc_X8_174 F hP hS h22 ⟨Nat.le_of_ble_eq_true rfl, Nat.le_of_ble_eq_true rfl⟩ hl.1 (Nat.le_of_ble_eq_true rfl) ⟨Nat.zero_le _, Nat.zero_le _⟩ dX8_number_50 (fun H locs hP hS => ?_)
        refine lv_iadd hx hb dX8_number_53 ?_
        refine lv_bipush (v := (48)) hx hb dX8_number_54 (by decide) ?_
        refine lv_isub hx hb dX8_number_56 ?_
        obtain ⟨x23, ex23, hf⟩ := vl_x hf
        rw [← ex23]
        refine lv_istore (lv' := [(4, .int x23), (0, .ref (mAd E 0)), (1, .int a1), (2, .int a2), (3, .int a3), (5, .int a5)]) hx hb dX8_number_57 hl (by decide) rfl (fun ls hl => ?_)
        refine lv_aload_n hx hb dX8_number_59 rfl (lv_at hl 1 rfl) ?_
        refine lv_dup hx hb dX8_number_60 rfl ?_
        refine gf_X8_171 F hP dX8_number_61 ?_
        refine lv_iconst (v := 1) hx hb dX8_number_64 (by decide) ?_
        refine lv_iadd hx hb dX8_number_65 ?_
        refine pf_X8_171 F hP hS dX8_number_66 (fun H locs hP hS => ?_)
        obtain ⟨σ24, eσ24, hf⟩ := vl_x hf
        rw [← eσ24] at hP
        refine lv_goto (tgt := 78) hx hb dX8_number_69 (by decide) ?_
        refine lv_iinc (v := a5 + (1 : Int32)) (lv' := [(5, .int (a5 + (1 : Int32))), (4, .int x23), (0, .ref (mAd E 0)), (1, .int a1), (2, .int a2), (3, .int a3)]) hx hb dX8_number_78 hl (k := 5) rfl rfl (by decide) rfl (fun ls hl => ?_)
        obtain ⟨x25, ex25, hf⟩ := vl_x hf
        rw [← ex25] at hl
        refine lv_goto (tgt := 6) hx hb dX8_number_81 (by decide) ?_
        exact hK6 _ hf _ _ _ hP hS (lv_sub hl [2, 3, 4, 5, 1, 0] rfl)
set_option maxHeartbeats 4000000 in
set_option maxRecDepth 100000 in
theorem w_X8_number_e {p : Program} {l : Launch} {e : Env} {s : State} {m : MethodId} {args : Array Value} {below : List Frame} {meth : Method} {c : Code} {E : mEv} {r : Int32} {σ' : St} (B : gBx p m meth c cX8_number 6 (some .int) s args RX8 (mG E)) (p1 : Int32) (p2 : Int32) (p3 : Int32) (σ : St) (hf : f_X8_number p1 p2 p3 σ = some (r, σ')) (H : Heap) (locs : List Loc) (ls : Array Slot) (hP : gW (mG E) σ H) (hS : va_S (gA (mG E)) s.heap H locs) (hl : lv_has ls 6 [(0, .ref (mAd E 0)), (1, .int p1), (2, .int p2), (3, .int p3)]) : W p l e rm_X8_number s m args below meth c H locs 0 0 (gQi below args s (mG E) r σ') (F0 m 0 ls []) := by
  unfold f_X8_number at hf
  obtain ⟨F, hr, hlk⟩ := id B
  have hx := F.1
  have hb := F.2.1
  have hml := F.2.2.1
  have hown := F.2.2.2.1
  have hts := F.2.2.2.2.1
  refine lv_iconst (v := 0) hx hb dX8_number_0 (by decide) ?_
  refine lv_istore (lv' := [(4, .int (0 : Int32)), (0, .ref (mAd E 0)), (1, .int p1), (2, .int p2), (3, .int p3)]) hx hb dX8_number_1 hl (by decide) rfl (fun ls hl => ?_)
  refine lv_iconst (v := 0) hx hb dX8_number_3 (by decide) ?_
  refine lv_istore (lv' := [(5, .int (0 : Int32)), (4, .int (0 : Int32)), (0, .ref (mAd E 0)), (1, .int p1), (2, .int p2), (3, .int p3)]) hx hb dX8_number_4 hl (by decide) rfl (fun ls hl => ?_)
  exact lp_w (P := P_X8_number_6 p l e s m args below meth c E r σ') (fun K hK a ha => w_X8_number_6 B hK a.1 a.2.1 a.2.2.1 a.2.2.2.1 a.2.2.2.2.1 a.2.2.2.2.2 ha) FU _ hf _ _ _ hP hS (lv_sub hl [2, 3, 4, 5, 1, 0] rfl)
theorem c_X8_number (l : Launch) {E : mEv} (hI : gIj (mG E)) {p1 : Int32} {p2 : Int32} {p3 : Int32} {σ σ' : St} {r : Int32} (hf : f_X8_number p1 p2 p3 σ = some (r, σ')) : gMi l yX8_number cX8_number 6 .int rm_X8_number [.ref (mAd E 0), .int p1, .int p2, .int p3] (mG E) σ r σ' :=
  g_entry (by decide) (Nat.le_of_ble_eq_true rfl) hI (fun p e s m args below meth c B hP hS ls hl => w_X8_number_e B _ _ _ σ hf _ _ ls hP hS hl)
section SD
variable {p : Program} {l : Launch} {e : Env} {R : Room} {s : State} {m : MethodId} {args : Array Value} {below : List Frame} {meth : Method} {c : Code} {H : Heap} {locs : List Loc} {cells slots : Nat} {Q : State → Prop}
variable {cc : ByteArray} {pc nL : Nat} {ls : Array Slot} {rest : List Value} {E : mEv} {σ : St}
theorem kc_X8_182 (F : gFx p m c cc nL s args RX8 (mG E)) (hP : gW (mG E) σ H) (hS : va_S (gA (mG E)) s.heap H locs) {p1 : Int32} {p2 : Int32} {p3 : Int32} {r : Int32} {σ' : St} (hf : f_X8_number p1 p2 p3 σ = some (r, σ')) (hR : rm_X8_number.frames + 1 ≤ R.frames ∧ 8 + (6 + 11) + rm_X8_number.locals ≤ R.locals) (hsz : ls.size = nL) (hrest : (rest.map fun v => v.category).sum ≤ 8) (hcs : cells ≤ R.cells ∧ slots ≤ R.slots) (hdg : decode cc pc = .ok (.invokevirtual 182, 3)) (kk : ∀ (H1 : Heap) (locs1 : List Loc), gW (mG E) σ' H1 → va_S (gA (mG E)) s.heap H1 locs1 → W p l e R s m args below meth c H1 locs1 cells slots Q (F0 m (pc + 3) ls (.int r :: rest))) : W p l e R s m args below meth c H locs cells slots Q (F0 m pc ls (.int p3 :: .int p2 :: .int p1 :: .ref (mAd E 0) :: rest)) :=
  g_callVi F hP hS (c_X8_number l F.2.2.2.2.2.2.2 hf) (g_cwV (n := 3) F tw_996 tw_998 ts_38 tw_14 tw_999 (by decide +kernel) rfl rfl hR) (k := 0) min0 (me_0 E _) rfl (As := [.int p1, .int p2, .int p3]) rfl hsz rfl hrest hdg hcs kk
end SD
/-! PromisedSlotsModel.ordersItem()V -/
def f_X8_ordersItem_35 (a1 : Int32) (s0 : Int32) (σ : St) : Option (Unit × St) :=
  if (σ 0 56) = 0 then
    cl (f_X8_number (1 : Int32) (1 : Int32) (9 : Int32) σ) fun r10 σ9 =>
    vl (up2 σ9 0 5 a1) fun σ12 =>
    vl (up2 σ12 0 6 s0) fun σ13 =>
    vl (up2 σ13 0 7 r10) fun σ14 =>
    some ((), σ14)
  else
    vl (up2 σ 0 5 a1) fun σ6 =>
    vl (up2 σ6 0 6 s0) fun σ7 =>
    vl (up2 σ7 0 7 (0 : Int32)) fun σ8 =>
    some ((), σ8)
def f_X8_ordersItem (σ : St) : Option (Unit × St) :=
  cl (f_X8_number (1 : Int32) (0 : Int32) (5 : Int32) σ) fun r2 σ1 =>
  if (σ1 0 56) = 0 then
    if (3 : Int32) ≤ r2 then
      cl (f_X8_number (1 : Int32) (0 : Int32) (3 : Int32) σ1) fun r17 σ16 =>
      f_X8_ordersItem_35 r2 r17 σ16
    else
      cl (f_X8_number (1 : Int32) (0 : Int32) r2 σ1) fun r20 σ19 =>
      f_X8_ordersItem_35 r2 r20 σ19
  else
    f_X8_ordersItem_35 r2 (0 : Int32) σ1
abbrev rm_X8_ordersItem : Room := { frames := 2, cells := 0, slots := 0, locals := 50 }
set_option maxHeartbeats 4000000 in
set_option maxRecDepth 100000 in
theorem w_X8_ordersItem_35 {p : Program} {l : Launch} {e : Env} {s : State} {m : MethodId} {args : Array Value} {below : List Frame} {meth : Method} {c : Code} {E : mEv} {u : Unit} {σ' : St} (B : gBx p m meth c cX8_ordersItem 4 none s args RX8 (mG E)) (a1 : Int32) (s0 : Int32) (σ : St) (hf : f_X8_ordersItem_35 a1 s0 σ = some (u, σ')) (H : Heap) (locs : List Loc) (ls : Array Slot) (hP : gW (mG E) σ H) (hS : va_S (gA (mG E)) s.heap H locs) (hl : lv_has ls 4 [(0, .ref (mAd E 0)), (1, .int a1)]) : W p l e rm_X8_ordersItem s m args below meth c H locs 0 0 (gQv below args s (mG E) σ') (F0 m 35 ls [.int s0]) := by
  unfold f_X8_ordersItem_35 at hf
  obtain ⟨F, hr, hlk⟩ := id B
  have hx := F.1
  have hb := F.2.1
  have hml := F.2.2.1
  have hown := F.2.2.2.1
  have hts := F.2.2.2.2.1
  refine lv_istore_n (lv' := [(2, .int s0), (0, .ref (mAd E 0)), (1, .int a1)]) hx hb dX8_ordersItem_35 rfl hl (by decide) rfl (fun ls hl => ?_)
  refine lv_aload_n hx hb dX8_ordersItem_36 rfl (lv_at hl 1 rfl) ?_
  refine gf_X8_168 F hP dX8_ordersItem_37 ?_
  refine lv_if_ne (tgt := 54) hx hb dX8_ordersItem_40 (by decide) (fun h5 => ?_) (fun h5 => ?_)
  · rw [if_neg h5] at hf
    refine lv_iconst (v := 0) hx hb dX8_ordersItem_54 (by decide) ?_
    refine lv_istore_n (lv' := [(3, .int (0 : Int32)), (2, .int s0), (0, .ref (mAd E 0)), (1, .int a1)]) hx hb dX8_ordersItem_55 rfl hl (by decide) rfl (fun ls hl => ?_)
    refine lv_aload_n hx hb dX8_ordersItem_56 rfl (lv_at hl 2 rfl) ?_
    refine lv_iload_n hx hb dX8_ordersItem_57 rfl (lv_at hl 3 rfl) ?_
    refine pf_X8_124 F hP hS dX8_ordersItem_58 (fun H locs hP hS => ?_)
    obtain ⟨σ6, eσ6, hf⟩ := vl_x hf
    rw [← eσ6] at hP
    refine lv_aload_n hx hb dX8_ordersItem_61 rfl (lv_at hl 2 rfl) ?_
    refine lv_iload_n hx hb dX8_ordersItem_62 rfl (lv_at hl 1 rfl) ?_
    refine pf_X8_128 F hP hS dX8_ordersItem_63 (fun H locs hP hS => ?_)
    obtain ⟨σ7, eσ7, hf⟩ := vl_x hf
    rw [← eσ7] at hP
    refine lv_aload_n hx hb dX8_ordersItem_66 rfl (lv_at hl 2 rfl) ?_
    refine lv_iload_n hx hb dX8_ordersItem_67 rfl (lv_at hl 0 rfl) ?_
    refine pf_X8_131 F hP hS dX8_ordersItem_68 (fun H locs hP hS => ?_)
    obtain ⟨σ8, eσ8, hf⟩ := vl_x hf
    rw [← eσ8] at hP
    exact g_vret B hP hS hf dX8_ordersItem_71
  · rw [if_pos h5] at hf
    refine lv_aload_n hx hb dX8_ordersItem_43 rfl (lv_at hl 1 rfl) ?_
    refine lv_iconst (v := 1) hx hb dX8_ordersItem_44 (by decide) ?_
    refine lv_iconst (v := 1) hx hb dX8_ordersItem_45 (by decide) ?_
    refine lv_bipush (v := (9)) hx hb dX8_ordersItem_46 (by decide) ?_
    obtain ⟨r10, σ9, h11, hf⟩ := cl_e hf
    refine kc_X8_182 F hP hS h11 ⟨Nat.le_of_ble_eq_true rfl, Nat.le_of_ble_eq_true rfl⟩ hl.1 (Nat.le_of_ble_eq_true rfl) ⟨Nat.zero_le _, Nat.zero_le _⟩ dX8_ordersItem_48 (fun H locs hP hS => ?_)
    refine lv_goto (tgt := 55) hx hb dX8_ordersItem_51 (by decide) ?_
    refine lv_istore_n (lv' := [(3, .int r10), (2, .int s0), (0, .ref (mAd E 0)), (1, .int a1)]) hx hb dX8_ordersItem_55 rfl hl (by decide) rfl (fun ls hl => ?_)
    refine lv_aload_n hx hb dX8_ordersItem_56 rfl (lv_at hl 2 rfl) ?_
    refine lv_iload_n hx hb dX8_ordersItem_57 rfl (lv_at hl 3 rfl) ?_
    refine pf_X8_124 F hP hS dX8_ordersItem_58 (fun H locs hP hS => ?_)
    obtain ⟨σ12, eσ12, hf⟩ := vl_x hf
    rw [← eσ12] at hP
    refine lv_aload_n hx hb dX8_ordersItem_61 rfl (lv_at hl 2 rfl) ?_
    refine lv_iload_n hx hb dX8_ordersItem_62 rfl (lv_at hl 1 rfl) ?_
    refine pf_X8_128 F hP hS dX8_ordersItem_63 (fun H locs hP hS => ?_)
    obtain ⟨σ13, eσ13, hf⟩ := vl_x hf
    rw [← eσ13] at hP
    refine lv_aload_n hx hb dX8_ordersItem_66 rfl (lv_at hl 2 rfl) ?_
    refine lv_iload_n hx hb dX8_ordersItem_67 rfl (lv_at hl 0 rfl) ?_
    refine pf_X8_131 F hP hS dX8_ordersItem_68 (fun H locs hP hS => ?_)
    obtain ⟨σ14, eσ14, hf⟩ := vl_x hf
    rw [← eσ14] at hP
    exact g_vret B hP hS hf dX8_ordersItem_71
set_option maxHeartbeats 4000000 in
set_option maxRecDepth 100000 in
theorem w_X8_ordersItem_e {p : Program} {l : Launch} {e : Env} {s : State} {m : MethodId} {args : Array Value} {below : List Frame} {meth : Method} {c : Code} {E : mEv} {u : Unit} {σ' : St} (B : gBx p m meth c cX8_ordersItem 4 none s args RX8 (mG E)) (σ : St) (hf : f_X8_ordersItem σ = some (u, σ')) (H : Heap) (locs : List Loc) (ls : Array Slot) (hP : gW (mG E) σ H) (hS : va_S (gA (mG E)) s.heap H locs) (hl : lv_has ls 4 [(0, .ref (mAd E 0))]) : W p l e rm_X8_ordersItem s m args below meth c H locs 0 0 (gQv below args s (mG E) σ') (F0 m 0 ls []) := by
  unfold f_X8_ordersItem at hf
  obtain ⟨F, hr, hlk⟩ := id B
  have hx := F.1
  have hb := F.2.1
  have hml := F.2.2.1
  have hown := F.2.2.2.1
  have hts := F.2.2.2.2.1
  refine lv_aload_n hx hb dX8_ordersItem_0 rfl (lv_at hl 0 rfl) ?_
  refine lv_iconst (v := 1) hx hb dX8_ordersItem_1 (by decide) ?_
  refine lv_iconst (v := 0) hx hb dX8_ordersItem_2 (by decide) ?_
  refine lv_iconst (v := 5) hx hb dX8_ordersItem_3 (by decide) ?_
  obtain ⟨r2, σ1, h3, hf⟩ := cl_e hf
  refine kc_X8_182 F hP hS h3 ⟨Nat.le_of_ble_eq_true rfl, Nat.le_of_ble_eq_true rfl⟩ hl.1 (Nat.le_of_ble_eq_true rfl) ⟨Nat.zero_le _, Nat.zero_le _⟩ dX8_ordersItem_4 (fun H locs hP hS => ?_)
  refine lv_istore_n (lv' := [(1, .int r2), (0, .ref (mAd E 0))]) hx hb dX8_ordersItem_7 rfl hl (by decide) rfl (fun ls hl => ?_)
  refine lv_aload_n hx hb dX8_ordersItem_8 rfl (lv_at hl 1 rfl) ?_
  refine gf_X8_168 F hP dX8_ordersItem_9 ?_
  refine lv_if_ne (tgt := 34) hx hb dX8_ordersItem_12 (by decide) (fun h4 => ?_) (fun h4 => ?_)
  · rw [if_neg h4] at hf
    refine lv_iconst (v := 0) hx hb dX8_ordersItem_34 (by decide) ?_
    exact w_X8_ordersItem_35 B _ _ σ1 hf _ _ _ hP hS (lv_sub hl [1, 0] rfl)
  · rw [if_pos h4] at hf
    refine lv_aload_n hx hb dX8_ordersItem_15 rfl (lv_at hl 1 rfl) ?_
    refine lv_iconst (v := 1) hx hb dX8_ordersItem_16 (by decide) ?_
    refine lv_iconst (v := 0) hx hb dX8_ordersItem_17 (by decide) ?_
    refine lv_iload_n hx hb dX8_ordersItem_18 rfl (lv_at hl 0 rfl) ?_
    refine lv_iconst (v := 3) hx hb dX8_ordersItem_19 (by decide) ?_
    refine lv_icmp_ge (tgt := 27) hx hb dX8_ordersItem_20 (by decide) (fun h15 => ?_) (fun h15 => ?_)
    · rw [if_pos h15] at hf
      refine lv_iconst (v := 3) hx hb dX8_ordersItem_27 (by decide) ?_
      obtain ⟨r17, σ16, h18, hf⟩ := cl_e hf
      refine kc_X8_182 F hP hS h18 ⟨Nat.le_of_ble_eq_true rfl, Nat.le_of_ble_eq_true rfl⟩ hl.1 (Nat.le_of_ble_eq_true rfl) ⟨Nat.zero_le _, Nat.zero_le _⟩ dX8_ordersItem_28 (fun H locs hP hS => ?_)
      refine lv_goto (tgt := 35) hx hb dX8_ordersItem_31 (by decide) ?_
      exact w_X8_ordersItem_35 B _ _ σ16 hf _ _ _ hP hS (lv_sub hl [1, 0] rfl)
    · rw [if_neg h15] at hf
      refine lv_iload_n hx hb dX8_ordersItem_23 rfl (lv_at hl 0 rfl) ?_
      refine lv_goto (tgt := 28) hx hb dX8_ordersItem_24 (by decide) ?_
      obtain ⟨r20, σ19, h21, hf⟩ := cl_e hf
      refine kc_X8_182 F hP hS h21 ⟨Nat.le_of_ble_eq_true rfl, Nat.le_of_ble_eq_true rfl⟩ hl.1 (Nat.le_of_ble_eq_true rfl) ⟨Nat.zero_le _, Nat.zero_le _⟩ dX8_ordersItem_28 (fun H locs hP hS => ?_)
      refine lv_goto (tgt := 35) hx hb dX8_ordersItem_31 (by decide) ?_
      exact w_X8_ordersItem_35 B _ _ σ19 hf _ _ _ hP hS (lv_sub hl [1, 0] rfl)
theorem c_X8_ordersItem (l : Launch) {E : mEv} (hI : gIj (mG E)) {σ σ' : St} {u : Unit} (hf : f_X8_ordersItem σ = some (u, σ')) : gMv l yX8_ordersItem cX8_ordersItem 4 rm_X8_ordersItem [.ref (mAd E 0)] (mG E) σ σ' :=
  g_entry (by decide) (Nat.le_of_ble_eq_true rfl) hI (fun p e s m args below meth c B hP hS ls hl => w_X8_ordersItem_e B σ hf _ _ ls hP hS hl)
/-! PromisedSlotsModel.meets([IIIII)I -/
def b_X8_meets_3 (p1 : Nat) (K3 : (Int32 × Int32 × Int32 × Int32 × Int32 × St → Option (Int32 × St))) (a1 : Int32) (a2 : Int32) (a3 : Int32) (a4 : Int32) (a5 : Int32) (σ : St) : Option (Int32 × St) :=
  if a1 ≤ a5 then
    some ((-4 : Int32), σ)
  else
    gd (ix a5 (mn p1)) <|
    gd (¬ a3 = 0) <|
    vl (((a2 - (σ p1 (nt a5))) + a3) - ((a2 - (σ p1 (nt a5))) + a3) / a3 * a3) fun x4 =>
    gd (ix a5 (mn p1)) <|
    gd (¬ a3 = 0) <|
    vl ((((σ p1 (nt a5)) - a2) + a3) - (((σ p1 (nt a5)) - a2) + a3) / a3 * a3) fun x7 =>
    if x4 < a4 then
      some (a5, σ)
    else
      if a4 ≤ x7 then
        vl (a5 + (1 : Int32)) fun x10 =>
        K3 (a1, a2, a3, a4, x10, σ)
      else
        some (a5, σ)
def f_X8_meets (p1 : Nat) (p2 : Int32) (p3 : Int32) (p4 : Int32) (p5 : Int32) (σ : St) : Option (Int32 × St) :=
  lp (fun K a => b_X8_meets_3 p1 K a.1 a.2.1 a.2.2.1 a.2.2.2.1 a.2.2.2.2.1 a.2.2.2.2.2) FU (p2, p3, p4, p5, (0 : Int32), σ)
abbrev rm_X8_meets : Room := { frames := 0, cells := 0, slots := 0, locals := 0 }
def P_X8_meets_3 (p : Program) (l : Launch) (e : Env) (s : State) (m : MethodId) (args : Array Value) (below : List Frame) (meth : Method) (c : Code) (E : mEv) (r : Int32) (σ' : St) (p1 : Nat) (a : Int32 × Int32 × Int32 × Int32 × Int32 × St) : Prop := ∀ (H : Heap) (locs : List Loc) (ls : Array Slot), gW (mG E) a.2.2.2.2.2 H → va_S (gA (mG E)) s.heap H locs → lv_has ls 8 [(0, .ref (mAd E p1)), (1, .int a.1), (2, .int a.2.1), (3, .int a.2.2.1), (4, .int a.2.2.2.1), (5, .int a.2.2.2.2.1)] → W p l e rm_X8_meets s m args below meth c H locs 0 0 (gQi below args s (mG E) r σ') (F0 m 3 ls [])
set_option maxHeartbeats 4000000 in
set_option maxRecDepth 100000 in
theorem w_X8_meets_3 {p : Program} {l : Launch} {e : Env} {s : State} {m : MethodId} {args : Array Value} {below : List Frame} {meth : Method} {c : Code} {E : mEv} {r : Int32} {σ' : St} {p1 : Nat} (hp1 : mArr p1) (B : gBx p m meth c cX8_meets 8 (some .int) s args RX8 (mG E)) {K3 : (Int32 × Int32 × Int32 × Int32 × Int32 × St → Option (Int32 × St))} (hK3 : ∀ a, K3 a = some (r, σ') → P_X8_meets_3 p l e s m args below meth c E r σ' p1 a) (a1 : Int32) (a2 : Int32) (a3 : Int32) (a4 : Int32) (a5 : Int32) (σ : St) (hf : b_X8_meets_3 p1 K3 a1 a2 a3 a4 a5 σ = some (r, σ')) (H : Heap) (locs : List Loc) (ls : Array Slot) (hP : gW (mG E) σ H) (hS : va_S (gA (mG E)) s.heap H locs) (hl : lv_has ls 8 [(0, .ref (mAd E p1)), (1, .int a1), (2, .int a2), (3, .int a3), (4, .int a4), (5, .int a5)]) : W p l e rm_X8_meets s m args below meth c H locs 0 0 (gQi below args s (mG E) r σ') (F0 m 3 ls []) := by
  unfold b_X8_meets_3 at hf
  obtain ⟨F, hr, hlk⟩ := id B
  have hx := F.1
  have hb := F.2.1
  have hml := F.2.2.1
  have hown := F.2.2.2.1
  have hts := F.2.2.2.2.1
  refine lv_iload hx hb dX8_meets_3 (lv_at hl 5 rfl) ?_
  refine lv_iload_n hx hb dX8_meets_5 rfl (lv_at hl 1 rfl) ?_
  refine lv_icmp_ge (tgt := 56) hx hb dX8_meets_6 (by decide) (fun h1 => ?_) (fun h1 => ?_)
  · rw [if_pos h1] at hf
    refine lv_bipush (v := (-4)) hx hb dX8_meets_56 (by decide) ?_
    exact g_iret B hP hS hf dX8_meets_58
  · rw [if_neg h1] at hf
    refine lv_iload_n hx hb dX8_meets_9 rfl (lv_at hl 2 rfl) ?_
    refine lv_aload_n hx hb dX8_meets_10 rfl (lv_at hl 0 rfl) ?_
    refine lv_iload hx hb dX8_meets_11 (lv_at hl 5 rfl) ?_
    obtain ⟨h2, hf⟩ := gd_e hf
    refine m_iald F hP hp1 rfl h2 dX8_meets_13 ?_
    refine lv_isub hx hb dX8_meets_14 ?_
    refine lv_iload_n hx hb dX8_meets_15 rfl (lv_at hl 3 rfl) ?_
    refine lv_iadd hx hb dX8_meets_16 ?_
    refine lv_iload_n hx hb dX8_meets_17 rfl (lv_at hl 3 rfl) ?_
    obtain ⟨h3, hf⟩ := gd_e hf
    refine lv_irem hx hb dX8_meets_18 h3 ?_
    obtain ⟨x4, ex4, hf⟩ := vl_x hf
    rw [← ex4]
    refine lv_istore (lv' := [(6, .int x4), (0, .ref (mAd E p1)), (1, .int a1), (2, .int a2), (3, .int a3), (4, .int a4), (5, .int a5)]) hx hb dX8_meets_19 hl (by decide) rfl (fun ls hl => ?_)
    refine lv_aload_n hx hb dX8_meets_21 rfl (lv_at hl 1 rfl) ?_
    refine lv_iload hx hb dX8_meets_22 (lv_at hl 6 rfl) ?_
    obtain ⟨h5, hf⟩ := gd_e hf
    refine m_iald F hP hp1 rfl h5 dX8_meets_24 ?_
    refine lv_iload_n hx hb dX8_meets_25 rfl (lv_at hl 3 rfl) ?_
    refine lv_isub hx hb dX8_meets_26 ?_
    refine lv_iload_n hx hb dX8_meets_27 rfl (lv_at hl 4 rfl) ?_
    refine lv_iadd hx hb dX8_meets_28 ?_
    refine lv_iload_n hx hb dX8_meets_29 rfl (lv_at hl 4 rfl) ?_
    obtain ⟨h6, hf⟩ := gd_e hf
    refine lv_irem hx hb dX8_meets_30 h6 ?_
    obtain ⟨x7, ex7, hf⟩ := vl_x hf
    rw [← ex7]
    refine lv_istore (lv' := [(7, .int x7), (6, .int x4), (0, .ref (mAd E p1)), (1, .int a1), (2, .int a2), (3, .int a3), (4, .int a4), (5, .int a5)]) hx hb dX8_meets_31 hl (by decide) rfl (fun ls hl => ?_)
    refine lv_iload hx hb dX8_meets_33 (lv_at hl 1 rfl) ?_
    refine lv_iload hx hb dX8_meets_35 (lv_at hl 6 rfl) ?_
    refine lv_icmp_lt (tgt := 47) hx hb dX8_meets_37 (by decide) (fun h8 => ?_) (fun h8 => ?_)
    · rw [if_pos h8] at hf
      refine lv_iload hx hb dX8_meets_47 (lv_at hl 7 rfl) ?_
      exact g_iret B hP hS hf dX8_meets_49
    · rw [if_neg h8] at hf
      refine lv_iload hx hb dX8_meets_40 (lv_at hl 0 rfl) ?_
      refine lv_iload hx hb dX8_meets_42 (lv_at hl 6 rfl) ?_
      refine lv_icmp_ge (tgt := 50) hx hb dX8_meets_44 (by decide) (fun h9 => ?_) (fun h9 => ?_)
      · rw [if_pos h9] at hf
        refine lv_iinc (v := a5 + (1 : Int32)) (lv' := [(5, .int (a5 + (1 : Int32))), (7, .int x7), (6, .int x4), (0, .ref (mAd E p1)), (1, .int a1), (2, .int a2), (3, .int a3), (4, .int a4)]) hx hb dX8_meets_50 hl (k := 7) rfl rfl (by decide) rfl (fun ls hl => ?_)
        obtain ⟨x10, ex10, hf⟩ := vl_x hf
        rw [← ex10] at hl
        refine lv_goto (tgt := 3) hx hb dX8_meets_53 (by decide) ?_
        exact hK3 _ hf _ _ _ hP hS (lv_sub hl [3, 4, 5, 6, 7, 0] rfl)
      · rw [if_neg h9] at hf
        refine lv_iload hx hb dX8_meets_47 (lv_at hl 7 rfl) ?_
        exact g_iret B hP hS hf dX8_meets_49
set_option maxHeartbeats 4000000 in
set_option maxRecDepth 100000 in
theorem w_X8_meets_e {p : Program} {l : Launch} {e : Env} {s : State} {m : MethodId} {args : Array Value} {below : List Frame} {meth : Method} {c : Code} {E : mEv} {r : Int32} {σ' : St} {p1 : Nat} (hp1 : mArr p1) (B : gBx p m meth c cX8_meets 8 (some .int) s args RX8 (mG E)) (p2 : Int32) (p3 : Int32) (p4 : Int32) (p5 : Int32) (σ : St) (hf : f_X8_meets p1 p2 p3 p4 p5 σ = some (r, σ')) (H : Heap) (locs : List Loc) (ls : Array Slot) (hP : gW (mG E) σ H) (hS : va_S (gA (mG E)) s.heap H locs) (hl : lv_has ls 8 [(0, .ref (mAd E p1)), (1, .int p2), (2, .int p3), (3, .int p4), (4, .int p5)]) : W p l e rm_X8_meets s m args below meth c H locs 0 0 (gQi below args s (mG E) r σ') (F0 m 0 ls []) := by
  unfold f_X8_meets at hf
  obtain ⟨F, hr, hlk⟩ := id B
  have hx := F.1
  have hb := F.2.1
  have hml := F.2.2.1
  have hown := F.2.2.2.1
  have hts := F.2.2.2.2.1
  refine lv_iconst (v := 0) hx hb dX8_meets_0 (by decide) ?_
  refine lv_istore (lv' := [(5, .int (0 : Int32)), (0, .ref (mAd E p1)), (1, .int p2), (2, .int p3), (3, .int p4), (4, .int p5)]) hx hb dX8_meets_1 hl (by decide) rfl (fun ls hl => ?_)
  exact lp_w (P := P_X8_meets_3 p l e s m args below meth c E r σ' p1) (fun K hK a ha => w_X8_meets_3 hp1 B hK a.1 a.2.1 a.2.2.1 a.2.2.2.1 a.2.2.2.2.1 a.2.2.2.2.2 ha) FU _ hf _ _ _ hP hS (lv_sub hl [1, 2, 3, 4, 5, 0] rfl)
theorem c_X8_meets (l : Launch) {E : mEv} (hI : gIj (mG E)) {p1 : Nat} (hp1 : mArr p1) {p2 : Int32} {p3 : Int32} {p4 : Int32} {p5 : Int32} {σ σ' : St} {r : Int32} (hf : f_X8_meets p1 p2 p3 p4 p5 σ = some (r, σ')) : gMi l yX8_meets cX8_meets 8 .int rm_X8_meets [.ref (mAd E p1), .int p2, .int p3, .int p4, .int p5] (mG E) σ r σ' :=
  g_entry (by decide) (Nat.le_of_ble_eq_true rfl) hI (fun p e s m args below meth c B hP hS ls hl => w_X8_meets_e hp1 B _ _ _ _ σ hf _ _ ls hP hS hl)
section SD
variable {p : Program} {l : Launch} {e : Env} {R : Room} {s : State} {m : MethodId} {args : Array Value} {below : List Frame} {meth : Method} {c : Code} {H : Heap} {locs : List Loc} {cells slots : Nat} {Q : State → Prop}
variable {cc : ByteArray} {pc nL : Nat} {ls : Array Slot} {rest : List Value} {E : mEv} {σ : St}
theorem kc_X8_189 (F : gFx p m c cc nL s args RX8 (mG E)) (hP : gW (mG E) σ H) (hS : va_S (gA (mG E)) s.heap H locs) {p1 : Nat} (hp1 : mArr p1) {p2 : Int32} {p3 : Int32} {p4 : Int32} {p5 : Int32} {r : Int32} {σ' : St} (hf : f_X8_meets p1 p2 p3 p4 p5 σ = some (r, σ')) (hR : rm_X8_meets.frames + 1 ≤ R.frames ∧ 8 + (8 + 11) + rm_X8_meets.locals ≤ R.locals) (hsz : ls.size = nL) (hrest : (rest.map fun v => v.category).sum ≤ 8) (hcs : cells ≤ R.cells ∧ slots ≤ R.slots) (hdg : decode cc pc = .ok (.invokestatic 189, 3)) (kk : ∀ (H1 : Heap) (locs1 : List Loc), gW (mG E) σ' H1 → va_S (gA (mG E)) s.heap H1 locs1 → W p l e R s m args below meth c H1 locs1 cells slots Q (F0 m (pc + 3) ls (.int r :: rest))) : W p l e R s m args below meth c H locs cells slots Q (F0 m pc ls (.int p5 :: .int p4 :: .int p3 :: .int p2 :: .ref (mAd E p1) :: rest)) :=
  g_callSi F hP hS (c_X8_meets l F.2.2.2.2.2.2.2 hp1 hf) (g_cwS (n := 5) F tw_1006 tw_1007 tw_14 tw_1008 (by decide +kernel) rfl rfl hR) (As := [.ref (mAd E p1), .int p2, .int p3, .int p4, .int p5]) rfl hsz rfl hrest hdg hcs kk
theorem kc_X8_138 (F : gFx p m c cc nL s args RX8 (mG E)) (hP : gW (mG E) σ H) (hS : va_S (gA (mG E)) s.heap H locs) {p1 : Int32} {p2 : Int32} {u : Unit} {σ' : St} (hf : f_X8_coordIs p1 p2 σ = some (u, σ')) (hR : rm_X8_coordIs.frames + 1 ≤ R.frames ∧ 8 + (3 + 11) + rm_X8_coordIs.locals ≤ R.locals) (hsz : ls.size = nL) (hrest : (rest.map fun v => v.category).sum ≤ 8) (hcs : cells ≤ R.cells ∧ slots ≤ R.slots) (hdg : decode cc pc = .ok (.invokevirtual 138, 3)) (kk : ∀ (H1 : Heap) (locs1 : List Loc), gW (mG E) σ' H1 → va_S (gA (mG E)) s.heap H1 locs1 → W p l e R s m args below meth c H1 locs1 cells slots Q (F0 m (pc + 3) ls rest)) : W p l e R s m args below meth c H locs cells slots Q (F0 m pc ls (.int p2 :: .int p1 :: .ref (mAd E 0) :: rest)) :=
  g_callVv F hP hS (c_X8_coordIs l F.2.2.2.2.2.2.2 hf) (g_cwV (n := 2) F tw_765 tw_767 ts_30 tw_14 tw_768 (by decide +kernel) rfl rfl hR) (k := 0) min0 (me_0 E _) rfl (As := [.int p1, .int p2]) rfl hsz rfl hrest hdg hcs kk
theorem pf_X8_193 (F : gFx p m c cc nL s args RX8 (mG E)) (hP : gW (mG E) σ H) (hS : va_S (gA (mG E)) s.heap H locs) {x : Int32} (hdg : decode cc pc = .ok (.putfield 193, 3)) (kk : ∀ (H1 : Heap) (locs1 : List Loc), gW (mG E) (up2 σ 0 57 x) H1 → va_S (gA (mG E)) s.heap H1 locs1 → W p l e R s m args below meth c H1 locs1 cells slots Q (F0 m (pc + 3) ls rest)) : W p l e R s m args below meth c H locs cells slots Q (F0 m pc ls (.int x :: .ref (mAd E 0) :: rest)) :=
  g_put F hP hS (k := 0) min0 (me_0 E _) rfl inX8 tyX8 tyX8_ok nmX8 57 (by decide) tw_841 rfl rfl rfl rfl (Nat.le_of_ble_eq_true rfl) (x := x) (jj := 57) (me_0 E _) hdg kk
end SD
/-! PromisedSlotsModel.coordItem()V -/
def f_X8_coordItem_41 (a1 : Int32) (a2 : Int32) (s0 : Int32) (σ : St) : Option (Unit × St) :=
  if (σ 0 56) = 0 then
    gd (ix a1 4) <|
    gd (¬ a2 = 0) <|
    vl (((σ 11 (nt a1)) + s0) - ((σ 11 (nt a1)) + s0) / a2 * a2) fun x11 =>
    cl (f_X8_beatOf (σ 0 6) σ) fun r13 σ12 =>
    cl (f_X8_meets 11 (σ 0 9) x11 a2 r13 σ12) fun r16 σ15 =>
    if r16 = (-4 : Int32) then
      cl (f_X8_coordIs a1 x11 σ15) fun r20 σ19 =>
      some ((), σ19)
    else
      vl (up2 σ15 0 56 (13 : Int32)) fun σ22 =>
      vl (up2 σ22 0 57 ((20 : Int32) + r16)) fun σ23 =>
      some ((), σ23)
  else
    some ((), σ)
def f_X8_coordItem (σ : St) : Option (Unit × St) :=
  cl (f_X8_number (1 : Int32) (0 : Int32) ((σ 0 9) - (1 : Int32)) σ) fun r2 σ1 =>
  cl (f_X8_beatOf (σ1 0 5) σ1) fun r5 σ4 =>
  if (σ4 0 56) = 0 then
    cl (f_X8_number (4 : Int32) (0 : Int32) (r5 - (1 : Int32)) σ4) fun r25 σ24 =>
    f_X8_coordItem_41 r2 r5 r25 σ24
  else
    f_X8_coordItem_41 r2 r5 (0 : Int32) σ4
abbrev rm_X8_coordItem : Room := { frames := 2, cells := 0, slots := 0, locals := 50 }
set_option maxHeartbeats 4000000 in
set_option maxRecDepth 100000 in
theorem w_X8_coordItem_41 {p : Program} {l : Launch} {e : Env} {s : State} {m : MethodId} {args : Array Value} {below : List Frame} {meth : Method} {c : Code} {E : mEv} {u : Unit} {σ' : St} (B : gBx p m meth c cX8_coordItem 6 none s args RX8 (mG E)) (a1 : Int32) (a2 : Int32) (s0 : Int32) (σ : St) (hf : f_X8_coordItem_41 a1 a2 s0 σ = some (u, σ')) (H : Heap) (locs : List Loc) (ls : Array Slot) (hP : gW (mG E) σ H) (hS : va_S (gA (mG E)) s.heap H locs) (hl : lv_has ls 6 [(0, .ref (mAd E 0)), (1, .int a1), (2, .int a2)]) : W p l e rm_X8_coordItem s m args below meth c H locs 0 0 (gQv below args s (mG E) σ') (F0 m 41 ls [.int s0]) := by
  unfold f_X8_coordItem_41 at hf
  obtain ⟨F, hr, hlk⟩ := id B
  have hx := F.1
  have hb := F.2.1
  have hml := F.2.2.1
  have hown := F.2.2.2.1
  have hts := F.2.2.2.2.1
  refine lv_istore_n (lv' := [(3, .int s0), (0, .ref (mAd E 0)), (1, .int a1), (2, .int a2)]) hx hb dX8_coordItem_41 rfl hl (by decide) rfl (fun ls hl => ?_)
  refine lv_aload_n hx hb dX8_coordItem_42 rfl (lv_at hl 1 rfl) ?_
  refine gf_X8_168 F hP dX8_coordItem_43 ?_
  refine lv_if_eq (tgt := 50) hx hb dX8_coordItem_46 (by decide) (fun h8 => ?_) (fun h8 => ?_)
  · rw [if_pos h8] at hf
    refine lv_aload_n hx hb dX8_coordItem_50 rfl (lv_at hl 1 rfl) ?_
    refine gf_X8_19 F hP dX8_coordItem_51 ?_
    refine lv_iload_n hx hb dX8_coordItem_54 rfl (lv_at hl 2 rfl) ?_
    obtain ⟨h9, hf⟩ := gd_e hf
    refine m_iald F hP ⟨by decide, by decide⟩ rfl h9 dX8_coordItem_55 ?_
    refine lv_iload_n hx hb dX8_coordItem_56 rfl (lv_at hl 0 rfl) ?_
    refine lv_iadd hx hb dX8_coordItem_57 ?_
    refine lv_iload_n hx hb dX8_coordItem_58 rfl (lv_at hl 3 rfl) ?_
    obtain ⟨h10, hf⟩ := gd_e hf
    refine lv_irem hx hb dX8_coordItem_59 h10 ?_
    obtain ⟨x11, ex11, hf⟩ := vl_x hf
    rw [← ex11]
    refine lv_istore (lv' := [(4, .int x11), (3, .int s0), (0, .ref (mAd E 0)), (1, .int a1), (2, .int a2)]) hx hb dX8_coordItem_60 hl (by decide) rfl (fun ls hl => ?_)
    refine lv_aload_n hx hb dX8_coordItem_62 rfl (lv_at hl 2 rfl) ?_
    refine gf_X8_19 F hP dX8_coordItem_63 ?_
    refine lv_aload_n hx hb dX8_coordItem_66 rfl (lv_at hl 2 rfl) ?_
    refine gf_X8_151 F hP dX8_coordItem_67 ?_
    refine lv_iload hx hb dX8_coordItem_70 (lv_at hl 0 rfl) ?_
    refine lv_iload_n hx hb dX8_coordItem_72 rfl (lv_at hl 4 rfl) ?_
    refine lv_aload_n hx hb dX8_coordItem_73 rfl (lv_at hl 2 rfl) ?_
    refine gf_X8_128 F hP dX8_coordItem_74 ?_
    obtain ⟨r13, σ12, h14, hf⟩ := cl_e hf
    refine kc_X8_186 F hP hS h14 ⟨Nat.le_of_ble_eq_true rfl, Nat.le_of_ble_eq_true rfl⟩ hl.1 (Nat.le_of_ble_eq_true rfl) ⟨Nat.zero_le _, Nat.zero_le _⟩ dX8_coordItem_77 (fun H locs hP hS => ?_)
    obtain ⟨r16, σ15, h17, hf⟩ := cl_e hf
    refine kc_X8_189 F hP hS ⟨by decide, by decide⟩ h17 ⟨Nat.le_of_ble_eq_true rfl, Nat.le_of_ble_eq_true rfl⟩ hl.1 (Nat.le_of_ble_eq_true rfl) ⟨Nat.zero_le _, Nat.zero_le _⟩ dX8_coordItem_80 (fun H locs hP hS => ?_)
    refine lv_istore (lv' := [(5, .int r16), (4, .int x11), (3, .int s0), (0, .ref (mAd E 0)), (1, .int a1), (2, .int a2)]) hx hb dX8_coordItem_83 hl (by decide) rfl (fun ls hl => ?_)
    refine lv_iload hx hb dX8_coordItem_85 (lv_at hl 0 rfl) ?_
    refine lv_bipush (v := (-4)) hx hb dX8_coordItem_87 (by decide) ?_
    refine lv_icmp_eq (tgt := 108) hx hb dX8_coordItem_89 (by decide) (fun h18 => ?_) (fun h18 => ?_)
    · rw [if_pos h18] at hf
      refine lv_aload_n hx hb dX8_coordItem_108 rfl (lv_at hl 3 rfl) ?_
      refine lv_iload_n hx hb dX8_coordItem_109 rfl (lv_at hl 4 rfl) ?_
      refine lv_iload hx hb dX8_coordItem_110 (lv_at hl 1 rfl) ?_
      obtain ⟨r20, σ19, h21, hf⟩ := cl_e hf
      refine kc_X8_138 F hP hS h21 ⟨Nat.le_of_ble_eq_true rfl, Nat.le_of_ble_eq_true rfl⟩ hl.1 (Nat.le_of_ble_eq_true rfl) ⟨Nat.zero_le _, Nat.zero_le _⟩ dX8_coordItem_112 (fun H locs hP hS => ?_)
      exact g_vret B hP hS hf dX8_coordItem_115
    · rw [if_neg h18] at hf
      refine lv_aload_n hx hb dX8_coordItem_92 rfl (lv_at hl 3 rfl) ?_
      refine lv_bipush (v := (13)) hx hb dX8_coordItem_93 (by decide) ?_
      refine pf_X8_168 F hP hS dX8_coordItem_95 (fun H locs hP hS => ?_)
      obtain ⟨σ22, eσ22, hf⟩ := vl_x hf
      rw [← eσ22] at hP
      refine lv_aload_n hx hb dX8_coordItem_98 rfl (lv_at hl 3 rfl) ?_
      refine lv_bipush (v := (20)) hx hb dX8_coordItem_99 (by decide) ?_
      refine lv_iload hx hb dX8_coordItem_101 (lv_at hl 0 rfl) ?_
      refine lv_iadd hx hb dX8_coordItem_103 ?_
      refine pf_X8_193 F hP hS dX8_coordItem_104 (fun H locs hP hS => ?_)
      obtain ⟨σ23, eσ23, hf⟩ := vl_x hf
      rw [← eσ23] at hP
      exact g_vret B hP hS hf dX8_coordItem_107
  · rw [if_neg h8] at hf
    exact g_vret B hP hS hf dX8_coordItem_49
set_option maxHeartbeats 4000000 in
set_option maxRecDepth 100000 in
theorem w_X8_coordItem_e {p : Program} {l : Launch} {e : Env} {s : State} {m : MethodId} {args : Array Value} {below : List Frame} {meth : Method} {c : Code} {E : mEv} {u : Unit} {σ' : St} (B : gBx p m meth c cX8_coordItem 6 none s args RX8 (mG E)) (σ : St) (hf : f_X8_coordItem σ = some (u, σ')) (H : Heap) (locs : List Loc) (ls : Array Slot) (hP : gW (mG E) σ H) (hS : va_S (gA (mG E)) s.heap H locs) (hl : lv_has ls 6 [(0, .ref (mAd E 0))]) : W p l e rm_X8_coordItem s m args below meth c H locs 0 0 (gQv below args s (mG E) σ') (F0 m 0 ls []) := by
  unfold f_X8_coordItem at hf
  obtain ⟨F, hr, hlk⟩ := id B
  have hx := F.1
  have hb := F.2.1
  have hml := F.2.2.1
  have hown := F.2.2.2.1
  have hts := F.2.2.2.2.1
  refine lv_aload_n hx hb dX8_coordItem_0 rfl (lv_at hl 0 rfl) ?_
  refine lv_iconst (v := 1) hx hb dX8_coordItem_1 (by decide) ?_
  refine lv_iconst (v := 0) hx hb dX8_coordItem_2 (by decide) ?_
  refine lv_aload_n hx hb dX8_coordItem_3 rfl (lv_at hl 0 rfl) ?_
  refine gf_X8_151 F hP dX8_coordItem_4 ?_
  refine lv_iconst (v := 1) hx hb dX8_coordItem_7 (by decide) ?_
  refine lv_isub hx hb dX8_coordItem_8 ?_
  obtain ⟨r2, σ1, h3, hf⟩ := cl_e hf
  refine kc_X8_182 F hP hS h3 ⟨Nat.le_of_ble_eq_true rfl, Nat.le_of_ble_eq_true rfl⟩ hl.1 (Nat.le_of_ble_eq_true rfl) ⟨Nat.zero_le _, Nat.zero_le _⟩ dX8_coordItem_9 (fun H locs hP hS => ?_)
  refine lv_istore_n (lv' := [(1, .int r2), (0, .ref (mAd E 0))]) hx hb dX8_coordItem_12 rfl hl (by decide) rfl (fun ls hl => ?_)
  refine lv_aload_n hx hb dX8_coordItem_13 rfl (lv_at hl 1 rfl) ?_
  refine gf_X8_124 F hP dX8_coordItem_14 ?_
  obtain ⟨r5, σ4, h6, hf⟩ := cl_e hf
  refine kc_X8_186 F hP hS h6 ⟨Nat.le_of_ble_eq_true rfl, Nat.le_of_ble_eq_true rfl⟩ hl.1 (Nat.le_of_ble_eq_true rfl) ⟨Nat.zero_le _, Nat.zero_le _⟩ dX8_coordItem_17 (fun H locs hP hS => ?_)
  refine lv_istore_n (lv' := [(2, .int r5), (1, .int r2), (0, .ref (mAd E 0))]) hx hb dX8_coordItem_20 rfl hl (by decide) rfl (fun ls hl => ?_)
  refine lv_aload_n hx hb dX8_coordItem_21 rfl (lv_at hl 2 rfl) ?_
  refine gf_X8_168 F hP dX8_coordItem_22 ?_
  refine lv_if_ne (tgt := 40) hx hb dX8_coordItem_25 (by decide) (fun h7 => ?_) (fun h7 => ?_)
  · rw [if_neg h7] at hf
    refine lv_iconst (v := 0) hx hb dX8_coordItem_40 (by decide) ?_
    exact w_X8_coordItem_41 B _ _ _ σ4 hf _ _ _ hP hS (lv_sub hl [2, 1, 0] rfl)
  · rw [if_pos h7] at hf
    refine lv_aload_n hx hb dX8_coordItem_28 rfl (lv_at hl 2 rfl) ?_
    refine lv_iconst (v := 4) hx hb dX8_coordItem_29 (by decide) ?_
    refine lv_iconst (v := 0) hx hb dX8_coordItem_30 (by decide) ?_
    refine lv_iload_n hx hb dX8_coordItem_31 rfl (lv_at hl 0 rfl) ?_
    refine lv_iconst (v := 1) hx hb dX8_coordItem_32 (by decide) ?_
    refine lv_isub hx hb dX8_coordItem_33 ?_
    obtain ⟨r25, σ24, h26, hf⟩ := cl_e hf
    refine kc_X8_182 F hP hS h26 ⟨Nat.le_of_ble_eq_true rfl, Nat.le_of_ble_eq_true rfl⟩ hl.1 (Nat.le_of_ble_eq_true rfl) ⟨Nat.zero_le _, Nat.zero_le _⟩ dX8_coordItem_34 (fun H locs hP hS => ?_)
    refine lv_goto (tgt := 41) hx hb dX8_coordItem_37 (by decide) ?_
    exact w_X8_coordItem_41 B _ _ _ σ24 hf _ _ _ hP hS (lv_sub hl [2, 1, 0] rfl)
theorem c_X8_coordItem (l : Launch) {E : mEv} (hI : gIj (mG E)) {σ σ' : St} {u : Unit} (hf : f_X8_coordItem σ = some (u, σ')) : gMv l yX8_coordItem cX8_coordItem 6 rm_X8_coordItem [.ref (mAd E 0)] (mG E) σ σ' :=
  g_entry (by decide) (Nat.le_of_ble_eq_true rfl) hI (fun p e s m args below meth c B hP hS ls hl => w_X8_coordItem_e B σ hf _ _ ls hP hS hl)
section SD
variable {p : Program} {l : Launch} {e : Env} {R : Room} {s : State} {m : MethodId} {args : Array Value} {below : List Frame} {meth : Method} {c : Code} {H : Heap} {locs : List Loc} {cells slots : Nat} {Q : State → Prop}
variable {cc : ByteArray} {pc nL : Nat} {ls : Array Slot} {rest : List Value} {E : mEv} {σ : St}
theorem kc_X8_134 (F : gFx p m c cc nL s args RX8 (mG E)) (hP : gW (mG E) σ H) (hS : va_S (gA (mG E)) s.heap H locs) {p1 : Int32} {p2 : Int32} {p3 : Int32} {u : Unit} {σ' : St} (hf : f_X8_deviceIs p1 p2 p3 σ = some (u, σ')) (hR : rm_X8_deviceIs.frames + 1 ≤ R.frames ∧ 8 + (4 + 11) + rm_X8_deviceIs.locals ≤ R.locals) (hsz : ls.size = nL) (hrest : (rest.map fun v => v.category).sum ≤ 8) (hcs : cells ≤ R.cells ∧ slots ≤ R.slots) (hdg : decode cc pc = .ok (.invokevirtual 134, 3)) (kk : ∀ (H1 : Heap) (locs1 : List Loc), gW (mG E) σ' H1 → va_S (gA (mG E)) s.heap H1 locs1 → W p l e R s m args below meth c H1 locs1 cells slots Q (F0 m (pc + 3) ls rest)) : W p l e R s m args below meth c H locs cells slots Q (F0 m pc ls (.int p3 :: .int p2 :: .int p1 :: .ref (mAd E 0) :: rest)) :=
  g_callVv F hP hS (c_X8_deviceIs l F.2.2.2.2.2.2.2 hf) (g_cwV (n := 3) F tw_761 tw_763 ts_29 tw_14 tw_764 (by decide +kernel) rfl rfl hR) (k := 0) min0 (me_0 E _) rfl (As := [.int p1, .int p2, .int p3]) rfl hsz rfl hrest hdg hcs kk
end SD
/-! PromisedSlotsModel.deviceItem()V -/
def f_X8_deviceItem_32 (a1 : Int32) (s0 : Int32) (σ : St) : Option (Unit × St) :=
  if (σ 0 56) = 0 then
    cl (f_X8_number (1 : Int32) (0 : Int32) (3 : Int32) σ) fun r11 σ10 =>
    if (σ10 0 56) = 0 then
      cl (f_X8_deviceIs a1 s0 r11 σ10) fun r15 σ14 =>
      some ((), σ14)
    else
      some ((), σ10)
  else
    if (σ 0 56) = 0 then
      cl (f_X8_deviceIs a1 s0 (0 : Int32) σ) fun r8 σ7 =>
      some ((), σ7)
    else
      some ((), σ)
def f_X8_deviceItem (σ : St) : Option (Unit × St) :=
  cl (f_X8_number (1 : Int32) (0 : Int32) ((σ 0 9) - (1 : Int32)) σ) fun r2 σ1 =>
  if (σ1 0 56) = 0 then
    cl (f_X8_number (1 : Int32) (1 : Int32) (8 : Int32) σ1) fun r18 σ17 =>
    f_X8_deviceItem_32 r2 r18 σ17
  else
    f_X8_deviceItem_32 r2 (0 : Int32) σ1
abbrev rm_X8_deviceItem : Room := { frames := 2, cells := 0, slots := 0, locals := 50 }
set_option maxHeartbeats 4000000 in
set_option maxRecDepth 100000 in
theorem w_X8_deviceItem_32 {p : Program} {l : Launch} {e : Env} {s : State} {m : MethodId} {args : Array Value} {below : List Frame} {meth : Method} {c : Code} {E : mEv} {u : Unit} {σ' : St} (B : gBx p m meth c cX8_deviceItem 4 none s args RX8 (mG E)) (a1 : Int32) (s0 : Int32) (σ : St) (hf : f_X8_deviceItem_32 a1 s0 σ = some (u, σ')) (H : Heap) (locs : List Loc) (ls : Array Slot) (hP : gW (mG E) σ H) (hS : va_S (gA (mG E)) s.heap H locs) (hl : lv_has ls 4 [(0, .ref (mAd E 0)), (1, .int a1)]) : W p l e rm_X8_deviceItem s m args below meth c H locs 0 0 (gQv below args s (mG E) σ') (F0 m 32 ls [.int s0]) := by
  unfold f_X8_deviceItem_32 at hf
  obtain ⟨F, hr, hlk⟩ := id B
  have hx := F.1
  have hb := F.2.1
  have hml := F.2.2.1
  have hown := F.2.2.2.1
  have hts := F.2.2.2.2.1
  refine lv_istore_n (lv' := [(2, .int s0), (0, .ref (mAd E 0)), (1, .int a1)]) hx hb dX8_deviceItem_32 rfl hl (by decide) rfl (fun ls hl => ?_)
  refine lv_aload_n hx hb dX8_deviceItem_33 rfl (lv_at hl 1 rfl) ?_
  refine gf_X8_168 F hP dX8_deviceItem_34 ?_
  refine lv_if_ne (tgt := 50) hx hb dX8_deviceItem_37 (by decide) (fun h5 => ?_) (fun h5 => ?_)
  · rw [if_neg h5] at hf
    refine lv_iconst (v := 0) hx hb dX8_deviceItem_50 (by decide) ?_
    refine lv_istore_n (lv' := [(3, .int (0 : Int32)), (2, .int s0), (0, .ref (mAd E 0)), (1, .int a1)]) hx hb dX8_deviceItem_51 rfl hl (by decide) rfl (fun ls hl => ?_)
    refine lv_aload_n hx hb dX8_deviceItem_52 rfl (lv_at hl 2 rfl) ?_
    refine gf_X8_168 F hP dX8_deviceItem_53 ?_
    refine lv_if_ne (tgt := 66) hx hb dX8_deviceItem_56 (by decide) (fun h6 => ?_) (fun h6 => ?_)
    · rw [if_neg h6] at hf
      exact g_vret B hP hS hf dX8_deviceItem_66
    · rw [if_pos h6] at hf
      refine lv_aload_n hx hb dX8_deviceItem_59 rfl (lv_at hl 2 rfl) ?_
      refine lv_iload_n hx hb dX8_deviceItem_60 rfl (lv_at hl 3 rfl) ?_
      refine lv_iload_n hx hb dX8_deviceItem_61 rfl (lv_at hl 1 rfl) ?_
      refine lv_iload_n hx hb dX8_deviceItem_62 rfl (lv_at hl 0 rfl) ?_
      obtain ⟨r8, σ7, h9, hf⟩ := cl_e hf
      refine kc_X8_134 F hP hS h9 ⟨Nat.le_of_ble_eq_true rfl, Nat.le_of_ble_eq_true rfl⟩ hl.1 (Nat.le_of_ble_eq_true rfl) ⟨Nat.zero_le _, Nat.zero_le _⟩ dX8_deviceItem_63 (fun H locs hP hS => ?_)
      exact g_vret B hP hS hf dX8_deviceItem_66
  · rw [if_pos h5] at hf
    refine lv_aload_n hx hb dX8_deviceItem_40 rfl (lv_at hl 1 rfl) ?_
    refine lv_iconst (v := 1) hx hb dX8_deviceItem_41 (by decide) ?_
    refine lv_iconst (v := 0) hx hb dX8_deviceItem_42 (by decide) ?_
    refine lv_iconst (v := 3) hx hb dX8_deviceItem_43 (by decide) ?_
    obtain ⟨r11, σ10, h12, hf⟩ := cl_e hf
    refine kc_X8_182 F hP hS h12 ⟨Nat.le_of_ble_eq_true rfl, Nat.le_of_ble_eq_true rfl⟩ hl.1 (Nat.le_of_ble_eq_true rfl) ⟨Nat.zero_le _, Nat.zero_le _⟩ dX8_deviceItem_44 (fun H locs hP hS => ?_)
    refine lv_goto (tgt := 51) hx hb dX8_deviceItem_47 (by decide) ?_
    refine lv_istore_n (lv' := [(3, .int r11), (2, .int s0), (0, .ref (mAd E 0)), (1, .int a1)]) hx hb dX8_deviceItem_51 rfl hl (by decide) rfl (fun ls hl => ?_)
    refine lv_aload_n hx hb dX8_deviceItem_52 rfl (lv_at hl 2 rfl) ?_
    refine gf_X8_168 F hP dX8_deviceItem_53 ?_
    refine lv_if_ne (tgt := 66) hx hb dX8_deviceItem_56 (by decide) (fun h13 => ?_) (fun h13 => ?_)
    · rw [if_neg h13] at hf
      exact g_vret B hP hS hf dX8_deviceItem_66
    · rw [if_pos h13] at hf
      refine lv_aload_n hx hb dX8_deviceItem_59 rfl (lv_at hl 2 rfl) ?_
      refine lv_iload_n hx hb dX8_deviceItem_60 rfl (lv_at hl 3 rfl) ?_
      refine lv_iload_n hx hb dX8_deviceItem_61 rfl (lv_at hl 1 rfl) ?_
      refine lv_iload_n hx hb dX8_deviceItem_62 rfl (lv_at hl 0 rfl) ?_
      obtain ⟨r15, σ14, h16, hf⟩ := cl_e hf
      refine kc_X8_134 F hP hS h16 ⟨Nat.le_of_ble_eq_true rfl, Nat.le_of_ble_eq_true rfl⟩ hl.1 (Nat.le_of_ble_eq_true rfl) ⟨Nat.zero_le _, Nat.zero_le _⟩ dX8_deviceItem_63 (fun H locs hP hS => ?_)
      exact g_vret B hP hS hf dX8_deviceItem_66
set_option maxHeartbeats 4000000 in
set_option maxRecDepth 100000 in
theorem w_X8_deviceItem_e {p : Program} {l : Launch} {e : Env} {s : State} {m : MethodId} {args : Array Value} {below : List Frame} {meth : Method} {c : Code} {E : mEv} {u : Unit} {σ' : St} (B : gBx p m meth c cX8_deviceItem 4 none s args RX8 (mG E)) (σ : St) (hf : f_X8_deviceItem σ = some (u, σ')) (H : Heap) (locs : List Loc) (ls : Array Slot) (hP : gW (mG E) σ H) (hS : va_S (gA (mG E)) s.heap H locs) (hl : lv_has ls 4 [(0, .ref (mAd E 0))]) : W p l e rm_X8_deviceItem s m args below meth c H locs 0 0 (gQv below args s (mG E) σ') (F0 m 0 ls []) := by
  unfold f_X8_deviceItem at hf
  obtain ⟨F, hr, hlk⟩ := id B
  have hx := F.1
  have hb := F.2.1
  have hml := F.2.2.1
  have hown := F.2.2.2.1
  have hts := F.2.2.2.2.1
  refine lv_aload_n hx hb dX8_deviceItem_0 rfl (lv_at hl 0 rfl) ?_
  refine lv_iconst (v := 1) hx hb dX8_deviceItem_1 (by decide) ?_
  refine lv_iconst (v := 0) hx hb dX8_deviceItem_2 (by decide) ?_
  refine lv_aload_n hx hb dX8_deviceItem_3 rfl (lv_at hl 0 rfl) ?_
  refine gf_X8_151 F hP dX8_deviceItem_4 ?_
  refine lv_iconst (v := 1) hx hb dX8_deviceItem_7 (by decide) ?_
  refine lv_isub hx hb dX8_deviceItem_8 ?_
  obtain ⟨r2, σ1, h3, hf⟩ := cl_e hf
  refine kc_X8_182 F hP hS h3 ⟨Nat.le_of_ble_eq_true rfl, Nat.le_of_ble_eq_true rfl⟩ hl.1 (Nat.le_of_ble_eq_true rfl) ⟨Nat.zero_le _, Nat.zero_le _⟩ dX8_deviceItem_9 (fun H locs hP hS => ?_)
  refine lv_istore_n (lv' := [(1, .int r2), (0, .ref (mAd E 0))]) hx hb dX8_deviceItem_12 rfl hl (by decide) rfl (fun ls hl => ?_)
  refine lv_aload_n hx hb dX8_deviceItem_13 rfl (lv_at hl 1 rfl) ?_
  refine gf_X8_168 F hP dX8_deviceItem_14 ?_
  refine lv_if_ne (tgt := 31) hx hb dX8_deviceItem_17 (by decide) (fun h4 => ?_) (fun h4 => ?_)
  · rw [if_neg h4] at hf
    refine lv_iconst (v := 0) hx hb dX8_deviceItem_31 (by decide) ?_
    exact w_X8_deviceItem_32 B _ _ σ1 hf _ _ _ hP hS (lv_sub hl [1, 0] rfl)
  · rw [if_pos h4] at hf
    refine lv_aload_n hx hb dX8_deviceItem_20 rfl (lv_at hl 1 rfl) ?_
    refine lv_iconst (v := 1) hx hb dX8_deviceItem_21 (by decide) ?_
    refine lv_iconst (v := 1) hx hb dX8_deviceItem_22 (by decide) ?_
    refine lv_bipush (v := (8)) hx hb dX8_deviceItem_23 (by decide) ?_
    obtain ⟨r18, σ17, h19, hf⟩ := cl_e hf
    refine kc_X8_182 F hP hS h19 ⟨Nat.le_of_ble_eq_true rfl, Nat.le_of_ble_eq_true rfl⟩ hl.1 (Nat.le_of_ble_eq_true rfl) ⟨Nat.zero_le _, Nat.zero_le _⟩ dX8_deviceItem_25 (fun H locs hP hS => ?_)
    refine lv_goto (tgt := 32) hx hb dX8_deviceItem_28 (by decide) ?_
    exact w_X8_deviceItem_32 B _ _ σ17 hf _ _ _ hP hS (lv_sub hl [1, 0] rfl)
theorem c_X8_deviceItem (l : Launch) {E : mEv} (hI : gIj (mG E)) {σ σ' : St} {u : Unit} (hf : f_X8_deviceItem σ = some (u, σ')) : gMv l yX8_deviceItem cX8_deviceItem 4 rm_X8_deviceItem [.ref (mAd E 0)] (mG E) σ σ' :=
  g_entry (by decide) (Nat.le_of_ble_eq_true rfl) hI (fun p e s m args below meth c B hP hS ls hl => w_X8_deviceItem_e B σ hf _ _ ls hP hS hl)
section SD
variable {p : Program} {l : Launch} {e : Env} {R : Room} {s : State} {m : MethodId} {args : Array Value} {below : List Frame} {meth : Method} {c : Code} {H : Heap} {locs : List Loc} {cells slots : Nat} {Q : State → Prop}
variable {cc : ByteArray} {pc nL : Nat} {ls : Array Slot} {rest : List Value} {E : mEv} {σ : St}
theorem kc_X8_202 (F : gFx p m c cc nL s args RX8 (mG E)) (hP : gW (mG E) σ H) (hS : va_S (gA (mG E)) s.heap H locs) {u : Unit} {σ' : St} (hf : f_X8_deviceItem σ = some (u, σ')) (hR : rm_X8_deviceItem.frames + 1 ≤ R.frames ∧ 8 + (4 + 11) + rm_X8_deviceItem.locals ≤ R.locals) (hsz : ls.size = nL) (hrest : (rest.map fun v => v.category).sum ≤ 8) (hcs : cells ≤ R.cells ∧ slots ≤ R.slots) (hdg : decode cc pc = .ok (.invokevirtual 202, 3)) (kk : ∀ (H1 : Heap) (locs1 : List Loc), gW (mG E) σ' H1 → va_S (gA (mG E)) s.heap H1 locs1 → W p l e R s m args below meth c H1 locs1 cells slots Q (F0 m (pc + 3) ls rest)) : W p l e R s m args below meth c H locs cells slots Q (F0 m pc ls (.ref (mAd E 0) :: rest)) :=
  g_callVv F hP hS (c_X8_deviceItem l F.2.2.2.2.2.2.2 hf) (g_cwV (n := 0) F tw_1009 tw_1011 ts_40 tw_14 tw_1012 (by decide +kernel) rfl rfl hR) (k := 0) min0 (me_0 E _) rfl (As := []) rfl hsz rfl hrest hdg hcs kk
theorem kc_X8_199 (F : gFx p m c cc nL s args RX8 (mG E)) (hP : gW (mG E) σ H) (hS : va_S (gA (mG E)) s.heap H locs) {u : Unit} {σ' : St} (hf : f_X8_coordItem σ = some (u, σ')) (hR : rm_X8_coordItem.frames + 1 ≤ R.frames ∧ 8 + (6 + 11) + rm_X8_coordItem.locals ≤ R.locals) (hsz : ls.size = nL) (hrest : (rest.map fun v => v.category).sum ≤ 8) (hcs : cells ≤ R.cells ∧ slots ≤ R.slots) (hdg : decode cc pc = .ok (.invokevirtual 199, 3)) (kk : ∀ (H1 : Heap) (locs1 : List Loc), gW (mG E) σ' H1 → va_S (gA (mG E)) s.heap H1 locs1 → W p l e R s m args below meth c H1 locs1 cells slots Q (F0 m (pc + 3) ls rest)) : W p l e R s m args below meth c H locs cells slots Q (F0 m pc ls (.ref (mAd E 0) :: rest)) :=
  g_callVv F hP hS (c_X8_coordItem l F.2.2.2.2.2.2.2 hf) (g_cwV (n := 0) F tw_1002 tw_1004 ts_39 tw_14 tw_1005 (by decide +kernel) rfl rfl hR) (k := 0) min0 (me_0 E _) rfl (As := []) rfl hsz rfl hrest hdg hcs kk
theorem kc_X8_196 (F : gFx p m c cc nL s args RX8 (mG E)) (hP : gW (mG E) σ H) (hS : va_S (gA (mG E)) s.heap H locs) {u : Unit} {σ' : St} (hf : f_X8_ordersItem σ = some (u, σ')) (hR : rm_X8_ordersItem.frames + 1 ≤ R.frames ∧ 8 + (4 + 11) + rm_X8_ordersItem.locals ≤ R.locals) (hsz : ls.size = nL) (hrest : (rest.map fun v => v.category).sum ≤ 8) (hcs : cells ≤ R.cells ∧ slots ≤ R.slots) (hdg : decode cc pc = .ok (.invokevirtual 196, 3)) (kk : ∀ (H1 : Heap) (locs1 : List Loc), gW (mG E) σ' H1 → va_S (gA (mG E)) s.heap H1 locs1 → W p l e R s m args below meth c H1 locs1 cells slots Q (F0 m (pc + 3) ls rest)) : W p l e R s m args below meth c H locs cells slots Q (F0 m pc ls (.ref (mAd E 0) :: rest)) :=
  g_callVv F hP hS (c_X8_ordersItem l F.2.2.2.2.2.2.2 hf) (g_cwV (n := 0) F tw_992 tw_994 ts_37 tw_14 tw_995 (by decide +kernel) rfl rfl hR) (k := 0) min0 (me_0 E _) rfl (As := []) rfl hsz rfl hrest hdg hcs kk
end SD
/-! PromisedSlotsModel.item(IZ)V -/
def f_X8_item_107 (σ : St) : Option (Unit × St) :=
  if (σ 0 56) = 0 then
    cl (f_X8_letterAt (σ 0 2) σ) fun r10 σ9 =>
    if r10 = (59 : Int32) then
      vl (up2 σ9 0 56 (0 : Int32)) fun σ15 =>
      vl (up2 σ15 0 2 ((σ15 0 2) + (1 : Int32))) fun σ16 =>
      some ((), σ16)
    else
      vl (up2 σ9 0 56 (11 : Int32)) fun σ13 =>
      vl (up2 σ13 0 2 ((σ13 0 2) + (1 : Int32))) fun σ14 =>
      some ((), σ14)
  else
    some ((), σ)
def f_X8_item_80 (a1 : Int32) (σ : St) : Option (Unit × St) :=
  if a1 = (108 : Int32) then
    cl (f_X8_number (1 : Int32) (1 : Int32) (9 : Int32) σ) fun r18 σ17 =>
    vl (up2 σ17 0 8 r18) fun σ20 =>
    f_X8_item_107 σ20
  else
    vl (up2 σ 0 56 (10 : Int32)) fun σ7 =>
    f_X8_item_107 σ7
def f_X8_item_12 (a1 : Int32) (s0 : Int32) (s1 : Int32) (σ : St) : Option (Unit × St) :=
  if s1 = s0 then
    if a1 = (111 : Int32) then
      cl (f_X8_ordersItem σ) fun r35 σ34 =>
      f_X8_item_107 σ34
    else
      if a1 = (99 : Int32) then
        if (4 : Int32) ≤ (σ 0 9) then
          if a1 = (100 : Int32) then
            if (8 : Int32) ≤ (σ 0 12) then
              f_X8_item_80 a1 σ
            else
              cl (f_X8_deviceItem σ) fun r29 σ28 =>
              f_X8_item_107 σ28
          else
            f_X8_item_80 a1 σ
        else
          cl (f_X8_coordItem σ) fun r32 σ31 =>
          f_X8_item_107 σ31
      else
        if a1 = (100 : Int32) then
          if (8 : Int32) ≤ (σ 0 12) then
            f_X8_item_80 a1 σ
          else
            cl (f_X8_deviceItem σ) fun r23 σ22 =>
            f_X8_item_107 σ22
        else
          f_X8_item_80 a1 σ
  else
    vl (up2 σ 0 56 (10 : Int32)) fun σ37 =>
    f_X8_item_107 σ37
def f_X8_item (p1 : Int32) (p2 : Int32) (σ : St) : Option (Unit × St) :=
  if p1 = (111 : Int32) then
    f_X8_item_12 p1 (1 : Int32) p2 σ
  else
    f_X8_item_12 p1 (0 : Int32) p2 σ
abbrev rm_X8_item : Room := { frames := 3, cells := 0, slots := 0, locals := 75 }
set_option maxHeartbeats 4000000 in
set_option maxRecDepth 100000 in
theorem w_X8_item_107 {p : Program} {l : Launch} {e : Env} {s : State} {m : MethodId} {args : Array Value} {below : List Frame} {meth : Method} {c : Code} {E : mEv} {u : Unit} {σ' : St} (B : gBx p m meth c cX8_item 3 none s args RX8 (mG E)) (σ : St) (hf : f_X8_item_107 σ = some (u, σ')) (H : Heap) (locs : List Loc) (ls : Array Slot) (hP : gW (mG E) σ H) (hS : va_S (gA (mG E)) s.heap H locs) (hl : lv_has ls 3 [(0, .ref (mAd E 0))]) : W p l e rm_X8_item s m args below meth c H locs 0 0 (gQv below args s (mG E) σ') (F0 m 107 ls []) := by
  unfold f_X8_item_107 at hf
  obtain ⟨F, hr, hlk⟩ := id B
  have hx := F.1
  have hb := F.2.1
  have hml := F.2.2.1
  have hown := F.2.2.2.1
  have hts := F.2.2.2.2.1
  refine lv_aload_n hx hb dX8_item_107 rfl (lv_at hl 0 rfl) ?_
  refine gf_X8_168 F hP dX8_item_108 ?_
  refine lv_if_ne (tgt := 147) hx hb dX8_item_111 (by decide) (fun h8 => ?_) (fun h8 => ?_)
  · rw [if_neg h8] at hf
    exact g_vret B hP hS hf dX8_item_147
  · rw [if_pos h8] at hf
    refine lv_aload_n hx hb dX8_item_114 rfl (lv_at hl 0 rfl) ?_
    refine lv_aload_n hx hb dX8_item_115 rfl (lv_at hl 0 rfl) ?_
    refine lv_aload_n hx hb dX8_item_116 rfl (lv_at hl 0 rfl) ?_
    refine gf_X8_171 F hP dX8_item_117 ?_
    obtain ⟨r10, σ9, h11, hf⟩ := cl_e hf
    refine kc_X8_174 F hP hS h11 ⟨Nat.le_of_ble_eq_true rfl, Nat.le_of_ble_eq_true rfl⟩ hl.1 (Nat.le_of_ble_eq_true rfl) ⟨Nat.zero_le _, Nat.zero_le _⟩ dX8_item_120 (fun H locs hP hS => ?_)
    refine lv_bipush (v := (59)) hx hb dX8_item_123 (by decide) ?_
    refine lv_icmp_ne (tgt := 132) hx hb dX8_item_125 (by decide) (fun h12 => ?_) (fun h12 => ?_)
    · rw [if_neg h12] at hf
      refine lv_bipush (v := (11)) hx hb dX8_item_132 (by decide) ?_
      refine pf_X8_168 F hP hS dX8_item_134 (fun H locs hP hS => ?_)
      obtain ⟨σ13, eσ13, hf⟩ := vl_x hf
      rw [← eσ13] at hP
      refine lv_aload_n hx hb dX8_item_137 rfl (lv_at hl 0 rfl) ?_
      refine lv_dup hx hb dX8_item_138 rfl ?_
      refine gf_X8_171 F hP dX8_item_139 ?_
      refine lv_iconst (v := 1) hx hb dX8_item_142 (by decide) ?_
      refine lv_iadd hx hb dX8_item_143 ?_
      refine pf_X8_171 F hP hS dX8_item_144 (fun H locs hP hS => ?_)
      obtain ⟨σ14, eσ14, hf⟩ := vl_x hf
      rw [← eσ14] at hP
      exact g_vret B hP hS hf dX8_item_147
    · rw [if_pos h12] at hf
      refine lv_iconst (v := 0) hx hb dX8_item_128 (by decide) ?_
      refine lv_goto (tgt := 134) hx hb dX8_item_129 (by decide) ?_
      refine pf_X8_168 F hP hS dX8_item_134 (fun H locs hP hS => ?_)
      obtain ⟨σ15, eσ15, hf⟩ := vl_x hf
      rw [← eσ15] at hP
      refine lv_aload_n hx hb dX8_item_137 rfl (lv_at hl 0 rfl) ?_
      refine lv_dup hx hb dX8_item_138 rfl ?_
      refine gf_X8_171 F hP dX8_item_139 ?_
      refine lv_iconst (v := 1) hx hb dX8_item_142 (by decide) ?_
      refine lv_iadd hx hb dX8_item_143 ?_
      refine pf_X8_171 F hP hS dX8_item_144 (fun H locs hP hS => ?_)
      obtain ⟨σ16, eσ16, hf⟩ := vl_x hf
      rw [← eσ16] at hP
      exact g_vret B hP hS hf dX8_item_147
set_option maxHeartbeats 4000000 in
set_option maxRecDepth 100000 in
theorem w_X8_item_80 {p : Program} {l : Launch} {e : Env} {s : State} {m : MethodId} {args : Array Value} {below : List Frame} {meth : Method} {c : Code} {E : mEv} {u : Unit} {σ' : St} (B : gBx p m meth c cX8_item 3 none s args RX8 (mG E)) (a1 : Int32) (σ : St) (hf : f_X8_item_80 a1 σ = some (u, σ')) (H : Heap) (locs : List Loc) (ls : Array Slot) (hP : gW (mG E) σ H) (hS : va_S (gA (mG E)) s.heap H locs) (hl : lv_has ls 3 [(0, .ref (mAd E 0)), (1, .int a1)]) : W p l e rm_X8_item s m args below meth c H locs 0 0 (gQv below args s (mG E) σ') (F0 m 80 ls []) := by
  unfold f_X8_item_80 at hf
  obtain ⟨F, hr, hlk⟩ := id B
  have hx := F.1
  have hb := F.2.1
  have hml := F.2.2.1
  have hown := F.2.2.2.1
  have hts := F.2.2.2.2.1
  refine lv_iload_n hx hb dX8_item_80 rfl (lv_at hl 1 rfl) ?_
  refine lv_bipush (v := (108)) hx hb dX8_item_81 (by decide) ?_
  refine lv_icmp_ne (tgt := 101) hx hb dX8_item_83 (by decide) (fun h6 => ?_) (fun h6 => ?_)
  · rw [if_neg h6] at hf
    refine lv_aload_n hx hb dX8_item_101 rfl (lv_at hl 0 rfl) ?_
    refine lv_bipush (v := (10)) hx hb dX8_item_102 (by decide) ?_
    refine pf_X8_168 F hP hS dX8_item_104 (fun H locs hP hS => ?_)
    obtain ⟨σ7, eσ7, hf⟩ := vl_x hf
    rw [← eσ7] at hP
    exact w_X8_item_107 B σ7 hf _ _ _ hP hS (lv_sub hl [0] rfl)
  · rw [if_pos h6] at hf
    refine lv_aload_n hx hb dX8_item_86 rfl (lv_at hl 0 rfl) ?_
    refine lv_aload_n hx hb dX8_item_87 rfl (lv_at hl 0 rfl) ?_
    refine lv_iconst (v := 1) hx hb dX8_item_88 (by decide) ?_
    refine lv_iconst (v := 1) hx hb dX8_item_89 (by decide) ?_
    refine lv_bipush (v := (9)) hx hb dX8_item_90 (by decide) ?_
    obtain ⟨r18, σ17, h19, hf⟩ := cl_e hf
    refine kc_X8_182 F hP hS h19 ⟨Nat.le_of_ble_eq_true rfl, Nat.le_of_ble_eq_true rfl⟩ hl.1 (Nat.le_of_ble_eq_true rfl) ⟨Nat.zero_le _, Nat.zero_le _⟩ dX8_item_92 (fun H locs hP hS => ?_)
    refine pf_X8_142 F hP hS dX8_item_95 (fun H locs hP hS => ?_)
    obtain ⟨σ20, eσ20, hf⟩ := vl_x hf
    rw [← eσ20] at hP
    refine lv_goto (tgt := 107) hx hb dX8_item_98 (by decide) ?_
    exact w_X8_item_107 B σ20 hf _ _ _ hP hS (lv_sub hl [0] rfl)
set_option maxHeartbeats 4000000 in
set_option maxRecDepth 100000 in
theorem w_X8_item_12 {p : Program} {l : Launch} {e : Env} {s : State} {m : MethodId} {args : Array Value} {below : List Frame} {meth : Method} {c : Code} {E : mEv} {u : Unit} {σ' : St} (B : gBx p m meth c cX8_item 3 none s args RX8 (mG E)) (a1 : Int32) (s0 : Int32) (s1 : Int32) (σ : St) (hf : f_X8_item_12 a1 s0 s1 σ = some (u, σ')) (H : Heap) (locs : List Loc) (ls : Array Slot) (hP : gW (mG E) σ H) (hS : va_S (gA (mG E)) s.heap H locs) (hl : lv_has ls 3 [(0, .ref (mAd E 0)), (1, .int a1)]) : W p l e rm_X8_item s m args below meth c H locs 0 0 (gQv below args s (mG E) σ') (F0 m 12 ls [.int s0, .int s1]) := by
  unfold f_X8_item_12 at hf
  obtain ⟨F, hr, hlk⟩ := id B
  have hx := F.1
  have hb := F.2.1
  have hml := F.2.2.1
  have hown := F.2.2.2.1
  have hts := F.2.2.2.2.1
  refine lv_icmp_eq (tgt := 24) hx hb dX8_item_12 (by decide) (fun h2 => ?_) (fun h2 => ?_)
  · rw [if_pos h2] at hf
    refine lv_iload_n hx hb dX8_item_24 rfl (lv_at hl 1 rfl) ?_
    refine lv_bipush (v := (111)) hx hb dX8_item_25 (by decide) ?_
    refine lv_icmp_ne (tgt := 37) hx hb dX8_item_27 (by decide) (fun h3 => ?_) (fun h3 => ?_)
    · rw [if_neg h3] at hf
      refine lv_iload_n hx hb dX8_item_37 rfl (lv_at hl 1 rfl) ?_
      refine lv_bipush (v := (99)) hx hb dX8_item_38 (by decide) ?_
      refine lv_icmp_ne (tgt := 58) hx hb dX8_item_40 (by decide) (fun h4 => ?_) (fun h4 => ?_)
      · rw [if_neg h4] at hf
        refine lv_iload_n hx hb dX8_item_58 rfl (lv_at hl 1 rfl) ?_
        refine lv_bipush (v := (100)) hx hb dX8_item_59 (by decide) ?_
        refine lv_icmp_ne (tgt := 80) hx hb dX8_item_61 (by decide) (fun h5 => ?_) (fun h5 => ?_)
        · rw [if_neg h5] at hf
          exact w_X8_item_80 B _ σ hf _ _ _ hP hS (lv_sub hl [0, 1] rfl)
        · rw [if_pos h5] at hf
          refine lv_aload_n hx hb dX8_item_64 rfl (lv_at hl 0 rfl) ?_
          refine gf_X8_154 F hP dX8_item_65 ?_
          refine lv_bipush (v := (8)) hx hb dX8_item_68 (by decide) ?_
          refine lv_icmp_ge (tgt := 80) hx hb dX8_item_70 (by decide) (fun h21 => ?_) (fun h21 => ?_)
          · rw [if_pos h21] at hf
            exact w_X8_item_80 B _ σ hf _ _ _ hP hS (lv_sub hl [0, 1] rfl)
          · rw [if_neg h21] at hf
            refine lv_aload_n hx hb dX8_item_73 rfl (lv_at hl 0 rfl) ?_
            obtain ⟨r23, σ22, h24, hf⟩ := cl_e hf
            refine kc_X8_202 F hP hS h24 ⟨Nat.le_of_ble_eq_true rfl, Nat.le_of_ble_eq_true rfl⟩ hl.1 (Nat.le_of_ble_eq_true rfl) ⟨Nat.zero_le _, Nat.zero_le _⟩ dX8_item_74 (fun H locs hP hS => ?_)
            refine lv_goto (tgt := 107) hx hb dX8_item_77 (by decide) ?_
            exact w_X8_item_107 B σ22 hf _ _ _ hP hS (lv_sub hl [0] rfl)
      · rw [if_pos h4] at hf
        refine lv_aload_n hx hb dX8_item_43 rfl (lv_at hl 0 rfl) ?_
        refine gf_X8_151 F hP dX8_item_44 ?_
        refine lv_iconst (v := 4) hx hb dX8_item_47 (by decide) ?_
        refine lv_icmp_ge (tgt := 58) hx hb dX8_item_48 (by decide) (fun h25 => ?_) (fun h25 => ?_)
        · rw [if_pos h25] at hf
          refine lv_iload_n hx hb dX8_item_58 rfl (lv_at hl 1 rfl) ?_
          refine lv_bipush (v := (100)) hx hb dX8_item_59 (by decide) ?_
          refine lv_icmp_ne (tgt := 80) hx hb dX8_item_61 (by decide) (fun h26 => ?_) (fun h26 => ?_)
          · rw [if_neg h26] at hf
            exact w_X8_item_80 B _ σ hf _ _ _ hP hS (lv_sub hl [0, 1] rfl)
          · rw [if_pos h26] at hf
            refine lv_aload_n hx hb dX8_item_64 rfl (lv_at hl 0 rfl) ?_
            refine gf_X8_154 F hP dX8_item_65 ?_
            refine lv_bipush (v := (8)) hx hb dX8_item_68 (by decide) ?_
            refine lv_icmp_ge (tgt := 80) hx hb dX8_item_70 (by decide) (fun h27 => ?_) (fun h27 => ?_)
            · rw [if_pos h27] at hf
              exact w_X8_item_80 B _ σ hf _ _ _ hP hS (lv_sub hl [0, 1] rfl)
            · rw [if_neg h27] at hf
              refine lv_aload_n hx hb dX8_item_73 rfl (lv_at hl 0 rfl) ?_
              obtain ⟨r29, σ28, h30, hf⟩ := cl_e hf
              refine kc_X8_202 F hP hS h30 ⟨Nat.le_of_ble_eq_true rfl, Nat.le_of_ble_eq_true rfl⟩ hl.1 (Nat.le_of_ble_eq_true rfl) ⟨Nat.zero_le _, Nat.zero_le _⟩ dX8_item_74 (fun H locs hP hS => ?_)
              refine lv_goto (tgt := 107) hx hb dX8_item_77 (by decide) ?_
              exact w_X8_item_107 B σ28 hf _ _ _ hP hS (lv_sub hl [0] rfl)
        · rw [if_neg h25] at hf
          refine lv_aload_n hx hb dX8_item_51 rfl (lv_at hl 0 rfl) ?_
          obtain ⟨r32, σ31, h33, hf⟩ := cl_e hf
          refine kc_X8_199 F hP hS h33 ⟨Nat.le_of_ble_eq_true rfl, Nat.le_of_ble_eq_true rfl⟩ hl.1 (Nat.le_of_ble_eq_true rfl) ⟨Nat.zero_le _, Nat.zero_le _⟩ dX8_item_52 (fun H locs hP hS => ?_)
          refine lv_goto (tgt := 107) hx hb dX8_item_55 (by decide) ?_
          exact w_X8_item_107 B σ31 hf _ _ _ hP hS (lv_sub hl [0] rfl)
    · rw [if_pos h3] at hf
      refine lv_aload_n hx hb dX8_item_30 rfl (lv_at hl 0 rfl) ?_
      obtain ⟨r35, σ34, h36, hf⟩ := cl_e hf
      refine kc_X8_196 F hP hS h36 ⟨Nat.le_of_ble_eq_true rfl, Nat.le_of_ble_eq_true rfl⟩ hl.1 (Nat.le_of_ble_eq_true rfl) ⟨Nat.zero_le _, Nat.zero_le _⟩ dX8_item_31 (fun H locs hP hS => ?_)
      refine lv_goto (tgt := 107) hx hb dX8_item_34 (by decide) ?_
      exact w_X8_item_107 B σ34 hf _ _ _ hP hS (lv_sub hl [0] rfl)
  · rw [if_neg h2] at hf
    refine lv_aload_n hx hb dX8_item_15 rfl (lv_at hl 0 rfl) ?_
    refine lv_bipush (v := (10)) hx hb dX8_item_16 (by decide) ?_
    refine pf_X8_168 F hP hS dX8_item_18 (fun H locs hP hS => ?_)
    obtain ⟨σ37, eσ37, hf⟩ := vl_x hf
    rw [← eσ37] at hP
    refine lv_goto (tgt := 107) hx hb dX8_item_21 (by decide) ?_
    exact w_X8_item_107 B σ37 hf _ _ _ hP hS (lv_sub hl [0] rfl)
set_option maxHeartbeats 4000000 in
set_option maxRecDepth 100000 in
theorem w_X8_item_e {p : Program} {l : Launch} {e : Env} {s : State} {m : MethodId} {args : Array Value} {below : List Frame} {meth : Method} {c : Code} {E : mEv} {u : Unit} {σ' : St} (B : gBx p m meth c cX8_item 3 none s args RX8 (mG E)) (p1 : Int32) (p2 : Int32) (σ : St) (hf : f_X8_item p1 p2 σ = some (u, σ')) (H : Heap) (locs : List Loc) (ls : Array Slot) (hP : gW (mG E) σ H) (hS : va_S (gA (mG E)) s.heap H locs) (hl : lv_has ls 3 [(0, .ref (mAd E 0)), (1, .int p1), (2, .int p2)]) : W p l e rm_X8_item s m args below meth c H locs 0 0 (gQv below args s (mG E) σ') (F0 m 0 ls []) := by
  unfold f_X8_item at hf
  obtain ⟨F, hr, hlk⟩ := id B
  have hx := F.1
  have hb := F.2.1
  have hml := F.2.2.1
  have hown := F.2.2.2.1
  have hts := F.2.2.2.2.1
  refine lv_iload_n hx hb dX8_item_0 rfl (lv_at hl 2 rfl) ?_
  refine lv_iload_n hx hb dX8_item_1 rfl (lv_at hl 1 rfl) ?_
  refine lv_bipush (v := (111)) hx hb dX8_item_2 (by decide) ?_
  refine lv_icmp_ne (tgt := 11) hx hb dX8_item_4 (by decide) (fun h1 => ?_) (fun h1 => ?_)
  · rw [if_neg h1] at hf
    refine lv_iconst (v := 0) hx hb dX8_item_11 (by decide) ?_
    exact w_X8_item_12 B _ _ _ σ hf _ _ _ hP hS (lv_sub hl [0, 1] rfl)
  · rw [if_pos h1] at hf
    refine lv_iconst (v := 1) hx hb dX8_item_7 (by decide) ?_
    refine lv_goto (tgt := 12) hx hb dX8_item_8 (by decide) ?_
    exact w_X8_item_12 B _ _ _ σ hf _ _ _ hP hS (lv_sub hl [0, 1] rfl)
theorem c_X8_item (l : Launch) {E : mEv} (hI : gIj (mG E)) {p1 : Int32} {p2 : Int32} {σ σ' : St} {u : Unit} (hf : f_X8_item p1 p2 σ = some (u, σ')) : gMv l yX8_item cX8_item 3 rm_X8_item [.ref (mAd E 0), .int p1, .int p2] (mG E) σ σ' :=
  g_entry (by decide) (Nat.le_of_ble_eq_true rfl) hI (fun p e s m args below meth c B hP hS ls hl => w_X8_item_e B _ _ σ hf _ _ ls hP hS hl)
section SD
variable {p : Program} {l : Launch} {e : Env} {R : Room} {s : State} {m : MethodId} {args : Array Value} {below : List Frame} {meth : Method} {c : Code} {H : Heap} {locs : List Loc} {cells slots : Nat} {Q : State → Prop}
variable {cc : ByteArray} {pc nL : Nat} {ls : Array Slot} {rest : List Value} {E : mEv} {σ : St}
theorem pf_X8_148 (F : gFx p m c cc nL s args RX8 (mG E)) (hP : gW (mG E) σ H) (hS : va_S (gA (mG E)) s.heap H locs) {x : Int32} (hdg : decode cc pc = .ok (.putfield 148, 3)) (kk : ∀ (H1 : Heap) (locs1 : List Loc), gW (mG E) (up2 σ 0 3 x) H1 → va_S (gA (mG E)) s.heap H1 locs1 → W p l e R s m args below meth c H1 locs1 cells slots Q (F0 m (pc + 3) ls rest)) : W p l e R s m args below meth c H locs cells slots Q (F0 m pc ls (.int x :: .ref (mAd E 0) :: rest)) :=
  g_put F hP hS (k := 0) min0 (me_0 E _) rfl inX8 tyX8 tyX8_ok nmX8 3 (by decide) tw_787 rfl rfl rfl rfl (Nat.le_of_ble_eq_true rfl) (x := x) (jj := 3) (me_0 E _) hdg kk
end SD
/-! PromisedSlotsModel.refusesText(III)I -/
def f_X8_refusesText_10 (a1 : Int32) (a2 : Int32) (a3 : Int32) (s0 : Int32) (σ : St) : Option (Int32 × St) :=
  vl (up2 σ 0 3 s0) fun σ2 =>
  gd (ix (0 : Int32) 3) <|
  vl (up2 σ2 4 (nt (0 : Int32)) (1 : Int32)) fun σ4 =>
  gd (ix (1 : Int32) 3) <|
  vl (up2 σ4 4 (nt (1 : Int32)) a2) fun σ6 =>
  gd (ix (2 : Int32) 3) <|
  vl (up2 σ6 4 (nt (2 : Int32)) a3) fun σ8 =>
  some (a1, σ8)
def f_X8_refusesText (p1 : Int32) (p2 : Int32) (p3 : Int32) (σ : St) : Option (Int32 × St) :=
  if p3 = 0 then
    f_X8_refusesText_10 p1 p2 p3 (2 : Int32) σ
  else
    f_X8_refusesText_10 p1 p2 p3 (3 : Int32) σ
abbrev rm_X8_refusesText : Room := { frames := 0, cells := 0, slots := 0, locals := 0 }
set_option maxHeartbeats 4000000 in
set_option maxRecDepth 100000 in
theorem w_X8_refusesText_10 {p : Program} {l : Launch} {e : Env} {s : State} {m : MethodId} {args : Array Value} {below : List Frame} {meth : Method} {c : Code} {E : mEv} {r : Int32} {σ' : St} (B : gBx p m meth c cX8_refusesText 4 (some .int) s args RX8 (mG E)) (a1 : Int32) (a2 : Int32) (a3 : Int32) (s0 : Int32) (σ : St) (hf : f_X8_refusesText_10 a1 a2 a3 s0 σ = some (r, σ')) (H : Heap) (locs : List Loc) (ls : Array Slot) (hP : gW (mG E) σ H) (hS : va_S (gA (mG E)) s.heap H locs) (hl : lv_has ls 4 [(0, .ref (mAd E 0)), (1, .int a1), (2, .int a2), (3, .int a3)]) : W p l e rm_X8_refusesText s m args below meth c H locs 0 0 (gQi below args s (mG E) r σ') (F0 m 10 ls [.int s0, .ref (mAd E 0)]) := by
  unfold f_X8_refusesText_10 at hf
  obtain ⟨F, hr, hlk⟩ := id B
  have hx := F.1
  have hb := F.2.1
  have hml := F.2.2.1
  have hown := F.2.2.2.1
  have hts := F.2.2.2.2.1
  refine pf_X8_148 F hP hS dX8_refusesText_10 (fun H locs hP hS => ?_)
  obtain ⟨σ2, eσ2, hf⟩ := vl_x hf
  rw [← eσ2] at hP
  refine lv_aload_n hx hb dX8_refusesText_13 rfl (lv_at hl 0 rfl) ?_
  refine gf_X8_13 F hP dX8_refusesText_14 ?_
  refine lv_iconst (v := 0) hx hb dX8_refusesText_17 (by decide) ?_
  refine lv_iconst (v := 1) hx hb dX8_refusesText_18 (by decide) ?_
  obtain ⟨h3, hf⟩ := gd_e hf
  refine m_iast F hP hS ⟨by decide, by decide⟩ rfl h3 dX8_refusesText_19 (fun H locs hP hS => ?_)
  obtain ⟨σ4, eσ4, hf⟩ := vl_x hf
  rw [← eσ4] at hP
  refine lv_aload_n hx hb dX8_refusesText_20 rfl (lv_at hl 0 rfl) ?_
  refine gf_X8_13 F hP dX8_refusesText_21 ?_
  refine lv_iconst (v := 1) hx hb dX8_refusesText_24 (by decide) ?_
  refine lv_iload_n hx hb dX8_refusesText_25 rfl (lv_at hl 2 rfl) ?_
  obtain ⟨h5, hf⟩ := gd_e hf
  refine m_iast F hP hS ⟨by decide, by decide⟩ rfl h5 dX8_refusesText_26 (fun H locs hP hS => ?_)
  obtain ⟨σ6, eσ6, hf⟩ := vl_x hf
  rw [← eσ6] at hP
  refine lv_aload_n hx hb dX8_refusesText_27 rfl (lv_at hl 0 rfl) ?_
  refine gf_X8_13 F hP dX8_refusesText_28 ?_
  refine lv_iconst (v := 2) hx hb dX8_refusesText_31 (by decide) ?_
  refine lv_iload_n hx hb dX8_refusesText_32 rfl (lv_at hl 3 rfl) ?_
  obtain ⟨h7, hf⟩ := gd_e hf
  refine m_iast F hP hS ⟨by decide, by decide⟩ rfl h7 dX8_refusesText_33 (fun H locs hP hS => ?_)
  obtain ⟨σ8, eσ8, hf⟩ := vl_x hf
  rw [← eσ8] at hP
  refine lv_iload_n hx hb dX8_refusesText_34 rfl (lv_at hl 1 rfl) ?_
  exact g_iret B hP hS hf dX8_refusesText_35
set_option maxHeartbeats 4000000 in
set_option maxRecDepth 100000 in
theorem w_X8_refusesText_e {p : Program} {l : Launch} {e : Env} {s : State} {m : MethodId} {args : Array Value} {below : List Frame} {meth : Method} {c : Code} {E : mEv} {r : Int32} {σ' : St} (B : gBx p m meth c cX8_refusesText 4 (some .int) s args RX8 (mG E)) (p1 : Int32) (p2 : Int32) (p3 : Int32) (σ : St) (hf : f_X8_refusesText p1 p2 p3 σ = some (r, σ')) (H : Heap) (locs : List Loc) (ls : Array Slot) (hP : gW (mG E) σ H) (hS : va_S (gA (mG E)) s.heap H locs) (hl : lv_has ls 4 [(0, .ref (mAd E 0)), (1, .int p1), (2, .int p2), (3, .int p3)]) : W p l e rm_X8_refusesText s m args below meth c H locs 0 0 (gQi below args s (mG E) r σ') (F0 m 0 ls []) := by
  unfold f_X8_refusesText at hf
  obtain ⟨F, hr, hlk⟩ := id B
  have hx := F.1
  have hb := F.2.1
  have hml := F.2.2.1
  have hown := F.2.2.2.1
  have hts := F.2.2.2.2.1
  refine lv_aload_n hx hb dX8_refusesText_0 rfl (lv_at hl 0 rfl) ?_
  refine lv_iload_n hx hb dX8_refusesText_1 rfl (lv_at hl 3 rfl) ?_
  refine lv_if_ne (tgt := 9) hx hb dX8_refusesText_2 (by decide) (fun h1 => ?_) (fun h1 => ?_)
  · rw [if_neg h1] at hf
    refine lv_iconst (v := 3) hx hb dX8_refusesText_9 (by decide) ?_
    exact w_X8_refusesText_10 B _ _ _ _ σ hf _ _ _ hP hS (lv_sub hl [0, 1, 2, 3] rfl)
  · rw [if_pos h1] at hf
    refine lv_iconst (v := 2) hx hb dX8_refusesText_5 (by decide) ?_
    refine lv_goto (tgt := 10) hx hb dX8_refusesText_6 (by decide) ?_
    exact w_X8_refusesText_10 B _ _ _ _ σ hf _ _ _ hP hS (lv_sub hl [0, 1, 2, 3] rfl)
theorem c_X8_refusesText (l : Launch) {E : mEv} (hI : gIj (mG E)) {p1 : Int32} {p2 : Int32} {p3 : Int32} {σ σ' : St} {r : Int32} (hf : f_X8_refusesText p1 p2 p3 σ = some (r, σ')) : gMi l yX8_refusesText cX8_refusesText 4 .int rm_X8_refusesText [.ref (mAd E 0), .int p1, .int p2, .int p3] (mG E) σ r σ' :=
  g_entry (by decide) (Nat.le_of_ble_eq_true rfl) hI (fun p e s m args below meth c B hP hS ls hl => w_X8_refusesText_e B _ _ _ σ hf _ _ ls hP hS hl)
section SD
variable {p : Program} {l : Launch} {e : Env} {R : Room} {s : State} {m : MethodId} {args : Array Value} {below : List Frame} {meth : Method} {c : Code} {H : Heap} {locs : List Loc} {cells slots : Nat} {Q : State → Prop}
variable {cc : ByteArray} {pc nL : Nat} {ls : Array Slot} {rest : List Value} {E : mEv} {σ : St}
theorem kc_X8_121 (F : gFx p m c cc nL s args RX8 (mG E)) (hP : gW (mG E) σ H) (hS : va_S (gA (mG E)) s.heap H locs) {u : Unit} {σ' : St} (hf : f_X8_empty σ = some (u, σ')) (hR : rm_X8_empty.frames + 1 ≤ R.frames ∧ 8 + (1 + 11) + rm_X8_empty.locals ≤ R.locals) (hsz : ls.size = nL) (hrest : (rest.map fun v => v.category).sum ≤ 8) (hcs : cells ≤ R.cells ∧ slots ≤ R.slots) (hdg : decode cc pc = .ok (.invokevirtual 121, 3)) (kk : ∀ (H1 : Heap) (locs1 : List Loc), gW (mG E) σ' H1 → va_S (gA (mG E)) s.heap H1 locs1 → W p l e R s m args below meth c H1 locs1 cells slots Q (F0 m (pc + 3) ls rest)) : W p l e R s m args below meth c H locs cells slots Q (F0 m pc ls (.ref (mAd E 0) :: rest)) :=
  g_callVv F hP hS (c_X8_empty l F.2.2.2.2.2.2.2 hf) (g_cwV (n := 0) F tw_757 tw_759 ts_28 tw_14 tw_760 (by decide +kernel) rfl rfl hR) (k := 0) min0 (me_0 E _) rfl (As := []) rfl hsz rfl hrest hdg hcs kk
theorem kc_X8_205 (F : gFx p m c cc nL s args RX8 (mG E)) (hP : gW (mG E) σ H) (hS : va_S (gA (mG E)) s.heap H locs) {p1 : Int32} {p2 : Int32} {u : Unit} {σ' : St} (hf : f_X8_item p1 p2 σ = some (u, σ')) (hR : rm_X8_item.frames + 1 ≤ R.frames ∧ 8 + (3 + 11) + rm_X8_item.locals ≤ R.locals) (hsz : ls.size = nL) (hrest : (rest.map fun v => v.category).sum ≤ 8) (hcs : cells ≤ R.cells ∧ slots ≤ R.slots) (hdg : decode cc pc = .ok (.invokevirtual 205, 3)) (kk : ∀ (H1 : Heap) (locs1 : List Loc), gW (mG E) σ' H1 → va_S (gA (mG E)) s.heap H1 locs1 → W p l e R s m args below meth c H1 locs1 cells slots Q (F0 m (pc + 3) ls rest)) : W p l e R s m args below meth c H locs cells slots Q (F0 m pc ls (.int p2 :: .int p1 :: .ref (mAd E 0) :: rest)) :=
  g_callVv F hP hS (c_X8_item l F.2.2.2.2.2.2.2 hf) (g_cwV (n := 2) F tw_988 tw_990 ts_36 tw_14 tw_991 (by decide +kernel) rfl rfl hR) (k := 0) min0 (me_0 E _) rfl (As := [.int p1, .int p2]) rfl hsz rfl hrest hdg hcs kk
theorem gf_X8_193 (F : gFx p m c cc nL s args RX8 (mG E)) (hP : gW (mG E) σ H) (hdg : decode cc pc = .ok (.getfield 193, 3)) (kk : W p l e R s m args below meth c H locs cells slots Q (F0 m (pc + 3) ls (.int (σ 0 57) :: rest))) : W p l e R s m args below meth c H locs cells slots Q (F0 m pc ls (.ref (mAd E 0) :: rest)) :=
  g_get F hP (k := 0) min0 (me_0 E _) rfl inX8 57 (by decide) tw_841 rfl rfl hdg kk
theorem kc_X8_209 (F : gFx p m c cc nL s args RX8 (mG E)) (hP : gW (mG E) σ H) (hS : va_S (gA (mG E)) s.heap H locs) {p1 : Int32} {p2 : Int32} {p3 : Int32} {r : Int32} {σ' : St} (hf : f_X8_refusesText p1 p2 p3 σ = some (r, σ')) (hR : rm_X8_refusesText.frames + 1 ≤ R.frames ∧ 8 + (4 + 11) + rm_X8_refusesText.locals ≤ R.locals) (hsz : ls.size = nL) (hrest : (rest.map fun v => v.category).sum ≤ 8) (hcs : cells ≤ R.cells ∧ slots ≤ R.slots) (hdg : decode cc pc = .ok (.invokevirtual 209, 3)) (kk : ∀ (H1 : Heap) (locs1 : List Loc), gW (mG E) σ' H1 → va_S (gA (mG E)) s.heap H1 locs1 → W p l e R s m args below meth c H1 locs1 cells slots Q (F0 m (pc + 3) ls (.int r :: rest))) : W p l e R s m args below meth c H locs cells slots Q (F0 m pc ls (.int p3 :: .int p2 :: .int p1 :: .ref (mAd E 0) :: rest)) :=
  g_callVi F hP hS (c_X8_refusesText l F.2.2.2.2.2.2.2 hf) (g_cwV (n := 3) F tw_1013 tw_1015 ts_41 tw_14 tw_1016 (by decide +kernel) rfl rfl hR) (k := 0) min0 (me_0 E _) rfl (As := [.int p1, .int p2, .int p3]) rfl hsz rfl hrest hdg hcs kk
end SD
/-! PromisedSlotsModel.readAll()I -/
def b_X8_readAll_14 (K14 : (St → Option (Int32 × St))) (σ : St) : Option (Int32 × St) :=
  if (σ 0 0) ≤ (σ 0 2) then
    some ((-4 : Int32), σ)
  else
    vl (σ 0 2) fun x7 =>
    vl (up2 σ 0 2 ((σ 0 2) + (1 : Int32))) fun σ8 =>
    vl (up2 σ8 0 56 (0 : Int32)) fun σ9 =>
    vl (up2 σ9 0 57 (0 : Int32)) fun σ10 =>
    cl (f_X8_letterAt x7 σ10) fun r12 σ11 =>
    if x7 = 0 then
      cl (f_X8_item r12 (1 : Int32) σ11) fun r23 σ22 =>
      if (σ22 0 56) = 0 then
        K14 σ22
      else
        cl (f_X8_refusesText x7 (σ22 0 56) (σ22 0 57) σ22) fun r27 σ26 =>
        some (r27, σ26)
    else
      cl (f_X8_item r12 (0 : Int32) σ11) fun r16 σ15 =>
      if (σ15 0 56) = 0 then
        K14 σ15
      else
        cl (f_X8_refusesText x7 (σ15 0 56) (σ15 0 57) σ15) fun r20 σ19 =>
        some (r20, σ19)
def f_X8_readAll (σ : St) : Option (Int32 × St) :=
  cl (f_X8_empty σ) fun r2 σ1 =>
  vl (up2 σ1 0 2 (0 : Int32)) fun σ4 =>
  vl (up2 σ4 0 3 (0 : Int32)) fun σ5 =>
  lp (fun K a => b_X8_readAll_14 K a) FU σ5
abbrev rm_X8_readAll : Room := { frames := 4, cells := 0, slots := 0, locals := 97 }
def P_X8_readAll_14 (p : Program) (l : Launch) (e : Env) (s : State) (m : MethodId) (args : Array Value) (below : List Frame) (meth : Method) (c : Code) (E : mEv) (r : Int32) (σ' : St) (a : St) : Prop := ∀ (H : Heap) (locs : List Loc) (ls : Array Slot), gW (mG E) a H → va_S (gA (mG E)) s.heap H locs → lv_has ls 2 [(0, .ref (mAd E 0))] → W p l e rm_X8_readAll s m args below meth c H locs 0 0 (gQi below args s (mG E) r σ') (F0 m 14 ls [])
set_option maxHeartbeats 4000000 in
set_option maxRecDepth 100000 in
theorem w_X8_readAll_14 {p : Program} {l : Launch} {e : Env} {s : State} {m : MethodId} {args : Array Value} {below : List Frame} {meth : Method} {c : Code} {E : mEv} {r : Int32} {σ' : St} (B : gBx p m meth c cX8_readAll 2 (some .int) s args RX8 (mG E)) {K14 : (St → Option (Int32 × St))} (hK14 : ∀ a, K14 a = some (r, σ') → P_X8_readAll_14 p l e s m args below meth c E r σ' a) (σ : St) (hf : b_X8_readAll_14 K14 σ = some (r, σ')) (H : Heap) (locs : List Loc) (ls : Array Slot) (hP : gW (mG E) σ H) (hS : va_S (gA (mG E)) s.heap H locs) (hl : lv_has ls 2 [(0, .ref (mAd E 0))]) : W p l e rm_X8_readAll s m args below meth c H locs 0 0 (gQi below args s (mG E) r σ') (F0 m 14 ls []) := by
  unfold b_X8_readAll_14 at hf
  obtain ⟨F, hr, hlk⟩ := id B
  have hx := F.1
  have hb := F.2.1
  have hml := F.2.2.1
  have hown := F.2.2.2.1
  have hts := F.2.2.2.2.1
  refine lv_aload_n hx hb dX8_readAll_14 rfl (lv_at hl 0 rfl) ?_
  refine gf_X8_171 F hP dX8_readAll_15 ?_
  refine lv_aload_n hx hb dX8_readAll_18 rfl (lv_at hl 0 rfl) ?_
  refine gf_X8_165 F hP dX8_readAll_19 ?_
  refine lv_icmp_ge (tgt := 92) hx hb dX8_readAll_22 (by decide) (fun h6 => ?_) (fun h6 => ?_)
  · rw [if_pos h6] at hf
    refine lv_bipush (v := (-4)) hx hb dX8_readAll_92 (by decide) ?_
    exact g_iret B hP hS hf dX8_readAll_94
  · rw [if_neg h6] at hf
    refine lv_aload_n hx hb dX8_readAll_25 rfl (lv_at hl 0 rfl) ?_
    refine gf_X8_171 F hP dX8_readAll_26 ?_
    obtain ⟨x7, ex7, hf⟩ := vl_x hf
    rw [← ex7]
    refine lv_istore_n (lv' := [(1, .int x7), (0, .ref (mAd E 0))]) hx hb dX8_readAll_29 rfl hl (by decide) rfl (fun ls hl => ?_)
    refine lv_aload_n hx hb dX8_readAll_30 rfl (lv_at hl 1 rfl) ?_
    refine lv_dup hx hb dX8_readAll_31 rfl ?_
    refine gf_X8_171 F hP dX8_readAll_32 ?_
    refine lv_iconst (v := 1) hx hb dX8_readAll_35 (by decide) ?_
    refine lv_iadd hx hb dX8_readAll_36 ?_
    refine pf_X8_171 F hP hS dX8_readAll_37 (fun H locs hP hS => ?_)
    obtain ⟨σ8, eσ8, hf⟩ := vl_x hf
    rw [← eσ8] at hP
    refine lv_aload_n hx hb dX8_readAll_40 rfl (lv_at hl 1 rfl) ?_
    refine lv_iconst (v := 0) hx hb dX8_readAll_41 (by decide) ?_
    refine pf_X8_168 F hP hS dX8_readAll_42 (fun H locs hP hS => ?_)
    obtain ⟨σ9, eσ9, hf⟩ := vl_x hf
    rw [← eσ9] at hP
    refine lv_aload_n hx hb dX8_readAll_45 rfl (lv_at hl 1 rfl) ?_
    refine lv_iconst (v := 0) hx hb dX8_readAll_46 (by decide) ?_
    refine pf_X8_193 F hP hS dX8_readAll_47 (fun H locs hP hS => ?_)
    obtain ⟨σ10, eσ10, hf⟩ := vl_x hf
    rw [← eσ10] at hP
    refine lv_aload_n hx hb dX8_readAll_50 rfl (lv_at hl 1 rfl) ?_
    refine lv_aload_n hx hb dX8_readAll_51 rfl (lv_at hl 1 rfl) ?_
    refine lv_iload_n hx hb dX8_readAll_52 rfl (lv_at hl 0 rfl) ?_
    obtain ⟨r12, σ11, h13, hf⟩ := cl_e hf
    refine kc_X8_174 F hP hS h13 ⟨Nat.le_of_ble_eq_true rfl, Nat.le_of_ble_eq_true rfl⟩ hl.1 (Nat.le_of_ble_eq_true rfl) ⟨Nat.zero_le _, Nat.zero_le _⟩ dX8_readAll_53 (fun H locs hP hS => ?_)
    refine lv_iload_n hx hb dX8_readAll_56 rfl (lv_at hl 0 rfl) ?_
    refine lv_if_ne (tgt := 64) hx hb dX8_readAll_57 (by decide) (fun h14 => ?_) (fun h14 => ?_)
    · rw [if_neg h14] at hf
      refine lv_iconst (v := 0) hx hb dX8_readAll_64 (by decide) ?_
      obtain ⟨r16, σ15, h17, hf⟩ := cl_e hf
      refine kc_X8_205 F hP hS h17 ⟨Nat.le_of_ble_eq_true rfl, Nat.le_of_ble_eq_true rfl⟩ hl.1 (Nat.le_of_ble_eq_true rfl) ⟨Nat.zero_le _, Nat.zero_le _⟩ dX8_readAll_65 (fun H locs hP hS => ?_)
      refine lv_aload_n hx hb dX8_readAll_68 rfl (lv_at hl 1 rfl) ?_
      refine gf_X8_168 F hP dX8_readAll_69 ?_
      refine lv_if_eq (tgt := 89) hx hb dX8_readAll_72 (by decide) (fun h18 => ?_) (fun h18 => ?_)
      · rw [if_pos h18] at hf
        refine lv_goto (tgt := 14) hx hb dX8_readAll_89 (by decide) ?_
        exact hK14 _ hf _ _ _ hP hS (lv_sub hl [1] rfl)
      · rw [if_neg h18] at hf
        refine lv_aload_n hx hb dX8_readAll_75 rfl (lv_at hl 1 rfl) ?_
        refine lv_iload_n hx hb dX8_readAll_76 rfl (lv_at hl 0 rfl) ?_
        refine lv_aload_n hx hb dX8_readAll_77 rfl (lv_at hl 1 rfl) ?_
        refine gf_X8_168 F hP dX8_readAll_78 ?_
        refine lv_aload_n hx hb dX8_readAll_81 rfl (lv_at hl 1 rfl) ?_
        refine gf_X8_193 F hP dX8_readAll_82 ?_
        obtain ⟨r20, σ19, h21, hf⟩ := cl_e hf
        refine kc_X8_209 F hP hS h21 ⟨Nat.le_of_ble_eq_true rfl, Nat.le_of_ble_eq_true rfl⟩ hl.1 (Nat.le_of_ble_eq_true rfl) ⟨Nat.zero_le _, Nat.zero_le _⟩ dX8_readAll_85 (fun H locs hP hS => ?_)
        exact g_iret B hP hS hf dX8_readAll_88
    · rw [if_pos h14] at hf
      refine lv_iconst (v := 1) hx hb dX8_readAll_60 (by decide) ?_
      refine lv_goto (tgt := 65) hx hb dX8_readAll_61 (by decide) ?_
      obtain ⟨r23, σ22, h24, hf⟩ := cl_e hf
      refine kc_X8_205 F hP hS h24 ⟨Nat.le_of_ble_eq_true rfl, Nat.le_of_ble_eq_true rfl⟩ hl.1 (Nat.le_of_ble_eq_true rfl) ⟨Nat.zero_le _, Nat.zero_le _⟩ dX8_readAll_65 (fun H locs hP hS => ?_)
      refine lv_aload_n hx hb dX8_readAll_68 rfl (lv_at hl 1 rfl) ?_
      refine gf_X8_168 F hP dX8_readAll_69 ?_
      refine lv_if_eq (tgt := 89) hx hb dX8_readAll_72 (by decide) (fun h25 => ?_) (fun h25 => ?_)
      · rw [if_pos h25] at hf
        refine lv_goto (tgt := 14) hx hb dX8_readAll_89 (by decide) ?_
        exact hK14 _ hf _ _ _ hP hS (lv_sub hl [1] rfl)
      · rw [if_neg h25] at hf
        refine lv_aload_n hx hb dX8_readAll_75 rfl (lv_at hl 1 rfl) ?_
        refine lv_iload_n hx hb dX8_readAll_76 rfl (lv_at hl 0 rfl) ?_
        refine lv_aload_n hx hb dX8_readAll_77 rfl (lv_at hl 1 rfl) ?_
        refine gf_X8_168 F hP dX8_readAll_78 ?_
        refine lv_aload_n hx hb dX8_readAll_81 rfl (lv_at hl 1 rfl) ?_
        refine gf_X8_193 F hP dX8_readAll_82 ?_
        obtain ⟨r27, σ26, h28, hf⟩ := cl_e hf
        refine kc_X8_209 F hP hS h28 ⟨Nat.le_of_ble_eq_true rfl, Nat.le_of_ble_eq_true rfl⟩ hl.1 (Nat.le_of_ble_eq_true rfl) ⟨Nat.zero_le _, Nat.zero_le _⟩ dX8_readAll_85 (fun H locs hP hS => ?_)
        exact g_iret B hP hS hf dX8_readAll_88
set_option maxHeartbeats 4000000 in
set_option maxRecDepth 100000 in
theorem w_X8_readAll_e {p : Program} {l : Launch} {e : Env} {s : State} {m : MethodId} {args : Array Value} {below : List Frame} {meth : Method} {c : Code} {E : mEv} {r : Int32} {σ' : St} (B : gBx p m meth c cX8_readAll 2 (some .int) s args RX8 (mG E)) (σ : St) (hf : f_X8_readAll σ = some (r, σ')) (H : Heap) (locs : List Loc) (ls : Array Slot) (hP : gW (mG E) σ H) (hS : va_S (gA (mG E)) s.heap H locs) (hl : lv_has ls 2 [(0, .ref (mAd E 0))]) : W p l e rm_X8_readAll s m args below meth c H locs 0 0 (gQi below args s (mG E) r σ') (F0 m 0 ls []) := by
  unfold f_X8_readAll at hf
  obtain ⟨F, hr, hlk⟩ := id B
  have hx := F.1
  have hb := F.2.1
  have hml := F.2.2.1
  have hown := F.2.2.2.1
  have hts := F.2.2.2.2.1
  refine lv_aload_n hx hb dX8_readAll_0 rfl (lv_at hl 0 rfl) ?_
  obtain ⟨r2, σ1, h3, hf⟩ := cl_e hf
  refine kc_X8_121 F hP hS h3 ⟨Nat.le_of_ble_eq_true rfl, Nat.le_of_ble_eq_true rfl⟩ hl.1 (Nat.le_of_ble_eq_true rfl) ⟨Nat.zero_le _, Nat.zero_le _⟩ dX8_readAll_1 (fun H locs hP hS => ?_)
  refine lv_aload_n hx hb dX8_readAll_4 rfl (lv_at hl 0 rfl) ?_
  refine lv_iconst (v := 0) hx hb dX8_readAll_5 (by decide) ?_
  refine pf_X8_171 F hP hS dX8_readAll_6 (fun H locs hP hS => ?_)
  obtain ⟨σ4, eσ4, hf⟩ := vl_x hf
  rw [← eσ4] at hP
  refine lv_aload_n hx hb dX8_readAll_9 rfl (lv_at hl 0 rfl) ?_
  refine lv_iconst (v := 0) hx hb dX8_readAll_10 (by decide) ?_
  refine pf_X8_148 F hP hS dX8_readAll_11 (fun H locs hP hS => ?_)
  obtain ⟨σ5, eσ5, hf⟩ := vl_x hf
  rw [← eσ5] at hP
  exact lp_w (P := P_X8_readAll_14 p l e s m args below meth c E r σ') (fun K hK a ha => w_X8_readAll_14 B hK a ha) FU _ hf _ _ _ hP hS (lv_sub hl [0] rfl)
theorem c_X8_readAll (l : Launch) {E : mEv} (hI : gIj (mG E)) {σ σ' : St} {r : Int32} (hf : f_X8_readAll σ = some (r, σ')) : gMi l yX8_readAll cX8_readAll 2 .int rm_X8_readAll [.ref (mAd E 0)] (mG E) σ r σ' :=
  g_entry (by decide) (Nat.le_of_ble_eq_true rfl) hI (fun p e s m args below meth c B hP hS ls hl => w_X8_readAll_e B σ hf _ _ ls hP hS hl)
section SD
variable {p : Program} {l : Launch} {e : Env} {R : Room} {s : State} {m : MethodId} {args : Array Value} {below : List Frame} {meth : Method} {c : Code} {H : Heap} {locs : List Loc} {cells slots : Nat} {Q : State → Prop}
variable {cc : ByteArray} {pc nL : Nat} {ls : Array Slot} {rest : List Value} {E : mEv} {σ : St}
theorem kc_X8_212 (F : gFx p m c cc nL s args RX8 (mG E)) (hP : gW (mG E) σ H) (hS : va_S (gA (mG E)) s.heap H locs) {r : Int32} {σ' : St} (hf : f_X8_readAll σ = some (r, σ')) (hR : rm_X8_readAll.frames + 1 ≤ R.frames ∧ 8 + (2 + 11) + rm_X8_readAll.locals ≤ R.locals) (hsz : ls.size = nL) (hrest : (rest.map fun v => v.category).sum ≤ 8) (hcs : cells ≤ R.cells ∧ slots ≤ R.slots) (hdg : decode cc pc = .ok (.invokevirtual 212, 3)) (kk : ∀ (H1 : Heap) (locs1 : List Loc), gW (mG E) σ' H1 → va_S (gA (mG E)) s.heap H1 locs1 → W p l e R s m args below meth c H1 locs1 cells slots Q (F0 m (pc + 3) ls (.int r :: rest))) : W p l e R s m args below meth c H locs cells slots Q (F0 m pc ls (.ref (mAd E 0) :: rest)) :=
  g_callVi F hP hS (c_X8_readAll l F.2.2.2.2.2.2.2 hf) (g_cwV (n := 0) F tw_980 tw_982 ts_34 tw_14 tw_983 (by decide +kernel) rfl rfl hR) (k := 0) min0 (me_0 E _) rfl (As := []) rfl hsz rfl hrest hdg hcs kk
end SD
/-! PromisedSlotsModel.fault()I -/
def f_X8_fault (σ : St) : Option (Int32 × St) :=
  cl (f_X8_readAll σ) fun r2 σ1 =>
  some (r2, σ1)
abbrev rm_X8_fault : Room := { frames := 5, cells := 0, slots := 0, locals := 118 }
set_option maxHeartbeats 4000000 in
set_option maxRecDepth 100000 in
theorem w_X8_fault_e {p : Program} {l : Launch} {e : Env} {s : State} {m : MethodId} {args : Array Value} {below : List Frame} {meth : Method} {c : Code} {E : mEv} {r : Int32} {σ' : St} (B : gBx p m meth c cX8_fault 1 (some .int) s args RX8 (mG E)) (σ : St) (hf : f_X8_fault σ = some (r, σ')) (H : Heap) (locs : List Loc) (ls : Array Slot) (hP : gW (mG E) σ H) (hS : va_S (gA (mG E)) s.heap H locs) (hl : lv_has ls 1 [(0, .ref (mAd E 0))]) : W p l e rm_X8_fault s m args below meth c H locs 0 0 (gQi below args s (mG E) r σ') (F0 m 0 ls []) := by
  unfold f_X8_fault at hf
  obtain ⟨F, hr, hlk⟩ := id B
  have hx := F.1
  have hb := F.2.1
  have hml := F.2.2.1
  have hown := F.2.2.2.1
  have hts := F.2.2.2.2.1
  refine lv_aload_n hx hb dX8_fault_0 rfl (lv_at hl 0 rfl) ?_
  obtain ⟨r2, σ1, h3, hf⟩ := cl_e hf
  refine kc_X8_212 F hP hS h3 ⟨Nat.le_of_ble_eq_true rfl, Nat.le_of_ble_eq_true rfl⟩ hl.1 (Nat.le_of_ble_eq_true rfl) ⟨Nat.zero_le _, Nat.zero_le _⟩ dX8_fault_1 (fun H locs hP hS => ?_)
  exact g_iret B hP hS hf dX8_fault_4
theorem c_X8_fault (l : Launch) {E : mEv} (hI : gIj (mG E)) {σ σ' : St} {r : Int32} (hf : f_X8_fault σ = some (r, σ')) : gMi l yX8_fault cX8_fault 1 .int rm_X8_fault [.ref (mAd E 0)] (mG E) σ r σ' :=
  g_entry (by decide) (Nat.le_of_ble_eq_true rfl) hI (fun p e s m args below meth c B hP hS ls hl => w_X8_fault_e B σ hf _ _ ls hP hS hl)
/-! PromisedSlotsModel.refuses(III)I -/
def f_X8_refuses (p1 : Int32) (p2 : Int32) (p3 : Int32) (σ : St) : Option (Int32 × St) :=
  if p3 = 0 then
    vl (up2 σ 0 3 (1 : Int32)) fun σ7 =>
    gd (ix (0 : Int32) 3) <|
    vl (up2 σ7 4 (nt (0 : Int32)) p2) fun σ9 =>
    gd (ix (1 : Int32) 3) <|
    vl (up2 σ9 4 (nt (1 : Int32)) p3) fun σ11 =>
    some (p1, σ11)
  else
    vl (up2 σ 0 3 (2 : Int32)) fun σ2 =>
    gd (ix (0 : Int32) 3) <|
    vl (up2 σ2 4 (nt (0 : Int32)) p2) fun σ4 =>
    gd (ix (1 : Int32) 3) <|
    vl (up2 σ4 4 (nt (1 : Int32)) p3) fun σ6 =>
    some (p1, σ6)
abbrev rm_X8_refuses : Room := { frames := 0, cells := 0, slots := 0, locals := 0 }
set_option maxHeartbeats 4000000 in
set_option maxRecDepth 100000 in
theorem w_X8_refuses_e {p : Program} {l : Launch} {e : Env} {s : State} {m : MethodId} {args : Array Value} {below : List Frame} {meth : Method} {c : Code} {E : mEv} {r : Int32} {σ' : St} (B : gBx p m meth c cX8_refuses 4 (some .int) s args RX8 (mG E)) (p1 : Int32) (p2 : Int32) (p3 : Int32) (σ : St) (hf : f_X8_refuses p1 p2 p3 σ = some (r, σ')) (H : Heap) (locs : List Loc) (ls : Array Slot) (hP : gW (mG E) σ H) (hS : va_S (gA (mG E)) s.heap H locs) (hl : lv_has ls 4 [(0, .ref (mAd E 0)), (1, .int p1), (2, .int p2), (3, .int p3)]) : W p l e rm_X8_refuses s m args below meth c H locs 0 0 (gQi below args s (mG E) r σ') (F0 m 0 ls []) := by
  unfold f_X8_refuses at hf
  obtain ⟨F, hr, hlk⟩ := id B
  have hx := F.1
  have hb := F.2.1
  have hml := F.2.2.1
  have hown := F.2.2.2.1
  have hts := F.2.2.2.2.1
  refine lv_aload_n hx hb dX8_refuses_0 rfl (lv_at hl 0 rfl) ?_
  refine lv_iload_n hx hb dX8_refuses_1 rfl (lv_at hl 3 rfl) ?_
  refine lv_if_ne (tgt := 9) hx hb dX8_refuses_2 (by decide) (fun h1 => ?_) (fun h1 => ?_)
  · rw [if_neg h1] at hf
    refine lv_iconst (v := 2) hx hb dX8_refuses_9 (by decide) ?_
    refine pf_X8_148 F hP hS dX8_refuses_10 (fun H locs hP hS => ?_)
    obtain ⟨σ2, eσ2, hf⟩ := vl_x hf
    rw [← eσ2] at hP
    refine lv_aload_n hx hb dX8_refuses_13 rfl (lv_at hl 0 rfl) ?_
    refine gf_X8_13 F hP dX8_refuses_14 ?_
    refine lv_iconst (v := 0) hx hb dX8_refuses_17 (by decide) ?_
    refine lv_iload_n hx hb dX8_refuses_18 rfl (lv_at hl 2 rfl) ?_
    obtain ⟨h3, hf⟩ := gd_e hf
    refine m_iast F hP hS ⟨by decide, by decide⟩ rfl h3 dX8_refuses_19 (fun H locs hP hS => ?_)
    obtain ⟨σ4, eσ4, hf⟩ := vl_x hf
    rw [← eσ4] at hP
    refine lv_aload_n hx hb dX8_refuses_20 rfl (lv_at hl 0 rfl) ?_
    refine gf_X8_13 F hP dX8_refuses_21 ?_
    refine lv_iconst (v := 1) hx hb dX8_refuses_24 (by decide) ?_
    refine lv_iload_n hx hb dX8_refuses_25 rfl (lv_at hl 3 rfl) ?_
    obtain ⟨h5, hf⟩ := gd_e hf
    refine m_iast F hP hS ⟨by decide, by decide⟩ rfl h5 dX8_refuses_26 (fun H locs hP hS => ?_)
    obtain ⟨σ6, eσ6, hf⟩ := vl_x hf
    rw [← eσ6] at hP
    refine lv_iload_n hx hb dX8_refuses_27 rfl (lv_at hl 1 rfl) ?_
    exact g_iret B hP hS hf dX8_refuses_28
  · rw [if_pos h1] at hf
    refine lv_iconst (v := 1) hx hb dX8_refuses_5 (by decide) ?_
    refine lv_goto (tgt := 10) hx hb dX8_refuses_6 (by decide) ?_
    refine pf_X8_148 F hP hS dX8_refuses_10 (fun H locs hP hS => ?_)
    obtain ⟨σ7, eσ7, hf⟩ := vl_x hf
    rw [← eσ7] at hP
    refine lv_aload_n hx hb dX8_refuses_13 rfl (lv_at hl 0 rfl) ?_
    refine gf_X8_13 F hP dX8_refuses_14 ?_
    refine lv_iconst (v := 0) hx hb dX8_refuses_17 (by decide) ?_
    refine lv_iload_n hx hb dX8_refuses_18 rfl (lv_at hl 2 rfl) ?_
    obtain ⟨h8, hf⟩ := gd_e hf
    refine m_iast F hP hS ⟨by decide, by decide⟩ rfl h8 dX8_refuses_19 (fun H locs hP hS => ?_)
    obtain ⟨σ9, eσ9, hf⟩ := vl_x hf
    rw [← eσ9] at hP
    refine lv_aload_n hx hb dX8_refuses_20 rfl (lv_at hl 0 rfl) ?_
    refine gf_X8_13 F hP dX8_refuses_21 ?_
    refine lv_iconst (v := 1) hx hb dX8_refuses_24 (by decide) ?_
    refine lv_iload_n hx hb dX8_refuses_25 rfl (lv_at hl 3 rfl) ?_
    obtain ⟨h10, hf⟩ := gd_e hf
    refine m_iast F hP hS ⟨by decide, by decide⟩ rfl h10 dX8_refuses_26 (fun H locs hP hS => ?_)
    obtain ⟨σ11, eσ11, hf⟩ := vl_x hf
    rw [← eσ11] at hP
    refine lv_iload_n hx hb dX8_refuses_27 rfl (lv_at hl 1 rfl) ?_
    exact g_iret B hP hS hf dX8_refuses_28
theorem c_X8_refuses (l : Launch) {E : mEv} (hI : gIj (mG E)) {p1 : Int32} {p2 : Int32} {p3 : Int32} {σ σ' : St} {r : Int32} (hf : f_X8_refuses p1 p2 p3 σ = some (r, σ')) : gMi l yX8_refuses cX8_refuses 4 .int rm_X8_refuses [.ref (mAd E 0), .int p1, .int p2, .int p3] (mG E) σ r σ' :=
  g_entry (by decide) (Nat.le_of_ble_eq_true rfl) hI (fun p e s m args below meth c B hP hS ls hl => w_X8_refuses_e B _ _ _ σ hf _ _ ls hP hS hl)
section SD
variable {p : Program} {l : Launch} {e : Env} {R : Room} {s : State} {m : MethodId} {args : Array Value} {below : List Frame} {meth : Method} {c : Code} {H : Heap} {locs : List Loc} {cells slots : Nat} {Q : State → Prop}
variable {cc : ByteArray} {pc nL : Nat} {ls : Array Slot} {rest : List Value} {E : mEv} {σ : St}
theorem kc_X8_145 (F : gFx p m c cc nL s args RX8 (mG E)) (hP : gW (mG E) σ H) (hS : va_S (gA (mG E)) s.heap H locs) {u : Unit} {σ' : St} (hf : f_X8_begin σ = some (u, σ')) (hR : rm_X8_begin.frames + 1 ≤ R.frames ∧ 8 + (2 + 11) + rm_X8_begin.locals ≤ R.locals) (hsz : ls.size = nL) (hrest : (rest.map fun v => v.category).sum ≤ 8) (hcs : cells ≤ R.cells ∧ slots ≤ R.slots) (hdg : decode cc pc = .ok (.invokevirtual 145, 3)) (kk : ∀ (H1 : Heap) (locs1 : List Loc), gW (mG E) σ' H1 → va_S (gA (mG E)) s.heap H1 locs1 → W p l e R s m args below meth c H1 locs1 cells slots Q (F0 m (pc + 3) ls rest)) : W p l e R s m args below meth c H locs cells slots Q (F0 m pc ls (.ref (mAd E 0) :: rest)) :=
  g_callVv F hP hS (c_X8_begin l F.2.2.2.2.2.2.2 hf) (g_cwV (n := 0) F tw_769 tw_771 ts_31 tw_14 tw_772 (by decide +kernel) rfl rfl hR) (k := 0) min0 (me_0 E _) rfl (As := []) rfl hsz rfl hrest hdg hcs kk
theorem kc_X8_216 (F : gFx p m c cc nL s args RX8 (mG E)) (hP : gW (mG E) σ H) (hS : va_S (gA (mG E)) s.heap H locs) {p1 : Int32} {p2 : Int32} {p3 : Int32} {r : Int32} {σ' : St} (hf : f_X8_refuses p1 p2 p3 σ = some (r, σ')) (hR : rm_X8_refuses.frames + 1 ≤ R.frames ∧ 8 + (4 + 11) + rm_X8_refuses.locals ≤ R.locals) (hsz : ls.size = nL) (hrest : (rest.map fun v => v.category).sum ≤ 8) (hcs : cells ≤ R.cells ∧ slots ≤ R.slots) (hdg : decode cc pc = .ok (.invokevirtual 216, 3)) (kk : ∀ (H1 : Heap) (locs1 : List Loc), gW (mG E) σ' H1 → va_S (gA (mG E)) s.heap H1 locs1 → W p l e R s m args below meth c H1 locs1 cells slots Q (F0 m (pc + 3) ls (.int r :: rest))) : W p l e R s m args below meth c H locs cells slots Q (F0 m pc ls (.int p3 :: .int p2 :: .int p1 :: .ref (mAd E 0) :: rest)) :=
  g_callVi F hP hS (c_X8_refuses l F.2.2.2.2.2.2.2 hf) (g_cwV (n := 3) F tw_1021 tw_1023 ts_42 tw_14 tw_1024 (by decide +kernel) rfl rfl hR) (k := 0) min0 (me_0 E _) rfl (As := [.int p1, .int p2, .int p3]) rfl hsz rfl hrest hdg hcs kk
end SD
/-! PromisedSlotsModel.lay()I -/
def f_X8_lay (σ : St) : Option (Int32 × St) :=
  cl (f_X8_readAll σ) fun r2 σ1 =>
  if r2 = (-4 : Int32) then
    if (σ1 0 12) = 0 then
      cl (f_X8_refuses (-2 : Int32) (2 : Int32) (0 : Int32) σ1) fun r10 σ9 =>
      some (r10, σ9)
    else
      cl (f_X8_begin σ1) fun r7 σ6 =>
      some ((σ6 0 35), σ6)
  else
    some ((-2 : Int32), σ1)
abbrev rm_X8_lay : Room := { frames := 5, cells := 0, slots := 0, locals := 118 }
set_option maxHeartbeats 4000000 in
set_option maxRecDepth 100000 in
theorem w_X8_lay_e {p : Program} {l : Launch} {e : Env} {s : State} {m : MethodId} {args : Array Value} {below : List Frame} {meth : Method} {c : Code} {E : mEv} {r : Int32} {σ' : St} (B : gBx p m meth c cX8_lay 1 (some .int) s args RX8 (mG E)) (σ : St) (hf : f_X8_lay σ = some (r, σ')) (H : Heap) (locs : List Loc) (ls : Array Slot) (hP : gW (mG E) σ H) (hS : va_S (gA (mG E)) s.heap H locs) (hl : lv_has ls 1 [(0, .ref (mAd E 0))]) : W p l e rm_X8_lay s m args below meth c H locs 0 0 (gQi below args s (mG E) r σ') (F0 m 0 ls []) := by
  unfold f_X8_lay at hf
  obtain ⟨F, hr, hlk⟩ := id B
  have hx := F.1
  have hb := F.2.1
  have hml := F.2.2.1
  have hown := F.2.2.2.1
  have hts := F.2.2.2.2.1
  refine lv_aload_n hx hb dX8_lay_0 rfl (lv_at hl 0 rfl) ?_
  obtain ⟨r2, σ1, h3, hf⟩ := cl_e hf
  refine kc_X8_212 F hP hS h3 ⟨Nat.le_of_ble_eq_true rfl, Nat.le_of_ble_eq_true rfl⟩ hl.1 (Nat.le_of_ble_eq_true rfl) ⟨Nat.zero_le _, Nat.zero_le _⟩ dX8_lay_1 (fun H locs hP hS => ?_)
  refine lv_bipush (v := (-4)) hx hb dX8_lay_4 (by decide) ?_
  refine lv_icmp_eq (tgt := 12) hx hb dX8_lay_6 (by decide) (fun h4 => ?_) (fun h4 => ?_)
  · rw [if_pos h4] at hf
    refine lv_aload_n hx hb dX8_lay_12 rfl (lv_at hl 0 rfl) ?_
    refine gf_X8_154 F hP dX8_lay_13 ?_
    refine lv_if_ne (tgt := 28) hx hb dX8_lay_16 (by decide) (fun h5 => ?_) (fun h5 => ?_)
    · rw [if_neg h5] at hf
      refine lv_aload_n hx hb dX8_lay_28 rfl (lv_at hl 0 rfl) ?_
      obtain ⟨r7, σ6, h8, hf⟩ := cl_e hf
      refine kc_X8_145 F hP hS h8 ⟨Nat.le_of_ble_eq_true rfl, Nat.le_of_ble_eq_true rfl⟩ hl.1 (Nat.le_of_ble_eq_true rfl) ⟨Nat.zero_le _, Nat.zero_le _⟩ dX8_lay_29 (fun H locs hP hS => ?_)
      refine lv_aload_n hx hb dX8_lay_32 rfl (lv_at hl 0 rfl) ?_
      refine gf_X8_219 F hP dX8_lay_33 ?_
      exact g_iret B hP hS hf dX8_lay_36
    · rw [if_pos h5] at hf
      refine lv_aload_n hx hb dX8_lay_19 rfl (lv_at hl 0 rfl) ?_
      refine lv_bipush (v := (-2)) hx hb dX8_lay_20 (by decide) ?_
      refine lv_iconst (v := 2) hx hb dX8_lay_22 (by decide) ?_
      refine lv_iconst (v := 0) hx hb dX8_lay_23 (by decide) ?_
      obtain ⟨r10, σ9, h11, hf⟩ := cl_e hf
      refine kc_X8_216 F hP hS h11 ⟨Nat.le_of_ble_eq_true rfl, Nat.le_of_ble_eq_true rfl⟩ hl.1 (Nat.le_of_ble_eq_true rfl) ⟨Nat.zero_le _, Nat.zero_le _⟩ dX8_lay_24 (fun H locs hP hS => ?_)
      exact g_iret B hP hS hf dX8_lay_27
  · rw [if_neg h4] at hf
    refine lv_bipush (v := (-2)) hx hb dX8_lay_9 (by decide) ?_
    exact g_iret B hP hS hf dX8_lay_11
theorem c_X8_lay (l : Launch) {E : mEv} (hI : gIj (mG E)) {σ σ' : St} {r : Int32} (hf : f_X8_lay σ = some (r, σ')) : gMi l yX8_lay cX8_lay 1 .int rm_X8_lay [.ref (mAd E 0)] (mG E) σ r σ' :=
  g_entry (by decide) (Nat.le_of_ble_eq_true rfl) hI (fun p e s m args below meth c B hP hS ls hl => w_X8_lay_e B σ hf _ _ ls hP hS hl)
section SD
variable {p : Program} {l : Launch} {e : Env} {R : Room} {s : State} {m : MethodId} {args : Array Value} {below : List Frame} {meth : Method} {c : Code} {H : Heap} {locs : List Loc} {cells slots : Nat} {Q : State → Prop}
variable {cc : ByteArray} {pc nL : Nat} {ls : Array Slot} {rest : List Value} {E : mEv} {σ : St}
theorem gf_X8_246 (F : gFx p m c cc nL s args RX8 (mG E)) (hP : gW (mG E) σ H) (hdg : decode cc pc = .ok (.getfield 246, 3)) (kk : W p l e R s m args below meth c H locs cells slots Q (F0 m (pc + 3) ls (.int (σ 0 24) :: rest))) : W p l e R s m args below meth c H locs cells slots Q (F0 m pc ls (.ref (mAd E 0) :: rest)) :=
  g_get F hP (k := 0) min0 (me_0 E _) rfl inX8 24 (by decide) tw_808 rfl rfl hdg kk
end SD
/-! PromisedSlotsModel.isCoord(I)Z -/
def f_X8_isCoord (p1 : Int32) (σ : St) : Option (Int32 × St) :=
  cl (f_X8_in (p1.toInt64) (0 : Int64) ((((σ 0 24) - (1 : Int32))).toInt64) σ) fun r2 σ1 =>
  gd (r2 = 0 ∨ r2 = 1) <|
  some (r2, σ1)
abbrev rm_X8_isCoord : Room := { frames := 1, cells := 0, slots := 0, locals := 25 }
set_option maxHeartbeats 4000000 in
set_option maxRecDepth 100000 in
theorem w_X8_isCoord_e {p : Program} {l : Launch} {e : Env} {s : State} {m : MethodId} {args : Array Value} {below : List Frame} {meth : Method} {c : Code} {E : mEv} {r : Int32} {σ' : St} (B : gBx p m meth c cX8_isCoord 2 (some .boolean) s args RX8 (mG E)) (p1 : Int32) (σ : St) (hf : f_X8_isCoord p1 σ = some (r, σ')) (H : Heap) (locs : List Loc) (ls : Array Slot) (hP : gW (mG E) σ H) (hS : va_S (gA (mG E)) s.heap H locs) (hl : lv_has ls 2 [(0, .ref (mAd E 0)), (1, .int p1)]) : W p l e rm_X8_isCoord s m args below meth c H locs 0 0 (gQi below args s (mG E) r σ') (F0 m 0 ls []) := by
  unfold f_X8_isCoord at hf
  obtain ⟨F, hr, hlk⟩ := id B
  have hx := F.1
  have hb := F.2.1
  have hml := F.2.2.1
  have hown := F.2.2.2.1
  have hts := F.2.2.2.2.1
  refine lv_iload_n hx hb dX8_isCoord_0 rfl (lv_at hl 1 rfl) ?_
  refine lv_i2l hx hb dX8_isCoord_1 rfl ?_
  refine lv_lconst (v := 0) hx hb dX8_isCoord_2 (by decide) ?_
  refine lv_aload_n hx hb dX8_isCoord_3 rfl (lv_at hl 0 rfl) ?_
  refine gf_X8_246 F hP dX8_isCoord_4 ?_
  refine lv_iconst (v := 1) hx hb dX8_isCoord_7 (by decide) ?_
  refine lv_isub hx hb dX8_isCoord_8 ?_
  refine lv_i2l hx hb dX8_isCoord_9 rfl ?_
  obtain ⟨r2, σ1, h3, hf⟩ := cl_e hf
  refine kc_X8_161 F hP hS h3 ⟨Nat.le_of_ble_eq_true rfl, Nat.le_of_ble_eq_true rfl⟩ hl.1 (Nat.le_of_ble_eq_true rfl) ⟨Nat.zero_le _, Nat.zero_le _⟩ dX8_isCoord_10 (fun H locs hP hS => ?_)
  obtain ⟨h4, hf⟩ := gd_e hf
  exact g_zret B hP hS hf h4 dX8_isCoord_13
theorem c_X8_isCoord (l : Launch) {E : mEv} (hI : gIj (mG E)) {p1 : Int32} {σ σ' : St} {r : Int32} (hf : f_X8_isCoord p1 σ = some (r, σ')) : gMi l yX8_isCoord cX8_isCoord 2 .boolean rm_X8_isCoord [.ref (mAd E 0), .int p1] (mG E) σ r σ' :=
  g_entry (by decide) (Nat.le_of_ble_eq_true rfl) hI (fun p e s m args below meth c B hP hS ls hl => w_X8_isCoord_e B _ σ hf _ _ ls hP hS hl)
section SD
variable {p : Program} {l : Launch} {e : Env} {R : Room} {s : State} {m : MethodId} {args : Array Value} {below : List Frame} {meth : Method} {c : Code} {H : Heap} {locs : List Loc} {cells slots : Nat} {Q : State → Prop}
variable {cc : ByteArray} {pc nL : Nat} {ls : Array Slot} {rest : List Value} {E : mEv} {σ : St}
theorem kc_X8_256 (F : gFx p m c cc nL s args RX8 (mG E)) (hP : gW (mG E) σ H) (hS : va_S (gA (mG E)) s.heap H locs) {p1 : Int32} {r : Int32} {σ' : St} (hf : f_X8_isCoord p1 σ = some (r, σ')) (hR : rm_X8_isCoord.frames + 1 ≤ R.frames ∧ 8 + (2 + 11) + rm_X8_isCoord.locals ≤ R.locals) (hsz : ls.size = nL) (hrest : (rest.map fun v => v.category).sum ≤ 8) (hcs : cells ≤ R.cells ∧ slots ≤ R.slots) (hdg : decode cc pc = .ok (.invokevirtual 256, 3)) (kk : ∀ (H1 : Heap) (locs1 : List Loc), gW (mG E) σ' H1 → va_S (gA (mG E)) s.heap H1 locs1 → W p l e R s m args below meth c H1 locs1 cells slots Q (F0 m (pc + 3) ls (.int r :: rest))) : W p l e R s m args below meth c H locs cells slots Q (F0 m pc ls (.int p1 :: .ref (mAd E 0) :: rest)) :=
  g_callVi F hP hS (c_X8_isCoord l F.2.2.2.2.2.2.2 hf) (g_cwV (n := 1) F tw_1029 tw_1031 ts_43 tw_14 tw_1032 (by decide +kernel) rfl rfl hR) (k := 0) min0 (me_0 E _) rfl (As := [.int p1]) rfl hsz rfl hrest hdg hcs kk
theorem gf_X8_222 (F : gFx p m c cc nL s args RX8 (mG E)) (hP : gW (mG E) σ H) (hdg : decode cc pc = .ok (.getfield 222, 3)) (kk : W p l e R s m args below meth c H locs cells slots Q (F0 m (pc + 3) ls (.int (σ 0 16) :: rest))) : W p l e R s m args below meth c H locs cells slots Q (F0 m pc ls (.ref (mAd E 0) :: rest)) :=
  g_get F hP (k := 0) min0 (me_0 E _) rfl inX8 16 (by decide) tw_800 rfl rfl hdg kk
theorem gf_X8_225 (F : gFx p m c cc nL s args RX8 (mG E)) (hP : gW (mG E) σ H) (hdg : decode cc pc = .ok (.getfield 225, 3)) (kk : W p l e R s m args below meth c H locs cells slots Q (F0 m (pc + 3) ls (.int (σ 0 17) :: rest))) : W p l e R s m args below meth c H locs cells slots Q (F0 m pc ls (.ref (mAd E 0) :: rest)) :=
  g_get F hP (k := 0) min0 (me_0 E _) rfl inX8 17 (by decide) tw_801 rfl rfl hdg kk
theorem gf_X8_237 (F : gFx p m c cc nL s args RX8 (mG E)) (hP : gW (mG E) σ H) (hdg : decode cc pc = .ok (.getfield 237, 3)) (kk : W p l e R s m args below meth c H locs cells slots Q (F0 m (pc + 3) ls (.int (σ 0 21) :: rest))) : W p l e R s m args below meth c H locs cells slots Q (F0 m pc ls (.ref (mAd E 0) :: rest)) :=
  g_get F hP (k := 0) min0 (me_0 E _) rfl inX8 21 (by decide) tw_805 rfl rfl hdg kk
end SD
/-! PromisedSlotsModel.nest(II)I -/
def f_X8_nest_157 (a5 : Int32) (s0 : Int32) (σ : St) : Option (Int32 × St) :=
  if s0 = 0 then
    gd (ix a5 4) <|
    vl (up2 σ 27 (nt a5) (σ 0 21)) fun σ33 =>
    vl (up2 σ33 0 24 ((σ33 0 24) + (1 : Int32))) fun σ34 =>
    some (a5, σ34)
  else
    gd (ix a5 4) <|
    vl (up2 σ 27 (nt a5) (((σ 0 21) + (σ 0 16)) - s0)) fun σ30 =>
    vl (up2 σ30 0 24 ((σ30 0 24) + (1 : Int32))) fun σ31 =>
    some (a5, σ31)
def f_X8_nest (p1 : Int32) (p2 : Int32) (σ : St) : Option (Int32 × St) :=
  cl (f_X8_isCoord p1 σ) fun r2 σ1 =>
  if r2 = 0 then
    cl (f_X8_refuses (-1 : Int32) (18 : Int32) (0 : Int32) σ1) fun r6 σ5 =>
    some (r6, σ5)
  else
    cl (f_X8_in (p2.toInt64) (0 : Int64) ((((σ1 0 16) - (1 : Int32))).toInt64) σ1) fun r9 σ8 =>
    if r9 = 0 then
      cl (f_X8_refuses (-1 : Int32) (18 : Int32) (0 : Int32) σ8) fun r42 σ41 =>
      some (r42, σ41)
    else
      if (σ8 0 24) = (4 : Int32) then
        cl (f_X8_refuses (-3 : Int32) (14 : Int32) (0 : Int32) σ8) fun r39 σ38 =>
        some (r39, σ38)
      else
        gd (ix p1 4) <|
        gd (¬ (σ8 0 16) = 0) <|
        vl (((σ8 26 (nt p1)) + p2) - ((σ8 26 (nt p1)) + p2) / (σ8 0 16) * (σ8 0 16)) fun x15 =>
        cl (f_X8_meets 26 (σ8 0 24) x15 (σ8 0 16) (σ8 0 17) σ8) fun r17 σ16 =>
        if r17 = (-4 : Int32) then
          vl (up2 σ16 0 3 (0 : Int32)) fun σ20 =>
          vl (σ20 0 24) fun x21 =>
          cl (f_X8_coordBegins x21 p1 x15 σ20) fun r23 σ22 =>
          gd (¬ (σ22 0 16) = 0) <|
          vl (((σ22 0 21) - x15) - ((σ22 0 21) - x15) / (σ22 0 16) * (σ22 0 16)) fun x26 =>
          if 0 ≤ x26 then
            f_X8_nest_157 x21 x26 σ22
          else
            f_X8_nest_157 x21 (x26 + (σ22 0 16)) σ22
        else
          cl (f_X8_refuses (-2 : Int32) (13 : Int32) ((20 : Int32) + r17) σ16) fun r36 σ35 =>
          some (r36, σ35)
abbrev rm_X8_nest : Room := { frames := 2, cells := 0, slots := 0, locals := 46 }
set_option maxHeartbeats 4000000 in
set_option maxRecDepth 100000 in
theorem w_X8_nest_157 {p : Program} {l : Launch} {e : Env} {s : State} {m : MethodId} {args : Array Value} {below : List Frame} {meth : Method} {c : Code} {E : mEv} {r : Int32} {σ' : St} (B : gBx p m meth c cX8_nest 7 (some .int) s args RX8 (mG E)) (a5 : Int32) (s0 : Int32) (σ : St) (hf : f_X8_nest_157 a5 s0 σ = some (r, σ')) (H : Heap) (locs : List Loc) (ls : Array Slot) (hP : gW (mG E) σ H) (hS : va_S (gA (mG E)) s.heap H locs) (hl : lv_has ls 7 [(0, .ref (mAd E 0)), (5, .int a5)]) : W p l e rm_X8_nest s m args below meth c H locs 0 0 (gQi below args s (mG E) r σ') (F0 m 157 ls [.int s0]) := by
  unfold f_X8_nest_157 at hf
  obtain ⟨F, hr, hlk⟩ := id B
  have hx := F.1
  have hb := F.2.1
  have hml := F.2.2.1
  have hown := F.2.2.2.1
  have hts := F.2.2.2.2.1
  refine lv_istore (lv' := [(6, .int s0), (0, .ref (mAd E 0)), (5, .int a5)]) hx hb dX8_nest_157 hl (by decide) rfl (fun ls hl => ?_)
  refine lv_aload_n hx hb dX8_nest_159 rfl (lv_at hl 1 rfl) ?_
  refine gf_X8_37 F hP dX8_nest_160 ?_
  refine lv_iload hx hb dX8_nest_163 (lv_at hl 2 rfl) ?_
  refine lv_iload hx hb dX8_nest_165 (lv_at hl 0 rfl) ?_
  refine lv_if_ne (tgt := 177) hx hb dX8_nest_167 (by decide) (fun h28 => ?_) (fun h28 => ?_)
  · rw [if_neg h28] at hf
    refine lv_aload_n hx hb dX8_nest_177 rfl (lv_at hl 1 rfl) ?_
    refine gf_X8_237 F hP dX8_nest_178 ?_
    refine lv_aload_n hx hb dX8_nest_181 rfl (lv_at hl 1 rfl) ?_
    refine gf_X8_222 F hP dX8_nest_182 ?_
    refine lv_iadd hx hb dX8_nest_185 ?_
    refine lv_iload hx hb dX8_nest_186 (lv_at hl 0 rfl) ?_
    refine lv_isub hx hb dX8_nest_188 ?_
    obtain ⟨h29, hf⟩ := gd_e hf
    refine m_iast F hP hS ⟨by decide, by decide⟩ rfl h29 dX8_nest_189 (fun H locs hP hS => ?_)
    obtain ⟨σ30, eσ30, hf⟩ := vl_x hf
    rw [← eσ30] at hP
    refine lv_aload_n hx hb dX8_nest_190 rfl (lv_at hl 1 rfl) ?_
    refine lv_dup hx hb dX8_nest_191 rfl ?_
    refine gf_X8_246 F hP dX8_nest_192 ?_
    refine lv_iconst (v := 1) hx hb dX8_nest_195 (by decide) ?_
    refine lv_iadd hx hb dX8_nest_196 ?_
    refine pf_X8_246 F hP hS dX8_nest_197 (fun H locs hP hS => ?_)
    obtain ⟨σ31, eσ31, hf⟩ := vl_x hf
    rw [← eσ31] at hP
    refine lv_iload hx hb dX8_nest_200 (lv_at hl 2 rfl) ?_
    exact g_iret B hP hS hf dX8_nest_202
  · rw [if_pos h28] at hf
    refine lv_aload_n hx hb dX8_nest_170 rfl (lv_at hl 1 rfl) ?_
    refine gf_X8_237 F hP dX8_nest_171 ?_
    refine lv_goto (tgt := 189) hx hb dX8_nest_174 (by decide) ?_
    obtain ⟨h32, hf⟩ := gd_e hf
    refine m_iast F hP hS ⟨by decide, by decide⟩ rfl h32 dX8_nest_189 (fun H locs hP hS => ?_)
    obtain ⟨σ33, eσ33, hf⟩ := vl_x hf
    rw [← eσ33] at hP
    refine lv_aload_n hx hb dX8_nest_190 rfl (lv_at hl 1 rfl) ?_
    refine lv_dup hx hb dX8_nest_191 rfl ?_
    refine gf_X8_246 F hP dX8_nest_192 ?_
    refine lv_iconst (v := 1) hx hb dX8_nest_195 (by decide) ?_
    refine lv_iadd hx hb dX8_nest_196 ?_
    refine pf_X8_246 F hP hS dX8_nest_197 (fun H locs hP hS => ?_)
    obtain ⟨σ34, eσ34, hf⟩ := vl_x hf
    rw [← eσ34] at hP
    refine lv_iload hx hb dX8_nest_200 (lv_at hl 2 rfl) ?_
    exact g_iret B hP hS hf dX8_nest_202
set_option maxHeartbeats 4000000 in
set_option maxRecDepth 100000 in
theorem w_X8_nest_e {p : Program} {l : Launch} {e : Env} {s : State} {m : MethodId} {args : Array Value} {below : List Frame} {meth : Method} {c : Code} {E : mEv} {r : Int32} {σ' : St} (B : gBx p m meth c cX8_nest 7 (some .int) s args RX8 (mG E)) (p1 : Int32) (p2 : Int32) (σ : St) (hf : f_X8_nest p1 p2 σ = some (r, σ')) (H : Heap) (locs : List Loc) (ls : Array Slot) (hP : gW (mG E) σ H) (hS : va_S (gA (mG E)) s.heap H locs) (hl : lv_has ls 7 [(0, .ref (mAd E 0)), (1, .int p1), (2, .int p2)]) : W p l e rm_X8_nest s m args below meth c H locs 0 0 (gQi below args s (mG E) r σ') (F0 m 0 ls []) := by
  unfold f_X8_nest at hf
  obtain ⟨F, hr, hlk⟩ := id B
  have hx := F.1
  have hb := F.2.1
  have hml := F.2.2.1
  have hown := F.2.2.2.1
  have hts := F.2.2.2.2.1
  refine lv_aload_n hx hb dX8_nest_0 rfl (lv_at hl 0 rfl) ?_
  refine lv_iload_n hx hb dX8_nest_1 rfl (lv_at hl 1 rfl) ?_
  obtain ⟨r2, σ1, h3, hf⟩ := cl_e hf
  refine kc_X8_256 F hP hS h3 ⟨Nat.le_of_ble_eq_true rfl, Nat.le_of_ble_eq_true rfl⟩ hl.1 (Nat.le_of_ble_eq_true rfl) ⟨Nat.zero_le _, Nat.zero_le _⟩ dX8_nest_2 (fun H locs hP hS => ?_)
  refine lv_if_eq (tgt := 24) hx hb dX8_nest_5 (by decide) (fun h4 => ?_) (fun h4 => ?_)
  · rw [if_pos h4] at hf
    refine lv_aload_n hx hb dX8_nest_24 rfl (lv_at hl 0 rfl) ?_
    refine lv_iconst (v := (-1)) hx hb dX8_nest_25 (by decide) ?_
    refine lv_bipush (v := (18)) hx hb dX8_nest_26 (by decide) ?_
    refine lv_iconst (v := 0) hx hb dX8_nest_28 (by decide) ?_
    obtain ⟨r6, σ5, h7, hf⟩ := cl_e hf
    refine kc_X8_216 F hP hS h7 ⟨Nat.le_of_ble_eq_true rfl, Nat.le_of_ble_eq_true rfl⟩ hl.1 (Nat.le_of_ble_eq_true rfl) ⟨Nat.zero_le _, Nat.zero_le _⟩ dX8_nest_29 (fun H locs hP hS => ?_)
    exact g_iret B hP hS hf dX8_nest_32
  · rw [if_neg h4] at hf
    refine lv_iload_n hx hb dX8_nest_8 rfl (lv_at hl 2 rfl) ?_
    refine lv_i2l hx hb dX8_nest_9 rfl ?_
    refine lv_lconst (v := 0) hx hb dX8_nest_10 (by decide) ?_
    refine lv_aload_n hx hb dX8_nest_11 rfl (lv_at hl 0 rfl) ?_
    refine gf_X8_222 F hP dX8_nest_12 ?_
    refine lv_iconst (v := 1) hx hb dX8_nest_15 (by decide) ?_
    refine lv_isub hx hb dX8_nest_16 ?_
    refine lv_i2l hx hb dX8_nest_17 rfl ?_
    obtain ⟨r9, σ8, h10, hf⟩ := cl_e hf
    refine kc_X8_161 F hP hS h10 ⟨Nat.le_of_ble_eq_true rfl, Nat.le_of_ble_eq_true rfl⟩ hl.1 (Nat.le_of_ble_eq_true rfl) ⟨Nat.zero_le _, Nat.zero_le _⟩ dX8_nest_18 (fun H locs hP hS => ?_)
    refine lv_if_ne (tgt := 33) hx hb dX8_nest_21 (by decide) (fun h11 => ?_) (fun h11 => ?_)
    · rw [if_neg h11] at hf
      refine lv_aload_n hx hb dX8_nest_33 rfl (lv_at hl 0 rfl) ?_
      refine gf_X8_246 F hP dX8_nest_34 ?_
      refine lv_iconst (v := 4) hx hb dX8_nest_37 (by decide) ?_
      refine lv_icmp_ne (tgt := 51) hx hb dX8_nest_38 (by decide) (fun h12 => ?_) (fun h12 => ?_)
      · rw [if_neg h12] at hf
        refine lv_aload_n hx hb dX8_nest_51 rfl (lv_at hl 0 rfl) ?_
        refine gf_X8_34 F hP dX8_nest_52 ?_
        refine lv_iload_n hx hb dX8_nest_55 rfl (lv_at hl 1 rfl) ?_
        obtain ⟨h13, hf⟩ := gd_e hf
        refine m_iald F hP ⟨by decide, by decide⟩ rfl h13 dX8_nest_56 ?_
        refine lv_iload_n hx hb dX8_nest_57 rfl (lv_at hl 2 rfl) ?_
        refine lv_iadd hx hb dX8_nest_58 ?_
        refine lv_aload_n hx hb dX8_nest_59 rfl (lv_at hl 0 rfl) ?_
        refine gf_X8_222 F hP dX8_nest_60 ?_
        obtain ⟨h14, hf⟩ := gd_e hf
        refine lv_irem hx hb dX8_nest_63 h14 ?_
        obtain ⟨x15, ex15, hf⟩ := vl_x hf
        rw [← ex15]
        refine lv_istore_n (lv' := [(3, .int x15), (0, .ref (mAd E 0)), (1, .int p1), (2, .int p2)]) hx hb dX8_nest_64 rfl hl (by decide) rfl (fun ls hl => ?_)
        refine lv_aload_n hx hb dX8_nest_65 rfl (lv_at hl 1 rfl) ?_
        refine gf_X8_34 F hP dX8_nest_66 ?_
        refine lv_aload_n hx hb dX8_nest_69 rfl (lv_at hl 1 rfl) ?_
        refine gf_X8_246 F hP dX8_nest_70 ?_
        refine lv_iload_n hx hb dX8_nest_73 rfl (lv_at hl 0 rfl) ?_
        refine lv_aload_n hx hb dX8_nest_74 rfl (lv_at hl 1 rfl) ?_
        refine gf_X8_222 F hP dX8_nest_75 ?_
        refine lv_aload_n hx hb dX8_nest_78 rfl (lv_at hl 1 rfl) ?_
        refine gf_X8_225 F hP dX8_nest_79 ?_
        obtain ⟨r17, σ16, h18, hf⟩ := cl_e hf
        refine kc_X8_189 F hP hS ⟨by decide, by decide⟩ h18 ⟨Nat.le_of_ble_eq_true rfl, Nat.le_of_ble_eq_true rfl⟩ hl.1 (Nat.le_of_ble_eq_true rfl) ⟨Nat.zero_le _, Nat.zero_le _⟩ dX8_nest_82 (fun H locs hP hS => ?_)
        refine lv_istore (lv' := [(4, .int r17), (3, .int x15), (0, .ref (mAd E 0)), (1, .int p1), (2, .int p2)]) hx hb dX8_nest_85 hl (by decide) rfl (fun ls hl => ?_)
        refine lv_iload hx hb dX8_nest_87 (lv_at hl 0 rfl) ?_
        refine lv_bipush (v := (-4)) hx hb dX8_nest_89 (by decide) ?_
        refine lv_icmp_eq (tgt := 108) hx hb dX8_nest_91 (by decide) (fun h19 => ?_) (fun h19 => ?_)
        · rw [if_pos h19] at hf
          refine lv_aload_n hx hb dX8_nest_108 rfl (lv_at hl 2 rfl) ?_
          refine lv_iconst (v := 0) hx hb dX8_nest_109 (by decide) ?_
          refine pf_X8_148 F hP hS dX8_nest_110 (fun H locs hP hS => ?_)
          obtain ⟨σ20, eσ20, hf⟩ := vl_x hf
          rw [← eσ20] at hP
          refine lv_aload_n hx hb dX8_nest_113 rfl (lv_at hl 2 rfl) ?_
          refine gf_X8_246 F hP dX8_nest_114 ?_
          obtain ⟨x21, ex21, hf⟩ := vl_x hf
          rw [← ex21]
          refine lv_istore (lv' := [(5, .int x21), (4, .int r17), (3, .int x15), (0, .ref (mAd E 0)), (1, .int p1), (2, .int p2)]) hx hb dX8_nest_117 hl (by decide) rfl (fun ls hl => ?_)
          refine lv_aload_n hx hb dX8_nest_119 rfl (lv_at hl 3 rfl) ?_
          refine lv_iload hx hb dX8_nest_120 (lv_at hl 0 rfl) ?_
          refine lv_iload_n hx hb dX8_nest_122 rfl (lv_at hl 4 rfl) ?_
          refine lv_iload_n hx hb dX8_nest_123 rfl (lv_at hl 2 rfl) ?_
          obtain ⟨r23, σ22, h24, hf⟩ := cl_e hf
          refine kc_X8_249 F hP hS h24 ⟨Nat.le_of_ble_eq_true rfl, Nat.le_of_ble_eq_true rfl⟩ hl.1 (Nat.le_of_ble_eq_true rfl) ⟨Nat.zero_le _, Nat.zero_le _⟩ dX8_nest_124 (fun H locs hP hS => ?_)
          refine lv_aload_n hx hb dX8_nest_127 rfl (lv_at hl 3 rfl) ?_
          refine gf_X8_237 F hP dX8_nest_128 ?_
          refine lv_iload_n hx hb dX8_nest_131 rfl (lv_at hl 2 rfl) ?_
          refine lv_isub hx hb dX8_nest_132 ?_
          refine lv_aload_n hx hb dX8_nest_133 rfl (lv_at hl 3 rfl) ?_
          refine gf_X8_222 F hP dX8_nest_134 ?_
          obtain ⟨h25, hf⟩ := gd_e hf
          refine lv_irem hx hb dX8_nest_137 h25 ?_
          obtain ⟨x26, ex26, hf⟩ := vl_x hf
          rw [← ex26]
          refine lv_istore (lv' := [(6, .int x26), (5, .int x21), (4, .int r17), (3, .int x15), (0, .ref (mAd E 0)), (1, .int p1), (2, .int p2)]) hx hb dX8_nest_138 hl (by decide) rfl (fun ls hl => ?_)
          refine lv_iload hx hb dX8_nest_140 (lv_at hl 0 rfl) ?_
          refine lv_if_ge (tgt := 155) hx hb dX8_nest_142 (by decide) (fun h27 => ?_) (fun h27 => ?_)
          · rw [if_pos h27] at hf
            refine lv_iload hx hb dX8_nest_155 (lv_at hl 0 rfl) ?_
            exact w_X8_nest_157 B _ _ σ22 hf _ _ _ hP hS (lv_sub hl [4, 1] rfl)
          · rw [if_neg h27] at hf
            refine lv_iload hx hb dX8_nest_145 (lv_at hl 0 rfl) ?_
            refine lv_aload_n hx hb dX8_nest_147 rfl (lv_at hl 4 rfl) ?_
            refine gf_X8_222 F hP dX8_nest_148 ?_
            refine lv_iadd hx hb dX8_nest_151 ?_
            refine lv_goto (tgt := 157) hx hb dX8_nest_152 (by decide) ?_
            exact w_X8_nest_157 B _ _ σ22 hf _ _ _ hP hS (lv_sub hl [4, 1] rfl)
        · rw [if_neg h19] at hf
          refine lv_aload_n hx hb dX8_nest_94 rfl (lv_at hl 2 rfl) ?_
          refine lv_bipush (v := (-2)) hx hb dX8_nest_95 (by decide) ?_
          refine lv_bipush (v := (13)) hx hb dX8_nest_97 (by decide) ?_
          refine lv_bipush (v := (20)) hx hb dX8_nest_99 (by decide) ?_
          refine lv_iload hx hb dX8_nest_101 (lv_at hl 0 rfl) ?_
          refine lv_iadd hx hb dX8_nest_103 ?_
          obtain ⟨r36, σ35, h37, hf⟩ := cl_e hf
          refine kc_X8_216 F hP hS h37 ⟨Nat.le_of_ble_eq_true rfl, Nat.le_of_ble_eq_true rfl⟩ hl.1 (Nat.le_of_ble_eq_true rfl) ⟨Nat.zero_le _, Nat.zero_le _⟩ dX8_nest_104 (fun H locs hP hS => ?_)
          exact g_iret B hP hS hf dX8_nest_107
      · rw [if_pos h12] at hf
        refine lv_aload_n hx hb dX8_nest_41 rfl (lv_at hl 0 rfl) ?_
        refine lv_bipush (v := (-3)) hx hb dX8_nest_42 (by decide) ?_
        refine lv_bipush (v := (14)) hx hb dX8_nest_44 (by decide) ?_
        refine lv_iconst (v := 0) hx hb dX8_nest_46 (by decide) ?_
        obtain ⟨r39, σ38, h40, hf⟩ := cl_e hf
        refine kc_X8_216 F hP hS h40 ⟨Nat.le_of_ble_eq_true rfl, Nat.le_of_ble_eq_true rfl⟩ hl.1 (Nat.le_of_ble_eq_true rfl) ⟨Nat.zero_le _, Nat.zero_le _⟩ dX8_nest_47 (fun H locs hP hS => ?_)
        exact g_iret B hP hS hf dX8_nest_50
    · rw [if_pos h11] at hf
      refine lv_aload_n hx hb dX8_nest_24 rfl (lv_at hl 0 rfl) ?_
      refine lv_iconst (v := (-1)) hx hb dX8_nest_25 (by decide) ?_
      refine lv_bipush (v := (18)) hx hb dX8_nest_26 (by decide) ?_
      refine lv_iconst (v := 0) hx hb dX8_nest_28 (by decide) ?_
      obtain ⟨r42, σ41, h43, hf⟩ := cl_e hf
      refine kc_X8_216 F hP hS h43 ⟨Nat.le_of_ble_eq_true rfl, Nat.le_of_ble_eq_true rfl⟩ hl.1 (Nat.le_of_ble_eq_true rfl) ⟨Nat.zero_le _, Nat.zero_le _⟩ dX8_nest_29 (fun H locs hP hS => ?_)
      exact g_iret B hP hS hf dX8_nest_32
theorem c_X8_nest (l : Launch) {E : mEv} (hI : gIj (mG E)) {p1 : Int32} {p2 : Int32} {σ σ' : St} {r : Int32} (hf : f_X8_nest p1 p2 σ = some (r, σ')) : gMi l yX8_nest cX8_nest 7 .int rm_X8_nest [.ref (mAd E 0), .int p1, .int p2] (mG E) σ r σ' :=
  g_entry (by decide) (Nat.le_of_ble_eq_true rfl) hI (fun p e s m args below meth c B hP hS ls hl => w_X8_nest_e B _ _ σ hf _ _ ls hP hS hl)
section SD
variable {p : Program} {l : Launch} {e : Env} {R : Room} {s : State} {m : MethodId} {args : Array Value} {below : List Frame} {meth : Method} {c : Code} {H : Heap} {locs : List Loc} {cells slots : Nat} {Q : State → Prop}
variable {cc : ByteArray} {pc nL : Nat} {ls : Array Slot} {rest : List Value} {E : mEv} {σ : St}
theorem gf_X8_240 (F : gFx p m c cc nL s args RX8 (mG E)) (hP : gW (mG E) σ H) (hdg : decode cc pc = .ok (.getfield 240, 3)) (kk : W p l e R s m args below meth c H locs cells slots Q (F0 m (pc + 3) ls (.int (σ 0 22) :: rest))) : W p l e R s m args below meth c H locs cells slots Q (F0 m pc ls (.ref (mAd E 0) :: rest)) :=
  g_get F hP (k := 0) min0 (me_0 E _) rfl inX8 22 (by decide) tw_806 rfl rfl hdg kk
end SD
/-! PromisedSlotsModel.seed(I)I -/
def f_X8_seed (p1 : Int32) (σ : St) : Option (Int32 × St) :=
  cl (f_X8_in (p1.toInt64) (0 : Int64) (65520 : Int64) σ) fun r2 σ1 =>
  if r2 = 0 then
    some ((-1 : Int32), σ1)
  else
    vl (σ1 0 22) fun x5 =>
    vl (up2 σ1 0 22 p1) fun σ6 =>
    some (x5, σ6)
abbrev rm_X8_seed : Room := { frames := 1, cells := 0, slots := 0, locals := 25 }
set_option maxHeartbeats 4000000 in
set_option maxRecDepth 100000 in
theorem w_X8_seed_e {p : Program} {l : Launch} {e : Env} {s : State} {m : MethodId} {args : Array Value} {below : List Frame} {meth : Method} {c : Code} {E : mEv} {r : Int32} {σ' : St} (B : gBx p m meth c cX8_seed 3 (some .int) s args RX8 (mG E)) (p1 : Int32) (σ : St) (hf : f_X8_seed p1 σ = some (r, σ')) (H : Heap) (locs : List Loc) (ls : Array Slot) (hP : gW (mG E) σ H) (hS : va_S (gA (mG E)) s.heap H locs) (hl : lv_has ls 3 [(0, .ref (mAd E 0)), (1, .int p1)]) : W p l e rm_X8_seed s m args below meth c H locs 0 0 (gQi below args s (mG E) r σ') (F0 m 0 ls []) := by
  unfold f_X8_seed at hf
  obtain ⟨F, hr, hlk⟩ := id B
  have hx := F.1
  have hb := F.2.1
  have hml := F.2.2.1
  have hown := F.2.2.2.1
  have hts := F.2.2.2.2.1
  refine lv_iload_n hx hb dX8_seed_0 rfl (lv_at hl 1 rfl) ?_
  refine lv_i2l hx hb dX8_seed_1 rfl ?_
  refine lv_lconst (v := 0) hx hb dX8_seed_2 (by decide) ?_
  refine lv_ldc2 hx hb hown (hts _ tw_1037) dX8_seed_3 ?_
  obtain ⟨r2, σ1, h3, hf⟩ := cl_e hf
  refine kc_X8_161 F hP hS h3 ⟨Nat.le_of_ble_eq_true rfl, Nat.le_of_ble_eq_true rfl⟩ hl.1 (Nat.le_of_ble_eq_true rfl) ⟨Nat.zero_le _, Nat.zero_le _⟩ dX8_seed_6 (fun H locs hP hS => ?_)
  refine lv_if_ne (tgt := 14) hx hb dX8_seed_9 (by decide) (fun h4 => ?_) (fun h4 => ?_)
  · rw [if_neg h4] at hf
    refine lv_aload_n hx hb dX8_seed_14 rfl (lv_at hl 0 rfl) ?_
    refine gf_X8_240 F hP dX8_seed_15 ?_
    obtain ⟨x5, ex5, hf⟩ := vl_x hf
    rw [← ex5]
    refine lv_istore_n (lv' := [(2, .int x5), (0, .ref (mAd E 0)), (1, .int p1)]) hx hb dX8_seed_18 rfl hl (by decide) rfl (fun ls hl => ?_)
    refine lv_aload_n hx hb dX8_seed_19 rfl (lv_at hl 1 rfl) ?_
    refine lv_iload_n hx hb dX8_seed_20 rfl (lv_at hl 2 rfl) ?_
    refine pf_X8_240 F hP hS dX8_seed_21 (fun H locs hP hS => ?_)
    obtain ⟨σ6, eσ6, hf⟩ := vl_x hf
    rw [← eσ6] at hP
    refine lv_iload_n hx hb dX8_seed_24 rfl (lv_at hl 0 rfl) ?_
    exact g_iret B hP hS hf dX8_seed_25
  · rw [if_pos h4] at hf
    refine lv_iconst (v := (-1)) hx hb dX8_seed_12 (by decide) ?_
    exact g_iret B hP hS hf dX8_seed_13
theorem c_X8_seed (l : Launch) {E : mEv} (hI : gIj (mG E)) {p1 : Int32} {σ σ' : St} {r : Int32} (hf : f_X8_seed p1 σ = some (r, σ')) : gMi l yX8_seed cX8_seed 3 .int rm_X8_seed [.ref (mAd E 0), .int p1] (mG E) σ r σ' :=
  g_entry (by decide) (Nat.le_of_ble_eq_true rfl) hI (fun p e s m args below meth c B hP hS ls hl => w_X8_seed_e B _ σ hf _ _ ls hP hS hl)
/-! PromisedSlotsModel.isDevice(I)Z -/
def f_X8_isDevice (p1 : Int32) (σ : St) : Option (Int32 × St) :=
  cl (f_X8_in (p1.toInt64) (0 : Int64) ((((σ 0 35) - (1 : Int32))).toInt64) σ) fun r2 σ1 =>
  gd (r2 = 0 ∨ r2 = 1) <|
  some (r2, σ1)
abbrev rm_X8_isDevice : Room := { frames := 1, cells := 0, slots := 0, locals := 25 }
set_option maxHeartbeats 4000000 in
set_option maxRecDepth 100000 in
theorem w_X8_isDevice_e {p : Program} {l : Launch} {e : Env} {s : State} {m : MethodId} {args : Array Value} {below : List Frame} {meth : Method} {c : Code} {E : mEv} {r : Int32} {σ' : St} (B : gBx p m meth c cX8_isDevice 2 (some .boolean) s args RX8 (mG E)) (p1 : Int32) (σ : St) (hf : f_X8_isDevice p1 σ = some (r, σ')) (H : Heap) (locs : List Loc) (ls : Array Slot) (hP : gW (mG E) σ H) (hS : va_S (gA (mG E)) s.heap H locs) (hl : lv_has ls 2 [(0, .ref (mAd E 0)), (1, .int p1)]) : W p l e rm_X8_isDevice s m args below meth c H locs 0 0 (gQi below args s (mG E) r σ') (F0 m 0 ls []) := by
  unfold f_X8_isDevice at hf
  obtain ⟨F, hr, hlk⟩ := id B
  have hx := F.1
  have hb := F.2.1
  have hml := F.2.2.1
  have hown := F.2.2.2.1
  have hts := F.2.2.2.2.1
  refine lv_iload_n hx hb dX8_isDevice_0 rfl (lv_at hl 1 rfl) ?_
  refine lv_i2l hx hb dX8_isDevice_1 rfl ?_
  refine lv_lconst (v := 0) hx hb dX8_isDevice_2 (by decide) ?_
  refine lv_aload_n hx hb dX8_isDevice_3 rfl (lv_at hl 0 rfl) ?_
  refine gf_X8_219 F hP dX8_isDevice_4 ?_
  refine lv_iconst (v := 1) hx hb dX8_isDevice_7 (by decide) ?_
  refine lv_isub hx hb dX8_isDevice_8 ?_
  refine lv_i2l hx hb dX8_isDevice_9 rfl ?_
  obtain ⟨r2, σ1, h3, hf⟩ := cl_e hf
  refine kc_X8_161 F hP hS h3 ⟨Nat.le_of_ble_eq_true rfl, Nat.le_of_ble_eq_true rfl⟩ hl.1 (Nat.le_of_ble_eq_true rfl) ⟨Nat.zero_le _, Nat.zero_le _⟩ dX8_isDevice_10 (fun H locs hP hS => ?_)
  obtain ⟨h4, hf⟩ := gd_e hf
  exact g_zret B hP hS hf h4 dX8_isDevice_13
theorem c_X8_isDevice (l : Launch) {E : mEv} (hI : gIj (mG E)) {p1 : Int32} {σ σ' : St} {r : Int32} (hf : f_X8_isDevice p1 σ = some (r, σ')) : gMi l yX8_isDevice cX8_isDevice 2 .boolean rm_X8_isDevice [.ref (mAd E 0), .int p1] (mG E) σ r σ' :=
  g_entry (by decide) (Nat.le_of_ble_eq_true rfl) hI (fun p e s m args below meth c B hP hS ls hl => w_X8_isDevice_e B _ σ hf _ _ ls hP hS hl)
/-! PromisedSlotsModel.has(II)Z -/
def f_X8_has (p1 : Int32) (p2 : Int32) (σ : St) : Option (Int32 × St) :=
  if ((p1 >>> (p2 &&& 31)) &&& (1 : Int32)) = (1 : Int32) then
    some ((1 : Int32), σ)
  else
    some ((0 : Int32), σ)
abbrev rm_X8_has : Room := { frames := 0, cells := 0, slots := 0, locals := 0 }
set_option maxHeartbeats 4000000 in
set_option maxRecDepth 100000 in
theorem w_X8_has_e {p : Program} {l : Launch} {e : Env} {s : State} {m : MethodId} {args : Array Value} {below : List Frame} {meth : Method} {c : Code} {E : mEv} {r : Int32} {σ' : St} (B : gBx p m meth c cX8_has 2 (some .boolean) s args RX8 (mG E)) (p1 : Int32) (p2 : Int32) (σ : St) (hf : f_X8_has p1 p2 σ = some (r, σ')) (H : Heap) (locs : List Loc) (ls : Array Slot) (hP : gW (mG E) σ H) (hS : va_S (gA (mG E)) s.heap H locs) (hl : lv_has ls 2 [(0, .int p1), (1, .int p2)]) : W p l e rm_X8_has s m args below meth c H locs 0 0 (gQi below args s (mG E) r σ') (F0 m 0 ls []) := by
  unfold f_X8_has at hf
  obtain ⟨F, hr, hlk⟩ := id B
  have hx := F.1
  have hb := F.2.1
  have hml := F.2.2.1
  have hown := F.2.2.2.1
  have hts := F.2.2.2.2.1
  refine lv_iload_n hx hb dX8_has_0 rfl (lv_at hl 0 rfl) ?_
  refine lv_iload_n hx hb dX8_has_1 rfl (lv_at hl 1 rfl) ?_
  refine lv_ishr hx hb dX8_has_2 ?_
  refine lv_iconst (v := 1) hx hb dX8_has_3 (by decide) ?_
  refine lv_iand hx hb dX8_has_4 ?_
  refine lv_iconst (v := 1) hx hb dX8_has_5 (by decide) ?_
  refine lv_icmp_ne (tgt := 13) hx hb dX8_has_6 (by decide) (fun h1 => ?_) (fun h1 => ?_)
  · rw [if_neg h1] at hf
    refine lv_iconst (v := 0) hx hb dX8_has_13 (by decide) ?_
    exact g_zret B hP hS hf (by decide) dX8_has_14
  · rw [if_pos h1] at hf
    refine lv_iconst (v := 1) hx hb dX8_has_9 (by decide) ?_
    refine lv_goto (tgt := 14) hx hb dX8_has_10 (by decide) ?_
    exact g_zret B hP hS hf (by decide) dX8_has_14
theorem c_X8_has (l : Launch) {E : mEv} (hI : gIj (mG E)) {p1 : Int32} {p2 : Int32} {σ σ' : St} {r : Int32} (hf : f_X8_has p1 p2 σ = some (r, σ')) : gMi l yX8_has cX8_has 2 .boolean rm_X8_has [.int p1, .int p2] (mG E) σ r σ' :=
  g_entry (by decide) (Nat.le_of_ble_eq_true rfl) hI (fun p e s m args below meth c B hP hS ls hl => w_X8_has_e B _ _ σ hf _ _ ls hP hS hl)
section SD
variable {p : Program} {l : Launch} {e : Env} {R : Room} {s : State} {m : MethodId} {args : Array Value} {below : List Frame} {meth : Method} {c : Code} {H : Heap} {locs : List Loc} {cells slots : Nat} {Q : State → Prop}
variable {cc : ByteArray} {pc nL : Nat} {ls : Array Slot} {rest : List Value} {E : mEv} {σ : St}
theorem gf_X8_49 (F : gFx p m c cc nL s args RX8 (mG E)) (hP : gW (mG E) σ H) (hdg : decode cc pc = .ok (.getfield 49, 3)) (kk : W p l e R s m args below meth c H locs cells slots Q (F0 m (pc + 3) ls (.ref (mAd E 31) :: rest))) : W p l e R s m args below meth c H locs cells slots Q (F0 m pc ls (.ref (mAd E 0) :: rest)) :=
  g_get F hP (k := 0) min0 (me_0 E _) rfl inX8 31 (by decide) tw_815 rfl rfl hdg kk
end SD
/-! PromisedSlotsModel.promiseOf(II)I -/
def b_X8_promiseOf_2 (K2 : (Int32 × Int32 × Int32 × St → Option (Int32 × St))) (a1 : Int32) (a2 : Int32) (a3 : Int32) (σ : St) : Option (Int32 × St) :=
  gd (ix a1 4) <|
  if (σ 30 (nt a1)) ≤ a3 then
    some ((-4 : Int32), σ)
  else
    gd (ix (((7 : Int32) * a1) + a3) 28) <|
    if (σ 31 (nt (((7 : Int32) * a1) + a3))) = a2 then
      some (a3, σ)
    else
      vl (a3 + (1 : Int32)) fun x5 =>
      K2 (a1, a2, x5, σ)
def f_X8_promiseOf (p1 : Int32) (p2 : Int32) (σ : St) : Option (Int32 × St) :=
  lp (fun K a => b_X8_promiseOf_2 K a.1 a.2.1 a.2.2.1 a.2.2.2) FU (p1, p2, (0 : Int32), σ)
abbrev rm_X8_promiseOf : Room := { frames := 0, cells := 0, slots := 0, locals := 0 }
def P_X8_promiseOf_2 (p : Program) (l : Launch) (e : Env) (s : State) (m : MethodId) (args : Array Value) (below : List Frame) (meth : Method) (c : Code) (E : mEv) (r : Int32) (σ' : St) (a : Int32 × Int32 × Int32 × St) : Prop := ∀ (H : Heap) (locs : List Loc) (ls : Array Slot), gW (mG E) a.2.2.2 H → va_S (gA (mG E)) s.heap H locs → lv_has ls 4 [(0, .ref (mAd E 0)), (1, .int a.1), (2, .int a.2.1), (3, .int a.2.2.1)] → W p l e rm_X8_promiseOf s m args below meth c H locs 0 0 (gQi below args s (mG E) r σ') (F0 m 2 ls [])
set_option maxHeartbeats 4000000 in
set_option maxRecDepth 100000 in
theorem w_X8_promiseOf_2 {p : Program} {l : Launch} {e : Env} {s : State} {m : MethodId} {args : Array Value} {below : List Frame} {meth : Method} {c : Code} {E : mEv} {r : Int32} {σ' : St} (B : gBx p m meth c cX8_promiseOf 4 (some .int) s args RX8 (mG E)) {K2 : (Int32 × Int32 × Int32 × St → Option (Int32 × St))} (hK2 : ∀ a, K2 a = some (r, σ') → P_X8_promiseOf_2 p l e s m args below meth c E r σ' a) (a1 : Int32) (a2 : Int32) (a3 : Int32) (σ : St) (hf : b_X8_promiseOf_2 K2 a1 a2 a3 σ = some (r, σ')) (H : Heap) (locs : List Loc) (ls : Array Slot) (hP : gW (mG E) σ H) (hS : va_S (gA (mG E)) s.heap H locs) (hl : lv_has ls 4 [(0, .ref (mAd E 0)), (1, .int a1), (2, .int a2), (3, .int a3)]) : W p l e rm_X8_promiseOf s m args below meth c H locs 0 0 (gQi below args s (mG E) r σ') (F0 m 2 ls []) := by
  unfold b_X8_promiseOf_2 at hf
  obtain ⟨F, hr, hlk⟩ := id B
  have hx := F.1
  have hb := F.2.1
  have hml := F.2.2.1
  have hown := F.2.2.2.1
  have hts := F.2.2.2.2.1
  refine lv_iload_n hx hb dX8_promiseOf_2 rfl (lv_at hl 3 rfl) ?_
  refine lv_aload_n hx hb dX8_promiseOf_3 rfl (lv_at hl 0 rfl) ?_
  refine gf_X8_46 F hP dX8_promiseOf_4 ?_
  refine lv_iload_n hx hb dX8_promiseOf_7 rfl (lv_at hl 1 rfl) ?_
  obtain ⟨h1, hf⟩ := gd_e hf
  refine m_iald F hP ⟨by decide, by decide⟩ rfl h1 dX8_promiseOf_8 ?_
  refine lv_icmp_ge (tgt := 35) hx hb dX8_promiseOf_9 (by decide) (fun h2 => ?_) (fun h2 => ?_)
  · rw [if_pos h2] at hf
    refine lv_bipush (v := (-4)) hx hb dX8_promiseOf_35 (by decide) ?_
    exact g_iret B hP hS hf dX8_promiseOf_37
  · rw [if_neg h2] at hf
    refine lv_aload_n hx hb dX8_promiseOf_12 rfl (lv_at hl 0 rfl) ?_
    refine gf_X8_49 F hP dX8_promiseOf_13 ?_
    refine lv_bipush (v := (7)) hx hb dX8_promiseOf_16 (by decide) ?_
    refine lv_iload_n hx hb dX8_promiseOf_18 rfl (lv_at hl 1 rfl) ?_
    refine lv_imul hx hb dX8_promiseOf_19 ?_
    refine lv_iload_n hx hb dX8_promiseOf_20 rfl (lv_at hl 3 rfl) ?_
    refine lv_iadd hx hb dX8_promiseOf_21 ?_
    obtain ⟨h3, hf⟩ := gd_e hf
    refine m_iald F hP ⟨by decide, by decide⟩ rfl h3 dX8_promiseOf_22 ?_
    refine lv_iload_n hx hb dX8_promiseOf_23 rfl (lv_at hl 2 rfl) ?_
    refine lv_icmp_ne (tgt := 29) hx hb dX8_promiseOf_24 (by decide) (fun h4 => ?_) (fun h4 => ?_)
    · rw [if_neg h4] at hf
      refine lv_iinc (v := a3 + (1 : Int32)) (lv' := [(3, .int (a3 + (1 : Int32))), (0, .ref (mAd E 0)), (1, .int a1), (2, .int a2)]) hx hb dX8_promiseOf_29 hl (k := 3) rfl rfl (by decide) rfl (fun ls hl => ?_)
      obtain ⟨x5, ex5, hf⟩ := vl_x hf
      rw [← ex5] at hl
      refine lv_goto (tgt := 2) hx hb dX8_promiseOf_32 (by decide) ?_
      exact hK2 _ hf _ _ _ hP hS (lv_sub hl [1, 2, 3, 0] rfl)
    · rw [if_pos h4] at hf
      refine lv_iload_n hx hb dX8_promiseOf_27 rfl (lv_at hl 3 rfl) ?_
      exact g_iret B hP hS hf dX8_promiseOf_28
set_option maxHeartbeats 4000000 in
set_option maxRecDepth 100000 in
theorem w_X8_promiseOf_e {p : Program} {l : Launch} {e : Env} {s : State} {m : MethodId} {args : Array Value} {below : List Frame} {meth : Method} {c : Code} {E : mEv} {r : Int32} {σ' : St} (B : gBx p m meth c cX8_promiseOf 4 (some .int) s args RX8 (mG E)) (p1 : Int32) (p2 : Int32) (σ : St) (hf : f_X8_promiseOf p1 p2 σ = some (r, σ')) (H : Heap) (locs : List Loc) (ls : Array Slot) (hP : gW (mG E) σ H) (hS : va_S (gA (mG E)) s.heap H locs) (hl : lv_has ls 4 [(0, .ref (mAd E 0)), (1, .int p1), (2, .int p2)]) : W p l e rm_X8_promiseOf s m args below meth c H locs 0 0 (gQi below args s (mG E) r σ') (F0 m 0 ls []) := by
  unfold f_X8_promiseOf at hf
  obtain ⟨F, hr, hlk⟩ := id B
  have hx := F.1
  have hb := F.2.1
  have hml := F.2.2.1
  have hown := F.2.2.2.1
  have hts := F.2.2.2.2.1
  refine lv_iconst (v := 0) hx hb dX8_promiseOf_0 (by decide) ?_
  refine lv_istore_n (lv' := [(3, .int (0 : Int32)), (0, .ref (mAd E 0)), (1, .int p1), (2, .int p2)]) hx hb dX8_promiseOf_1 rfl hl (by decide) rfl (fun ls hl => ?_)
  exact lp_w (P := P_X8_promiseOf_2 p l e s m args below meth c E r σ') (fun K hK a ha => w_X8_promiseOf_2 B hK a.1 a.2.1 a.2.2.1 a.2.2.2 ha) FU _ hf _ _ _ hP hS (lv_sub hl [1, 2, 3, 0] rfl)
theorem c_X8_promiseOf (l : Launch) {E : mEv} (hI : gIj (mG E)) {p1 : Int32} {p2 : Int32} {σ σ' : St} {r : Int32} (hf : f_X8_promiseOf p1 p2 σ = some (r, σ')) : gMi l yX8_promiseOf cX8_promiseOf 4 .int rm_X8_promiseOf [.ref (mAd E 0), .int p1, .int p2] (mG E) σ r σ' :=
  g_entry (by decide) (Nat.le_of_ble_eq_true rfl) hI (fun p e s m args below meth c B hP hS ls hl => w_X8_promiseOf_e B _ _ σ hf _ _ ls hP hS hl)
section SD
variable {p : Program} {l : Launch} {e : Env} {R : Room} {s : State} {m : MethodId} {args : Array Value} {below : List Frame} {meth : Method} {c : Code} {H : Heap} {locs : List Loc} {cells slots : Nat} {Q : State → Prop}
variable {cc : ByteArray} {pc nL : Nat} {ls : Array Slot} {rest : List Value} {E : mEv} {σ : St}
theorem gf_X8_52 (F : gFx p m c cc nL s args RX8 (mG E)) (hP : gW (mG E) σ H) (hdg : decode cc pc = .ok (.getfield 52, 3)) (kk : W p l e R s m args below meth c H locs cells slots Q (F0 m (pc + 3) ls (.ref (mAd E 32) :: rest))) : W p l e R s m args below meth c H locs cells slots Q (F0 m pc ls (.ref (mAd E 0) :: rest)) :=
  g_get F hP (k := 0) min0 (me_0 E _) rfl inX8 32 (by decide) tw_816 rfl rfl hdg kk
theorem gf_X8_55 (F : gFx p m c cc nL s args RX8 (mG E)) (hP : gW (mG E) σ H) (hdg : decode cc pc = .ok (.getfield 55, 3)) (kk : W p l e R s m args below meth c H locs cells slots Q (F0 m (pc + 3) ls (.ref (mAd E 33) :: rest))) : W p l e R s m args below meth c H locs cells slots Q (F0 m pc ls (.ref (mAd E 0) :: rest)) :=
  g_get F hP (k := 0) min0 (me_0 E _) rfl inX8 33 (by decide) tw_817 rfl rfl hdg kk
end SD
/-! PromisedSlotsModel.letGo(II)V -/
def b_X8_letGo_12 (K12 : (Int32 × Int32 × St → Option (Unit × St))) (a1 : Int32) (a3 : Int32) (σ : St) : Option (Unit × St) :=
  gd (ix a1 4) <|
  if (σ 30 (nt a1)) ≤ a3 then
    some ((), σ)
  else
    gd (ix ((((7 : Int32) * a1) + a3) + (1 : Int32)) 28) <|
    gd (ix (((7 : Int32) * a1) + a3) 28) <|
    vl (up2 σ 31 (nt (((7 : Int32) * a1) + a3)) (σ 31 (nt ((((7 : Int32) * a1) + a3) + (1 : Int32))))) fun σ8 =>
    gd (ix ((((7 : Int32) * a1) + a3) + (1 : Int32)) 28) <|
    gd (ix (((7 : Int32) * a1) + a3) 28) <|
    vl (up2 σ8 32 (nt (((7 : Int32) * a1) + a3)) (σ8 32 (nt ((((7 : Int32) * a1) + a3) + (1 : Int32))))) fun σ11 =>
    gd (ix ((((7 : Int32) * a1) + a3) + (1 : Int32)) 28) <|
    gd (ix (((7 : Int32) * a1) + a3) 28) <|
    vl (up2 σ11 33 (nt (((7 : Int32) * a1) + a3)) (σ11 33 (nt ((((7 : Int32) * a1) + a3) + (1 : Int32))))) fun σ14 =>
    vl (a3 + (1 : Int32)) fun x15 =>
    K12 (a1, x15, σ14)
def f_X8_letGo (p1 : Int32) (p2 : Int32) (σ : St) : Option (Unit × St) :=
  gd (ix p1 4) <|
  gd (ix p1 4) <|
  vl (up2 σ 30 (nt p1) ((σ 30 (nt p1)) - (1 : Int32))) fun σ3 =>
  lp (fun K a => b_X8_letGo_12 K a.1 a.2.1 a.2.2) FU (p1, p2, σ3)
abbrev rm_X8_letGo : Room := { frames := 0, cells := 0, slots := 0, locals := 0 }
def P_X8_letGo_12 (p : Program) (l : Launch) (e : Env) (s : State) (m : MethodId) (args : Array Value) (below : List Frame) (meth : Method) (c : Code) (E : mEv) (σ' : St) (a : Int32 × Int32 × St) : Prop := ∀ (H : Heap) (locs : List Loc) (ls : Array Slot), gW (mG E) a.2.2 H → va_S (gA (mG E)) s.heap H locs → lv_has ls 4 [(0, .ref (mAd E 0)), (1, .int a.1), (3, .int a.2.1)] → W p l e rm_X8_letGo s m args below meth c H locs 0 0 (gQv below args s (mG E) σ') (F0 m 12 ls [])
set_option maxHeartbeats 4000000 in
set_option maxRecDepth 100000 in
theorem w_X8_letGo_12 {p : Program} {l : Launch} {e : Env} {s : State} {m : MethodId} {args : Array Value} {below : List Frame} {meth : Method} {c : Code} {E : mEv} {u : Unit} {σ' : St} (B : gBx p m meth c cX8_letGo 4 none s args RX8 (mG E)) {K12 : (Int32 × Int32 × St → Option (Unit × St))} (hK12 : ∀ a, K12 a = some (u, σ') → P_X8_letGo_12 p l e s m args below meth c E σ' a) (a1 : Int32) (a3 : Int32) (σ : St) (hf : b_X8_letGo_12 K12 a1 a3 σ = some (u, σ')) (H : Heap) (locs : List Loc) (ls : Array Slot) (hP : gW (mG E) σ H) (hS : va_S (gA (mG E)) s.heap H locs) (hl : lv_has ls 4 [(0, .ref (mAd E 0)), (1, .int a1), (3, .int a3)]) : W p l e rm_X8_letGo s m args below meth c H locs 0 0 (gQv below args s (mG E) σ') (F0 m 12 ls []) := by
  unfold b_X8_letGo_12 at hf
  obtain ⟨F, hr, hlk⟩ := id B
  have hx := F.1
  have hb := F.2.1
  have hml := F.2.2.1
  have hown := F.2.2.2.1
  have hts := F.2.2.2.2.1
  refine lv_iload_n hx hb dX8_letGo_12 rfl (lv_at hl 2 rfl) ?_
  refine lv_aload_n hx hb dX8_letGo_13 rfl (lv_at hl 0 rfl) ?_
  refine gf_X8_46 F hP dX8_letGo_14 ?_
  refine lv_iload_n hx hb dX8_letGo_17 rfl (lv_at hl 1 rfl) ?_
  obtain ⟨h4, hf⟩ := gd_e hf
  refine m_iald F hP ⟨by decide, by decide⟩ rfl h4 dX8_letGo_18 ?_
  refine lv_icmp_ge (tgt := 100) hx hb dX8_letGo_19 (by decide) (fun h5 => ?_) (fun h5 => ?_)
  · rw [if_pos h5] at hf
    exact g_vret B hP hS hf dX8_letGo_100
  · rw [if_neg h5] at hf
    refine lv_aload_n hx hb dX8_letGo_22 rfl (lv_at hl 0 rfl) ?_
    refine gf_X8_49 F hP dX8_letGo_23 ?_
    refine lv_bipush (v := (7)) hx hb dX8_letGo_26 (by decide) ?_
    refine lv_iload_n hx hb dX8_letGo_28 rfl (lv_at hl 1 rfl) ?_
    refine lv_imul hx hb dX8_letGo_29 ?_
    refine lv_iload_n hx hb dX8_letGo_30 rfl (lv_at hl 2 rfl) ?_
    refine lv_iadd hx hb dX8_letGo_31 ?_
    refine lv_aload_n hx hb dX8_letGo_32 rfl (lv_at hl 0 rfl) ?_
    refine gf_X8_49 F hP dX8_letGo_33 ?_
    refine lv_bipush (v := (7)) hx hb dX8_letGo_36 (by decide) ?_
    refine lv_iload_n hx hb dX8_letGo_38 rfl (lv_at hl 1 rfl) ?_
    refine lv_imul hx hb dX8_letGo_39 ?_
    refine lv_iload_n hx hb dX8_letGo_40 rfl (lv_at hl 2 rfl) ?_
    refine lv_iadd hx hb dX8_letGo_41 ?_
    refine lv_iconst (v := 1) hx hb dX8_letGo_42 (by decide) ?_
    refine lv_iadd hx hb dX8_letGo_43 ?_
    obtain ⟨h6, hf⟩ := gd_e hf
    refine m_iald F hP ⟨by decide, by decide⟩ rfl h6 dX8_letGo_44 ?_
    obtain ⟨h7, hf⟩ := gd_e hf
    refine m_iast F hP hS ⟨by decide, by decide⟩ rfl h7 dX8_letGo_45 (fun H locs hP hS => ?_)
    obtain ⟨σ8, eσ8, hf⟩ := vl_x hf
    rw [← eσ8] at hP
    refine lv_aload_n hx hb dX8_letGo_46 rfl (lv_at hl 0 rfl) ?_
    refine gf_X8_52 F hP dX8_letGo_47 ?_
    refine lv_bipush (v := (7)) hx hb dX8_letGo_50 (by decide) ?_
    refine lv_iload_n hx hb dX8_letGo_52 rfl (lv_at hl 1 rfl) ?_
    refine lv_imul hx hb dX8_letGo_53 ?_
    refine lv_iload_n hx hb dX8_letGo_54 rfl (lv_at hl 2 rfl) ?_
    refine lv_iadd hx hb dX8_letGo_55 ?_
    refine lv_aload_n hx hb dX8_letGo_56 rfl (lv_at hl 0 rfl) ?_
    refine gf_X8_52 F hP dX8_letGo_57 ?_
    refine lv_bipush (v := (7)) hx hb dX8_letGo_60 (by decide) ?_
    refine lv_iload_n hx hb dX8_letGo_62 rfl (lv_at hl 1 rfl) ?_
    refine lv_imul hx hb dX8_letGo_63 ?_
    refine lv_iload_n hx hb dX8_letGo_64 rfl (lv_at hl 2 rfl) ?_
    refine lv_iadd hx hb dX8_letGo_65 ?_
    refine lv_iconst (v := 1) hx hb dX8_letGo_66 (by decide) ?_
    refine lv_iadd hx hb dX8_letGo_67 ?_
    obtain ⟨h9, hf⟩ := gd_e hf
    refine m_iald F hP ⟨by decide, by decide⟩ rfl h9 dX8_letGo_68 ?_
    obtain ⟨h10, hf⟩ := gd_e hf
    refine m_iast F hP hS ⟨by decide, by decide⟩ rfl h10 dX8_letGo_69 (fun H locs hP hS => ?_)
    obtain ⟨σ11, eσ11, hf⟩ := vl_x hf
    rw [← eσ11] at hP
    refine lv_aload_n hx hb dX8_letGo_70 rfl (lv_at hl 0 rfl) ?_
    refine gf_X8_55 F hP dX8_letGo_71 ?_
    refine lv_bipush (v := (7)) hx hb dX8_letGo_74 (by decide) ?_
    refine lv_iload_n hx hb dX8_letGo_76 rfl (lv_at hl 1 rfl) ?_
    refine lv_imul hx hb dX8_letGo_77 ?_
    refine lv_iload_n hx hb dX8_letGo_78 rfl (lv_at hl 2 rfl) ?_
    refine lv_iadd hx hb dX8_letGo_79 ?_
    refine lv_aload_n hx hb dX8_letGo_80 rfl (lv_at hl 0 rfl) ?_
    refine gf_X8_55 F hP dX8_letGo_81 ?_
    refine lv_bipush (v := (7)) hx hb dX8_letGo_84 (by decide) ?_
    refine lv_iload_n hx hb dX8_letGo_86 rfl (lv_at hl 1 rfl) ?_
    refine lv_imul hx hb dX8_letGo_87 ?_
    refine lv_iload_n hx hb dX8_letGo_88 rfl (lv_at hl 2 rfl) ?_
    refine lv_iadd hx hb dX8_letGo_89 ?_
    refine lv_iconst (v := 1) hx hb dX8_letGo_90 (by decide) ?_
    refine lv_iadd hx hb dX8_letGo_91 ?_
    obtain ⟨h12, hf⟩ := gd_e hf
    refine m_iald F hP ⟨by decide, by decide⟩ rfl h12 dX8_letGo_92 ?_
    obtain ⟨h13, hf⟩ := gd_e hf
    refine m_iast F hP hS ⟨by decide, by decide⟩ rfl h13 dX8_letGo_93 (fun H locs hP hS => ?_)
    obtain ⟨σ14, eσ14, hf⟩ := vl_x hf
    rw [← eσ14] at hP
    refine lv_iinc (v := a3 + (1 : Int32)) (lv' := [(3, .int (a3 + (1 : Int32))), (0, .ref (mAd E 0)), (1, .int a1)]) hx hb dX8_letGo_94 hl (k := 2) rfl rfl (by decide) rfl (fun ls hl => ?_)
    obtain ⟨x15, ex15, hf⟩ := vl_x hf
    rw [← ex15] at hl
    refine lv_goto (tgt := 12) hx hb dX8_letGo_97 (by decide) ?_
    exact hK12 _ hf _ _ _ hP hS (lv_sub hl [1, 2, 0] rfl)
set_option maxHeartbeats 4000000 in
set_option maxRecDepth 100000 in
theorem w_X8_letGo_e {p : Program} {l : Launch} {e : Env} {s : State} {m : MethodId} {args : Array Value} {below : List Frame} {meth : Method} {c : Code} {E : mEv} {u : Unit} {σ' : St} (B : gBx p m meth c cX8_letGo 4 none s args RX8 (mG E)) (p1 : Int32) (p2 : Int32) (σ : St) (hf : f_X8_letGo p1 p2 σ = some (u, σ')) (H : Heap) (locs : List Loc) (ls : Array Slot) (hP : gW (mG E) σ H) (hS : va_S (gA (mG E)) s.heap H locs) (hl : lv_has ls 4 [(0, .ref (mAd E 0)), (1, .int p1), (2, .int p2)]) : W p l e rm_X8_letGo s m args below meth c H locs 0 0 (gQv below args s (mG E) σ') (F0 m 0 ls []) := by
  unfold f_X8_letGo at hf
  obtain ⟨F, hr, hlk⟩ := id B
  have hx := F.1
  have hb := F.2.1
  have hml := F.2.2.1
  have hown := F.2.2.2.1
  have hts := F.2.2.2.2.1
  refine lv_aload_n hx hb dX8_letGo_0 rfl (lv_at hl 0 rfl) ?_
  refine gf_X8_46 F hP dX8_letGo_1 ?_
  refine lv_iload_n hx hb dX8_letGo_4 rfl (lv_at hl 1 rfl) ?_
  refine lv_dup2_11 hx hb dX8_letGo_5 rfl rfl ?_
  obtain ⟨h1, hf⟩ := gd_e hf
  refine m_iald F hP ⟨by decide, by decide⟩ rfl h1 dX8_letGo_6 ?_
  refine lv_iconst (v := 1) hx hb dX8_letGo_7 (by decide) ?_
  refine lv_isub hx hb dX8_letGo_8 ?_
  obtain ⟨h2, hf⟩ := gd_e hf
  refine m_iast F hP hS ⟨by decide, by decide⟩ rfl h2 dX8_letGo_9 (fun H locs hP hS => ?_)
  obtain ⟨σ3, eσ3, hf⟩ := vl_x hf
  rw [← eσ3] at hP
  refine lv_iload_n hx hb dX8_letGo_10 rfl (lv_at hl 2 rfl) ?_
  refine lv_istore_n (lv' := [(3, .int p2), (0, .ref (mAd E 0)), (1, .int p1), (2, .int p2)]) hx hb dX8_letGo_11 rfl hl (by decide) rfl (fun ls hl => ?_)
  exact lp_w (P := P_X8_letGo_12 p l e s m args below meth c E σ') (fun K hK a ha => w_X8_letGo_12 B hK a.1 a.2.1 a.2.2 ha) FU _ hf _ _ _ hP hS (lv_sub hl [1, 2, 0] rfl)
theorem c_X8_letGo (l : Launch) {E : mEv} (hI : gIj (mG E)) {p1 : Int32} {p2 : Int32} {σ σ' : St} {u : Unit} (hf : f_X8_letGo p1 p2 σ = some (u, σ')) : gMv l yX8_letGo cX8_letGo 4 rm_X8_letGo [.ref (mAd E 0), .int p1, .int p2] (mG E) σ σ' :=
  g_entry (by decide) (Nat.le_of_ble_eq_true rfl) hI (fun p e s m args below meth c B hP hS ls hl => w_X8_letGo_e B _ _ σ hf _ _ ls hP hS hl)
section SD
variable {p : Program} {l : Launch} {e : Env} {R : Room} {s : State} {m : MethodId} {args : Array Value} {below : List Frame} {meth : Method} {c : Code} {H : Heap} {locs : List Loc} {cells slots : Nat} {Q : State → Prop}
variable {cc : ByteArray} {pc nL : Nat} {ls : Array Slot} {rest : List Value} {E : mEv} {σ : St}
theorem kc_X8_265 (F : gFx p m c cc nL s args RX8 (mG E)) (hP : gW (mG E) σ H) (hS : va_S (gA (mG E)) s.heap H locs) {p1 : Int32} {p2 : Int32} {r : Int32} {σ' : St} (hf : f_X8_promiseOf p1 p2 σ = some (r, σ')) (hR : rm_X8_promiseOf.frames + 1 ≤ R.frames ∧ 8 + (4 + 11) + rm_X8_promiseOf.locals ≤ R.locals) (hsz : ls.size = nL) (hrest : (rest.map fun v => v.category).sum ≤ 8) (hcs : cells ≤ R.cells ∧ slots ≤ R.slots) (hdg : decode cc pc = .ok (.invokevirtual 265, 3)) (kk : ∀ (H1 : Heap) (locs1 : List Loc), gW (mG E) σ' H1 → va_S (gA (mG E)) s.heap H1 locs1 → W p l e R s m args below meth c H1 locs1 cells slots Q (F0 m (pc + 3) ls (.int r :: rest))) : W p l e R s m args below meth c H locs cells slots Q (F0 m pc ls (.int p2 :: .int p1 :: .ref (mAd E 0) :: rest)) :=
  g_callVi F hP hS (c_X8_promiseOf l F.2.2.2.2.2.2.2 hf) (g_cwV (n := 2) F tw_1053 tw_1055 ts_46 tw_14 tw_1056 (by decide +kernel) rfl rfl hR) (k := 0) min0 (me_0 E _) rfl (As := [.int p1, .int p2]) rfl hsz rfl hrest hdg hcs kk
theorem kc_X8_269 (F : gFx p m c cc nL s args RX8 (mG E)) (hP : gW (mG E) σ H) (hS : va_S (gA (mG E)) s.heap H locs) {p1 : Int32} {p2 : Int32} {u : Unit} {σ' : St} (hf : f_X8_letGo p1 p2 σ = some (u, σ')) (hR : rm_X8_letGo.frames + 1 ≤ R.frames ∧ 8 + (4 + 11) + rm_X8_letGo.locals ≤ R.locals) (hsz : ls.size = nL) (hrest : (rest.map fun v => v.category).sum ≤ 8) (hcs : cells ≤ R.cells ∧ slots ≤ R.slots) (hdg : decode cc pc = .ok (.invokevirtual 269, 3)) (kk : ∀ (H1 : Heap) (locs1 : List Loc), gW (mG E) σ' H1 → va_S (gA (mG E)) s.heap H1 locs1 → W p l e R s m args below meth c H1 locs1 cells slots Q (F0 m (pc + 3) ls rest)) : W p l e R s m args below meth c H locs cells slots Q (F0 m pc ls (.int p2 :: .int p1 :: .ref (mAd E 0) :: rest)) :=
  g_callVv F hP hS (c_X8_letGo l F.2.2.2.2.2.2.2 hf) (g_cwV (n := 2) F tw_1057 tw_1059 ts_47 tw_14 tw_1060 (by decide +kernel) rfl rfl hR) (k := 0) min0 (me_0 E _) rfl (As := [.int p1, .int p2]) rfl hsz rfl hrest hdg hcs kk
end SD
/-! PromisedSlotsModel.goesFrom(II)I -/
def b_X8_goesFrom_6 (K6 : (Int32 × Int32 × Int32 × Int32 × St → Option (Int32 × St))) (a1 : Int32) (a2 : Int32) (a3 : Int32) (a4 : Int32) (σ : St) : Option (Int32 × St) :=
  if (σ 0 24) ≤ a4 then
    some (a3, σ)
  else
    cl (f_X8_promiseOf a4 a1 σ) fun r3 σ2 =>
    if a4 = a2 then
      vl (a4 + (1 : Int32)) fun x6 =>
      K6 (a1, a2, a3, x6, σ2)
    else
      if r3 = (-4 : Int32) then
        vl (a4 + (1 : Int32)) fun x8 =>
        K6 (a1, a2, a3, x8, σ2)
      else
        gd (ix (((7 : Int32) * a4) + r3) 28) <|
        vl (σ2 32 (nt (((7 : Int32) * a4) + r3))) fun x10 =>
        cl (f_X8_letGo a4 r3 σ2) fun r12 σ11 =>
        vl (a4 + (1 : Int32)) fun x14 =>
        K6 (a1, a2, x10, x14, σ11)
def f_X8_goesFrom (p1 : Int32) (p2 : Int32) (σ : St) : Option (Int32 × St) :=
  lp (fun K a => b_X8_goesFrom_6 K a.1 a.2.1 a.2.2.1 a.2.2.2.1 a.2.2.2.2) FU (p1, p2, (-4 : Int32), (0 : Int32), σ)
abbrev rm_X8_goesFrom : Room := { frames := 1, cells := 0, slots := 0, locals := 23 }
def P_X8_goesFrom_6 (p : Program) (l : Launch) (e : Env) (s : State) (m : MethodId) (args : Array Value) (below : List Frame) (meth : Method) (c : Code) (E : mEv) (r : Int32) (σ' : St) (a : Int32 × Int32 × Int32 × Int32 × St) : Prop := ∀ (H : Heap) (locs : List Loc) (ls : Array Slot), gW (mG E) a.2.2.2.2 H → va_S (gA (mG E)) s.heap H locs → lv_has ls 6 [(0, .ref (mAd E 0)), (1, .int a.1), (2, .int a.2.1), (3, .int a.2.2.1), (4, .int a.2.2.2.1)] → W p l e rm_X8_goesFrom s m args below meth c H locs 0 0 (gQi below args s (mG E) r σ') (F0 m 6 ls [])
set_option maxHeartbeats 4000000 in
set_option maxRecDepth 100000 in
theorem w_X8_goesFrom_6 {p : Program} {l : Launch} {e : Env} {s : State} {m : MethodId} {args : Array Value} {below : List Frame} {meth : Method} {c : Code} {E : mEv} {r : Int32} {σ' : St} (B : gBx p m meth c cX8_goesFrom 6 (some .int) s args RX8 (mG E)) {K6 : (Int32 × Int32 × Int32 × Int32 × St → Option (Int32 × St))} (hK6 : ∀ a, K6 a = some (r, σ') → P_X8_goesFrom_6 p l e s m args below meth c E r σ' a) (a1 : Int32) (a2 : Int32) (a3 : Int32) (a4 : Int32) (σ : St) (hf : b_X8_goesFrom_6 K6 a1 a2 a3 a4 σ = some (r, σ')) (H : Heap) (locs : List Loc) (ls : Array Slot) (hP : gW (mG E) σ H) (hS : va_S (gA (mG E)) s.heap H locs) (hl : lv_has ls 6 [(0, .ref (mAd E 0)), (1, .int a1), (2, .int a2), (3, .int a3), (4, .int a4)]) : W p l e rm_X8_goesFrom s m args below meth c H locs 0 0 (gQi below args s (mG E) r σ') (F0 m 6 ls []) := by
  unfold b_X8_goesFrom_6 at hf
  obtain ⟨F, hr, hlk⟩ := id B
  have hx := F.1
  have hb := F.2.1
  have hml := F.2.2.1
  have hown := F.2.2.2.1
  have hts := F.2.2.2.2.1
  refine lv_iload hx hb dX8_goesFrom_6 (lv_at hl 4 rfl) ?_
  refine lv_aload_n hx hb dX8_goesFrom_8 rfl (lv_at hl 0 rfl) ?_
  refine gf_X8_246 F hP dX8_goesFrom_9 ?_
  refine lv_icmp_ge (tgt := 65) hx hb dX8_goesFrom_12 (by decide) (fun h1 => ?_) (fun h1 => ?_)
  · rw [if_pos h1] at hf
    refine lv_iload_n hx hb dX8_goesFrom_65 rfl (lv_at hl 3 rfl) ?_
    exact g_iret B hP hS hf dX8_goesFrom_66
  · rw [if_neg h1] at hf
    refine lv_aload_n hx hb dX8_goesFrom_15 rfl (lv_at hl 0 rfl) ?_
    refine lv_iload hx hb dX8_goesFrom_16 (lv_at hl 4 rfl) ?_
    refine lv_iload_n hx hb dX8_goesFrom_18 rfl (lv_at hl 1 rfl) ?_
    obtain ⟨r3, σ2, h4, hf⟩ := cl_e hf
    refine kc_X8_265 F hP hS h4 ⟨Nat.le_of_ble_eq_true rfl, Nat.le_of_ble_eq_true rfl⟩ hl.1 (Nat.le_of_ble_eq_true rfl) ⟨Nat.zero_le _, Nat.zero_le _⟩ dX8_goesFrom_19 (fun H locs hP hS => ?_)
    refine lv_istore (lv' := [(5, .int r3), (0, .ref (mAd E 0)), (1, .int a1), (2, .int a2), (3, .int a3), (4, .int a4)]) hx hb dX8_goesFrom_22 hl (by decide) rfl (fun ls hl => ?_)
    refine lv_iload hx hb dX8_goesFrom_24 (lv_at hl 5 rfl) ?_
    refine lv_iload_n hx hb dX8_goesFrom_26 rfl (lv_at hl 3 rfl) ?_
    refine lv_icmp_eq (tgt := 59) hx hb dX8_goesFrom_27 (by decide) (fun h5 => ?_) (fun h5 => ?_)
    · rw [if_pos h5] at hf
      refine lv_iinc (v := a4 + (1 : Int32)) (lv' := [(4, .int (a4 + (1 : Int32))), (5, .int r3), (0, .ref (mAd E 0)), (1, .int a1), (2, .int a2), (3, .int a3)]) hx hb dX8_goesFrom_59 hl (k := 5) rfl rfl (by decide) rfl (fun ls hl => ?_)
      obtain ⟨x6, ex6, hf⟩ := vl_x hf
      rw [← ex6] at hl
      refine lv_goto (tgt := 6) hx hb dX8_goesFrom_62 (by decide) ?_
      exact hK6 _ hf _ _ _ hP hS (lv_sub hl [2, 3, 4, 5, 0] rfl)
    · rw [if_neg h5] at hf
      refine lv_iload hx hb dX8_goesFrom_30 (lv_at hl 0 rfl) ?_
      refine lv_bipush (v := (-4)) hx hb dX8_goesFrom_32 (by decide) ?_
      refine lv_icmp_eq (tgt := 59) hx hb dX8_goesFrom_34 (by decide) (fun h7 => ?_) (fun h7 => ?_)
      · rw [if_pos h7] at hf
        refine lv_iinc (v := a4 + (1 : Int32)) (lv' := [(4, .int (a4 + (1 : Int32))), (5, .int r3), (0, .ref (mAd E 0)), (1, .int a1), (2, .int a2), (3, .int a3)]) hx hb dX8_goesFrom_59 hl (k := 5) rfl rfl (by decide) rfl (fun ls hl => ?_)
        obtain ⟨x8, ex8, hf⟩ := vl_x hf
        rw [← ex8] at hl
        refine lv_goto (tgt := 6) hx hb dX8_goesFrom_62 (by decide) ?_
        exact hK6 _ hf _ _ _ hP hS (lv_sub hl [2, 3, 4, 5, 0] rfl)
      · rw [if_neg h7] at hf
        refine lv_aload_n hx hb dX8_goesFrom_37 rfl (lv_at hl 1 rfl) ?_
        refine gf_X8_52 F hP dX8_goesFrom_38 ?_
        refine lv_bipush (v := (7)) hx hb dX8_goesFrom_41 (by decide) ?_
        refine lv_iload hx hb dX8_goesFrom_43 (lv_at hl 5 rfl) ?_
        refine lv_imul hx hb dX8_goesFrom_45 ?_
        refine lv_iload hx hb dX8_goesFrom_46 (lv_at hl 0 rfl) ?_
        refine lv_iadd hx hb dX8_goesFrom_48 ?_
        obtain ⟨h9, hf⟩ := gd_e hf
        refine m_iald F hP ⟨by decide, by decide⟩ rfl h9 dX8_goesFrom_49 ?_
        obtain ⟨x10, ex10, hf⟩ := vl_x hf
        rw [← ex10]
        refine lv_istore_n (lv' := [(3, .int x10), (5, .int r3), (0, .ref (mAd E 0)), (1, .int a1), (2, .int a2), (4, .int a4)]) hx hb dX8_goesFrom_50 rfl hl (by decide) rfl (fun ls hl => ?_)
        refine lv_aload_n hx hb dX8_goesFrom_51 rfl (lv_at hl 2 rfl) ?_
        refine lv_iload hx hb dX8_goesFrom_52 (lv_at hl 5 rfl) ?_
        refine lv_iload hx hb dX8_goesFrom_54 (lv_at hl 1 rfl) ?_
        obtain ⟨r12, σ11, h13, hf⟩ := cl_e hf
        refine kc_X8_269 F hP hS h13 ⟨Nat.le_of_ble_eq_true rfl, Nat.le_of_ble_eq_true rfl⟩ hl.1 (Nat.le_of_ble_eq_true rfl) ⟨Nat.zero_le _, Nat.zero_le _⟩ dX8_goesFrom_56 (fun H locs hP hS => ?_)
        refine lv_iinc (v := a4 + (1 : Int32)) (lv' := [(4, .int (a4 + (1 : Int32))), (3, .int x10), (5, .int r3), (0, .ref (mAd E 0)), (1, .int a1), (2, .int a2)]) hx hb dX8_goesFrom_59 hl (k := 5) rfl rfl (by decide) rfl (fun ls hl => ?_)
        obtain ⟨x14, ex14, hf⟩ := vl_x hf
        rw [← ex14] at hl
        refine lv_goto (tgt := 6) hx hb dX8_goesFrom_62 (by decide) ?_
        exact hK6 _ hf _ _ _ hP hS (lv_sub hl [3, 4, 5, 1, 0] rfl)
set_option maxHeartbeats 4000000 in
set_option maxRecDepth 100000 in
theorem w_X8_goesFrom_e {p : Program} {l : Launch} {e : Env} {s : State} {m : MethodId} {args : Array Value} {below : List Frame} {meth : Method} {c : Code} {E : mEv} {r : Int32} {σ' : St} (B : gBx p m meth c cX8_goesFrom 6 (some .int) s args RX8 (mG E)) (p1 : Int32) (p2 : Int32) (σ : St) (hf : f_X8_goesFrom p1 p2 σ = some (r, σ')) (H : Heap) (locs : List Loc) (ls : Array Slot) (hP : gW (mG E) σ H) (hS : va_S (gA (mG E)) s.heap H locs) (hl : lv_has ls 6 [(0, .ref (mAd E 0)), (1, .int p1), (2, .int p2)]) : W p l e rm_X8_goesFrom s m args below meth c H locs 0 0 (gQi below args s (mG E) r σ') (F0 m 0 ls []) := by
  unfold f_X8_goesFrom at hf
  obtain ⟨F, hr, hlk⟩ := id B
  have hx := F.1
  have hb := F.2.1
  have hml := F.2.2.1
  have hown := F.2.2.2.1
  have hts := F.2.2.2.2.1
  refine lv_bipush (v := (-4)) hx hb dX8_goesFrom_0 (by decide) ?_
  refine lv_istore_n (lv' := [(3, .int (-4 : Int32)), (0, .ref (mAd E 0)), (1, .int p1), (2, .int p2)]) hx hb dX8_goesFrom_2 rfl hl (by decide) rfl (fun ls hl => ?_)
  refine lv_iconst (v := 0) hx hb dX8_goesFrom_3 (by decide) ?_
  refine lv_istore (lv' := [(4, .int (0 : Int32)), (3, .int (-4 : Int32)), (0, .ref (mAd E 0)), (1, .int p1), (2, .int p2)]) hx hb dX8_goesFrom_4 hl (by decide) rfl (fun ls hl => ?_)
  exact lp_w (P := P_X8_goesFrom_6 p l e s m args below meth c E r σ') (fun K hK a ha => w_X8_goesFrom_6 B hK a.1 a.2.1 a.2.2.1 a.2.2.2.1 a.2.2.2.2 ha) FU _ hf _ _ _ hP hS (lv_sub hl [2, 3, 4, 1, 0] rfl)
theorem c_X8_goesFrom (l : Launch) {E : mEv} (hI : gIj (mG E)) {p1 : Int32} {p2 : Int32} {σ σ' : St} {r : Int32} (hf : f_X8_goesFrom p1 p2 σ = some (r, σ')) : gMi l yX8_goesFrom cX8_goesFrom 6 .int rm_X8_goesFrom [.ref (mAd E 0), .int p1, .int p2] (mG E) σ r σ' :=
  g_entry (by decide) (Nat.le_of_ble_eq_true rfl) hI (fun p e s m args below meth c B hP hS ls hl => w_X8_goesFrom_e B _ _ σ hf _ _ ls hP hS hl)
