section SB
variable {p : Program} {l : Launch} {e : Env} {R : Room} {s : State} {m : MethodId} {args : Array Value} {below : List Frame} {meth : Method} {c : Code} {H : Heap} {locs : List Loc} {cells slots : Nat} {Q : State → Prop}
variable {cc : ByteArray} {pc nL : Nat} {ls : Array Slot} {rest : List Value} {E : cEv} {σ : St}
theorem gf_X0_101 (F : gFx p m c cc nL s args RX0 (cG E)) (hP : gW (cG E) σ H) (hdg : decode cc pc = .ok (.getfield 101, 3)) (kk : W p l e R s m args below meth c H locs cells slots Q (F0 m (pc + 3) ls (.int (σ 6 2) :: rest))) : W p l e R s m args below meth c H locs cells slots Q (F0 m pc ls (.ref (cAd E 6) :: rest)) :=
  g_get F hP (k := 6) (cin (by omega)) (ce_0 E _) rfl inX0 1 (by decide) tw_261 rfl rfl hdg kk
theorem pf_X0_101 (F : gFx p m c cc nL s args RX0 (cG E)) (hP : gW (cG E) σ H) (hS : va_S (gA (cG E)) s.heap H locs) {x : Int32} (hdg : decode cc pc = .ok (.putfield 101, 3)) (kk : ∀ (H1 : Heap) (locs1 : List Loc), gW (cG E) (up2 σ 6 2 x) H1 → va_S (gA (cG E)) s.heap H1 locs1 → W p l e R s m args below meth c H1 locs1 cells slots Q (F0 m (pc + 3) ls rest)) : W p l e R s m args below meth c H locs cells slots Q (F0 m pc ls (.int x :: .ref (cAd E 6) :: rest)) :=
  g_put F hP hS (k := 6) (cin (by omega)) (ce_0 E _) rfl inX0 tyX0 tyX0_ok nmX0 1 (by decide) tw_261 rfl rfl rfl rfl (Nat.le_of_ble_eq_true rfl) (x := x) (jj := 2) (ce_0 E _) hdg kk
theorem gf_X0_105 (F : gFx p m c cc nL s args RX0 (cG E)) (hP : gW (cG E) σ H) {o : Nat} (ho : o < 8) (hdg : decode cc pc = .ok (.getfield 105, 3)) (kk : W p l e R s m args below meth c H locs cells slots Q (F0 m (pc + 3) ls (.int (σ (46 + o) 11) :: rest))) : W p l e R s m args below meth c H locs cells slots Q (F0 m pc ls (.ref (cAd E (46 + o)) :: rest)) :=
  g_getN F hP (k := (46 + o)) (cin (by omega)) (ce_2 E _ ho) rfl inX2 11 (by decide) tw_197 rfl rfl hdg kk
theorem kc_X0_108 (F : gFx p m c cc nL s args RX0 (cG E)) (hP : gW (cG E) σ H) (hS : va_S (gA (cG E)) s.heap H locs) {o : Nat} (ho : o < 8) {p1 : Int32} {u : Unit} {σ' : St} (hf : f_X2_waitFor o p1 σ = some (u, σ')) (hR : rm_X2_waitFor.frames + 1 ≤ R.frames ∧ 8 + (2 + 11) + rm_X2_waitFor.locals ≤ R.locals) (hsz : ls.size = nL) (hrest : (rest.map fun v => v.category).sum ≤ 8) (hcs : cells ≤ R.cells ∧ slots ≤ R.slots) (hdg : decode cc pc = .ok (.invokevirtual 108, 3)) (kk : ∀ (H1 : Heap) (locs1 : List Loc), gW (cG E) σ' H1 → va_S (gA (cG E)) s.heap H1 locs1 → W p l e R s m args below meth c H1 locs1 cells slots Q (F0 m (pc + 3) ls rest)) : W p l e R s m args below meth c H locs cells slots Q (F0 m pc ls (.int p1 :: .ref (cAd E (46 + o)) :: rest)) :=
  g_callVv F hP hS (c_X2_waitFor l F.2.2.2.2.2.2.2 ho hf) (g_cwV (n := 1) F tw_652 tw_653 tw_654 tw_8 tw_655 (by decide +kernel) rfl rfl hR) (k := (46 + o)) (cin (by omega)) (ce_2 E _ ho) rfl (As := [.int p1]) rfl hsz rfl hrest hdg hcs kk
end SB
/-! PromisedSlots$Contention.draw(LPromisedSlots$Device;)V -/
def f_X0_draw (p1 : Nat) (σ : St) : Option (Unit × St) :=
  vl (up2 σ 6 2 ((((7919 : Int32) * (σ 6 2)) + (12345 : Int32)) - (((7919 : Int32) * (σ 6 2)) + (12345 : Int32)) / (65521 : Int32) * (65521 : Int32))) fun σ1 =>
  gd (¬ ((1 : Int32) <<< ((σ1 (46 + p1) 11) &&& 31)) = 0) <|
  cl (f_X2_waitFor p1 ((σ1 6 2) - (σ1 6 2) / ((1 : Int32) <<< ((σ1 (46 + p1) 11) &&& 31)) * ((1 : Int32) <<< ((σ1 (46 + p1) 11) &&& 31))) σ1) fun r4 σ3 =>
  some ((), σ3)
abbrev rm_X0_draw : Room := { frames := 1, cells := 0, slots := 0, locals := 21 }
set_option maxHeartbeats 4000000 in
set_option maxRecDepth 100000 in
theorem w_X0_draw_e {p : Program} {l : Launch} {e : Env} {s : State} {m : MethodId} {args : Array Value} {below : List Frame} {meth : Method} {c : Code} {E : cEv} {u : Unit} {σ' : St} {p1 : Nat} (hp1 : p1 < 8) (B : gBx p m meth c cX0_draw 2 none s args RX0 (cG E)) (σ : St) (hf : f_X0_draw p1 σ = some (u, σ')) (H : Heap) (locs : List Loc) (ls : Array Slot) (hP : gW (cG E) σ H) (hS : va_S (gA (cG E)) s.heap H locs) (hl : lv_has ls 2 [(0, .ref (cAd E 6)), (1, .ref (cAd E (46 + p1)))]) : W p l e rm_X0_draw s m args below meth c H locs 0 0 (gQv below args s (cG E) σ') (F0 m 0 ls []) := by
  unfold f_X0_draw at hf
  obtain ⟨F, hr, hlk⟩ := id B
  have hx := F.1
  have hb := F.2.1
  have hml := F.2.2.1
  have hown := F.2.2.2.1
  have hts := F.2.2.2.2.1
  refine lv_aload_n hx hb dX0_draw_0 rfl (lv_at hl 0 rfl) ?_
  refine lv_sipush (v := (7919)) hx hb dX0_draw_1 (by decide) ?_
  refine lv_aload_n hx hb dX0_draw_4 rfl (lv_at hl 0 rfl) ?_
  refine gf_X0_101 F hP dX0_draw_5 ?_
  refine lv_imul hx hb dX0_draw_8 ?_
  refine lv_sipush (v := (12345)) hx hb dX0_draw_9 (by decide) ?_
  refine lv_iadd hx hb dX0_draw_12 ?_
  refine lv_ldc hx hb hown (hts _ tw_651) dX0_draw_13 ?_
  refine lv_irem hx hb dX0_draw_15 (by decide) ?_
  refine pf_X0_101 F hP hS dX0_draw_16 (fun H locs hP hS => ?_)
  obtain ⟨σ1, eσ1, hf⟩ := vl_x hf
  rw [← eσ1] at hP
  refine lv_aload_n hx hb dX0_draw_19 rfl (lv_at hl 1 rfl) ?_
  refine lv_aload_n hx hb dX0_draw_20 rfl (lv_at hl 0 rfl) ?_
  refine gf_X0_101 F hP dX0_draw_21 ?_
  refine lv_iconst (v := 1) hx hb dX0_draw_24 (by decide) ?_
  refine lv_aload_n hx hb dX0_draw_25 rfl (lv_at hl 1 rfl) ?_
  refine gf_X0_105 F hP hp1 dX0_draw_26 ?_
  refine lv_ishl hx hb dX0_draw_29 ?_
  obtain ⟨h2, hf⟩ := gd_e hf
  refine lv_irem hx hb dX0_draw_30 h2 ?_
  obtain ⟨r4, σ3, h5, hf⟩ := cl_e hf
  refine kc_X0_108 F hP hS hp1 h5 ⟨Nat.le_of_ble_eq_true rfl, Nat.le_of_ble_eq_true rfl⟩ hl.1 (Nat.le_of_ble_eq_true rfl) ⟨Nat.zero_le _, Nat.zero_le _⟩ dX0_draw_31 (fun H locs hP hS => ?_)
  exact g_vret B hP hS hf dX0_draw_34
theorem c_X0_draw (l : Launch) {E : cEv} (hI : gIj (cG E)) {p1 : Nat} (hp1 : p1 < 8) {σ σ' : St} {u : Unit} (hf : f_X0_draw p1 σ = some (u, σ')) : gMv l yX0_draw cX0_draw 2 rm_X0_draw [.ref (cAd E 6), .ref (cAd E (46 + p1))] (cG E) σ σ' :=
  g_entry (by decide) (Nat.le_of_ble_eq_true rfl) hI (fun p e s m args below meth c B hP hS ls hl => w_X0_draw_e hp1 B σ hf _ _ ls hP hS hl)
section SB
variable {p : Program} {l : Launch} {e : Env} {R : Room} {s : State} {m : MethodId} {args : Array Value} {below : List Frame} {meth : Method} {c : Code} {H : Heap} {locs : List Loc} {cells slots : Nat} {Q : State → Prop}
variable {cc : ByteArray} {pc nL : Nat} {ls : Array Slot} {rest : List Value} {E : cEv} {σ : St}
theorem gf_X0_64 (F : gFx p m c cc nL s args RX0 (cG E)) (hP : gW (cG E) σ H) {o : Nat} (ho : o < 8) (hdg : decode cc pc = .ok (.getfield 64, 3)) (kk : W p l e R s m args below meth c H locs cells slots Q (F0 m (pc + 3) ls (.int (σ (46 + o) 15) :: rest))) : W p l e R s m args below meth c H locs cells slots Q (F0 m pc ls (.ref (cAd E (46 + o)) :: rest)) :=
  g_getN F hP (k := (46 + o)) (cin (by omega)) (ce_2 E _ ho) rfl inX2 15 (by decide) tw_201 rfl rfl hdg kk
theorem gf_X0_40 (F : gFx p m c cc nL s args RX0 (cG E)) (hP : gW (cG E) σ H) {o : Nat} (ho : o < 8) (hdg : decode cc pc = .ok (.getfield 40, 3)) (kk : W p l e R s m args below meth c H locs cells slots Q (F0 m (pc + 3) ls (.int (σ (46 + o) 10) :: rest))) : W p l e R s m args below meth c H locs cells slots Q (F0 m pc ls (.ref (cAd E (46 + o)) :: rest)) :=
  g_getN F hP (k := (46 + o)) (cin (by omega)) (ce_2 E _ ho) rfl inX2 10 (by decide) tw_195 rfl rfl hdg kk
theorem kc_X0_74 (F : gFx p m c cc nL s args RX0 (cG E)) (hP : gW (cG E) σ H) (hS : va_S (gA (cG E)) s.heap H locs) {p1 : Nat} (hp1 : p1 < 8) {u : Unit} {σ' : St} (hf : f_X0_draw p1 σ = some (u, σ')) (hR : rm_X0_draw.frames + 1 ≤ R.frames ∧ 8 + (2 + 11) + rm_X0_draw.locals ≤ R.locals) (hsz : ls.size = nL) (hrest : (rest.map fun v => v.category).sum ≤ 8) (hcs : cells ≤ R.cells ∧ slots ≤ R.slots) (hdg : decode cc pc = .ok (.invokevirtual 74, 3)) (kk : ∀ (H1 : Heap) (locs1 : List Loc), gW (cG E) σ' H1 → va_S (gA (cG E)) s.heap H1 locs1 → W p l e R s m args below meth c H1 locs1 cells slots Q (F0 m (pc + 3) ls rest)) : W p l e R s m args below meth c H locs cells slots Q (F0 m pc ls (.ref (cAd E (46 + p1)) :: .ref (cAd E 6) :: rest)) :=
  g_callVv F hP hS (c_X0_draw l F.2.2.2.2.2.2.2 hp1 hf) (g_cwV (n := 1) F tw_647 tw_649 ts_18 tw_9 tw_650 (by decide +kernel) rfl rfl hR) (k := 6) (cin (by omega)) (ce_0 E _) rfl (As := [.ref (cAd E (46 + p1))]) rfl hsz rfl hrest hdg hcs kk
theorem gf_X0_68 (F : gFx p m c cc nL s args RX0 (cG E)) (hP : gW (cG E) σ H) {o : Nat} (ho : o < 8) (hdg : decode cc pc = .ok (.getfield 68, 3)) (kk : W p l e R s m args below meth c H locs cells slots Q (F0 m (pc + 3) ls (.int (σ (46 + o) 4) :: rest))) : W p l e R s m args below meth c H locs cells slots Q (F0 m pc ls (.ref (cAd E (46 + o)) :: rest)) :=
  g_getN F hP (k := (46 + o)) (cin (by omega)) (ce_2 E _ ho) rfl inX2 4 (by decide) tw_185 rfl rfl hdg kk
theorem kc_X0_71 (F : gFx p m c cc nL s args RX0 (cG E)) (hP : gW (cG E) σ H) (hS : va_S (gA (cG E)) s.heap H locs) {o : Nat} (ho : o < 8) {u : Unit} {σ' : St} (hf : f_X2_beginFrame o σ = some (u, σ')) (hR : rm_X2_beginFrame.frames + 1 ≤ R.frames ∧ 8 + (1 + 11) + rm_X2_beginFrame.locals ≤ R.locals) (hsz : ls.size = nL) (hrest : (rest.map fun v => v.category).sum ≤ 8) (hcs : cells ≤ R.cells ∧ slots ≤ R.slots) (hdg : decode cc pc = .ok (.invokevirtual 71, 3)) (kk : ∀ (H1 : Heap) (locs1 : List Loc), gW (cG E) σ' H1 → va_S (gA (cG E)) s.heap H1 locs1 → W p l e R s m args below meth c H1 locs1 cells slots Q (F0 m (pc + 3) ls rest)) : W p l e R s m args below meth c H locs cells slots Q (F0 m pc ls (.ref (cAd E (46 + o)) :: rest)) :=
  g_callVv F hP hS (c_X2_beginFrame l F.2.2.2.2.2.2.2 ho hf) (g_cwV (n := 0) F tw_643 tw_644 tw_645 tw_8 tw_646 (by decide +kernel) rfl rfl hR) (k := (46 + o)) (cin (by omega)) (ce_2 E _ ho) rfl (As := []) rfl hsz rfl hrest hdg hcs kk
end SB
/-! PromisedSlots$Contention.begin(LPromisedSlots$Device;I)V -/
def f_X0_begin (p1 : Nat) (p2 : Int32) (σ : St) : Option (Unit × St) :=
  if (σ (46 + p1) 15) = 0 then
    some ((), σ)
  else
    if (σ (46 + p1) 10) = 0 then
      if (σ (46 + p1) 4) ≤ 0 then
        if (σ (46 + p1) 10) = (3 : Int32) then
          if p2 = (1 : Int32) then
            cl (f_X0_draw p1 σ) fun r12 σ11 =>
            some ((), σ11)
          else
            some ((), σ)
        else
          some ((), σ)
      else
        cl (f_X2_beginFrame p1 σ) fun r15 σ14 =>
        cl (f_X0_draw p1 σ14) fun r18 σ17 =>
        some ((), σ17)
    else
      if (σ (46 + p1) 10) = (3 : Int32) then
        if p2 = (1 : Int32) then
          cl (f_X0_draw p1 σ) fun r6 σ5 =>
          some ((), σ5)
        else
          some ((), σ)
      else
        some ((), σ)
abbrev rm_X0_begin : Room := { frames := 2, cells := 0, slots := 0, locals := 42 }
set_option maxHeartbeats 4000000 in
set_option maxRecDepth 100000 in
theorem w_X0_begin_e {p : Program} {l : Launch} {e : Env} {s : State} {m : MethodId} {args : Array Value} {below : List Frame} {meth : Method} {c : Code} {E : cEv} {u : Unit} {σ' : St} {p1 : Nat} (hp1 : p1 < 8) (B : gBx p m meth c cX0_begin 3 none s args RX0 (cG E)) (p2 : Int32) (σ : St) (hf : f_X0_begin p1 p2 σ = some (u, σ')) (H : Heap) (locs : List Loc) (ls : Array Slot) (hP : gW (cG E) σ H) (hS : va_S (gA (cG E)) s.heap H locs) (hl : lv_has ls 3 [(0, .ref (cAd E 6)), (1, .ref (cAd E (46 + p1))), (2, .int p2)]) : W p l e rm_X0_begin s m args below meth c H locs 0 0 (gQv below args s (cG E) σ') (F0 m 0 ls []) := by
  unfold f_X0_begin at hf
  obtain ⟨F, hr, hlk⟩ := id B
  have hx := F.1
  have hb := F.2.1
  have hml := F.2.2.1
  have hown := F.2.2.2.1
  have hts := F.2.2.2.2.1
  refine lv_aload_n hx hb dX0_begin_0 rfl (lv_at hl 1 rfl) ?_
  refine gf_X0_64 F hP hp1 dX0_begin_1 ?_
  refine lv_if_ne (tgt := 8) hx hb dX0_begin_4 (by decide) (fun h1 => ?_) (fun h1 => ?_)
  · rw [if_neg h1] at hf
    refine lv_aload_n hx hb dX0_begin_8 rfl (lv_at hl 1 rfl) ?_
    refine gf_X0_40 F hP hp1 dX0_begin_9 ?_
    refine lv_if_ne (tgt := 34) hx hb dX0_begin_12 (by decide) (fun h2 => ?_) (fun h2 => ?_)
    · rw [if_neg h2] at hf
      refine lv_aload_n hx hb dX0_begin_34 rfl (lv_at hl 1 rfl) ?_
      refine gf_X0_40 F hP hp1 dX0_begin_35 ?_
      refine lv_iconst (v := 3) hx hb dX0_begin_38 (by decide) ?_
      refine lv_icmp_ne (tgt := 52) hx hb dX0_begin_39 (by decide) (fun h3 => ?_) (fun h3 => ?_)
      · rw [if_neg h3] at hf
        exact g_vret B hP hS hf dX0_begin_52
      · rw [if_pos h3] at hf
        refine lv_iload_n hx hb dX0_begin_42 rfl (lv_at hl 2 rfl) ?_
        refine lv_iconst (v := 1) hx hb dX0_begin_43 (by decide) ?_
        refine lv_icmp_ne (tgt := 52) hx hb dX0_begin_44 (by decide) (fun h4 => ?_) (fun h4 => ?_)
        · rw [if_neg h4] at hf
          exact g_vret B hP hS hf dX0_begin_52
        · rw [if_pos h4] at hf
          refine lv_aload_n hx hb dX0_begin_47 rfl (lv_at hl 0 rfl) ?_
          refine lv_aload_n hx hb dX0_begin_48 rfl (lv_at hl 1 rfl) ?_
          obtain ⟨r6, σ5, h7, hf⟩ := cl_e hf
          refine kc_X0_74 F hP hS hp1 h7 ⟨Nat.le_of_ble_eq_true rfl, Nat.le_of_ble_eq_true rfl⟩ hl.1 (Nat.le_of_ble_eq_true rfl) ⟨Nat.zero_le _, Nat.zero_le _⟩ dX0_begin_49 (fun H locs hP hS => ?_)
          exact g_vret B hP hS hf dX0_begin_52
    · rw [if_pos h2] at hf
      refine lv_aload_n hx hb dX0_begin_15 rfl (lv_at hl 1 rfl) ?_
      refine gf_X0_68 F hP hp1 dX0_begin_16 ?_
      refine lv_if_le (tgt := 34) hx hb dX0_begin_19 (by decide) (fun h8 => ?_) (fun h8 => ?_)
      · rw [if_pos h8] at hf
        refine lv_aload_n hx hb dX0_begin_34 rfl (lv_at hl 1 rfl) ?_
        refine gf_X0_40 F hP hp1 dX0_begin_35 ?_
        refine lv_iconst (v := 3) hx hb dX0_begin_38 (by decide) ?_
        refine lv_icmp_ne (tgt := 52) hx hb dX0_begin_39 (by decide) (fun h9 => ?_) (fun h9 => ?_)
        · rw [if_neg h9] at hf
          exact g_vret B hP hS hf dX0_begin_52
        · rw [if_pos h9] at hf
          refine lv_iload_n hx hb dX0_begin_42 rfl (lv_at hl 2 rfl) ?_
          refine lv_iconst (v := 1) hx hb dX0_begin_43 (by decide) ?_
          refine lv_icmp_ne (tgt := 52) hx hb dX0_begin_44 (by decide) (fun h10 => ?_) (fun h10 => ?_)
          · rw [if_neg h10] at hf
            exact g_vret B hP hS hf dX0_begin_52
          · rw [if_pos h10] at hf
            refine lv_aload_n hx hb dX0_begin_47 rfl (lv_at hl 0 rfl) ?_
            refine lv_aload_n hx hb dX0_begin_48 rfl (lv_at hl 1 rfl) ?_
            obtain ⟨r12, σ11, h13, hf⟩ := cl_e hf
            refine kc_X0_74 F hP hS hp1 h13 ⟨Nat.le_of_ble_eq_true rfl, Nat.le_of_ble_eq_true rfl⟩ hl.1 (Nat.le_of_ble_eq_true rfl) ⟨Nat.zero_le _, Nat.zero_le _⟩ dX0_begin_49 (fun H locs hP hS => ?_)
            exact g_vret B hP hS hf dX0_begin_52
      · rw [if_neg h8] at hf
        refine lv_aload_n hx hb dX0_begin_22 rfl (lv_at hl 1 rfl) ?_
        obtain ⟨r15, σ14, h16, hf⟩ := cl_e hf
        refine kc_X0_71 F hP hS hp1 h16 ⟨Nat.le_of_ble_eq_true rfl, Nat.le_of_ble_eq_true rfl⟩ hl.1 (Nat.le_of_ble_eq_true rfl) ⟨Nat.zero_le _, Nat.zero_le _⟩ dX0_begin_23 (fun H locs hP hS => ?_)
        refine lv_aload_n hx hb dX0_begin_26 rfl (lv_at hl 0 rfl) ?_
        refine lv_aload_n hx hb dX0_begin_27 rfl (lv_at hl 1 rfl) ?_
        obtain ⟨r18, σ17, h19, hf⟩ := cl_e hf
        refine kc_X0_74 F hP hS hp1 h19 ⟨Nat.le_of_ble_eq_true rfl, Nat.le_of_ble_eq_true rfl⟩ hl.1 (Nat.le_of_ble_eq_true rfl) ⟨Nat.zero_le _, Nat.zero_le _⟩ dX0_begin_28 (fun H locs hP hS => ?_)
        refine lv_goto (tgt := 52) hx hb dX0_begin_31 (by decide) ?_
        exact g_vret B hP hS hf dX0_begin_52
  · rw [if_pos h1] at hf
    exact g_vret B hP hS hf dX0_begin_7
theorem c_X0_begin (l : Launch) {E : cEv} (hI : gIj (cG E)) {p1 : Nat} (hp1 : p1 < 8) {p2 : Int32} {σ σ' : St} {u : Unit} (hf : f_X0_begin p1 p2 σ = some (u, σ')) : gMv l yX0_begin cX0_begin 3 rm_X0_begin [.ref (cAd E 6), .ref (cAd E (46 + p1)), .int p2] (cG E) σ σ' :=
  g_entry (by decide) (Nat.le_of_ble_eq_true rfl) hI (fun p e s m args below meth c B hP hS ls hl => w_X0_begin_e hp1 B _ σ hf _ _ ls hP hS hl)
section SB
variable {p : Program} {l : Launch} {e : Env} {R : Room} {s : State} {m : MethodId} {args : Array Value} {below : List Frame} {meth : Method} {c : Code} {H : Heap} {locs : List Loc} {cells slots : Nat} {Q : State → Prop}
variable {cc : ByteArray} {pc nL : Nat} {ls : Array Slot} {rest : List Value} {E : cEv} {σ : St}
theorem pf_X0_32 (F : gFx p m c cc nL s args RX0 (cG E)) (hP : gW (cG E) σ H) (hS : va_S (gA (cG E)) s.heap H locs) {x : Int32} (hdg : decode cc pc = .ok (.putfield 32, 3)) (kk : ∀ (H1 : Heap) (locs1 : List Loc), gW (cG E) (up2 σ 6 3 x) H1 → va_S (gA (cG E)) s.heap H1 locs1 → W p l e R s m args below meth c H1 locs1 cells slots Q (F0 m (pc + 3) ls rest)) : W p l e R s m args below meth c H locs cells slots Q (F0 m pc ls (.int x :: .ref (cAd E 6) :: rest)) :=
  g_put F hP hS (k := 6) (cin (by omega)) (ce_0 E _) rfl inX0 tyX0 tyX0_ok nmX0 2 (by decide) tw_262 rfl rfl rfl rfl (Nat.le_of_ble_eq_true rfl) (x := x) (jj := 3) (ce_0 E _) hdg kk
theorem gf_X0_9 (F : gFx p m c cc nL s args RX0 (cG E)) (hP : gW (cG E) σ H) (hdg : decode cc pc = .ok (.getfield 9, 3)) (kk : W p l e R s m args below meth c H locs cells slots Q (F0 m (pc + 3) ls (.ref (cAd E 21) :: rest))) : W p l e R s m args below meth c H locs cells slots Q (F0 m pc ls (.ref (cAd E 6) :: rest)) :=
  g_get F hP (k := 6) (cin (by omega)) (ce_0 E _) rfl inX0 0 (by decide) tw_259 rfl rfl hdg kk
theorem kc_X0_36 (F : gFx p m c cc nL s args RX0 (cG E)) (hP : gW (cG E) σ H) (hS : va_S (gA (cG E)) s.heap H locs) {p1 : Nat} (hp1 : p1 < 8) {p2 : Int32} {u : Unit} {σ' : St} (hf : f_X0_begin p1 p2 σ = some (u, σ')) (hR : rm_X0_begin.frames + 1 ≤ R.frames ∧ 8 + (3 + 11) + rm_X0_begin.locals ≤ R.locals) (hsz : ls.size = nL) (hrest : (rest.map fun v => v.category).sum ≤ 8) (hcs : cells ≤ R.cells ∧ slots ≤ R.slots) (hdg : decode cc pc = .ok (.invokevirtual 36, 3)) (kk : ∀ (H1 : Heap) (locs1 : List Loc), gW (cG E) σ' H1 → va_S (gA (cG E)) s.heap H1 locs1 → W p l e R s m args below meth c H1 locs1 cells slots Q (F0 m (pc + 3) ls rest)) : W p l e R s m args below meth c H locs cells slots Q (F0 m pc ls (.int p2 :: .ref (cAd E (46 + p1)) :: .ref (cAd E 6) :: rest)) :=
  g_callVv F hP hS (c_X0_begin l F.2.2.2.2.2.2.2 hp1 hf) (g_cwV (n := 2) F tw_639 tw_641 ts_17 tw_9 tw_642 (by decide +kernel) rfl rfl hR) (k := 6) (cin (by omega)) (ce_0 E _) rfl (As := [.ref (cAd E (46 + p1)), .int p2]) rfl hsz rfl hrest hdg hcs kk
theorem gf_X0_32 (F : gFx p m c cc nL s args RX0 (cG E)) (hP : gW (cG E) σ H) (hdg : decode cc pc = .ok (.getfield 32, 3)) (kk : W p l e R s m args below meth c H locs cells slots Q (F0 m (pc + 3) ls (.int (σ 6 3) :: rest))) : W p l e R s m args below meth c H locs cells slots Q (F0 m pc ls (.ref (cAd E 6) :: rest)) :=
  g_get F hP (k := 6) (cin (by omega)) (ce_0 E _) rfl inX0 2 (by decide) tw_262 rfl rfl hdg kk
theorem gf_X0_58 (F : gFx p m c cc nL s args RX0 (cG E)) (hP : gW (cG E) σ H) {o : Nat} (ho : o < 8) (hdg : decode cc pc = .ok (.getfield 58, 3)) (kk : W p l e R s m args below meth c H locs cells slots Q (F0 m (pc + 3) ls (.int (σ (46 + o) 0) :: rest))) : W p l e R s m args below meth c H locs cells slots Q (F0 m pc ls (.ref (cAd E (46 + o)) :: rest)) :=
  g_getN F hP (k := (46 + o)) (cin (by omega)) (ce_2 E _ ho) rfl inX2 0 (by decide) tw_179 rfl rfl hdg kk
theorem pf_X0_61 (F : gFx p m c cc nL s args RX0 (cG E)) (hP : gW (cG E) σ H) (hS : va_S (gA (cG E)) s.heap H locs) {x : Int32} (hdg : decode cc pc = .ok (.putfield 61, 3)) (kk : ∀ (H1 : Heap) (locs1 : List Loc), gW (cG E) (up2 σ 6 4 x) H1 → va_S (gA (cG E)) s.heap H1 locs1 → W p l e R s m args below meth c H1 locs1 cells slots Q (F0 m (pc + 3) ls rest)) : W p l e R s m args below meth c H locs cells slots Q (F0 m pc ls (.int x :: .ref (cAd E 6) :: rest)) :=
  g_put F hP hS (k := 6) (cin (by omega)) (ce_0 E _) rfl inX0 tyX0 tyX0_ok nmX0 3 (by decide) tw_263 rfl rfl rfl rfl (Nat.le_of_ble_eq_true rfl) (x := x) (jj := 4) (ce_0 E _) hdg kk
theorem gf_X0_52 (F : gFx p m c cc nL s args RX0 (cG E)) (hP : gW (cG E) σ H) {o : Nat} (ho : o < 8) (hdg : decode cc pc = .ok (.getfield 52, 3)) (kk : W p l e R s m args below meth c H locs cells slots Q (F0 m (pc + 3) ls (.int (σ (46 + o) 17) :: rest))) : W p l e R s m args below meth c H locs cells slots Q (F0 m pc ls (.ref (cAd E (46 + o)) :: rest)) :=
  g_getN F hP (k := (46 + o)) (cin (by omega)) (ce_2 E _ ho) rfl inX2 17 (by decide) tw_206 rfl rfl hdg kk
theorem kc_X0_55 (F : gFx p m c cc nL s args RX0 (cG E)) (hP : gW (cG E) σ H) (hS : va_S (gA (cG E)) s.heap H locs) {o : Nat} (ho : o < 8) {u : Unit} {σ' : St} (hf : f_X2_startSending o σ = some (u, σ')) (hR : rm_X2_startSending.frames + 1 ≤ R.frames ∧ 8 + (1 + 11) + rm_X2_startSending.locals ≤ R.locals) (hsz : ls.size = nL) (hrest : (rest.map fun v => v.category).sum ≤ 8) (hcs : cells ≤ R.cells ∧ slots ≤ R.slots) (hdg : decode cc pc = .ok (.invokevirtual 55, 3)) (kk : ∀ (H1 : Heap) (locs1 : List Loc), gW (cG E) σ' H1 → va_S (gA (cG E)) s.heap H1 locs1 → W p l e R s m args below meth c H1 locs1 cells slots Q (F0 m (pc + 3) ls rest)) : W p l e R s m args below meth c H locs cells slots Q (F0 m pc ls (.ref (cAd E (46 + o)) :: rest)) :=
  g_callVv F hP hS (c_X2_startSending l F.2.2.2.2.2.2.2 ho hf) (g_cwV (n := 0) F tw_660 tw_661 tw_662 tw_8 tw_663 (by decide +kernel) rfl rfl hR) (k := (46 + o)) (cin (by omega)) (ce_2 E _ ho) rfl (As := []) rfl hsz rfl hrest hdg hcs kk
theorem gf_X0_45 (F : gFx p m c cc nL s args RX0 (cG E)) (hP : gW (cG E) σ H) {o : Nat} (ho : o < 8) (hdg : decode cc pc = .ok (.getfield 45, 3)) (kk : W p l e R s m args below meth c H locs cells slots Q (F0 m (pc + 3) ls (.int (σ (46 + o) 16) :: rest))) : W p l e R s m args below meth c H locs cells slots Q (F0 m pc ls (.ref (cAd E (46 + o)) :: rest)) :=
  g_getN F hP (k := (46 + o)) (cin (by omega)) (ce_2 E _ ho) rfl inX2 16 (by decide) tw_204 rfl rfl hdg kk
theorem kc_X0_48 (F : gFx p m c cc nL s args RX0 (cG E)) (hP : gW (cG E) σ H) (hS : va_S (gA (cG E)) s.heap H locs) {o : Nat} (ho : o < 8) {p1 : Int32} {p2 : Int32} {u : Unit} {σ' : St} (hf : f_X2_lookOrHold o p1 p2 σ = some (u, σ')) (hR : rm_X2_lookOrHold.frames + 1 ≤ R.frames ∧ 8 + (3 + 11) + rm_X2_lookOrHold.locals ≤ R.locals) (hsz : ls.size = nL) (hrest : (rest.map fun v => v.category).sum ≤ 8) (hcs : cells ≤ R.cells ∧ slots ≤ R.slots) (hdg : decode cc pc = .ok (.invokevirtual 48, 3)) (kk : ∀ (H1 : Heap) (locs1 : List Loc), gW (cG E) σ' H1 → va_S (gA (cG E)) s.heap H1 locs1 → W p l e R s m args below meth c H1 locs1 cells slots Q (F0 m (pc + 3) ls rest)) : W p l e R s m args below meth c H locs cells slots Q (F0 m pc ls (.int p2 :: .int p1 :: .ref (cAd E (46 + o)) :: rest)) :=
  g_callVv F hP hS (c_X2_lookOrHold l F.2.2.2.2.2.2.2 ho hf) (g_cwV (n := 2) F tw_656 tw_657 tw_658 tw_8 tw_659 (by decide +kernel) rfl rfl hR) (k := (46 + o)) (cin (by omega)) (ce_2 E _ ho) rfl (As := [.int p1, .int p2]) rfl hsz rfl hrest hdg hcs kk
end SB
/-! PromisedSlots$Contention.takeUp(II)Z -/
def f_X0_takeUp_117 (a7 : Nat) (K21 : (Int32 × Int32 × Int32 × Int32 × Int32 × St → Option (Int32 × St))) (a1 : Int32) (a2 : Int32) (a3 : Int32) (a5 : Int32) (a6 : Int32) (σ : St) : Option (Int32 × St) :=
  if a3 = 0 then
    if (σ (46 + a7) 10) = 0 then
      vl (a6 + (1 : Int32)) fun x16 =>
      K21 (a1, a2, (0 : Int32), a5, x16, σ)
    else
      if (σ (46 + a7) 10) = (3 : Int32) then
        vl (a6 + (1 : Int32)) fun x18 =>
        K21 (a1, a2, (0 : Int32), a5, x18, σ)
      else
        vl (a6 + (1 : Int32)) fun x19 =>
        K21 (a1, a2, (1 : Int32), a5, x19, σ)
  else
    vl (a6 + (1 : Int32)) fun x14 =>
    K21 (a1, a2, (1 : Int32), a5, x14, σ)
def f_X0_takeUp_89 (a7 : Nat) (K21 : (Int32 × Int32 × Int32 × Int32 × Int32 × St → Option (Int32 × St))) (a1 : Int32) (a2 : Int32) (a3 : Int32) (a5 : Int32) (a6 : Int32) (σ : St) : Option (Int32 × St) :=
  if (σ (46 + a7) 10) = (4 : Int32) then
    vl (up2 σ 6 3 ((σ 6 3) + (1 : Int32))) fun σ20 =>
    vl (up2 σ20 6 4 (σ20 (46 + a7) 0)) fun σ21 =>
    f_X0_takeUp_117 a7 K21 a1 a2 a3 a5 a6 σ21
  else
    f_X0_takeUp_117 a7 K21 a1 a2 a3 a5 a6 σ
def b_X0_takeUp_21 (K21 : (Int32 × Int32 × Int32 × Int32 × Int32 × St → Option (Int32 × St))) (a1 : Int32) (a2 : Int32) (a3 : Int32) (a5 : Int32) (a6 : Int32) (σ : St) : Option (Int32 × St) :=
  if a5 ≤ a6 then
    gd (a3 = 0 ∨ a3 = 1) <|
    some (a3, σ)
  else
    gd (ix a6 8) <|
    vl (nt a6) fun d5 =>
    cl (f_X0_begin d5 a1 σ) fun r8 σ7 =>
    if (σ7 (46 + d5) 10) = (1 : Int32) then
      if (σ7 (46 + d5) 16) = 0 then
        cl (f_X2_lookOrHold d5 a1 a2 σ7) fun r33 σ32 =>
        if (σ32 (46 + d5) 10) = (2 : Int32) then
          if (σ32 (46 + d5) 17) < (2 : Int32) then
            f_X0_takeUp_89 d5 K21 a1 a2 a3 a5 a6 σ32
          else
            cl (f_X2_startSending d5 σ32) fun r38 σ37 =>
            f_X0_takeUp_89 d5 K21 a1 a2 a3 a5 a6 σ37
        else
          f_X0_takeUp_89 d5 K21 a1 a2 a3 a5 a6 σ32
      else
        if (σ7 (46 + d5) 10) = (2 : Int32) then
          if (σ7 (46 + d5) 17) < (2 : Int32) then
            f_X0_takeUp_89 d5 K21 a1 a2 a3 a5 a6 σ7
          else
            cl (f_X2_startSending d5 σ7) fun r30 σ29 =>
            f_X0_takeUp_89 d5 K21 a1 a2 a3 a5 a6 σ29
        else
          f_X0_takeUp_89 d5 K21 a1 a2 a3 a5 a6 σ7
    else
      if (σ7 (46 + d5) 10) = (2 : Int32) then
        if (σ7 (46 + d5) 17) < (2 : Int32) then
          f_X0_takeUp_89 d5 K21 a1 a2 a3 a5 a6 σ7
        else
          cl (f_X2_startSending d5 σ7) fun r24 σ23 =>
          f_X0_takeUp_89 d5 K21 a1 a2 a3 a5 a6 σ23
      else
        f_X0_takeUp_89 d5 K21 a1 a2 a3 a5 a6 σ7
def f_X0_takeUp (p1 : Int32) (p2 : Int32) (σ : St) : Option (Int32 × St) :=
  vl (up2 σ 6 3 (0 : Int32)) fun σ1 =>
  lp (fun K a => b_X0_takeUp_21 K a.1 a.2.1 a.2.2.1 a.2.2.2.1 a.2.2.2.2.1 a.2.2.2.2.2) FU (p1, p2, (0 : Int32), (8 : Int32), (0 : Int32), σ1)
abbrev rm_X0_takeUp : Room := { frames := 3, cells := 0, slots := 0, locals := 64 }
def P_X0_takeUp_21 (p : Program) (l : Launch) (e : Env) (s : State) (m : MethodId) (args : Array Value) (below : List Frame) (meth : Method) (c : Code) (E : cEv) (r : Int32) (σ' : St) (a : Int32 × Int32 × Int32 × Int32 × Int32 × St) : Prop := ∀ (H : Heap) (locs : List Loc) (ls : Array Slot), gW (cG E) a.2.2.2.2.2 H → va_S (gA (cG E)) s.heap H locs → lv_has ls 8 [(0, .ref (cAd E 6)), (1, .int a.1), (2, .int a.2.1), (3, .int a.2.2.1), (4, .ref (cAd E 21)), (5, .int a.2.2.2.1), (6, .int a.2.2.2.2.1)] → W p l e rm_X0_takeUp s m args below meth c H locs 0 0 (gQi below args s (cG E) r σ') (F0 m 21 ls [])
set_option maxHeartbeats 4000000 in
set_option maxRecDepth 100000 in
theorem w_X0_takeUp_117 {p : Program} {l : Launch} {e : Env} {s : State} {m : MethodId} {args : Array Value} {below : List Frame} {meth : Method} {c : Code} {E : cEv} {r : Int32} {σ' : St} {a7 : Nat} (ha7 : a7 < 8) (B : gBx p m meth c cX0_takeUp 8 (some .boolean) s args RX0 (cG E)) {K21 : (Int32 × Int32 × Int32 × Int32 × Int32 × St → Option (Int32 × St))} (hK21 : ∀ a, K21 a = some (r, σ') → P_X0_takeUp_21 p l e s m args below meth c E r σ' a) (a1 : Int32) (a2 : Int32) (a3 : Int32) (a5 : Int32) (a6 : Int32) (σ : St) (hf : f_X0_takeUp_117 a7 K21 a1 a2 a3 a5 a6 σ = some (r, σ')) (H : Heap) (locs : List Loc) (ls : Array Slot) (hP : gW (cG E) σ H) (hS : va_S (gA (cG E)) s.heap H locs) (hl : lv_has ls 8 [(0, .ref (cAd E 6)), (1, .int a1), (2, .int a2), (3, .int a3), (4, .ref (cAd E 21)), (5, .int a5), (6, .int a6), (7, .ref (cAd E (46 + a7)))]) : W p l e rm_X0_takeUp s m args below meth c H locs 0 0 (gQi below args s (cG E) r σ') (F0 m 117 ls []) := by
  unfold f_X0_takeUp_117 at hf
  obtain ⟨F, hr, hlk⟩ := id B
  have hx := F.1
  have hb := F.2.1
  have hml := F.2.2.1
  have hown := F.2.2.2.1
  have hts := F.2.2.2.2.1
  refine lv_iload_n hx hb dX0_takeUp_117 rfl (lv_at hl 3 rfl) ?_
  refine lv_if_ne (tgt := 138) hx hb dX0_takeUp_118 (by decide) (fun h13 => ?_) (fun h13 => ?_)
  · rw [if_neg h13] at hf
    refine lv_iconst (v := 1) hx hb dX0_takeUp_138 (by decide) ?_
    refine lv_goto (tgt := 143) hx hb dX0_takeUp_139 (by decide) ?_
    refine lv_istore_n (lv' := [(3, .int (1 : Int32)), (0, .ref (cAd E 6)), (1, .int a1), (2, .int a2), (4, .ref (cAd E 21)), (5, .int a5), (6, .int a6), (7, .ref (cAd E (46 + a7)))]) hx hb dX0_takeUp_143 rfl hl (by decide) rfl (fun ls hl => ?_)
    refine lv_iinc (v := a6 + (1 : Int32)) (lv' := [(6, .int (a6 + (1 : Int32))), (3, .int (1 : Int32)), (0, .ref (cAd E 6)), (1, .int a1), (2, .int a2), (4, .ref (cAd E 21)), (5, .int a5), (7, .ref (cAd E (46 + a7)))]) hx hb dX0_takeUp_144 hl (k := 6) rfl rfl (by decide) rfl (fun ls hl => ?_)
    obtain ⟨x14, ex14, hf⟩ := vl_x hf
    rw [← ex14] at hl
    refine lv_goto (tgt := 21) hx hb dX0_takeUp_147 (by decide) ?_
    exact hK21 _ hf _ _ _ hP hS (lv_sub hl [2, 3, 4, 1, 5, 6, 0] rfl)
  · rw [if_pos h13] at hf
    refine lv_aload hx hb dX0_takeUp_121 (lv_at hl 7 rfl) ?_
    refine gf_X0_40 F hP ha7 dX0_takeUp_123 ?_
    refine lv_if_eq (tgt := 142) hx hb dX0_takeUp_126 (by decide) (fun h15 => ?_) (fun h15 => ?_)
    · rw [if_pos h15] at hf
      refine lv_iconst (v := 0) hx hb dX0_takeUp_142 (by decide) ?_
      refine lv_istore_n (lv' := [(3, .int (0 : Int32)), (0, .ref (cAd E 6)), (1, .int a1), (2, .int a2), (4, .ref (cAd E 21)), (5, .int a5), (6, .int a6), (7, .ref (cAd E (46 + a7)))]) hx hb dX0_takeUp_143 rfl hl (by decide) rfl (fun ls hl => ?_)
      refine lv_iinc (v := a6 + (1 : Int32)) (lv' := [(6, .int (a6 + (1 : Int32))), (3, .int (0 : Int32)), (0, .ref (cAd E 6)), (1, .int a1), (2, .int a2), (4, .ref (cAd E 21)), (5, .int a5), (7, .ref (cAd E (46 + a7)))]) hx hb dX0_takeUp_144 hl (k := 6) rfl rfl (by decide) rfl (fun ls hl => ?_)
      obtain ⟨x16, ex16, hf⟩ := vl_x hf
      rw [← ex16] at hl
      refine lv_goto (tgt := 21) hx hb dX0_takeUp_147 (by decide) ?_
      exact hK21 _ hf _ _ _ hP hS (lv_sub hl [2, 3, 4, 1, 5, 6, 0] rfl)
    · rw [if_neg h15] at hf
      refine lv_aload hx hb dX0_takeUp_129 (lv_at hl 7 rfl) ?_
      refine gf_X0_40 F hP ha7 dX0_takeUp_131 ?_
      refine lv_iconst (v := 3) hx hb dX0_takeUp_134 (by decide) ?_
      refine lv_icmp_eq (tgt := 142) hx hb dX0_takeUp_135 (by decide) (fun h17 => ?_) (fun h17 => ?_)
      · rw [if_pos h17] at hf
        refine lv_iconst (v := 0) hx hb dX0_takeUp_142 (by decide) ?_
        refine lv_istore_n (lv' := [(3, .int (0 : Int32)), (0, .ref (cAd E 6)), (1, .int a1), (2, .int a2), (4, .ref (cAd E 21)), (5, .int a5), (6, .int a6), (7, .ref (cAd E (46 + a7)))]) hx hb dX0_takeUp_143 rfl hl (by decide) rfl (fun ls hl => ?_)
        refine lv_iinc (v := a6 + (1 : Int32)) (lv' := [(6, .int (a6 + (1 : Int32))), (3, .int (0 : Int32)), (0, .ref (cAd E 6)), (1, .int a1), (2, .int a2), (4, .ref (cAd E 21)), (5, .int a5), (7, .ref (cAd E (46 + a7)))]) hx hb dX0_takeUp_144 hl (k := 6) rfl rfl (by decide) rfl (fun ls hl => ?_)
        obtain ⟨x18, ex18, hf⟩ := vl_x hf
        rw [← ex18] at hl
        refine lv_goto (tgt := 21) hx hb dX0_takeUp_147 (by decide) ?_
        exact hK21 _ hf _ _ _ hP hS (lv_sub hl [2, 3, 4, 1, 5, 6, 0] rfl)
      · rw [if_neg h17] at hf
        refine lv_iconst (v := 1) hx hb dX0_takeUp_138 (by decide) ?_
        refine lv_goto (tgt := 143) hx hb dX0_takeUp_139 (by decide) ?_
        refine lv_istore_n (lv' := [(3, .int (1 : Int32)), (0, .ref (cAd E 6)), (1, .int a1), (2, .int a2), (4, .ref (cAd E 21)), (5, .int a5), (6, .int a6), (7, .ref (cAd E (46 + a7)))]) hx hb dX0_takeUp_143 rfl hl (by decide) rfl (fun ls hl => ?_)
        refine lv_iinc (v := a6 + (1 : Int32)) (lv' := [(6, .int (a6 + (1 : Int32))), (3, .int (1 : Int32)), (0, .ref (cAd E 6)), (1, .int a1), (2, .int a2), (4, .ref (cAd E 21)), (5, .int a5), (7, .ref (cAd E (46 + a7)))]) hx hb dX0_takeUp_144 hl (k := 6) rfl rfl (by decide) rfl (fun ls hl => ?_)
        obtain ⟨x19, ex19, hf⟩ := vl_x hf
        rw [← ex19] at hl
        refine lv_goto (tgt := 21) hx hb dX0_takeUp_147 (by decide) ?_
        exact hK21 _ hf _ _ _ hP hS (lv_sub hl [2, 3, 4, 1, 5, 6, 0] rfl)
set_option maxHeartbeats 4000000 in
set_option maxRecDepth 100000 in
theorem w_X0_takeUp_89 {p : Program} {l : Launch} {e : Env} {s : State} {m : MethodId} {args : Array Value} {below : List Frame} {meth : Method} {c : Code} {E : cEv} {r : Int32} {σ' : St} {a7 : Nat} (ha7 : a7 < 8) (B : gBx p m meth c cX0_takeUp 8 (some .boolean) s args RX0 (cG E)) {K21 : (Int32 × Int32 × Int32 × Int32 × Int32 × St → Option (Int32 × St))} (hK21 : ∀ a, K21 a = some (r, σ') → P_X0_takeUp_21 p l e s m args below meth c E r σ' a) (a1 : Int32) (a2 : Int32) (a3 : Int32) (a5 : Int32) (a6 : Int32) (σ : St) (hf : f_X0_takeUp_89 a7 K21 a1 a2 a3 a5 a6 σ = some (r, σ')) (H : Heap) (locs : List Loc) (ls : Array Slot) (hP : gW (cG E) σ H) (hS : va_S (gA (cG E)) s.heap H locs) (hl : lv_has ls 8 [(0, .ref (cAd E 6)), (1, .int a1), (2, .int a2), (3, .int a3), (4, .ref (cAd E 21)), (5, .int a5), (6, .int a6), (7, .ref (cAd E (46 + a7)))]) : W p l e rm_X0_takeUp s m args below meth c H locs 0 0 (gQi below args s (cG E) r σ') (F0 m 89 ls []) := by
  unfold f_X0_takeUp_89 at hf
  obtain ⟨F, hr, hlk⟩ := id B
  have hx := F.1
  have hb := F.2.1
  have hml := F.2.2.1
  have hown := F.2.2.2.1
  have hts := F.2.2.2.2.1
  refine lv_aload hx hb dX0_takeUp_89 (lv_at hl 7 rfl) ?_
  refine gf_X0_40 F hP ha7 dX0_takeUp_91 ?_
  refine lv_iconst (v := 4) hx hb dX0_takeUp_94 (by decide) ?_
  refine lv_icmp_ne (tgt := 117) hx hb dX0_takeUp_95 (by decide) (fun h12 => ?_) (fun h12 => ?_)
  · rw [if_neg h12] at hf
    exact w_X0_takeUp_117 ha7 B hK21 _ _ _ _ _ σ hf _ _ _ hP hS (lv_sub hl [0, 1, 2, 3, 4, 5, 6, 7] rfl)
  · rw [if_pos h12] at hf
    refine lv_aload_n hx hb dX0_takeUp_98 rfl (lv_at hl 0 rfl) ?_
    refine lv_dup hx hb dX0_takeUp_99 rfl ?_
    refine gf_X0_32 F hP dX0_takeUp_100 ?_
    refine lv_iconst (v := 1) hx hb dX0_takeUp_103 (by decide) ?_
    refine lv_iadd hx hb dX0_takeUp_104 ?_
    refine pf_X0_32 F hP hS dX0_takeUp_105 (fun H locs hP hS => ?_)
    obtain ⟨σ20, eσ20, hf⟩ := vl_x hf
    rw [← eσ20] at hP
    refine lv_aload_n hx hb dX0_takeUp_108 rfl (lv_at hl 0 rfl) ?_
    refine lv_aload hx hb dX0_takeUp_109 (lv_at hl 7 rfl) ?_
    refine gf_X0_58 F hP ha7 dX0_takeUp_111 ?_
    refine pf_X0_61 F hP hS dX0_takeUp_114 (fun H locs hP hS => ?_)
    obtain ⟨σ21, eσ21, hf⟩ := vl_x hf
    rw [← eσ21] at hP
    exact w_X0_takeUp_117 ha7 B hK21 _ _ _ _ _ σ21 hf _ _ _ hP hS (lv_sub hl [0, 1, 2, 3, 4, 5, 6, 7] rfl)
set_option maxHeartbeats 4000000 in
set_option maxRecDepth 100000 in
theorem w_X0_takeUp_21 {p : Program} {l : Launch} {e : Env} {s : State} {m : MethodId} {args : Array Value} {below : List Frame} {meth : Method} {c : Code} {E : cEv} {r : Int32} {σ' : St} (B : gBx p m meth c cX0_takeUp 8 (some .boolean) s args RX0 (cG E)) {K21 : (Int32 × Int32 × Int32 × Int32 × Int32 × St → Option (Int32 × St))} (hK21 : ∀ a, K21 a = some (r, σ') → P_X0_takeUp_21 p l e s m args below meth c E r σ' a) (a1 : Int32) (a2 : Int32) (a3 : Int32) (a5 : Int32) (a6 : Int32) (σ : St) (hf : b_X0_takeUp_21 K21 a1 a2 a3 a5 a6 σ = some (r, σ')) (H : Heap) (locs : List Loc) (ls : Array Slot) (hP : gW (cG E) σ H) (hS : va_S (gA (cG E)) s.heap H locs) (hl : lv_has ls 8 [(0, .ref (cAd E 6)), (1, .int a1), (2, .int a2), (3, .int a3), (4, .ref (cAd E 21)), (5, .int a5), (6, .int a6)]) : W p l e rm_X0_takeUp s m args below meth c H locs 0 0 (gQi below args s (cG E) r σ') (F0 m 21 ls []) := by
  unfold b_X0_takeUp_21 at hf
  obtain ⟨F, hr, hlk⟩ := id B
  have hx := F.1
  have hb := F.2.1
  have hml := F.2.2.1
  have hown := F.2.2.2.1
  have hts := F.2.2.2.2.1
  refine lv_iload hx hb dX0_takeUp_21 (lv_at hl 6 rfl) ?_
  refine lv_iload hx hb dX0_takeUp_23 (lv_at hl 5 rfl) ?_
  refine lv_icmp_ge (tgt := 150) hx hb dX0_takeUp_25 (by decide) (fun h2 => ?_) (fun h2 => ?_)
  · rw [if_pos h2] at hf
    refine lv_iload_n hx hb dX0_takeUp_150 rfl (lv_at hl 3 rfl) ?_
    obtain ⟨h3, hf⟩ := gd_e hf
    exact g_zret B hP hS hf h3 dX0_takeUp_151
  · rw [if_neg h2] at hf
    refine lv_aload hx hb dX0_takeUp_28 (lv_at hl 4 rfl) ?_
    refine lv_iload hx hb dX0_takeUp_30 (lv_at hl 6 rfl) ?_
    obtain ⟨h4, hf⟩ := gd_e hf
    refine c_aldD F hP h4 dX0_takeUp_32 ?_
    have h6 := ix_lt h4
    obtain ⟨d5, ed5, hf⟩ := vl_x hf
    rw [← ed5] at h6 ⊢
    refine lv_astore (lv' := [(7, .ref (cAd E (46 + d5))), (0, .ref (cAd E 6)), (1, .int a1), (2, .int a2), (3, .int a3), (4, .ref (cAd E 21)), (5, .int a5), (6, .int a6)]) hx hb dX0_takeUp_33 hl (by decide) rfl (fun ls hl => ?_)
    refine lv_aload_n hx hb dX0_takeUp_35 rfl (lv_at hl 1 rfl) ?_
    refine lv_aload hx hb dX0_takeUp_36 (lv_at hl 0 rfl) ?_
    refine lv_iload_n hx hb dX0_takeUp_38 rfl (lv_at hl 2 rfl) ?_
    obtain ⟨r8, σ7, h9, hf⟩ := cl_e hf
    refine kc_X0_36 F hP hS h6 h9 ⟨Nat.le_of_ble_eq_true rfl, Nat.le_of_ble_eq_true rfl⟩ hl.1 (Nat.le_of_ble_eq_true rfl) ⟨Nat.zero_le _, Nat.zero_le _⟩ dX0_takeUp_39 (fun H locs hP hS => ?_)
    refine lv_aload hx hb dX0_takeUp_42 (lv_at hl 0 rfl) ?_
    refine gf_X0_40 F hP h6 dX0_takeUp_44 ?_
    refine lv_iconst (v := 1) hx hb dX0_takeUp_47 (by decide) ?_
    refine lv_icmp_ne (tgt := 66) hx hb dX0_takeUp_48 (by decide) (fun h10 => ?_) (fun h10 => ?_)
    · rw [if_neg h10] at hf
      refine lv_aload hx hb dX0_takeUp_66 (lv_at hl 0 rfl) ?_
      refine gf_X0_40 F hP h6 dX0_takeUp_68 ?_
      refine lv_iconst (v := 2) hx hb dX0_takeUp_71 (by decide) ?_
      refine lv_icmp_ne (tgt := 89) hx hb dX0_takeUp_72 (by decide) (fun h11 => ?_) (fun h11 => ?_)
      · rw [if_neg h11] at hf
        exact w_X0_takeUp_89 h6 B hK21 _ _ _ _ _ σ7 hf _ _ _ hP hS (lv_sub hl [1, 2, 3, 4, 5, 6, 7, 0] rfl)
      · rw [if_pos h11] at hf
        refine lv_aload hx hb dX0_takeUp_75 (lv_at hl 0 rfl) ?_
        refine gf_X0_52 F hP h6 dX0_takeUp_77 ?_
        refine lv_iconst (v := 2) hx hb dX0_takeUp_80 (by decide) ?_
        refine lv_icmp_lt (tgt := 89) hx hb dX0_takeUp_81 (by decide) (fun h22 => ?_) (fun h22 => ?_)
        · rw [if_pos h22] at hf
          exact w_X0_takeUp_89 h6 B hK21 _ _ _ _ _ σ7 hf _ _ _ hP hS (lv_sub hl [1, 2, 3, 4, 5, 6, 7, 0] rfl)
        · rw [if_neg h22] at hf
          refine lv_aload hx hb dX0_takeUp_84 (lv_at hl 0 rfl) ?_
          obtain ⟨r24, σ23, h25, hf⟩ := cl_e hf
          refine kc_X0_55 F hP hS h6 h25 ⟨Nat.le_of_ble_eq_true rfl, Nat.le_of_ble_eq_true rfl⟩ hl.1 (Nat.le_of_ble_eq_true rfl) ⟨Nat.zero_le _, Nat.zero_le _⟩ dX0_takeUp_86 (fun H locs hP hS => ?_)
          exact w_X0_takeUp_89 h6 B hK21 _ _ _ _ _ σ23 hf _ _ _ hP hS (lv_sub hl [1, 2, 3, 4, 5, 6, 7, 0] rfl)
    · rw [if_pos h10] at hf
      refine lv_aload hx hb dX0_takeUp_51 (lv_at hl 0 rfl) ?_
      refine gf_X0_45 F hP h6 dX0_takeUp_53 ?_
      refine lv_if_ne (tgt := 66) hx hb dX0_takeUp_56 (by decide) (fun h26 => ?_) (fun h26 => ?_)
      · rw [if_neg h26] at hf
        refine lv_aload hx hb dX0_takeUp_66 (lv_at hl 0 rfl) ?_
        refine gf_X0_40 F hP h6 dX0_takeUp_68 ?_
        refine lv_iconst (v := 2) hx hb dX0_takeUp_71 (by decide) ?_
        refine lv_icmp_ne (tgt := 89) hx hb dX0_takeUp_72 (by decide) (fun h27 => ?_) (fun h27 => ?_)
        · rw [if_neg h27] at hf
          exact w_X0_takeUp_89 h6 B hK21 _ _ _ _ _ σ7 hf _ _ _ hP hS (lv_sub hl [1, 2, 3, 4, 5, 6, 7, 0] rfl)
        · rw [if_pos h27] at hf
          refine lv_aload hx hb dX0_takeUp_75 (lv_at hl 0 rfl) ?_
          refine gf_X0_52 F hP h6 dX0_takeUp_77 ?_
          refine lv_iconst (v := 2) hx hb dX0_takeUp_80 (by decide) ?_
          refine lv_icmp_lt (tgt := 89) hx hb dX0_takeUp_81 (by decide) (fun h28 => ?_) (fun h28 => ?_)
          · rw [if_pos h28] at hf
            exact w_X0_takeUp_89 h6 B hK21 _ _ _ _ _ σ7 hf _ _ _ hP hS (lv_sub hl [1, 2, 3, 4, 5, 6, 7, 0] rfl)
          · rw [if_neg h28] at hf
            refine lv_aload hx hb dX0_takeUp_84 (lv_at hl 0 rfl) ?_
            obtain ⟨r30, σ29, h31, hf⟩ := cl_e hf
            refine kc_X0_55 F hP hS h6 h31 ⟨Nat.le_of_ble_eq_true rfl, Nat.le_of_ble_eq_true rfl⟩ hl.1 (Nat.le_of_ble_eq_true rfl) ⟨Nat.zero_le _, Nat.zero_le _⟩ dX0_takeUp_86 (fun H locs hP hS => ?_)
            exact w_X0_takeUp_89 h6 B hK21 _ _ _ _ _ σ29 hf _ _ _ hP hS (lv_sub hl [1, 2, 3, 4, 5, 6, 7, 0] rfl)
      · rw [if_pos h26] at hf
        refine lv_aload hx hb dX0_takeUp_59 (lv_at hl 0 rfl) ?_
        refine lv_iload_n hx hb dX0_takeUp_61 rfl (lv_at hl 2 rfl) ?_
        refine lv_iload_n hx hb dX0_takeUp_62 rfl (lv_at hl 3 rfl) ?_
        obtain ⟨r33, σ32, h34, hf⟩ := cl_e hf
        refine kc_X0_48 F hP hS h6 h34 ⟨Nat.le_of_ble_eq_true rfl, Nat.le_of_ble_eq_true rfl⟩ hl.1 (Nat.le_of_ble_eq_true rfl) ⟨Nat.zero_le _, Nat.zero_le _⟩ dX0_takeUp_63 (fun H locs hP hS => ?_)
        refine lv_aload hx hb dX0_takeUp_66 (lv_at hl 0 rfl) ?_
        refine gf_X0_40 F hP h6 dX0_takeUp_68 ?_
        refine lv_iconst (v := 2) hx hb dX0_takeUp_71 (by decide) ?_
        refine lv_icmp_ne (tgt := 89) hx hb dX0_takeUp_72 (by decide) (fun h35 => ?_) (fun h35 => ?_)
        · rw [if_neg h35] at hf
          exact w_X0_takeUp_89 h6 B hK21 _ _ _ _ _ σ32 hf _ _ _ hP hS (lv_sub hl [1, 2, 3, 4, 5, 6, 7, 0] rfl)
        · rw [if_pos h35] at hf
          refine lv_aload hx hb dX0_takeUp_75 (lv_at hl 0 rfl) ?_
          refine gf_X0_52 F hP h6 dX0_takeUp_77 ?_
          refine lv_iconst (v := 2) hx hb dX0_takeUp_80 (by decide) ?_
          refine lv_icmp_lt (tgt := 89) hx hb dX0_takeUp_81 (by decide) (fun h36 => ?_) (fun h36 => ?_)
          · rw [if_pos h36] at hf
            exact w_X0_takeUp_89 h6 B hK21 _ _ _ _ _ σ32 hf _ _ _ hP hS (lv_sub hl [1, 2, 3, 4, 5, 6, 7, 0] rfl)
          · rw [if_neg h36] at hf
            refine lv_aload hx hb dX0_takeUp_84 (lv_at hl 0 rfl) ?_
            obtain ⟨r38, σ37, h39, hf⟩ := cl_e hf
            refine kc_X0_55 F hP hS h6 h39 ⟨Nat.le_of_ble_eq_true rfl, Nat.le_of_ble_eq_true rfl⟩ hl.1 (Nat.le_of_ble_eq_true rfl) ⟨Nat.zero_le _, Nat.zero_le _⟩ dX0_takeUp_86 (fun H locs hP hS => ?_)
            exact w_X0_takeUp_89 h6 B hK21 _ _ _ _ _ σ37 hf _ _ _ hP hS (lv_sub hl [1, 2, 3, 4, 5, 6, 7, 0] rfl)
set_option maxHeartbeats 4000000 in
set_option maxRecDepth 100000 in
theorem w_X0_takeUp_e {p : Program} {l : Launch} {e : Env} {s : State} {m : MethodId} {args : Array Value} {below : List Frame} {meth : Method} {c : Code} {E : cEv} {r : Int32} {σ' : St} (B : gBx p m meth c cX0_takeUp 8 (some .boolean) s args RX0 (cG E)) (p1 : Int32) (p2 : Int32) (σ : St) (hf : f_X0_takeUp p1 p2 σ = some (r, σ')) (H : Heap) (locs : List Loc) (ls : Array Slot) (hP : gW (cG E) σ H) (hS : va_S (gA (cG E)) s.heap H locs) (hl : lv_has ls 8 [(0, .ref (cAd E 6)), (1, .int p1), (2, .int p2)]) : W p l e rm_X0_takeUp s m args below meth c H locs 0 0 (gQi below args s (cG E) r σ') (F0 m 0 ls []) := by
  unfold f_X0_takeUp at hf
  obtain ⟨F, hr, hlk⟩ := id B
  have hx := F.1
  have hb := F.2.1
  have hml := F.2.2.1
  have hown := F.2.2.2.1
  have hts := F.2.2.2.2.1
  refine lv_iconst (v := 0) hx hb dX0_takeUp_0 (by decide) ?_
  refine lv_istore_n (lv' := [(3, .int (0 : Int32)), (0, .ref (cAd E 6)), (1, .int p1), (2, .int p2)]) hx hb dX0_takeUp_1 rfl hl (by decide) rfl (fun ls hl => ?_)
  refine lv_aload_n hx hb dX0_takeUp_2 rfl (lv_at hl 1 rfl) ?_
  refine lv_iconst (v := 0) hx hb dX0_takeUp_3 (by decide) ?_
  refine pf_X0_32 F hP hS dX0_takeUp_4 (fun H locs hP hS => ?_)
  obtain ⟨σ1, eσ1, hf⟩ := vl_x hf
  rw [← eσ1] at hP
  refine lv_aload_n hx hb dX0_takeUp_7 rfl (lv_at hl 1 rfl) ?_
  refine gf_X0_9 F hP dX0_takeUp_8 ?_
  refine lv_astore (lv' := [(4, .ref (cAd E 21)), (3, .int (0 : Int32)), (0, .ref (cAd E 6)), (1, .int p1), (2, .int p2)]) hx hb dX0_takeUp_11 hl (by decide) rfl (fun ls hl => ?_)
  refine lv_aload hx hb dX0_takeUp_13 (lv_at hl 0 rfl) ?_
  refine c_alenD F hP dX0_takeUp_15 ?_
  refine lv_istore (lv' := [(5, .int (8 : Int32)), (4, .ref (cAd E 21)), (3, .int (0 : Int32)), (0, .ref (cAd E 6)), (1, .int p1), (2, .int p2)]) hx hb dX0_takeUp_16 hl (by decide) rfl (fun ls hl => ?_)
  refine lv_iconst (v := 0) hx hb dX0_takeUp_18 (by decide) ?_
  refine lv_istore (lv' := [(6, .int (0 : Int32)), (5, .int (8 : Int32)), (4, .ref (cAd E 21)), (3, .int (0 : Int32)), (0, .ref (cAd E 6)), (1, .int p1), (2, .int p2)]) hx hb dX0_takeUp_19 hl (by decide) rfl (fun ls hl => ?_)
  exact lp_w (P := P_X0_takeUp_21 p l e s m args below meth c E r σ') (fun K hK a ha => w_X0_takeUp_21 B hK a.1 a.2.1 a.2.2.1 a.2.2.2.1 a.2.2.2.2.1 a.2.2.2.2.2 ha) FU _ hf _ _ _ hP hS (lv_sub hl [4, 5, 6, 3, 2, 1, 0] rfl)
theorem c_X0_takeUp (l : Launch) {E : cEv} (hI : gIj (cG E)) {p1 : Int32} {p2 : Int32} {σ σ' : St} {r : Int32} (hf : f_X0_takeUp p1 p2 σ = some (r, σ')) : gMi l yX0_takeUp cX0_takeUp 8 .boolean rm_X0_takeUp [.ref (cAd E 6), .int p1, .int p2] (cG E) σ r σ' :=
  g_entry (by decide) (Nat.le_of_ble_eq_true rfl) hI (fun p e s m args below meth c B hP hS ls hl => w_X0_takeUp_e B _ _ σ hf _ _ ls hP hS hl)
section SB
variable {p : Program} {l : Launch} {e : Env} {R : Room} {s : State} {m : MethodId} {args : Array Value} {below : List Frame} {meth : Method} {c : Code} {H : Heap} {locs : List Loc} {cells slots : Nat} {Q : State → Prop}
variable {cc : ByteArray} {pc nL : Nat} {ls : Array Slot} {rest : List Value} {E : cEv} {σ : St}
theorem gf_X0_61 (F : gFx p m c cc nL s args RX0 (cG E)) (hP : gW (cG E) σ H) (hdg : decode cc pc = .ok (.getfield 61, 3)) (kk : W p l e R s m args below meth c H locs cells slots Q (F0 m (pc + 3) ls (.int (σ 6 4) :: rest))) : W p l e R s m args below meth c H locs cells slots Q (F0 m pc ls (.ref (cAd E 6) :: rest)) :=
  g_get F hP (k := 6) (cin (by omega)) (ce_0 E _) rfl inX0 3 (by decide) tw_263 rfl rfl hdg kk
end SB
/-! PromisedSlots$Contention.airNow()I -/
def f_X0_airNow (σ : St) : Option (Int32 × St) :=
  if (σ 6 3) ≤ (1 : Int32) then
    if (σ 6 3) = (1 : Int32) then
      some (((10 : Int32) + (σ 6 4)), σ)
    else
      some ((0 : Int32), σ)
  else
    some ((2 : Int32), σ)
abbrev rm_X0_airNow : Room := { frames := 0, cells := 0, slots := 0, locals := 0 }
set_option maxHeartbeats 4000000 in
set_option maxRecDepth 100000 in
theorem w_X0_airNow_e {p : Program} {l : Launch} {e : Env} {s : State} {m : MethodId} {args : Array Value} {below : List Frame} {meth : Method} {c : Code} {E : cEv} {r : Int32} {σ' : St} (B : gBx p m meth c cX0_airNow 1 (some .int) s args RX0 (cG E)) (σ : St) (hf : f_X0_airNow σ = some (r, σ')) (H : Heap) (locs : List Loc) (ls : Array Slot) (hP : gW (cG E) σ H) (hS : va_S (gA (cG E)) s.heap H locs) (hl : lv_has ls 1 [(0, .ref (cAd E 6))]) : W p l e rm_X0_airNow s m args below meth c H locs 0 0 (gQi below args s (cG E) r σ') (F0 m 0 ls []) := by
  unfold f_X0_airNow at hf
  obtain ⟨F, hr, hlk⟩ := id B
  have hx := F.1
  have hb := F.2.1
  have hml := F.2.2.1
  have hown := F.2.2.2.1
  have hts := F.2.2.2.2.1
  refine lv_aload_n hx hb dX0_airNow_0 rfl (lv_at hl 0 rfl) ?_
  refine gf_X0_32 F hP dX0_airNow_1 ?_
  refine lv_iconst (v := 1) hx hb dX0_airNow_4 (by decide) ?_
  refine lv_icmp_le (tgt := 10) hx hb dX0_airNow_5 (by decide) (fun h1 => ?_) (fun h1 => ?_)
  · rw [if_pos h1] at hf
    refine lv_aload_n hx hb dX0_airNow_10 rfl (lv_at hl 0 rfl) ?_
    refine gf_X0_32 F hP dX0_airNow_11 ?_
    refine lv_iconst (v := 1) hx hb dX0_airNow_14 (by decide) ?_
    refine lv_icmp_ne (tgt := 28) hx hb dX0_airNow_15 (by decide) (fun h2 => ?_) (fun h2 => ?_)
    · rw [if_neg h2] at hf
      refine lv_iconst (v := 0) hx hb dX0_airNow_28 (by decide) ?_
      exact g_iret B hP hS hf dX0_airNow_29
    · rw [if_pos h2] at hf
      refine lv_bipush (v := (10)) hx hb dX0_airNow_18 (by decide) ?_
      refine lv_aload_n hx hb dX0_airNow_20 rfl (lv_at hl 0 rfl) ?_
      refine gf_X0_61 F hP dX0_airNow_21 ?_
      refine lv_iadd hx hb dX0_airNow_24 ?_
      refine lv_goto (tgt := 29) hx hb dX0_airNow_25 (by decide) ?_
      exact g_iret B hP hS hf dX0_airNow_29
  · rw [if_neg h1] at hf
    refine lv_iconst (v := 2) hx hb dX0_airNow_8 (by decide) ?_
    exact g_iret B hP hS hf dX0_airNow_9
theorem c_X0_airNow (l : Launch) {E : cEv} (hI : gIj (cG E)) {σ σ' : St} {r : Int32} (hf : f_X0_airNow σ = some (r, σ')) : gMi l yX0_airNow cX0_airNow 1 .int rm_X0_airNow [.ref (cAd E 6)] (cG E) σ r σ' :=
  g_entry (by decide) (Nat.le_of_ble_eq_true rfl) hI (fun p e s m args below meth c B hP hS ls hl => w_X0_airNow_e B σ hf _ _ ls hP hS hl)
section SB
variable {p : Program} {l : Launch} {e : Env} {R : Room} {s : State} {m : MethodId} {args : Array Value} {below : List Frame} {meth : Method} {c : Code} {H : Heap} {locs : List Loc} {cells slots : Nat} {Q : State → Prop}
variable {cc : ByteArray} {pc nL : Nat} {ls : Array Slot} {rest : List Value} {E : cEv} {σ : St}
theorem kc_X0_85 (F : gFx p m c cc nL s args RX0 (cG E)) (hP : gW (cG E) σ H) (hS : va_S (gA (cG E)) s.heap H locs) {o : Nat} (ho : o < 8) {u : Unit} {σ' : St} (hf : f_X2_waitLess o σ = some (u, σ')) (hR : rm_X2_waitLess.frames + 1 ≤ R.frames ∧ 8 + (1 + 11) + rm_X2_waitLess.locals ≤ R.locals) (hsz : ls.size = nL) (hrest : (rest.map fun v => v.category).sum ≤ 8) (hcs : cells ≤ R.cells ∧ slots ≤ R.slots) (hdg : decode cc pc = .ok (.invokevirtual 85, 3)) (kk : ∀ (H1 : Heap) (locs1 : List Loc), gW (cG E) σ' H1 → va_S (gA (cG E)) s.heap H1 locs1 → W p l e R s m args below meth c H1 locs1 cells slots Q (F0 m (pc + 3) ls rest)) : W p l e R s m args below meth c H locs cells slots Q (F0 m pc ls (.ref (cAd E (46 + o)) :: rest)) :=
  g_callVv F hP hS (c_X2_waitLess l F.2.2.2.2.2.2.2 ho hf) (g_cwV (n := 0) F tw_685 tw_686 tw_687 tw_8 tw_688 (by decide +kernel) rfl rfl hR) (k := (46 + o)) (cin (by omega)) (ce_2 E _ ho) rfl (As := []) rfl hsz rfl hrest hdg hcs kk
theorem kc_X0_81 (F : gFx p m c cc nL s args RX0 (cG E)) (hP : gW (cG E) σ H) (hS : va_S (gA (cG E)) s.heap H locs) {o : Nat} (ho : o < 8) {r : Int32} {σ' : St} (hf : f_X2_foundBusy o σ = some (r, σ')) (hR : rm_X2_foundBusy.frames + 1 ≤ R.frames ∧ 8 + (1 + 11) + rm_X2_foundBusy.locals ≤ R.locals) (hsz : ls.size = nL) (hrest : (rest.map fun v => v.category).sum ≤ 8) (hcs : cells ≤ R.cells ∧ slots ≤ R.slots) (hdg : decode cc pc = .ok (.invokevirtual 81, 3)) (kk : ∀ (H1 : Heap) (locs1 : List Loc), gW (cG E) σ' H1 → va_S (gA (cG E)) s.heap H1 locs1 → W p l e R s m args below meth c H1 locs1 cells slots Q (F0 m (pc + 3) ls (.int r :: rest))) : W p l e R s m args below meth c H locs cells slots Q (F0 m pc ls (.ref (cAd E (46 + o)) :: rest)) :=
  g_callVi F hP hS (c_X2_foundBusy l F.2.2.2.2.2.2.2 ho hf) (g_cwV (n := 0) F tw_672 tw_673 tw_674 tw_8 tw_675 (by decide +kernel) rfl rfl hR) (k := (46 + o)) (cin (by omega)) (ce_2 E _ ho) rfl (As := []) rfl hsz rfl hrest hdg hcs kk
theorem pf_X0_52 (F : gFx p m c cc nL s args RX0 (cG E)) (hP : gW (cG E) σ H) (hS : va_S (gA (cG E)) s.heap H locs) {o : Nat} (ho : o < 8) {x : Int32} (hdg : decode cc pc = .ok (.putfield 52, 3)) (kk : ∀ (H1 : Heap) (locs1 : List Loc), gW (cG E) (up2 σ (46 + o) 17 x) H1 → va_S (gA (cG E)) s.heap H1 locs1 → W p l e R s m args below meth c H1 locs1 cells slots Q (F0 m (pc + 3) ls rest)) : W p l e R s m args below meth c H locs cells slots Q (F0 m pc ls (.int x :: .ref (cAd E (46 + o)) :: rest)) :=
  g_putN F hP hS (k := (46 + o)) (cin (by omega)) (ce_2 E _ ho) rfl inX2 tyX2 tyX2_ok nmX2 17 (by decide) tw_206 rfl rfl rfl rfl (Nat.le_of_ble_eq_true rfl) (x := x) (jj := 17) (ce_2 E _ ho) hdg kk
theorem gf_X0_78 (F : gFx p m c cc nL s args RX0 (cG E)) (hP : gW (cG E) σ H) {o : Nat} (ho : o < 8) (hdg : decode cc pc = .ok (.getfield 78, 3)) (kk : W p l e R s m args below meth c H locs cells slots Q (F0 m (pc + 3) ls (.int (σ (46 + o) 19) :: rest))) : W p l e R s m args below meth c H locs cells slots Q (F0 m pc ls (.ref (cAd E (46 + o)) :: rest)) :=
  g_getN F hP (k := (46 + o)) (cin (by omega)) (ce_2 E _ ho) rfl inX2 19 (by decide) tw_210 rfl rfl hdg kk
theorem pf_X0_78 (F : gFx p m c cc nL s args RX0 (cG E)) (hP : gW (cG E) σ H) (hS : va_S (gA (cG E)) s.heap H locs) {o : Nat} (ho : o < 8) {x : Int32} (hx : x = 0 ∨ x = 1) (hdg : decode cc pc = .ok (.putfield 78, 3)) (kk : ∀ (H1 : Heap) (locs1 : List Loc), gW (cG E) (up2 σ (46 + o) 19 x) H1 → va_S (gA (cG E)) s.heap H1 locs1 → W p l e R s m args below meth c H1 locs1 cells slots Q (F0 m (pc + 3) ls rest)) : W p l e R s m args below meth c H locs cells slots Q (F0 m pc ls (.int x :: .ref (cAd E (46 + o)) :: rest)) :=
  g_putN F hP hS (k := (46 + o)) (cin (by omega)) (ce_2 E _ ho) rfl inX2 tyX2 tyX2_ok nmX2 19 (by decide) tw_210 rfl rfl (nb_ok hx) (nb_fit hx) (Nat.le_of_ble_eq_true rfl) (x := x) (jj := 19) (ce_2 E _ ho) hdg kk
end SB
/-! PromisedSlots$Contention.listenAndWait()V -/
def f_X0_listenAndWait_88 (a4 : Nat) (K10 : (Int32 × Int32 × St → Option (Unit × St))) (a2 : Int32) (a3 : Int32) (σ : St) : Option (Unit × St) :=
  if (σ (46 + a4) 10) = (2 : Int32) then
    cl (f_X2_foundBusy a4 σ) fun r15 σ14 =>
    if r15 = 0 then
      vl (a3 + (1 : Int32)) fun x18 =>
      K10 (a2, x18, σ14)
    else
      cl (f_X0_draw a4 σ14) fun r20 σ19 =>
      vl (a3 + (1 : Int32)) fun x22 =>
      K10 (a2, x22, σ19)
  else
    if (σ (46 + a4) 10) = (1 : Int32) then
      cl (f_X2_waitLess a4 σ) fun r11 σ10 =>
      vl (a3 + (1 : Int32)) fun x13 =>
      K10 (a2, x13, σ10)
    else
      vl (a3 + (1 : Int32)) fun x9 =>
      K10 (a2, x9, σ)
def b_X0_listenAndWait_10 (K10 : (Int32 × Int32 × St → Option (Unit × St))) (a2 : Int32) (a3 : Int32) (σ : St) : Option (Unit × St) :=
  if a2 ≤ a3 then
    some ((), σ)
  else
    gd (ix a3 8) <|
    vl (nt a3) fun d3 =>
    if (σ (46 + d3) 10) = (4 : Int32) then
      if (σ (46 + d3) 19) = 0 then
        if (σ 6 3) ≤ (1 : Int32) then
          vl (up2 σ (46 + d3) 19 (0 : Int32)) fun σ30 =>
          vl (a3 + (1 : Int32)) fun x31 =>
          K10 (a2, x31, σ30)
        else
          vl (up2 σ (46 + d3) 19 (1 : Int32)) fun σ32 =>
          vl (a3 + (1 : Int32)) fun x33 =>
          K10 (a2, x33, σ32)
      else
        vl (up2 σ (46 + d3) 19 (1 : Int32)) fun σ27 =>
        vl (a3 + (1 : Int32)) fun x28 =>
        K10 (a2, x28, σ27)
    else
      if (σ (46 + d3) 10) = (2 : Int32) then
        if (σ 6 3) = 0 then
          vl (up2 σ (46 + d3) 17 ((σ (46 + d3) 17) + (1 : Int32))) fun σ24 =>
          vl (a3 + (1 : Int32)) fun x25 =>
          K10 (a2, x25, σ24)
        else
          f_X0_listenAndWait_88 d3 K10 a2 a3 σ
      else
        f_X0_listenAndWait_88 d3 K10 a2 a3 σ
def f_X0_listenAndWait (σ : St) : Option (Unit × St) :=
  lp (fun K a => b_X0_listenAndWait_10 K a.1 a.2.1 a.2.2) FU ((8 : Int32), (0 : Int32), σ)
abbrev rm_X0_listenAndWait : Room := { frames := 3, cells := 0, slots := 0, locals := 60 }
def P_X0_listenAndWait_10 (p : Program) (l : Launch) (e : Env) (s : State) (m : MethodId) (args : Array Value) (below : List Frame) (meth : Method) (c : Code) (E : cEv) (σ' : St) (a : Int32 × Int32 × St) : Prop := ∀ (H : Heap) (locs : List Loc) (ls : Array Slot), gW (cG E) a.2.2 H → va_S (gA (cG E)) s.heap H locs → lv_has ls 5 [(0, .ref (cAd E 6)), (1, .ref (cAd E 21)), (2, .int a.1), (3, .int a.2.1)] → W p l e rm_X0_listenAndWait s m args below meth c H locs 0 0 (gQv below args s (cG E) σ') (F0 m 10 ls [])
set_option maxHeartbeats 4000000 in
set_option maxRecDepth 100000 in
theorem w_X0_listenAndWait_88 {p : Program} {l : Launch} {e : Env} {s : State} {m : MethodId} {args : Array Value} {below : List Frame} {meth : Method} {c : Code} {E : cEv} {u : Unit} {σ' : St} {a4 : Nat} (ha4 : a4 < 8) (B : gBx p m meth c cX0_listenAndWait 5 none s args RX0 (cG E)) {K10 : (Int32 × Int32 × St → Option (Unit × St))} (hK10 : ∀ a, K10 a = some (u, σ') → P_X0_listenAndWait_10 p l e s m args below meth c E σ' a) (a2 : Int32) (a3 : Int32) (σ : St) (hf : f_X0_listenAndWait_88 a4 K10 a2 a3 σ = some (u, σ')) (H : Heap) (locs : List Loc) (ls : Array Slot) (hP : gW (cG E) σ H) (hS : va_S (gA (cG E)) s.heap H locs) (hl : lv_has ls 5 [(0, .ref (cAd E 6)), (1, .ref (cAd E 21)), (2, .int a2), (3, .int a3), (4, .ref (cAd E (46 + a4)))]) : W p l e rm_X0_listenAndWait s m args below meth c H locs 0 0 (gQv below args s (cG E) σ') (F0 m 88 ls []) := by
  unfold f_X0_listenAndWait_88 at hf
  obtain ⟨F, hr, hlk⟩ := id B
  have hx := F.1
  have hb := F.2.1
  have hml := F.2.2.1
  have hown := F.2.2.2.1
  have hts := F.2.2.2.2.1
  refine lv_aload hx hb dX0_listenAndWait_88 (lv_at hl 4 rfl) ?_
  refine gf_X0_40 F hP ha4 dX0_listenAndWait_90 ?_
  refine lv_iconst (v := 2) hx hb dX0_listenAndWait_93 (by decide) ?_
  refine lv_icmp_ne (tgt := 114) hx hb dX0_listenAndWait_94 (by decide) (fun h7 => ?_) (fun h7 => ?_)
  · rw [if_neg h7] at hf
    refine lv_aload hx hb dX0_listenAndWait_114 (lv_at hl 4 rfl) ?_
    refine gf_X0_40 F hP ha4 dX0_listenAndWait_116 ?_
    refine lv_iconst (v := 1) hx hb dX0_listenAndWait_119 (by decide) ?_
    refine lv_icmp_ne (tgt := 128) hx hb dX0_listenAndWait_120 (by decide) (fun h8 => ?_) (fun h8 => ?_)
    · rw [if_neg h8] at hf
      refine lv_iinc (v := a3 + (1 : Int32)) (lv' := [(3, .int (a3 + (1 : Int32))), (0, .ref (cAd E 6)), (1, .ref (cAd E 21)), (2, .int a2), (4, .ref (cAd E (46 + a4)))]) hx hb dX0_listenAndWait_128 hl (k := 3) rfl rfl (by decide) rfl (fun ls hl => ?_)
      obtain ⟨x9, ex9, hf⟩ := vl_x hf
      rw [← ex9] at hl
      refine lv_goto (tgt := 10) hx hb dX0_listenAndWait_131 (by decide) ?_
      exact hK10 _ hf _ _ _ hP hS (lv_sub hl [1, 2, 3, 0] rfl)
    · rw [if_pos h8] at hf
      refine lv_aload hx hb dX0_listenAndWait_123 (lv_at hl 4 rfl) ?_
      obtain ⟨r11, σ10, h12, hf⟩ := cl_e hf
      refine kc_X0_85 F hP hS ha4 h12 ⟨Nat.le_of_ble_eq_true rfl, Nat.le_of_ble_eq_true rfl⟩ hl.1 (Nat.le_of_ble_eq_true rfl) ⟨Nat.zero_le _, Nat.zero_le _⟩ dX0_listenAndWait_125 (fun H locs hP hS => ?_)
      refine lv_iinc (v := a3 + (1 : Int32)) (lv' := [(3, .int (a3 + (1 : Int32))), (0, .ref (cAd E 6)), (1, .ref (cAd E 21)), (2, .int a2), (4, .ref (cAd E (46 + a4)))]) hx hb dX0_listenAndWait_128 hl (k := 3) rfl rfl (by decide) rfl (fun ls hl => ?_)
      obtain ⟨x13, ex13, hf⟩ := vl_x hf
      rw [← ex13] at hl
      refine lv_goto (tgt := 10) hx hb dX0_listenAndWait_131 (by decide) ?_
      exact hK10 _ hf _ _ _ hP hS (lv_sub hl [1, 2, 3, 0] rfl)
  · rw [if_pos h7] at hf
    refine lv_aload hx hb dX0_listenAndWait_97 (lv_at hl 4 rfl) ?_
    obtain ⟨r15, σ14, h16, hf⟩ := cl_e hf
    refine kc_X0_81 F hP hS ha4 h16 ⟨Nat.le_of_ble_eq_true rfl, Nat.le_of_ble_eq_true rfl⟩ hl.1 (Nat.le_of_ble_eq_true rfl) ⟨Nat.zero_le _, Nat.zero_le _⟩ dX0_listenAndWait_99 (fun H locs hP hS => ?_)
    refine lv_if_eq (tgt := 128) hx hb dX0_listenAndWait_102 (by decide) (fun h17 => ?_) (fun h17 => ?_)
    · rw [if_pos h17] at hf
      refine lv_iinc (v := a3 + (1 : Int32)) (lv' := [(3, .int (a3 + (1 : Int32))), (0, .ref (cAd E 6)), (1, .ref (cAd E 21)), (2, .int a2), (4, .ref (cAd E (46 + a4)))]) hx hb dX0_listenAndWait_128 hl (k := 3) rfl rfl (by decide) rfl (fun ls hl => ?_)
      obtain ⟨x18, ex18, hf⟩ := vl_x hf
      rw [← ex18] at hl
      refine lv_goto (tgt := 10) hx hb dX0_listenAndWait_131 (by decide) ?_
      exact hK10 _ hf _ _ _ hP hS (lv_sub hl [1, 2, 3, 0] rfl)
    · rw [if_neg h17] at hf
      refine lv_aload_n hx hb dX0_listenAndWait_105 rfl (lv_at hl 0 rfl) ?_
      refine lv_aload hx hb dX0_listenAndWait_106 (lv_at hl 4 rfl) ?_
      obtain ⟨r20, σ19, h21, hf⟩ := cl_e hf
      refine kc_X0_74 F hP hS ha4 h21 ⟨Nat.le_of_ble_eq_true rfl, Nat.le_of_ble_eq_true rfl⟩ hl.1 (Nat.le_of_ble_eq_true rfl) ⟨Nat.zero_le _, Nat.zero_le _⟩ dX0_listenAndWait_108 (fun H locs hP hS => ?_)
      refine lv_goto (tgt := 128) hx hb dX0_listenAndWait_111 (by decide) ?_
      refine lv_iinc (v := a3 + (1 : Int32)) (lv' := [(3, .int (a3 + (1 : Int32))), (0, .ref (cAd E 6)), (1, .ref (cAd E 21)), (2, .int a2), (4, .ref (cAd E (46 + a4)))]) hx hb dX0_listenAndWait_128 hl (k := 3) rfl rfl (by decide) rfl (fun ls hl => ?_)
      obtain ⟨x22, ex22, hf⟩ := vl_x hf
      rw [← ex22] at hl
      refine lv_goto (tgt := 10) hx hb dX0_listenAndWait_131 (by decide) ?_
      exact hK10 _ hf _ _ _ hP hS (lv_sub hl [1, 2, 3, 0] rfl)
set_option maxHeartbeats 4000000 in
set_option maxRecDepth 100000 in
theorem w_X0_listenAndWait_10 {p : Program} {l : Launch} {e : Env} {s : State} {m : MethodId} {args : Array Value} {below : List Frame} {meth : Method} {c : Code} {E : cEv} {u : Unit} {σ' : St} (B : gBx p m meth c cX0_listenAndWait 5 none s args RX0 (cG E)) {K10 : (Int32 × Int32 × St → Option (Unit × St))} (hK10 : ∀ a, K10 a = some (u, σ') → P_X0_listenAndWait_10 p l e s m args below meth c E σ' a) (a2 : Int32) (a3 : Int32) (σ : St) (hf : b_X0_listenAndWait_10 K10 a2 a3 σ = some (u, σ')) (H : Heap) (locs : List Loc) (ls : Array Slot) (hP : gW (cG E) σ H) (hS : va_S (gA (cG E)) s.heap H locs) (hl : lv_has ls 5 [(0, .ref (cAd E 6)), (1, .ref (cAd E 21)), (2, .int a2), (3, .int a3)]) : W p l e rm_X0_listenAndWait s m args below meth c H locs 0 0 (gQv below args s (cG E) σ') (F0 m 10 ls []) := by
  unfold b_X0_listenAndWait_10 at hf
  obtain ⟨F, hr, hlk⟩ := id B
  have hx := F.1
  have hb := F.2.1
  have hml := F.2.2.1
  have hown := F.2.2.2.1
  have hts := F.2.2.2.2.1
  refine lv_iload_n hx hb dX0_listenAndWait_10 rfl (lv_at hl 3 rfl) ?_
  refine lv_iload_n hx hb dX0_listenAndWait_11 rfl (lv_at hl 2 rfl) ?_
  refine lv_icmp_ge (tgt := 134) hx hb dX0_listenAndWait_12 (by decide) (fun h1 => ?_) (fun h1 => ?_)
  · rw [if_pos h1] at hf
    exact g_vret B hP hS hf dX0_listenAndWait_134
  · rw [if_neg h1] at hf
    refine lv_aload_n hx hb dX0_listenAndWait_15 rfl (lv_at hl 1 rfl) ?_
    refine lv_iload_n hx hb dX0_listenAndWait_16 rfl (lv_at hl 3 rfl) ?_
    obtain ⟨h2, hf⟩ := gd_e hf
    refine c_aldD F hP h2 dX0_listenAndWait_17 ?_
    have h4 := ix_lt h2
    obtain ⟨d3, ed3, hf⟩ := vl_x hf
    rw [← ed3] at h4 ⊢
    refine lv_astore (lv' := [(4, .ref (cAd E (46 + d3))), (0, .ref (cAd E 6)), (1, .ref (cAd E 21)), (2, .int a2), (3, .int a3)]) hx hb dX0_listenAndWait_18 hl (by decide) rfl (fun ls hl => ?_)
    refine lv_aload hx hb dX0_listenAndWait_20 (lv_at hl 0 rfl) ?_
    refine gf_X0_40 F hP h4 dX0_listenAndWait_22 ?_
    refine lv_iconst (v := 4) hx hb dX0_listenAndWait_25 (by decide) ?_
    refine lv_icmp_ne (tgt := 58) hx hb dX0_listenAndWait_26 (by decide) (fun h5 => ?_) (fun h5 => ?_)
    · rw [if_neg h5] at hf
      refine lv_aload hx hb dX0_listenAndWait_58 (lv_at hl 0 rfl) ?_
      refine gf_X0_40 F hP h4 dX0_listenAndWait_60 ?_
      refine lv_iconst (v := 2) hx hb dX0_listenAndWait_63 (by decide) ?_
      refine lv_icmp_ne (tgt := 88) hx hb dX0_listenAndWait_64 (by decide) (fun h6 => ?_) (fun h6 => ?_)
      · rw [if_neg h6] at hf
        exact w_X0_listenAndWait_88 h4 B hK10 _ _ σ hf _ _ _ hP hS (lv_sub hl [1, 2, 3, 4, 0] rfl)
      · rw [if_pos h6] at hf
        refine lv_aload_n hx hb dX0_listenAndWait_67 rfl (lv_at hl 1 rfl) ?_
        refine gf_X0_32 F hP dX0_listenAndWait_68 ?_
        refine lv_if_ne (tgt := 88) hx hb dX0_listenAndWait_71 (by decide) (fun h23 => ?_) (fun h23 => ?_)
        · rw [if_neg h23] at hf
          exact w_X0_listenAndWait_88 h4 B hK10 _ _ σ hf _ _ _ hP hS (lv_sub hl [1, 2, 3, 4, 0] rfl)
        · rw [if_pos h23] at hf
          refine lv_aload hx hb dX0_listenAndWait_74 (lv_at hl 0 rfl) ?_
          refine lv_dup hx hb dX0_listenAndWait_76 rfl ?_
          refine gf_X0_52 F hP h4 dX0_listenAndWait_77 ?_
          refine lv_iconst (v := 1) hx hb dX0_listenAndWait_80 (by decide) ?_
          refine lv_iadd hx hb dX0_listenAndWait_81 ?_
          refine pf_X0_52 F hP hS h4 dX0_listenAndWait_82 (fun H locs hP hS => ?_)
          obtain ⟨σ24, eσ24, hf⟩ := vl_x hf
          rw [← eσ24] at hP
          refine lv_goto (tgt := 128) hx hb dX0_listenAndWait_85 (by decide) ?_
          refine lv_iinc (v := a3 + (1 : Int32)) (lv' := [(3, .int (a3 + (1 : Int32))), (4, .ref (cAd E (46 + d3))), (0, .ref (cAd E 6)), (1, .ref (cAd E 21)), (2, .int a2)]) hx hb dX0_listenAndWait_128 hl (k := 4) rfl rfl (by decide) rfl (fun ls hl => ?_)
          obtain ⟨x25, ex25, hf⟩ := vl_x hf
          rw [← ex25] at hl
          refine lv_goto (tgt := 10) hx hb dX0_listenAndWait_131 (by decide) ?_
          exact hK10 _ hf _ _ _ hP hS (lv_sub hl [2, 3, 4, 0] rfl)
    · rw [if_pos h5] at hf
      refine lv_aload hx hb dX0_listenAndWait_29 (lv_at hl 0 rfl) ?_
      refine lv_aload hx hb dX0_listenAndWait_31 (lv_at hl 0 rfl) ?_
      refine gf_X0_78 F hP h4 dX0_listenAndWait_33 ?_
      refine lv_if_ne (tgt := 47) hx hb dX0_listenAndWait_36 (by decide) (fun h26 => ?_) (fun h26 => ?_)
      · rw [if_neg h26] at hf
        refine lv_iconst (v := 1) hx hb dX0_listenAndWait_47 (by decide) ?_
        refine lv_goto (tgt := 52) hx hb dX0_listenAndWait_48 (by decide) ?_
        refine pf_X0_78 F hP hS h4 (by decide) dX0_listenAndWait_52 (fun H locs hP hS => ?_)
        obtain ⟨σ27, eσ27, hf⟩ := vl_x hf
        rw [← eσ27] at hP
        refine lv_goto (tgt := 128) hx hb dX0_listenAndWait_55 (by decide) ?_
        refine lv_iinc (v := a3 + (1 : Int32)) (lv' := [(3, .int (a3 + (1 : Int32))), (4, .ref (cAd E (46 + d3))), (0, .ref (cAd E 6)), (1, .ref (cAd E 21)), (2, .int a2)]) hx hb dX0_listenAndWait_128 hl (k := 4) rfl rfl (by decide) rfl (fun ls hl => ?_)
        obtain ⟨x28, ex28, hf⟩ := vl_x hf
        rw [← ex28] at hl
        refine lv_goto (tgt := 10) hx hb dX0_listenAndWait_131 (by decide) ?_
        exact hK10 _ hf _ _ _ hP hS (lv_sub hl [2, 3, 4, 0] rfl)
      · rw [if_pos h26] at hf
        refine lv_aload_n hx hb dX0_listenAndWait_39 rfl (lv_at hl 1 rfl) ?_
        refine gf_X0_32 F hP dX0_listenAndWait_40 ?_
        refine lv_iconst (v := 1) hx hb dX0_listenAndWait_43 (by decide) ?_
        refine lv_icmp_le (tgt := 51) hx hb dX0_listenAndWait_44 (by decide) (fun h29 => ?_) (fun h29 => ?_)
        · rw [if_pos h29] at hf
          refine lv_iconst (v := 0) hx hb dX0_listenAndWait_51 (by decide) ?_
          refine pf_X0_78 F hP hS h4 (by decide) dX0_listenAndWait_52 (fun H locs hP hS => ?_)
          obtain ⟨σ30, eσ30, hf⟩ := vl_x hf
          rw [← eσ30] at hP
          refine lv_goto (tgt := 128) hx hb dX0_listenAndWait_55 (by decide) ?_
          refine lv_iinc (v := a3 + (1 : Int32)) (lv' := [(3, .int (a3 + (1 : Int32))), (4, .ref (cAd E (46 + d3))), (0, .ref (cAd E 6)), (1, .ref (cAd E 21)), (2, .int a2)]) hx hb dX0_listenAndWait_128 hl (k := 4) rfl rfl (by decide) rfl (fun ls hl => ?_)
          obtain ⟨x31, ex31, hf⟩ := vl_x hf
          rw [← ex31] at hl
          refine lv_goto (tgt := 10) hx hb dX0_listenAndWait_131 (by decide) ?_
          exact hK10 _ hf _ _ _ hP hS (lv_sub hl [2, 3, 4, 0] rfl)
        · rw [if_neg h29] at hf
          refine lv_iconst (v := 1) hx hb dX0_listenAndWait_47 (by decide) ?_
          refine lv_goto (tgt := 52) hx hb dX0_listenAndWait_48 (by decide) ?_
          refine pf_X0_78 F hP hS h4 (by decide) dX0_listenAndWait_52 (fun H locs hP hS => ?_)
          obtain ⟨σ32, eσ32, hf⟩ := vl_x hf
          rw [← eσ32] at hP
          refine lv_goto (tgt := 128) hx hb dX0_listenAndWait_55 (by decide) ?_
          refine lv_iinc (v := a3 + (1 : Int32)) (lv' := [(3, .int (a3 + (1 : Int32))), (4, .ref (cAd E (46 + d3))), (0, .ref (cAd E 6)), (1, .ref (cAd E 21)), (2, .int a2)]) hx hb dX0_listenAndWait_128 hl (k := 4) rfl rfl (by decide) rfl (fun ls hl => ?_)
          obtain ⟨x33, ex33, hf⟩ := vl_x hf
          rw [← ex33] at hl
          refine lv_goto (tgt := 10) hx hb dX0_listenAndWait_131 (by decide) ?_
          exact hK10 _ hf _ _ _ hP hS (lv_sub hl [2, 3, 4, 0] rfl)
set_option maxHeartbeats 4000000 in
set_option maxRecDepth 100000 in
theorem w_X0_listenAndWait_e {p : Program} {l : Launch} {e : Env} {s : State} {m : MethodId} {args : Array Value} {below : List Frame} {meth : Method} {c : Code} {E : cEv} {u : Unit} {σ' : St} (B : gBx p m meth c cX0_listenAndWait 5 none s args RX0 (cG E)) (σ : St) (hf : f_X0_listenAndWait σ = some (u, σ')) (H : Heap) (locs : List Loc) (ls : Array Slot) (hP : gW (cG E) σ H) (hS : va_S (gA (cG E)) s.heap H locs) (hl : lv_has ls 5 [(0, .ref (cAd E 6))]) : W p l e rm_X0_listenAndWait s m args below meth c H locs 0 0 (gQv below args s (cG E) σ') (F0 m 0 ls []) := by
  unfold f_X0_listenAndWait at hf
  obtain ⟨F, hr, hlk⟩ := id B
  have hx := F.1
  have hb := F.2.1
  have hml := F.2.2.1
  have hown := F.2.2.2.1
  have hts := F.2.2.2.2.1
  refine lv_aload_n hx hb dX0_listenAndWait_0 rfl (lv_at hl 0 rfl) ?_
  refine gf_X0_9 F hP dX0_listenAndWait_1 ?_
  refine lv_astore_n (lv' := [(1, .ref (cAd E 21)), (0, .ref (cAd E 6))]) hx hb dX0_listenAndWait_4 rfl hl (by decide) rfl (fun ls hl => ?_)
  refine lv_aload_n hx hb dX0_listenAndWait_5 rfl (lv_at hl 0 rfl) ?_
  refine c_alenD F hP dX0_listenAndWait_6 ?_
  refine lv_istore_n (lv' := [(2, .int (8 : Int32)), (1, .ref (cAd E 21)), (0, .ref (cAd E 6))]) hx hb dX0_listenAndWait_7 rfl hl (by decide) rfl (fun ls hl => ?_)
  refine lv_iconst (v := 0) hx hb dX0_listenAndWait_8 (by decide) ?_
  refine lv_istore_n (lv' := [(3, .int (0 : Int32)), (2, .int (8 : Int32)), (1, .ref (cAd E 21)), (0, .ref (cAd E 6))]) hx hb dX0_listenAndWait_9 rfl hl (by decide) rfl (fun ls hl => ?_)
  exact lp_w (P := P_X0_listenAndWait_10 p l e s m args below meth c E σ') (fun K hK a ha => w_X0_listenAndWait_10 B hK a.1 a.2.1 a.2.2 ha) FU _ hf _ _ _ hP hS (lv_sub hl [3, 2, 1, 0] rfl)
theorem c_X0_listenAndWait (l : Launch) {E : cEv} (hI : gIj (cG E)) {σ σ' : St} {u : Unit} (hf : f_X0_listenAndWait σ = some (u, σ')) : gMv l yX0_listenAndWait cX0_listenAndWait 5 rm_X0_listenAndWait [.ref (cAd E 6)] (cG E) σ σ' :=
  g_entry (by decide) (Nat.le_of_ble_eq_true rfl) hI (fun p e s m args below meth c B hP hS ls hl => w_X0_listenAndWait_e B σ hf _ _ ls hP hS hl)
section SB
variable {p : Program} {l : Launch} {e : Env} {R : Room} {s : State} {m : MethodId} {args : Array Value} {below : List Frame} {meth : Method} {c : Code} {H : Heap} {locs : List Loc} {cells slots : Nat} {Q : State → Prop}
variable {cc : ByteArray} {pc nL : Nat} {ls : Array Slot} {rest : List Value} {E : cEv} {σ : St}
theorem kc_X0_98 (F : gFx p m c cc nL s args RX0 (cG E)) (hP : gW (cG E) σ H) (hS : va_S (gA (cG E)) s.heap H locs) {o : Nat} (ho : o < 8) {r : Int32} {σ' : St} (hf : f_X2_foundHurt o σ = some (r, σ')) (hR : rm_X2_foundHurt.frames + 1 ≤ R.frames ∧ 8 + (1 + 11) + rm_X2_foundHurt.locals ≤ R.locals) (hsz : ls.size = nL) (hrest : (rest.map fun v => v.category).sum ≤ 8) (hcs : cells ≤ R.cells ∧ slots ≤ R.slots) (hdg : decode cc pc = .ok (.invokevirtual 98, 3)) (kk : ∀ (H1 : Heap) (locs1 : List Loc), gW (cG E) σ' H1 → va_S (gA (cG E)) s.heap H1 locs1 → W p l e R s m args below meth c H1 locs1 cells slots Q (F0 m (pc + 3) ls (.int r :: rest))) : W p l e R s m args below meth c H locs cells slots Q (F0 m pc ls (.ref (cAd E (46 + o)) :: rest)) :=
  g_callVi F hP hS (c_X2_foundHurt l F.2.2.2.2.2.2.2 ho hf) (g_cwV (n := 0) F tw_702 tw_703 tw_704 tw_8 tw_705 (by decide +kernel) rfl rfl hR) (k := (46 + o)) (cin (by omega)) (ce_2 E _ ho) rfl (As := []) rfl hsz rfl hrest hdg hcs kk
theorem kc_X0_95 (F : gFx p m c cc nL s args RX0 (cG E)) (hP : gW (cG E) σ H) (hS : va_S (gA (cG E)) s.heap H locs) {o : Nat} (ho : o < 8) {u : Unit} {σ' : St} (hf : f_X2_frameSent o σ = some (u, σ')) (hR : rm_X2_frameSent.frames + 1 ≤ R.frames ∧ 8 + (1 + 11) + rm_X2_frameSent.locals ≤ R.locals) (hsz : ls.size = nL) (hrest : (rest.map fun v => v.category).sum ≤ 8) (hcs : cells ≤ R.cells ∧ slots ≤ R.slots) (hdg : decode cc pc = .ok (.invokevirtual 95, 3)) (kk : ∀ (H1 : Heap) (locs1 : List Loc), gW (cG E) σ' H1 → va_S (gA (cG E)) s.heap H1 locs1 → W p l e R s m args below meth c H1 locs1 cells slots Q (F0 m (pc + 3) ls rest)) : W p l e R s m args below meth c H locs cells slots Q (F0 m pc ls (.ref (cAd E (46 + o)) :: rest)) :=
  g_callVv F hP hS (c_X2_frameSent l F.2.2.2.2.2.2.2 ho hf) (g_cwV (n := 0) F tw_698 tw_699 tw_700 tw_8 tw_701 (by decide +kernel) rfl rfl hR) (k := (46 + o)) (cin (by omega)) (ce_2 E _ ho) rfl (As := []) rfl hsz rfl hrest hdg hcs kk
end SB
/-! PromisedSlots$Contention.endFrame(LPromisedSlots$Device;)I -/
def f_X0_endFrame (p1 : Nat) (σ : St) : Option (Int32 × St) :=
  if (σ (46 + p1) 19) = 0 then
    cl (f_X2_frameSent p1 σ) fun r13 σ12 =>
    some ((1 : Int32), σ12)
  else
    cl (f_X2_foundHurt p1 σ) fun r3 σ2 =>
    if r3 = 0 then
      some ((0 : Int32), σ2)
    else
      cl (f_X2_beginFrame p1 σ2) fun r7 σ6 =>
      cl (f_X0_draw p1 σ6) fun r10 σ9 =>
      some ((0 : Int32), σ9)
abbrev rm_X0_endFrame : Room := { frames := 3, cells := 0, slots := 0, locals := 60 }
set_option maxHeartbeats 4000000 in
set_option maxRecDepth 100000 in
theorem w_X0_endFrame_e {p : Program} {l : Launch} {e : Env} {s : State} {m : MethodId} {args : Array Value} {below : List Frame} {meth : Method} {c : Code} {E : cEv} {r : Int32} {σ' : St} {p1 : Nat} (hp1 : p1 < 8) (B : gBx p m meth c cX0_endFrame 2 (some .int) s args RX0 (cG E)) (σ : St) (hf : f_X0_endFrame p1 σ = some (r, σ')) (H : Heap) (locs : List Loc) (ls : Array Slot) (hP : gW (cG E) σ H) (hS : va_S (gA (cG E)) s.heap H locs) (hl : lv_has ls 2 [(0, .ref (cAd E 6)), (1, .ref (cAd E (46 + p1)))]) : W p l e rm_X0_endFrame s m args below meth c H locs 0 0 (gQi below args s (cG E) r σ') (F0 m 0 ls []) := by
  unfold f_X0_endFrame at hf
  obtain ⟨F, hr, hlk⟩ := id B
  have hx := F.1
  have hb := F.2.1
  have hml := F.2.2.1
  have hown := F.2.2.2.1
  have hts := F.2.2.2.2.1
  refine lv_aload_n hx hb dX0_endFrame_0 rfl (lv_at hl 1 rfl) ?_
  refine gf_X0_78 F hP hp1 dX0_endFrame_1 ?_
  refine lv_if_ne (tgt := 13) hx hb dX0_endFrame_4 (by decide) (fun h1 => ?_) (fun h1 => ?_)
  · rw [if_neg h1] at hf
    refine lv_aload_n hx hb dX0_endFrame_13 rfl (lv_at hl 1 rfl) ?_
    obtain ⟨r3, σ2, h4, hf⟩ := cl_e hf
    refine kc_X0_98 F hP hS hp1 h4 ⟨Nat.le_of_ble_eq_true rfl, Nat.le_of_ble_eq_true rfl⟩ hl.1 (Nat.le_of_ble_eq_true rfl) ⟨Nat.zero_le _, Nat.zero_le _⟩ dX0_endFrame_14 (fun H locs hP hS => ?_)
    refine lv_if_eq (tgt := 29) hx hb dX0_endFrame_17 (by decide) (fun h5 => ?_) (fun h5 => ?_)
    · rw [if_pos h5] at hf
      refine lv_iconst (v := 0) hx hb dX0_endFrame_29 (by decide) ?_
      exact g_iret B hP hS hf dX0_endFrame_30
    · rw [if_neg h5] at hf
      refine lv_aload_n hx hb dX0_endFrame_20 rfl (lv_at hl 1 rfl) ?_
      obtain ⟨r7, σ6, h8, hf⟩ := cl_e hf
      refine kc_X0_71 F hP hS hp1 h8 ⟨Nat.le_of_ble_eq_true rfl, Nat.le_of_ble_eq_true rfl⟩ hl.1 (Nat.le_of_ble_eq_true rfl) ⟨Nat.zero_le _, Nat.zero_le _⟩ dX0_endFrame_21 (fun H locs hP hS => ?_)
      refine lv_aload_n hx hb dX0_endFrame_24 rfl (lv_at hl 0 rfl) ?_
      refine lv_aload_n hx hb dX0_endFrame_25 rfl (lv_at hl 1 rfl) ?_
      obtain ⟨r10, σ9, h11, hf⟩ := cl_e hf
      refine kc_X0_74 F hP hS hp1 h11 ⟨Nat.le_of_ble_eq_true rfl, Nat.le_of_ble_eq_true rfl⟩ hl.1 (Nat.le_of_ble_eq_true rfl) ⟨Nat.zero_le _, Nat.zero_le _⟩ dX0_endFrame_26 (fun H locs hP hS => ?_)
      refine lv_iconst (v := 0) hx hb dX0_endFrame_29 (by decide) ?_
      exact g_iret B hP hS hf dX0_endFrame_30
  · rw [if_pos h1] at hf
    refine lv_aload_n hx hb dX0_endFrame_7 rfl (lv_at hl 1 rfl) ?_
    obtain ⟨r13, σ12, h14, hf⟩ := cl_e hf
    refine kc_X0_95 F hP hS hp1 h14 ⟨Nat.le_of_ble_eq_true rfl, Nat.le_of_ble_eq_true rfl⟩ hl.1 (Nat.le_of_ble_eq_true rfl) ⟨Nat.zero_le _, Nat.zero_le _⟩ dX0_endFrame_8 (fun H locs hP hS => ?_)
    refine lv_iconst (v := 1) hx hb dX0_endFrame_11 (by decide) ?_
    exact g_iret B hP hS hf dX0_endFrame_12
theorem c_X0_endFrame (l : Launch) {E : cEv} (hI : gIj (cG E)) {p1 : Nat} (hp1 : p1 < 8) {σ σ' : St} {r : Int32} (hf : f_X0_endFrame p1 σ = some (r, σ')) : gMi l yX0_endFrame cX0_endFrame 2 .int rm_X0_endFrame [.ref (cAd E 6), .ref (cAd E (46 + p1))] (cG E) σ r σ' :=
  g_entry (by decide) (Nat.le_of_ble_eq_true rfl) hI (fun p e s m args below meth c B hP hS ls hl => w_X0_endFrame_e hp1 B σ hf _ _ ls hP hS hl)
section SB
variable {p : Program} {l : Launch} {e : Env} {R : Room} {s : State} {m : MethodId} {args : Array Value} {below : List Frame} {meth : Method} {c : Code} {H : Heap} {locs : List Loc} {cells slots : Nat} {Q : State → Prop}
variable {cc : ByteArray} {pc nL : Nat} {ls : Array Slot} {rest : List Value} {E : cEv} {σ : St}
theorem gf_X0_88 (F : gFx p m c cc nL s args RX0 (cG E)) (hP : gW (cG E) σ H) {o : Nat} (ho : o < 8) (hdg : decode cc pc = .ok (.getfield 88, 3)) (kk : W p l e R s m args below meth c H locs cells slots Q (F0 m (pc + 3) ls (.int (σ (46 + o) 18) :: rest))) : W p l e R s m args below meth c H locs cells slots Q (F0 m pc ls (.ref (cAd E (46 + o)) :: rest)) :=
  g_getN F hP (k := (46 + o)) (cin (by omega)) (ce_2 E _ ho) rfl inX2 18 (by decide) tw_208 rfl rfl hdg kk
theorem pf_X0_88 (F : gFx p m c cc nL s args RX0 (cG E)) (hP : gW (cG E) σ H) (hS : va_S (gA (cG E)) s.heap H locs) {o : Nat} (ho : o < 8) {x : Int32} (hdg : decode cc pc = .ok (.putfield 88, 3)) (kk : ∀ (H1 : Heap) (locs1 : List Loc), gW (cG E) (up2 σ (46 + o) 18 x) H1 → va_S (gA (cG E)) s.heap H1 locs1 → W p l e R s m args below meth c H1 locs1 cells slots Q (F0 m (pc + 3) ls rest)) : W p l e R s m args below meth c H locs cells slots Q (F0 m pc ls (.int x :: .ref (cAd E (46 + o)) :: rest)) :=
  g_putN F hP hS (k := (46 + o)) (cin (by omega)) (ce_2 E _ ho) rfl inX2 tyX2 tyX2_ok nmX2 18 (by decide) tw_208 rfl rfl rfl rfl (Nat.le_of_ble_eq_true rfl) (x := x) (jj := 18) (ce_2 E _ ho) hdg kk
theorem kc_X0_91 (F : gFx p m c cc nL s args RX0 (cG E)) (hP : gW (cG E) σ H) (hS : va_S (gA (cG E)) s.heap H locs) {p1 : Nat} (hp1 : p1 < 8) {r : Int32} {σ' : St} (hf : f_X0_endFrame p1 σ = some (r, σ')) (hR : rm_X0_endFrame.frames + 1 ≤ R.frames ∧ 8 + (2 + 11) + rm_X0_endFrame.locals ≤ R.locals) (hsz : ls.size = nL) (hrest : (rest.map fun v => v.category).sum ≤ 8) (hcs : cells ≤ R.cells ∧ slots ≤ R.slots) (hdg : decode cc pc = .ok (.invokevirtual 91, 3)) (kk : ∀ (H1 : Heap) (locs1 : List Loc), gW (cG E) σ' H1 → va_S (gA (cG E)) s.heap H1 locs1 → W p l e R s m args below meth c H1 locs1 cells slots Q (F0 m (pc + 3) ls (.int r :: rest))) : W p l e R s m args below meth c H locs cells slots Q (F0 m pc ls (.ref (cAd E (46 + p1)) :: .ref (cAd E 6) :: rest)) :=
  g_callVi F hP hS (c_X0_endFrame l F.2.2.2.2.2.2.2 hp1 hf) (g_cwV (n := 1) F tw_694 tw_696 ts_24 tw_9 tw_697 (by decide +kernel) rfl rfl hR) (k := 6) (cin (by omega)) (ce_0 E _) rfl (As := [.ref (cAd E (46 + p1))]) rfl hsz rfl hrest hdg hcs kk
end SB
/-! PromisedSlots$Contention.endFrames()I -/
def b_X0_endFrames_13 (K13 : (Int32 × Int32 × Int32 × St → Option (Int32 × St))) (a1 : Int32) (a3 : Int32) (a4 : Int32) (σ : St) : Option (Int32 × St) :=
  if a3 ≤ a4 then
    some (a1, σ)
  else
    gd (ix a4 8) <|
    vl (nt a4) fun d3 =>
    if (σ (46 + d3) 10) = (4 : Int32) then
      vl (up2 σ (46 + d3) 18 ((σ (46 + d3) 18) - (1 : Int32))) fun σ7 =>
      if 0 < (σ7 (46 + d3) 18) then
        vl (a4 + (1 : Int32)) fun x9 =>
        K13 (a1, a3, x9, σ7)
      else
        cl (f_X0_endFrame d3 σ7) fun r11 σ10 =>
        vl (a1 + r11) fun x13 =>
        vl (a4 + (1 : Int32)) fun x14 =>
        K13 (x13, a3, x14, σ10)
    else
      vl (a4 + (1 : Int32)) fun x6 =>
      K13 (a1, a3, x6, σ)
def f_X0_endFrames (σ : St) : Option (Int32 × St) :=
  lp (fun K a => b_X0_endFrames_13 K a.1 a.2.1 a.2.2.1 a.2.2.2) FU ((0 : Int32), (8 : Int32), (0 : Int32), σ)
abbrev rm_X0_endFrames : Room := { frames := 4, cells := 0, slots := 0, locals := 81 }
def P_X0_endFrames_13 (p : Program) (l : Launch) (e : Env) (s : State) (m : MethodId) (args : Array Value) (below : List Frame) (meth : Method) (c : Code) (E : cEv) (r : Int32) (σ' : St) (a : Int32 × Int32 × Int32 × St) : Prop := ∀ (H : Heap) (locs : List Loc) (ls : Array Slot), gW (cG E) a.2.2.2 H → va_S (gA (cG E)) s.heap H locs → lv_has ls 6 [(0, .ref (cAd E 6)), (1, .int a.1), (2, .ref (cAd E 21)), (3, .int a.2.1), (4, .int a.2.2.1)] → W p l e rm_X0_endFrames s m args below meth c H locs 0 0 (gQi below args s (cG E) r σ') (F0 m 13 ls [])
set_option maxHeartbeats 4000000 in
set_option maxRecDepth 100000 in
theorem w_X0_endFrames_13 {p : Program} {l : Launch} {e : Env} {s : State} {m : MethodId} {args : Array Value} {below : List Frame} {meth : Method} {c : Code} {E : cEv} {r : Int32} {σ' : St} (B : gBx p m meth c cX0_endFrames 6 (some .int) s args RX0 (cG E)) {K13 : (Int32 × Int32 × Int32 × St → Option (Int32 × St))} (hK13 : ∀ a, K13 a = some (r, σ') → P_X0_endFrames_13 p l e s m args below meth c E r σ' a) (a1 : Int32) (a3 : Int32) (a4 : Int32) (σ : St) (hf : b_X0_endFrames_13 K13 a1 a3 a4 σ = some (r, σ')) (H : Heap) (locs : List Loc) (ls : Array Slot) (hP : gW (cG E) σ H) (hS : va_S (gA (cG E)) s.heap H locs) (hl : lv_has ls 6 [(0, .ref (cAd E 6)), (1, .int a1), (2, .ref (cAd E 21)), (3, .int a3), (4, .int a4)]) : W p l e rm_X0_endFrames s m args below meth c H locs 0 0 (gQi below args s (cG E) r σ') (F0 m 13 ls []) := by
  unfold b_X0_endFrames_13 at hf
  obtain ⟨F, hr, hlk⟩ := id B
  have hx := F.1
  have hb := F.2.1
  have hml := F.2.2.1
  have hown := F.2.2.2.1
  have hts := F.2.2.2.2.1
  refine lv_iload hx hb dX0_endFrames_13 (lv_at hl 4 rfl) ?_
  refine lv_iload_n hx hb dX0_endFrames_15 rfl (lv_at hl 3 rfl) ?_
  refine lv_icmp_ge (tgt := 68) hx hb dX0_endFrames_16 (by decide) (fun h1 => ?_) (fun h1 => ?_)
  · rw [if_pos h1] at hf
    refine lv_iload_n hx hb dX0_endFrames_68 rfl (lv_at hl 1 rfl) ?_
    exact g_iret B hP hS hf dX0_endFrames_69
  · rw [if_neg h1] at hf
    refine lv_aload_n hx hb dX0_endFrames_19 rfl (lv_at hl 2 rfl) ?_
    refine lv_iload hx hb dX0_endFrames_20 (lv_at hl 4 rfl) ?_
    obtain ⟨h2, hf⟩ := gd_e hf
    refine c_aldD F hP h2 dX0_endFrames_22 ?_
    have h4 := ix_lt h2
    obtain ⟨d3, ed3, hf⟩ := vl_x hf
    rw [← ed3] at h4 ⊢
    refine lv_astore (lv' := [(5, .ref (cAd E (46 + d3))), (0, .ref (cAd E 6)), (1, .int a1), (2, .ref (cAd E 21)), (3, .int a3), (4, .int a4)]) hx hb dX0_endFrames_23 hl (by decide) rfl (fun ls hl => ?_)
    refine lv_aload hx hb dX0_endFrames_25 (lv_at hl 0 rfl) ?_
    refine gf_X0_40 F hP h4 dX0_endFrames_27 ?_
    refine lv_iconst (v := 4) hx hb dX0_endFrames_30 (by decide) ?_
    refine lv_icmp_ne (tgt := 62) hx hb dX0_endFrames_31 (by decide) (fun h5 => ?_) (fun h5 => ?_)
    · rw [if_neg h5] at hf
      refine lv_iinc (v := a4 + (1 : Int32)) (lv' := [(4, .int (a4 + (1 : Int32))), (5, .ref (cAd E (46 + d3))), (0, .ref (cAd E 6)), (1, .int a1), (2, .ref (cAd E 21)), (3, .int a3)]) hx hb dX0_endFrames_62 hl (k := 5) rfl rfl (by decide) rfl (fun ls hl => ?_)
      obtain ⟨x6, ex6, hf⟩ := vl_x hf
      rw [← ex6] at hl
      refine lv_goto (tgt := 13) hx hb dX0_endFrames_65 (by decide) ?_
      exact hK13 _ hf _ _ _ hP hS (lv_sub hl [2, 3, 4, 5, 0] rfl)
    · rw [if_pos h5] at hf
      refine lv_aload hx hb dX0_endFrames_34 (lv_at hl 0 rfl) ?_
      refine lv_dup hx hb dX0_endFrames_36 rfl ?_
      refine gf_X0_88 F hP h4 dX0_endFrames_37 ?_
      refine lv_iconst (v := 1) hx hb dX0_endFrames_40 (by decide) ?_
      refine lv_isub hx hb dX0_endFrames_41 ?_
      refine pf_X0_88 F hP hS h4 dX0_endFrames_42 (fun H locs hP hS => ?_)
      obtain ⟨σ7, eσ7, hf⟩ := vl_x hf
      rw [← eσ7] at hP
      refine lv_aload hx hb dX0_endFrames_45 (lv_at hl 0 rfl) ?_
      refine gf_X0_88 F hP h4 dX0_endFrames_47 ?_
      refine lv_if_gt (tgt := 62) hx hb dX0_endFrames_50 (by decide) (fun h8 => ?_) (fun h8 => ?_)
      · rw [if_pos h8] at hf
        refine lv_iinc (v := a4 + (1 : Int32)) (lv' := [(4, .int (a4 + (1 : Int32))), (5, .ref (cAd E (46 + d3))), (0, .ref (cAd E 6)), (1, .int a1), (2, .ref (cAd E 21)), (3, .int a3)]) hx hb dX0_endFrames_62 hl (k := 5) rfl rfl (by decide) rfl (fun ls hl => ?_)
        obtain ⟨x9, ex9, hf⟩ := vl_x hf
        rw [← ex9] at hl
        refine lv_goto (tgt := 13) hx hb dX0_endFrames_65 (by decide) ?_
        exact hK13 _ hf _ _ _ hP hS (lv_sub hl [2, 3, 4, 5, 0] rfl)
      · rw [if_neg h8] at hf
        refine lv_iload_n hx hb dX0_endFrames_53 rfl (lv_at hl 2 rfl) ?_
        refine lv_aload_n hx hb dX0_endFrames_54 rfl (lv_at hl 1 rfl) ?_
        refine lv_aload hx hb dX0_endFrames_55 (lv_at hl 0 rfl) ?_
        obtain ⟨r11, σ10, h12, hf⟩ := cl_e hf
        refine kc_X0_91 F hP hS h4 h12 ⟨Nat.le_of_ble_eq_true rfl, Nat.le_of_ble_eq_true rfl⟩ hl.1 (Nat.le_of_ble_eq_true rfl) ⟨Nat.zero_le _, Nat.zero_le _⟩ dX0_endFrames_57 (fun H locs hP hS => ?_)
        refine lv_iadd hx hb dX0_endFrames_60 ?_
        obtain ⟨x13, ex13, hf⟩ := vl_x hf
        rw [← ex13]
        refine lv_istore_n (lv' := [(1, .int x13), (5, .ref (cAd E (46 + d3))), (0, .ref (cAd E 6)), (2, .ref (cAd E 21)), (3, .int a3), (4, .int a4)]) hx hb dX0_endFrames_61 rfl hl (by decide) rfl (fun ls hl => ?_)
        refine lv_iinc (v := a4 + (1 : Int32)) (lv' := [(4, .int (a4 + (1 : Int32))), (1, .int x13), (5, .ref (cAd E (46 + d3))), (0, .ref (cAd E 6)), (2, .ref (cAd E 21)), (3, .int a3)]) hx hb dX0_endFrames_62 hl (k := 5) rfl rfl (by decide) rfl (fun ls hl => ?_)
        obtain ⟨x14, ex14, hf⟩ := vl_x hf
        rw [← ex14] at hl
        refine lv_goto (tgt := 13) hx hb dX0_endFrames_65 (by decide) ?_
        exact hK13 _ hf _ _ _ hP hS (lv_sub hl [3, 1, 4, 5, 0] rfl)
set_option maxHeartbeats 4000000 in
set_option maxRecDepth 100000 in
theorem w_X0_endFrames_e {p : Program} {l : Launch} {e : Env} {s : State} {m : MethodId} {args : Array Value} {below : List Frame} {meth : Method} {c : Code} {E : cEv} {r : Int32} {σ' : St} (B : gBx p m meth c cX0_endFrames 6 (some .int) s args RX0 (cG E)) (σ : St) (hf : f_X0_endFrames σ = some (r, σ')) (H : Heap) (locs : List Loc) (ls : Array Slot) (hP : gW (cG E) σ H) (hS : va_S (gA (cG E)) s.heap H locs) (hl : lv_has ls 6 [(0, .ref (cAd E 6))]) : W p l e rm_X0_endFrames s m args below meth c H locs 0 0 (gQi below args s (cG E) r σ') (F0 m 0 ls []) := by
  unfold f_X0_endFrames at hf
  obtain ⟨F, hr, hlk⟩ := id B
  have hx := F.1
  have hb := F.2.1
  have hml := F.2.2.1
  have hown := F.2.2.2.1
  have hts := F.2.2.2.2.1
  refine lv_iconst (v := 0) hx hb dX0_endFrames_0 (by decide) ?_
  refine lv_istore_n (lv' := [(1, .int (0 : Int32)), (0, .ref (cAd E 6))]) hx hb dX0_endFrames_1 rfl hl (by decide) rfl (fun ls hl => ?_)
  refine lv_aload_n hx hb dX0_endFrames_2 rfl (lv_at hl 1 rfl) ?_
  refine gf_X0_9 F hP dX0_endFrames_3 ?_
  refine lv_astore_n (lv' := [(2, .ref (cAd E 21)), (1, .int (0 : Int32)), (0, .ref (cAd E 6))]) hx hb dX0_endFrames_6 rfl hl (by decide) rfl (fun ls hl => ?_)
  refine lv_aload_n hx hb dX0_endFrames_7 rfl (lv_at hl 0 rfl) ?_
  refine c_alenD F hP dX0_endFrames_8 ?_
  refine lv_istore_n (lv' := [(3, .int (8 : Int32)), (2, .ref (cAd E 21)), (1, .int (0 : Int32)), (0, .ref (cAd E 6))]) hx hb dX0_endFrames_9 rfl hl (by decide) rfl (fun ls hl => ?_)
  refine lv_iconst (v := 0) hx hb dX0_endFrames_10 (by decide) ?_
  refine lv_istore (lv' := [(4, .int (0 : Int32)), (3, .int (8 : Int32)), (2, .ref (cAd E 21)), (1, .int (0 : Int32)), (0, .ref (cAd E 6))]) hx hb dX0_endFrames_11 hl (by decide) rfl (fun ls hl => ?_)
  exact lp_w (P := P_X0_endFrames_13 p l e s m args below meth c E r σ') (fun K hK a ha => w_X0_endFrames_13 B hK a.1 a.2.1 a.2.2.1 a.2.2.2 ha) FU _ hf _ _ _ hP hS (lv_sub hl [4, 3, 2, 1, 0] rfl)
theorem c_X0_endFrames (l : Launch) {E : cEv} (hI : gIj (cG E)) {σ σ' : St} {r : Int32} (hf : f_X0_endFrames σ = some (r, σ')) : gMi l yX0_endFrames cX0_endFrames 6 .int rm_X0_endFrames [.ref (cAd E 6)] (cG E) σ r σ' :=
  g_entry (by decide) (Nat.le_of_ble_eq_true rfl) hI (fun p e s m args below meth c B hP hS ls hl => w_X0_endFrames_e B σ hf _ _ ls hP hS hl)
section SB
variable {p : Program} {l : Launch} {e : Env} {R : Room} {s : State} {m : MethodId} {args : Array Value} {below : List Frame} {meth : Method} {c : Code} {H : Heap} {locs : List Loc} {cells slots : Nat} {Q : State → Prop}
variable {cc : ByteArray} {pc nL : Nat} {ls : Array Slot} {rest : List Value} {E : cEv} {σ : St}
theorem pf_X0_40 (F : gFx p m c cc nL s args RX0 (cG E)) (hP : gW (cG E) σ H) (hS : va_S (gA (cG E)) s.heap H locs) {o : Nat} (ho : o < 8) {x : Int32} (hdg : decode cc pc = .ok (.putfield 40, 3)) (kk : ∀ (H1 : Heap) (locs1 : List Loc), gW (cG E) (up2 σ (46 + o) 10 x) H1 → va_S (gA (cG E)) s.heap H1 locs1 → W p l e R s m args below meth c H1 locs1 cells slots Q (F0 m (pc + 3) ls rest)) : W p l e R s m args below meth c H locs cells slots Q (F0 m pc ls (.int x :: .ref (cAd E (46 + o)) :: rest)) :=
  g_putN F hP hS (k := (46 + o)) (cin (by omega)) (ce_2 E _ ho) rfl inX2 tyX2 tyX2_ok nmX2 10 (by decide) tw_195 rfl rfl rfl rfl (Nat.le_of_ble_eq_true rfl) (x := x) (jj := 10) (ce_2 E _ ho) hdg kk
end SB
/-! PromisedSlots$Contention.holdAll()V -/
def b_X0_holdAll_10 (K10 : (Int32 × Int32 × St → Option (Unit × St))) (a2 : Int32) (a3 : Int32) (σ : St) : Option (Unit × St) :=
  if a2 ≤ a3 then
    some ((), σ)
  else
    gd (ix a3 8) <|
    vl (nt a3) fun d3 =>
    if (σ (46 + d3) 10) = (1 : Int32) then
      vl (up2 σ (46 + d3) 10 (3 : Int32)) fun σ6 =>
      vl (a3 + (1 : Int32)) fun x7 =>
      K10 (a2, x7, σ6)
    else
      if (σ (46 + d3) 10) = (2 : Int32) then
        vl (up2 σ (46 + d3) 10 (3 : Int32)) fun σ10 =>
        vl (a3 + (1 : Int32)) fun x11 =>
        K10 (a2, x11, σ10)
      else
        vl (a3 + (1 : Int32)) fun x9 =>
        K10 (a2, x9, σ)
def f_X0_holdAll (σ : St) : Option (Unit × St) :=
  lp (fun K a => b_X0_holdAll_10 K a.1 a.2.1 a.2.2) FU ((8 : Int32), (0 : Int32), σ)
abbrev rm_X0_holdAll : Room := { frames := 0, cells := 0, slots := 0, locals := 0 }
def P_X0_holdAll_10 (p : Program) (l : Launch) (e : Env) (s : State) (m : MethodId) (args : Array Value) (below : List Frame) (meth : Method) (c : Code) (E : cEv) (σ' : St) (a : Int32 × Int32 × St) : Prop := ∀ (H : Heap) (locs : List Loc) (ls : Array Slot), gW (cG E) a.2.2 H → va_S (gA (cG E)) s.heap H locs → lv_has ls 5 [(1, .ref (cAd E 21)), (2, .int a.1), (3, .int a.2.1)] → W p l e rm_X0_holdAll s m args below meth c H locs 0 0 (gQv below args s (cG E) σ') (F0 m 10 ls [])
set_option maxHeartbeats 4000000 in
set_option maxRecDepth 100000 in
theorem w_X0_holdAll_10 {p : Program} {l : Launch} {e : Env} {s : State} {m : MethodId} {args : Array Value} {below : List Frame} {meth : Method} {c : Code} {E : cEv} {u : Unit} {σ' : St} (B : gBx p m meth c cX0_holdAll 5 none s args RX0 (cG E)) {K10 : (Int32 × Int32 × St → Option (Unit × St))} (hK10 : ∀ a, K10 a = some (u, σ') → P_X0_holdAll_10 p l e s m args below meth c E σ' a) (a2 : Int32) (a3 : Int32) (σ : St) (hf : b_X0_holdAll_10 K10 a2 a3 σ = some (u, σ')) (H : Heap) (locs : List Loc) (ls : Array Slot) (hP : gW (cG E) σ H) (hS : va_S (gA (cG E)) s.heap H locs) (hl : lv_has ls 5 [(1, .ref (cAd E 21)), (2, .int a2), (3, .int a3)]) : W p l e rm_X0_holdAll s m args below meth c H locs 0 0 (gQv below args s (cG E) σ') (F0 m 10 ls []) := by
  unfold b_X0_holdAll_10 at hf
  obtain ⟨F, hr, hlk⟩ := id B
  have hx := F.1
  have hb := F.2.1
  have hml := F.2.2.1
  have hown := F.2.2.2.1
  have hts := F.2.2.2.2.1
  refine lv_iload_n hx hb dX0_holdAll_10 rfl (lv_at hl 2 rfl) ?_
  refine lv_iload_n hx hb dX0_holdAll_11 rfl (lv_at hl 1 rfl) ?_
  refine lv_icmp_ge (tgt := 50) hx hb dX0_holdAll_12 (by decide) (fun h1 => ?_) (fun h1 => ?_)
  · rw [if_pos h1] at hf
    exact g_vret B hP hS hf dX0_holdAll_50
  · rw [if_neg h1] at hf
    refine lv_aload_n hx hb dX0_holdAll_15 rfl (lv_at hl 0 rfl) ?_
    refine lv_iload_n hx hb dX0_holdAll_16 rfl (lv_at hl 2 rfl) ?_
    obtain ⟨h2, hf⟩ := gd_e hf
    refine c_aldD F hP h2 dX0_holdAll_17 ?_
    have h4 := ix_lt h2
    obtain ⟨d3, ed3, hf⟩ := vl_x hf
    rw [← ed3] at h4 ⊢
    refine lv_astore (lv' := [(4, .ref (cAd E (46 + d3))), (1, .ref (cAd E 21)), (2, .int a2), (3, .int a3)]) hx hb dX0_holdAll_18 hl (by decide) rfl (fun ls hl => ?_)
    refine lv_aload hx hb dX0_holdAll_20 (lv_at hl 0 rfl) ?_
    refine gf_X0_40 F hP h4 dX0_holdAll_22 ?_
    refine lv_iconst (v := 1) hx hb dX0_holdAll_25 (by decide) ?_
    refine lv_icmp_eq (tgt := 38) hx hb dX0_holdAll_26 (by decide) (fun h5 => ?_) (fun h5 => ?_)
    · rw [if_pos h5] at hf
      refine lv_aload hx hb dX0_holdAll_38 (lv_at hl 0 rfl) ?_
      refine lv_iconst (v := 3) hx hb dX0_holdAll_40 (by decide) ?_
      refine pf_X0_40 F hP hS h4 dX0_holdAll_41 (fun H locs hP hS => ?_)
      obtain ⟨σ6, eσ6, hf⟩ := vl_x hf
      rw [← eσ6] at hP
      refine lv_iinc (v := a3 + (1 : Int32)) (lv' := [(3, .int (a3 + (1 : Int32))), (4, .ref (cAd E (46 + d3))), (1, .ref (cAd E 21)), (2, .int a2)]) hx hb dX0_holdAll_44 hl (k := 3) rfl rfl (by decide) rfl (fun ls hl => ?_)
      obtain ⟨x7, ex7, hf⟩ := vl_x hf
      rw [← ex7] at hl
      refine lv_goto (tgt := 10) hx hb dX0_holdAll_47 (by decide) ?_
      exact hK10 _ hf _ _ _ hP hS (lv_sub hl [2, 3, 0] rfl)
    · rw [if_neg h5] at hf
      refine lv_aload hx hb dX0_holdAll_29 (lv_at hl 0 rfl) ?_
      refine gf_X0_40 F hP h4 dX0_holdAll_31 ?_
      refine lv_iconst (v := 2) hx hb dX0_holdAll_34 (by decide) ?_
      refine lv_icmp_ne (tgt := 44) hx hb dX0_holdAll_35 (by decide) (fun h8 => ?_) (fun h8 => ?_)
      · rw [if_neg h8] at hf
        refine lv_iinc (v := a3 + (1 : Int32)) (lv' := [(3, .int (a3 + (1 : Int32))), (4, .ref (cAd E (46 + d3))), (1, .ref (cAd E 21)), (2, .int a2)]) hx hb dX0_holdAll_44 hl (k := 3) rfl rfl (by decide) rfl (fun ls hl => ?_)
        obtain ⟨x9, ex9, hf⟩ := vl_x hf
        rw [← ex9] at hl
        refine lv_goto (tgt := 10) hx hb dX0_holdAll_47 (by decide) ?_
        exact hK10 _ hf _ _ _ hP hS (lv_sub hl [2, 3, 0] rfl)
      · rw [if_pos h8] at hf
        refine lv_aload hx hb dX0_holdAll_38 (lv_at hl 0 rfl) ?_
        refine lv_iconst (v := 3) hx hb dX0_holdAll_40 (by decide) ?_
        refine pf_X0_40 F hP hS h4 dX0_holdAll_41 (fun H locs hP hS => ?_)
        obtain ⟨σ10, eσ10, hf⟩ := vl_x hf
        rw [← eσ10] at hP
        refine lv_iinc (v := a3 + (1 : Int32)) (lv' := [(3, .int (a3 + (1 : Int32))), (4, .ref (cAd E (46 + d3))), (1, .ref (cAd E 21)), (2, .int a2)]) hx hb dX0_holdAll_44 hl (k := 3) rfl rfl (by decide) rfl (fun ls hl => ?_)
        obtain ⟨x11, ex11, hf⟩ := vl_x hf
        rw [← ex11] at hl
        refine lv_goto (tgt := 10) hx hb dX0_holdAll_47 (by decide) ?_
        exact hK10 _ hf _ _ _ hP hS (lv_sub hl [2, 3, 0] rfl)
set_option maxHeartbeats 4000000 in
set_option maxRecDepth 100000 in
theorem w_X0_holdAll_e {p : Program} {l : Launch} {e : Env} {s : State} {m : MethodId} {args : Array Value} {below : List Frame} {meth : Method} {c : Code} {E : cEv} {u : Unit} {σ' : St} (B : gBx p m meth c cX0_holdAll 5 none s args RX0 (cG E)) (σ : St) (hf : f_X0_holdAll σ = some (u, σ')) (H : Heap) (locs : List Loc) (ls : Array Slot) (hP : gW (cG E) σ H) (hS : va_S (gA (cG E)) s.heap H locs) (hl : lv_has ls 5 [(0, .ref (cAd E 6))]) : W p l e rm_X0_holdAll s m args below meth c H locs 0 0 (gQv below args s (cG E) σ') (F0 m 0 ls []) := by
  unfold f_X0_holdAll at hf
  obtain ⟨F, hr, hlk⟩ := id B
  have hx := F.1
  have hb := F.2.1
  have hml := F.2.2.1
  have hown := F.2.2.2.1
  have hts := F.2.2.2.2.1
  refine lv_aload_n hx hb dX0_holdAll_0 rfl (lv_at hl 0 rfl) ?_
  refine gf_X0_9 F hP dX0_holdAll_1 ?_
  refine lv_astore_n (lv' := [(1, .ref (cAd E 21)), (0, .ref (cAd E 6))]) hx hb dX0_holdAll_4 rfl hl (by decide) rfl (fun ls hl => ?_)
  refine lv_aload_n hx hb dX0_holdAll_5 rfl (lv_at hl 0 rfl) ?_
  refine c_alenD F hP dX0_holdAll_6 ?_
  refine lv_istore_n (lv' := [(2, .int (8 : Int32)), (1, .ref (cAd E 21)), (0, .ref (cAd E 6))]) hx hb dX0_holdAll_7 rfl hl (by decide) rfl (fun ls hl => ?_)
  refine lv_iconst (v := 0) hx hb dX0_holdAll_8 (by decide) ?_
  refine lv_istore_n (lv' := [(3, .int (0 : Int32)), (2, .int (8 : Int32)), (1, .ref (cAd E 21)), (0, .ref (cAd E 6))]) hx hb dX0_holdAll_9 rfl hl (by decide) rfl (fun ls hl => ?_)
  exact lp_w (P := P_X0_holdAll_10 p l e s m args below meth c E σ') (fun K hK a ha => w_X0_holdAll_10 B hK a.1 a.2.1 a.2.2 ha) FU _ hf _ _ _ hP hS (lv_sub hl [2, 1, 0] rfl)
theorem c_X0_holdAll (l : Launch) {E : cEv} (hI : gIj (cG E)) {σ σ' : St} {u : Unit} (hf : f_X0_holdAll σ = some (u, σ')) : gMv l yX0_holdAll cX0_holdAll 5 rm_X0_holdAll [.ref (cAd E 6)] (cG E) σ σ' :=
  g_entry (by decide) (Nat.le_of_ble_eq_true rfl) hI (fun p e s m args below meth c B hP hS ls hl => w_X0_holdAll_e B σ hf _ _ ls hP hS hl)
section SB
variable {p : Program} {l : Launch} {e : Env} {R : Room} {s : State} {m : MethodId} {args : Array Value} {below : List Frame} {meth : Method} {c : Code} {H : Heap} {locs : List Loc} {cells slots : Nat} {Q : State → Prop}
variable {cc : ByteArray} {pc nL : Nat} {ls : Array Slot} {rest : List Value} {E : cEv} {σ : St}
theorem kc_X0_29 (F : gFx p m c cc nL s args RX0 (cG E)) (hP : gW (cG E) σ H) (hS : va_S (gA (cG E)) s.heap H locs) {u : Unit} {σ' : St} (hf : f_X0_holdAll σ = some (u, σ')) (hR : rm_X0_holdAll.frames + 1 ≤ R.frames ∧ 8 + (5 + 11) + rm_X0_holdAll.locals ≤ R.locals) (hsz : ls.size = nL) (hrest : (rest.map fun v => v.category).sum ≤ 8) (hcs : cells ≤ R.cells ∧ slots ≤ R.slots) (hdg : decode cc pc = .ok (.invokevirtual 29, 3)) (kk : ∀ (H1 : Heap) (locs1 : List Loc), gW (cG E) σ' H1 → va_S (gA (cG E)) s.heap H1 locs1 → W p l e R s m args below meth c H1 locs1 cells slots Q (F0 m (pc + 3) ls rest)) : W p l e R s m args below meth c H locs cells slots Q (F0 m pc ls (.ref (cAd E 6) :: rest)) :=
  g_callVv F hP hS (c_X0_holdAll l F.2.2.2.2.2.2.2 hf) (g_cwV (n := 0) F tw_706 tw_708 ts_25 tw_9 tw_709 (by decide +kernel) rfl rfl hR) (k := 6) (cin (by omega)) (ce_0 E _) rfl (As := []) rfl hsz rfl hrest hdg hcs kk
theorem kc_X0_15 (F : gFx p m c cc nL s args RX0 (cG E)) (hP : gW (cG E) σ H) (hS : va_S (gA (cG E)) s.heap H locs) {p1 : Int32} {p2 : Int32} {r : Int32} {σ' : St} (hf : f_X0_takeUp p1 p2 σ = some (r, σ')) (hR : rm_X0_takeUp.frames + 1 ≤ R.frames ∧ 8 + (8 + 11) + rm_X0_takeUp.locals ≤ R.locals) (hsz : ls.size = nL) (hrest : (rest.map fun v => v.category).sum ≤ 8) (hcs : cells ≤ R.cells ∧ slots ≤ R.slots) (hdg : decode cc pc = .ok (.invokevirtual 15, 3)) (kk : ∀ (H1 : Heap) (locs1 : List Loc), gW (cG E) σ' H1 → va_S (gA (cG E)) s.heap H1 locs1 → W p l e R s m args below meth c H1 locs1 cells slots Q (F0 m (pc + 3) ls (.int r :: rest))) : W p l e R s m args below meth c H locs cells slots Q (F0 m pc ls (.int p2 :: .int p1 :: .ref (cAd E 6) :: rest)) :=
  g_callVi F hP hS (c_X0_takeUp l F.2.2.2.2.2.2.2 hf) (g_cwV (n := 2) F tw_635 tw_637 ts_16 tw_9 tw_638 (by decide +kernel) rfl rfl hR) (k := 6) (cin (by omega)) (ce_0 E _) rfl (As := [.int p1, .int p2]) rfl hsz rfl hrest hdg hcs kk
theorem kc_X0_19 (F : gFx p m c cc nL s args RX0 (cG E)) (hP : gW (cG E) σ H) (hS : va_S (gA (cG E)) s.heap H locs) {r : Int32} {σ' : St} (hf : f_X0_airNow σ = some (r, σ')) (hR : rm_X0_airNow.frames + 1 ≤ R.frames ∧ 8 + (1 + 11) + rm_X0_airNow.locals ≤ R.locals) (hsz : ls.size = nL) (hrest : (rest.map fun v => v.category).sum ≤ 8) (hcs : cells ≤ R.cells ∧ slots ≤ R.slots) (hdg : decode cc pc = .ok (.invokevirtual 19, 3)) (kk : ∀ (H1 : Heap) (locs1 : List Loc), gW (cG E) σ' H1 → va_S (gA (cG E)) s.heap H1 locs1 → W p l e R s m args below meth c H1 locs1 cells slots Q (F0 m (pc + 3) ls (.int r :: rest))) : W p l e R s m args below meth c H locs cells slots Q (F0 m pc ls (.ref (cAd E 6) :: rest)) :=
  g_callVi F hP hS (c_X0_airNow l F.2.2.2.2.2.2.2 hf) (g_cwV (n := 0) F tw_664 tw_666 ts_19 tw_9 tw_667 (by decide +kernel) rfl rfl hR) (k := 6) (cin (by omega)) (ce_0 E _) rfl (As := []) rfl hsz rfl hrest hdg hcs kk
theorem kc_X0_23 (F : gFx p m c cc nL s args RX0 (cG E)) (hP : gW (cG E) σ H) (hS : va_S (gA (cG E)) s.heap H locs) {u : Unit} {σ' : St} (hf : f_X0_listenAndWait σ = some (u, σ')) (hR : rm_X0_listenAndWait.frames + 1 ≤ R.frames ∧ 8 + (5 + 11) + rm_X0_listenAndWait.locals ≤ R.locals) (hsz : ls.size = nL) (hrest : (rest.map fun v => v.category).sum ≤ 8) (hcs : cells ≤ R.cells ∧ slots ≤ R.slots) (hdg : decode cc pc = .ok (.invokevirtual 23, 3)) (kk : ∀ (H1 : Heap) (locs1 : List Loc), gW (cG E) σ' H1 → va_S (gA (cG E)) s.heap H1 locs1 → W p l e R s m args below meth c H1 locs1 cells slots Q (F0 m (pc + 3) ls rest)) : W p l e R s m args below meth c H locs cells slots Q (F0 m pc ls (.ref (cAd E 6) :: rest)) :=
  g_callVv F hP hS (c_X0_listenAndWait l F.2.2.2.2.2.2.2 hf) (g_cwV (n := 0) F tw_668 tw_670 ts_20 tw_9 tw_671 (by decide +kernel) rfl rfl hR) (k := 6) (cin (by omega)) (ce_0 E _) rfl (As := []) rfl hsz rfl hrest hdg hcs kk
theorem kc_X0_26 (F : gFx p m c cc nL s args RX0 (cG E)) (hP : gW (cG E) σ H) (hS : va_S (gA (cG E)) s.heap H locs) {r : Int32} {σ' : St} (hf : f_X0_endFrames σ = some (r, σ')) (hR : rm_X0_endFrames.frames + 1 ≤ R.frames ∧ 8 + (6 + 11) + rm_X0_endFrames.locals ≤ R.locals) (hsz : ls.size = nL) (hrest : (rest.map fun v => v.category).sum ≤ 8) (hcs : cells ≤ R.cells ∧ slots ≤ R.slots) (hdg : decode cc pc = .ok (.invokevirtual 26, 3)) (kk : ∀ (H1 : Heap) (locs1 : List Loc), gW (cG E) σ' H1 → va_S (gA (cG E)) s.heap H1 locs1 → W p l e R s m args below meth c H1 locs1 cells slots Q (F0 m (pc + 3) ls (.int r :: rest))) : W p l e R s m args below meth c H locs cells slots Q (F0 m pc ls (.ref (cAd E 6) :: rest)) :=
  g_callVi F hP hS (c_X0_endFrames l F.2.2.2.2.2.2.2 hf) (g_cwV (n := 0) F tw_690 tw_692 ts_23 tw_9 tw_693 (by decide +kernel) rfl rfl hR) (k := 6) (cin (by omega)) (ce_0 E _) rfl (As := []) rfl hsz rfl hrest hdg hcs kk
end SB
/-! PromisedSlots$Contention.play([II)I -/
def b_X0_play_8 (p1 : Nat) (K8 : (Int32 × Int32 × Int32 × Int32 × St → Option (Int32 × St))) (a2 : Int32) (a3 : Int32) (a4 : Int32) (a5 : Int32) (σ : St) : Option (Int32 × St) :=
  if a2 ≤ a5 then
    cl (f_X0_holdAll σ) fun r3 σ2 =>
    some (a3, σ2)
  else
    if (nI (cn p1)) ≤ a5 then
      cl (f_X0_holdAll σ) fun r7 σ6 =>
      some (a3, σ6)
    else
      if a4 = 0 then
        cl (f_X0_holdAll σ) fun r11 σ10 =>
        some (a3, σ10)
      else
        cl (f_X0_takeUp a5 a2 σ) fun r14 σ13 =>
        cl (f_X0_airNow σ13) fun r17 σ16 =>
        gd (ix a5 (cn p1)) <|
        vl (up2 σ16 p1 (nt a5) r17) fun σ20 =>
        cl (f_X0_listenAndWait σ20) fun r22 σ21 =>
        cl (f_X0_endFrames σ21) fun r25 σ24 =>
        vl (a3 + r25) fun x27 =>
        vl (a5 + (1 : Int32)) fun x28 =>
        K8 (a2, x27, r14, x28, σ24)
def f_X0_play (p1 : Nat) (p2 : Int32) (σ : St) : Option (Int32 × St) :=
  lp (fun K a => b_X0_play_8 p1 K a.1 a.2.1 a.2.2.1 a.2.2.2.1 a.2.2.2.2) FU (p2, (0 : Int32), (1 : Int32), (1 : Int32), σ)
abbrev rm_X0_play : Room := { frames := 5, cells := 0, slots := 0, locals := 106 }
def P_X0_play_8 (p : Program) (l : Launch) (e : Env) (s : State) (m : MethodId) (args : Array Value) (below : List Frame) (meth : Method) (c : Code) (E : cEv) (r : Int32) (σ' : St) (p1 : Nat) (a : Int32 × Int32 × Int32 × Int32 × St) : Prop := ∀ (H : Heap) (locs : List Loc) (ls : Array Slot), gW (cG E) a.2.2.2.2 H → va_S (gA (cG E)) s.heap H locs → lv_has ls 6 [(0, .ref (cAd E 6)), (1, .ref (cAd E p1)), (2, .int a.1), (3, .int a.2.1), (4, .int a.2.2.1), (5, .int a.2.2.2.1)] → W p l e rm_X0_play s m args below meth c H locs 0 0 (gQi below args s (cG E) r σ') (F0 m 8 ls [])
set_option maxHeartbeats 4000000 in
set_option maxRecDepth 100000 in
theorem w_X0_play_8 {p : Program} {l : Launch} {e : Env} {s : State} {m : MethodId} {args : Array Value} {below : List Frame} {meth : Method} {c : Code} {E : cEv} {r : Int32} {σ' : St} {p1 : Nat} (hp1 : cArr p1) (B : gBx p m meth c cX0_play 6 (some .int) s args RX0 (cG E)) {K8 : (Int32 × Int32 × Int32 × Int32 × St → Option (Int32 × St))} (hK8 : ∀ a, K8 a = some (r, σ') → P_X0_play_8 p l e s m args below meth c E r σ' p1 a) (a2 : Int32) (a3 : Int32) (a4 : Int32) (a5 : Int32) (σ : St) (hf : b_X0_play_8 p1 K8 a2 a3 a4 a5 σ = some (r, σ')) (H : Heap) (locs : List Loc) (ls : Array Slot) (hP : gW (cG E) σ H) (hS : va_S (gA (cG E)) s.heap H locs) (hl : lv_has ls 6 [(0, .ref (cAd E 6)), (1, .ref (cAd E p1)), (2, .int a2), (3, .int a3), (4, .int a4), (5, .int a5)]) : W p l e rm_X0_play s m args below meth c H locs 0 0 (gQi below args s (cG E) r σ') (F0 m 8 ls []) := by
  unfold b_X0_play_8 at hf
  obtain ⟨F, hr, hlk⟩ := id B
  have hx := F.1
  have hb := F.2.1
  have hml := F.2.2.1
  have hown := F.2.2.2.1
  have hts := F.2.2.2.2.1
  refine lv_iload hx hb dX0_play_8 (lv_at hl 5 rfl) ?_
  refine lv_iload_n hx hb dX0_play_10 rfl (lv_at hl 2 rfl) ?_
  refine lv_icmp_ge (tgt := 60) hx hb dX0_play_11 (by decide) (fun h1 => ?_) (fun h1 => ?_)
  · rw [if_pos h1] at hf
    refine lv_aload_n hx hb dX0_play_60 rfl (lv_at hl 0 rfl) ?_
    obtain ⟨r3, σ2, h4, hf⟩ := cl_e hf
    refine kc_X0_29 F hP hS h4 ⟨Nat.le_of_ble_eq_true rfl, Nat.le_of_ble_eq_true rfl⟩ hl.1 (Nat.le_of_ble_eq_true rfl) ⟨Nat.zero_le _, Nat.zero_le _⟩ dX0_play_61 (fun H locs hP hS => ?_)
    refine lv_iload_n hx hb dX0_play_64 rfl (lv_at hl 3 rfl) ?_
    exact g_iret B hP hS hf dX0_play_65
  · rw [if_neg h1] at hf
    refine lv_iload hx hb dX0_play_14 (lv_at hl 5 rfl) ?_
    refine lv_aload_n hx hb dX0_play_16 rfl (lv_at hl 1 rfl) ?_
    refine c_alen F hP hp1 rfl dX0_play_17 ?_
    refine lv_icmp_ge (tgt := 60) hx hb dX0_play_18 (by decide) (fun h5 => ?_) (fun h5 => ?_)
    · rw [if_pos h5] at hf
      refine lv_aload_n hx hb dX0_play_60 rfl (lv_at hl 0 rfl) ?_
      obtain ⟨r7, σ6, h8, hf⟩ := cl_e hf
      refine kc_X0_29 F hP hS h8 ⟨Nat.le_of_ble_eq_true rfl, Nat.le_of_ble_eq_true rfl⟩ hl.1 (Nat.le_of_ble_eq_true rfl) ⟨Nat.zero_le _, Nat.zero_le _⟩ dX0_play_61 (fun H locs hP hS => ?_)
      refine lv_iload_n hx hb dX0_play_64 rfl (lv_at hl 3 rfl) ?_
      exact g_iret B hP hS hf dX0_play_65
    · rw [if_neg h5] at hf
      refine lv_iload hx hb dX0_play_21 (lv_at hl 4 rfl) ?_
      refine lv_if_eq (tgt := 60) hx hb dX0_play_23 (by decide) (fun h9 => ?_) (fun h9 => ?_)
      · rw [if_pos h9] at hf
        refine lv_aload_n hx hb dX0_play_60 rfl (lv_at hl 0 rfl) ?_
        obtain ⟨r11, σ10, h12, hf⟩ := cl_e hf
        refine kc_X0_29 F hP hS h12 ⟨Nat.le_of_ble_eq_true rfl, Nat.le_of_ble_eq_true rfl⟩ hl.1 (Nat.le_of_ble_eq_true rfl) ⟨Nat.zero_le _, Nat.zero_le _⟩ dX0_play_61 (fun H locs hP hS => ?_)
        refine lv_iload_n hx hb dX0_play_64 rfl (lv_at hl 3 rfl) ?_
        exact g_iret B hP hS hf dX0_play_65
      · rw [if_neg h9] at hf
        refine lv_aload_n hx hb dX0_play_26 rfl (lv_at hl 0 rfl) ?_
        refine lv_iload hx hb dX0_play_27 (lv_at hl 5 rfl) ?_
        refine lv_iload_n hx hb dX0_play_29 rfl (lv_at hl 2 rfl) ?_
        obtain ⟨r14, σ13, h15, hf⟩ := cl_e hf
        refine kc_X0_15 F hP hS h15 ⟨Nat.le_of_ble_eq_true rfl, Nat.le_of_ble_eq_true rfl⟩ hl.1 (Nat.le_of_ble_eq_true rfl) ⟨Nat.zero_le _, Nat.zero_le _⟩ dX0_play_30 (fun H locs hP hS => ?_)
        refine lv_istore (lv' := [(4, .int r14), (0, .ref (cAd E 6)), (1, .ref (cAd E p1)), (2, .int a2), (3, .int a3), (5, .int a5)]) hx hb dX0_play_33 hl (by decide) rfl (fun ls hl => ?_)
        refine lv_aload_n hx hb dX0_play_35 rfl (lv_at hl 2 rfl) ?_
        refine lv_iload hx hb dX0_play_36 (lv_at hl 5 rfl) ?_
        refine lv_aload_n hx hb dX0_play_38 rfl (lv_at hl 1 rfl) ?_
        obtain ⟨r17, σ16, h18, hf⟩ := cl_e hf
        refine kc_X0_19 F hP hS h18 ⟨Nat.le_of_ble_eq_true rfl, Nat.le_of_ble_eq_true rfl⟩ hl.1 (Nat.le_of_ble_eq_true rfl) ⟨Nat.zero_le _, Nat.zero_le _⟩ dX0_play_39 (fun H locs hP hS => ?_)
        obtain ⟨h19, hf⟩ := gd_e hf
        refine c_iast F hP hS hp1 rfl h19 dX0_play_42 (fun H locs hP hS => ?_)
        obtain ⟨σ20, eσ20, hf⟩ := vl_x hf
        rw [← eσ20] at hP
        refine lv_aload_n hx hb dX0_play_43 rfl (lv_at hl 1 rfl) ?_
        obtain ⟨r22, σ21, h23, hf⟩ := cl_e hf
        refine kc_X0_23 F hP hS h23 ⟨Nat.le_of_ble_eq_true rfl, Nat.le_of_ble_eq_true rfl⟩ hl.1 (Nat.le_of_ble_eq_true rfl) ⟨Nat.zero_le _, Nat.zero_le _⟩ dX0_play_44 (fun H locs hP hS => ?_)
        refine lv_iload_n hx hb dX0_play_47 rfl (lv_at hl 4 rfl) ?_
        refine lv_aload_n hx hb dX0_play_48 rfl (lv_at hl 1 rfl) ?_
        obtain ⟨r25, σ24, h26, hf⟩ := cl_e hf
        refine kc_X0_26 F hP hS h26 ⟨Nat.le_of_ble_eq_true rfl, Nat.le_of_ble_eq_true rfl⟩ hl.1 (Nat.le_of_ble_eq_true rfl) ⟨Nat.zero_le _, Nat.zero_le _⟩ dX0_play_49 (fun H locs hP hS => ?_)
        refine lv_iadd hx hb dX0_play_52 ?_
        obtain ⟨x27, ex27, hf⟩ := vl_x hf
        rw [← ex27]
        refine lv_istore_n (lv' := [(3, .int x27), (4, .int r14), (0, .ref (cAd E 6)), (1, .ref (cAd E p1)), (2, .int a2), (5, .int a5)]) hx hb dX0_play_53 rfl hl (by decide) rfl (fun ls hl => ?_)
        refine lv_iinc (v := a5 + (1 : Int32)) (lv' := [(5, .int (a5 + (1 : Int32))), (3, .int x27), (4, .int r14), (0, .ref (cAd E 6)), (1, .ref (cAd E p1)), (2, .int a2)]) hx hb dX0_play_54 hl (k := 5) rfl rfl (by decide) rfl (fun ls hl => ?_)
        obtain ⟨x28, ex28, hf⟩ := vl_x hf
        rw [← ex28] at hl
        refine lv_goto (tgt := 8) hx hb dX0_play_57 (by decide) ?_
        exact hK8 _ hf _ _ _ hP hS (lv_sub hl [3, 4, 5, 1, 2, 0] rfl)
set_option maxHeartbeats 4000000 in
set_option maxRecDepth 100000 in
theorem w_X0_play_e {p : Program} {l : Launch} {e : Env} {s : State} {m : MethodId} {args : Array Value} {below : List Frame} {meth : Method} {c : Code} {E : cEv} {r : Int32} {σ' : St} {p1 : Nat} (hp1 : cArr p1) (B : gBx p m meth c cX0_play 6 (some .int) s args RX0 (cG E)) (p2 : Int32) (σ : St) (hf : f_X0_play p1 p2 σ = some (r, σ')) (H : Heap) (locs : List Loc) (ls : Array Slot) (hP : gW (cG E) σ H) (hS : va_S (gA (cG E)) s.heap H locs) (hl : lv_has ls 6 [(0, .ref (cAd E 6)), (1, .ref (cAd E p1)), (2, .int p2)]) : W p l e rm_X0_play s m args below meth c H locs 0 0 (gQi below args s (cG E) r σ') (F0 m 0 ls []) := by
  unfold f_X0_play at hf
  obtain ⟨F, hr, hlk⟩ := id B
  have hx := F.1
  have hb := F.2.1
  have hml := F.2.2.1
  have hown := F.2.2.2.1
  have hts := F.2.2.2.2.1
  refine lv_iconst (v := 0) hx hb dX0_play_0 (by decide) ?_
  refine lv_istore_n (lv' := [(3, .int (0 : Int32)), (0, .ref (cAd E 6)), (1, .ref (cAd E p1)), (2, .int p2)]) hx hb dX0_play_1 rfl hl (by decide) rfl (fun ls hl => ?_)
  refine lv_iconst (v := 1) hx hb dX0_play_2 (by decide) ?_
  refine lv_istore (lv' := [(4, .int (1 : Int32)), (3, .int (0 : Int32)), (0, .ref (cAd E 6)), (1, .ref (cAd E p1)), (2, .int p2)]) hx hb dX0_play_3 hl (by decide) rfl (fun ls hl => ?_)
  refine lv_iconst (v := 1) hx hb dX0_play_5 (by decide) ?_
  refine lv_istore (lv' := [(5, .int (1 : Int32)), (4, .int (1 : Int32)), (3, .int (0 : Int32)), (0, .ref (cAd E 6)), (1, .ref (cAd E p1)), (2, .int p2)]) hx hb dX0_play_6 hl (by decide) rfl (fun ls hl => ?_)
  exact lp_w (P := P_X0_play_8 p l e s m args below meth c E r σ' p1) (fun K hK a ha => w_X0_play_8 hp1 B hK a.1 a.2.1 a.2.2.1 a.2.2.2.1 a.2.2.2.2 ha) FU _ hf _ _ _ hP hS (lv_sub hl [3, 4, 5, 2, 1, 0] rfl)
theorem c_X0_play (l : Launch) {E : cEv} (hI : gIj (cG E)) {p1 : Nat} (hp1 : cArr p1) {p2 : Int32} {σ σ' : St} {r : Int32} (hf : f_X0_play p1 p2 σ = some (r, σ')) : gMi l yX0_play cX0_play 6 .int rm_X0_play [.ref (cAd E 6), .ref (cAd E p1), .int p2] (cG E) σ r σ' :=
  g_entry (by decide) (Nat.le_of_ble_eq_true rfl) hI (fun p e s m args below meth c B hP hS ls hl => w_X0_play_e hp1 B _ σ hf _ _ ls hP hS hl)
section SB
variable {p : Program} {l : Launch} {e : Env} {R : Room} {s : State} {m : MethodId} {args : Array Value} {below : List Frame} {meth : Method} {c : Code} {H : Heap} {locs : List Loc} {cells slots : Nat} {Q : State → Prop}
variable {cc : ByteArray} {pc nL : Nat} {ls : Array Slot} {rest : List Value} {E : cEv} {σ : St}
theorem gf_X5_24 (F : gFx p m c cc nL s args RX5 (cG E)) (hP : gW (cG E) σ H) (hdg : decode cc pc = .ok (.getfield 24, 3)) (kk : W p l e R s m args below meth c H locs cells slots Q (F0 m (pc + 3) ls (.int (σ 3 2) :: rest))) : W p l e R s m args below meth c H locs cells slots Q (F0 m pc ls (.ref (cAd E 3) :: rest)) :=
  g_get F hP (k := 3) (cin (by omega)) (ce_5 E _) rfl inX5 2 (by decide) tw_51 rfl rfl hdg kk
theorem pf_X5_24 (F : gFx p m c cc nL s args RX5 (cG E)) (hP : gW (cG E) σ H) (hS : va_S (gA (cG E)) s.heap H locs) {x : Int32} (hdg : decode cc pc = .ok (.putfield 24, 3)) (kk : ∀ (H1 : Heap) (locs1 : List Loc), gW (cG E) (up2 σ 3 2 x) H1 → va_S (gA (cG E)) s.heap H1 locs1 → W p l e R s m args below meth c H1 locs1 cells slots Q (F0 m (pc + 3) ls rest)) : W p l e R s m args below meth c H locs cells slots Q (F0 m pc ls (.int x :: .ref (cAd E 3) :: rest)) :=
  g_put F hP hS (k := 3) (cin (by omega)) (ce_5 E _) rfl inX5 tyX5 tyX5_ok nmX5 2 (by decide) tw_51 rfl rfl rfl rfl (Nat.le_of_ble_eq_true rfl) (x := x) (jj := 2) (ce_5 E _) hdg kk
theorem gf_X5_9 (F : gFx p m c cc nL s args RX5 (cG E)) (hP : gW (cG E) σ H) (hdg : decode cc pc = .ok (.getfield 9, 3)) (kk : W p l e R s m args below meth c H locs cells slots Q (F0 m (pc + 3) ls (.ref (cAd E 1) :: rest))) : W p l e R s m args below meth c H locs cells slots Q (F0 m pc ls (.ref (cAd E 3) :: rest)) :=
  g_get F hP (k := 3) (cin (by omega)) (ce_5 E _) rfl inX5 0 (by decide) tw_49 rfl rfl hdg kk
theorem gf_X5_20 (F : gFx p m c cc nL s args RX5 (cG E)) (hP : gW (cG E) σ H) (hdg : decode cc pc = .ok (.getfield 20, 3)) (kk : W p l e R s m args below meth c H locs cells slots Q (F0 m (pc + 3) ls (.int (σ 3 1) :: rest))) : W p l e R s m args below meth c H locs cells slots Q (F0 m pc ls (.ref (cAd E 3) :: rest)) :=
  g_get F hP (k := 3) (cin (by omega)) (ce_5 E _) rfl inX5 1 (by decide) tw_50 rfl rfl hdg kk
theorem kc_X5_36 (F : gFx p m c cc nL s args RX5 (cG E)) (hP : gW (cG E) σ H) (hS : va_S (gA (cG E)) s.heap H locs) {o : Nat} (ho : o = 1 ∨ o = 4) {p1 : Int32} {r : Int32} {σ' : St} (hf : f_X6_at o p1 σ = some (r, σ')) (hR : rm_X6_at.frames + 1 ≤ R.frames ∧ 8 + (2 + 11) + rm_X6_at.locals ≤ R.locals) (hsz : ls.size = nL) (hrest : (rest.map fun v => v.category).sum ≤ 8) (hcs : cells ≤ R.cells ∧ slots ≤ R.slots) (hdg : decode cc pc = .ok (.invokevirtual 36, 3)) (kk : ∀ (H1 : Heap) (locs1 : List Loc), gW (cG E) σ' H1 → va_S (gA (cG E)) s.heap H1 locs1 → W p l e R s m args below meth c H1 locs1 cells slots Q (F0 m (pc + 3) ls (.int r :: rest))) : W p l e R s m args below meth c H locs cells slots Q (F0 m pc ls (.int p1 :: .ref (cAd E o) :: rest)) :=
  g_callVi F hP hS (c_X6_at l F.2.2.2.2.2.2.2 ho hf) (g_cwV (n := 1) F tw_342 tw_343 tw_344 tw_2 tw_345 (by decide +kernel) rfl rfl hR) (k := o) (cin (by omega)) (ce_6 E _ ho) rfl (As := [.int p1]) rfl hsz rfl hrest hdg hcs kk
theorem pf_X5_20 (F : gFx p m c cc nL s args RX5 (cG E)) (hP : gW (cG E) σ H) (hS : va_S (gA (cG E)) s.heap H locs) {x : Int32} (hdg : decode cc pc = .ok (.putfield 20, 3)) (kk : ∀ (H1 : Heap) (locs1 : List Loc), gW (cG E) (up2 σ 3 1 x) H1 → va_S (gA (cG E)) s.heap H1 locs1 → W p l e R s m args below meth c H1 locs1 cells slots Q (F0 m (pc + 3) ls rest)) : W p l e R s m args below meth c H locs cells slots Q (F0 m pc ls (.int x :: .ref (cAd E 3) :: rest)) :=
  g_put F hP hS (k := 3) (cin (by omega)) (ce_5 E _) rfl inX5 tyX5 tyX5_ok nmX5 1 (by decide) tw_50 rfl rfl rfl rfl (Nat.le_of_ble_eq_true rfl) (x := x) (jj := 1) (ce_5 E _) hdg kk
end SB
/-! PromisedSlots$Reader.readNumber(III)I -/
def f_X5_readNumber_84 (a2 : Int32) (a3 : Int32) (a4 : Int32) (σ : St) : Option (Int32 × St) :=
  if (σ 3 2) = 0 then
    if a4 < a2 then
      vl (up2 σ 3 2 (12 : Int32)) fun σ4 =>
      some (a4, σ4)
    else
      if a4 ≤ a3 then
        some (a4, σ)
      else
        vl (up2 σ 3 2 (12 : Int32)) fun σ6 =>
        some (a4, σ6)
  else
    some (a4, σ)
def b_X5_readNumber_6 (K6 : (Int32 × Int32 × Int32 × Int32 × Int32 × St → Option (Int32 × St))) (a1 : Int32) (a2 : Int32) (a3 : Int32) (a4 : Int32) (a5 : Int32) (σ : St) : Option (Int32 × St) :=
  if a1 ≤ a5 then
    f_X5_readNumber_84 a2 a3 a4 σ
  else
    if (σ 3 2) = 0 then
      cl (f_X6_at 1 (σ 3 1) σ) fun r9 σ8 =>
      if r9 < (48 : Int32) then
        vl (up2 σ8 3 2 (11 : Int32)) fun σ12 =>
        vl (a5 + (1 : Int32)) fun x13 =>
        K6 (a1, a2, a3, a4, x13, σ12)
      else
        if r9 ≤ (57 : Int32) then
          vl (((a4 * (10 : Int32)) + r9) - (48 : Int32)) fun x15 =>
          vl (up2 σ8 3 1 ((σ8 3 1) + (1 : Int32))) fun σ16 =>
          vl (a5 + (1 : Int32)) fun x17 =>
          K6 (a1, a2, a3, x15, x17, σ16)
        else
          vl (up2 σ8 3 2 (11 : Int32)) fun σ18 =>
          vl (a5 + (1 : Int32)) fun x19 =>
          K6 (a1, a2, a3, a4, x19, σ18)
    else
      f_X5_readNumber_84 a2 a3 a4 σ
def f_X5_readNumber (p1 : Int32) (p2 : Int32) (p3 : Int32) (σ : St) : Option (Int32 × St) :=
  lp (fun K a => b_X5_readNumber_6 K a.1 a.2.1 a.2.2.1 a.2.2.2.1 a.2.2.2.2.1 a.2.2.2.2.2) FU (p1, p2, p3, (0 : Int32), (0 : Int32), σ)
abbrev rm_X5_readNumber : Room := { frames := 1, cells := 0, slots := 0, locals := 21 }
def P_X5_readNumber_6 (p : Program) (l : Launch) (e : Env) (s : State) (m : MethodId) (args : Array Value) (below : List Frame) (meth : Method) (c : Code) (E : cEv) (r : Int32) (σ' : St) (a : Int32 × Int32 × Int32 × Int32 × Int32 × St) : Prop := ∀ (H : Heap) (locs : List Loc) (ls : Array Slot), gW (cG E) a.2.2.2.2.2 H → va_S (gA (cG E)) s.heap H locs → lv_has ls 7 [(0, .ref (cAd E 3)), (1, .int a.1), (2, .int a.2.1), (3, .int a.2.2.1), (4, .int a.2.2.2.1), (5, .int a.2.2.2.2.1)] → W p l e rm_X5_readNumber s m args below meth c H locs 0 0 (gQi below args s (cG E) r σ') (F0 m 6 ls [])
set_option maxHeartbeats 4000000 in
set_option maxRecDepth 100000 in
theorem w_X5_readNumber_84 {p : Program} {l : Launch} {e : Env} {s : State} {m : MethodId} {args : Array Value} {below : List Frame} {meth : Method} {c : Code} {E : cEv} {r : Int32} {σ' : St} (B : gBx p m meth c cX5_readNumber 7 (some .int) s args RX5 (cG E)) (a2 : Int32) (a3 : Int32) (a4 : Int32) (σ : St) (hf : f_X5_readNumber_84 a2 a3 a4 σ = some (r, σ')) (H : Heap) (locs : List Loc) (ls : Array Slot) (hP : gW (cG E) σ H) (hS : va_S (gA (cG E)) s.heap H locs) (hl : lv_has ls 7 [(0, .ref (cAd E 3)), (2, .int a2), (3, .int a3), (4, .int a4)]) : W p l e rm_X5_readNumber s m args below meth c H locs 0 0 (gQi below args s (cG E) r σ') (F0 m 84 ls []) := by
  unfold f_X5_readNumber_84 at hf
  obtain ⟨F, hr, hlk⟩ := id B
  have hx := F.1
  have hb := F.2.1
  have hml := F.2.2.1
  have hown := F.2.2.2.1
  have hts := F.2.2.2.2.1
  refine lv_aload_n hx hb dX5_readNumber_84 rfl (lv_at hl 0 rfl) ?_
  refine gf_X5_24 F hP dX5_readNumber_85 ?_
  refine lv_if_ne (tgt := 109) hx hb dX5_readNumber_88 (by decide) (fun h2 => ?_) (fun h2 => ?_)
  · rw [if_neg h2] at hf
    refine lv_iload hx hb dX5_readNumber_109 (lv_at hl 3 rfl) ?_
    exact g_iret B hP hS hf dX5_readNumber_111
  · rw [if_pos h2] at hf
    refine lv_iload hx hb dX5_readNumber_91 (lv_at hl 3 rfl) ?_
    refine lv_iload_n hx hb dX5_readNumber_93 rfl (lv_at hl 1 rfl) ?_
    refine lv_icmp_lt (tgt := 103) hx hb dX5_readNumber_94 (by decide) (fun h3 => ?_) (fun h3 => ?_)
    · rw [if_pos h3] at hf
      refine lv_aload_n hx hb dX5_readNumber_103 rfl (lv_at hl 0 rfl) ?_
      refine lv_bipush (v := (12)) hx hb dX5_readNumber_104 (by decide) ?_
      refine pf_X5_24 F hP hS dX5_readNumber_106 (fun H locs hP hS => ?_)
      obtain ⟨σ4, eσ4, hf⟩ := vl_x hf
      rw [← eσ4] at hP
      refine lv_iload hx hb dX5_readNumber_109 (lv_at hl 3 rfl) ?_
      exact g_iret B hP hS hf dX5_readNumber_111
    · rw [if_neg h3] at hf
      refine lv_iload hx hb dX5_readNumber_97 (lv_at hl 3 rfl) ?_
      refine lv_iload_n hx hb dX5_readNumber_99 rfl (lv_at hl 2 rfl) ?_
      refine lv_icmp_le (tgt := 109) hx hb dX5_readNumber_100 (by decide) (fun h5 => ?_) (fun h5 => ?_)
      · rw [if_pos h5] at hf
        refine lv_iload hx hb dX5_readNumber_109 (lv_at hl 3 rfl) ?_
        exact g_iret B hP hS hf dX5_readNumber_111
      · rw [if_neg h5] at hf
        refine lv_aload_n hx hb dX5_readNumber_103 rfl (lv_at hl 0 rfl) ?_
        refine lv_bipush (v := (12)) hx hb dX5_readNumber_104 (by decide) ?_
        refine pf_X5_24 F hP hS dX5_readNumber_106 (fun H locs hP hS => ?_)
        obtain ⟨σ6, eσ6, hf⟩ := vl_x hf
        rw [← eσ6] at hP
        refine lv_iload hx hb dX5_readNumber_109 (lv_at hl 3 rfl) ?_
        exact g_iret B hP hS hf dX5_readNumber_111
set_option maxHeartbeats 4000000 in
set_option maxRecDepth 100000 in
theorem w_X5_readNumber_6 {p : Program} {l : Launch} {e : Env} {s : State} {m : MethodId} {args : Array Value} {below : List Frame} {meth : Method} {c : Code} {E : cEv} {r : Int32} {σ' : St} (B : gBx p m meth c cX5_readNumber 7 (some .int) s args RX5 (cG E)) {K6 : (Int32 × Int32 × Int32 × Int32 × Int32 × St → Option (Int32 × St))} (hK6 : ∀ a, K6 a = some (r, σ') → P_X5_readNumber_6 p l e s m args below meth c E r σ' a) (a1 : Int32) (a2 : Int32) (a3 : Int32) (a4 : Int32) (a5 : Int32) (σ : St) (hf : b_X5_readNumber_6 K6 a1 a2 a3 a4 a5 σ = some (r, σ')) (H : Heap) (locs : List Loc) (ls : Array Slot) (hP : gW (cG E) σ H) (hS : va_S (gA (cG E)) s.heap H locs) (hl : lv_has ls 7 [(0, .ref (cAd E 3)), (1, .int a1), (2, .int a2), (3, .int a3), (4, .int a4), (5, .int a5)]) : W p l e rm_X5_readNumber s m args below meth c H locs 0 0 (gQi below args s (cG E) r σ') (F0 m 6 ls []) := by
  unfold b_X5_readNumber_6 at hf
  obtain ⟨F, hr, hlk⟩ := id B
  have hx := F.1
  have hb := F.2.1
  have hml := F.2.2.1
  have hown := F.2.2.2.1
  have hts := F.2.2.2.2.1
  refine lv_iload hx hb dX5_readNumber_6 (lv_at hl 5 rfl) ?_
  refine lv_iload_n hx hb dX5_readNumber_8 rfl (lv_at hl 1 rfl) ?_
  refine lv_icmp_ge (tgt := 84) hx hb dX5_readNumber_9 (by decide) (fun h1 => ?_) (fun h1 => ?_)
  · rw [if_pos h1] at hf
    exact w_X5_readNumber_84 B _ _ _ σ hf _ _ _ hP hS (lv_sub hl [0, 2, 3, 4] rfl)
  · rw [if_neg h1] at hf
    refine lv_aload_n hx hb dX5_readNumber_12 rfl (lv_at hl 0 rfl) ?_
    refine gf_X5_24 F hP dX5_readNumber_13 ?_
    refine lv_if_ne (tgt := 84) hx hb dX5_readNumber_16 (by decide) (fun h7 => ?_) (fun h7 => ?_)
    · rw [if_neg h7] at hf
      exact w_X5_readNumber_84 B _ _ _ σ hf _ _ _ hP hS (lv_sub hl [0, 2, 3, 4] rfl)
    · rw [if_pos h7] at hf
      refine lv_aload_n hx hb dX5_readNumber_19 rfl (lv_at hl 0 rfl) ?_
      refine gf_X5_9 F hP dX5_readNumber_20 ?_
      refine lv_aload_n hx hb dX5_readNumber_23 rfl (lv_at hl 0 rfl) ?_
      refine gf_X5_20 F hP dX5_readNumber_24 ?_
      obtain ⟨r9, σ8, h10, hf⟩ := cl_e hf
      refine kc_X5_36 F hP hS (Or.inl rfl) h10 ⟨Nat.le_of_ble_eq_true rfl, Nat.le_of_ble_eq_true rfl⟩ hl.1 (Nat.le_of_ble_eq_true rfl) ⟨Nat.zero_le _, Nat.zero_le _⟩ dX5_readNumber_27 (fun H locs hP hS => ?_)
      refine lv_istore (lv' := [(6, .int r9), (0, .ref (cAd E 3)), (1, .int a1), (2, .int a2), (3, .int a3), (4, .int a4), (5, .int a5)]) hx hb dX5_readNumber_30 hl (by decide) rfl (fun ls hl => ?_)
      refine lv_iload hx hb dX5_readNumber_32 (lv_at hl 0 rfl) ?_
      refine lv_bipush (v := (48)) hx hb dX5_readNumber_34 (by decide) ?_
      refine lv_icmp_lt (tgt := 46) hx hb dX5_readNumber_36 (by decide) (fun h11 => ?_) (fun h11 => ?_)
      · rw [if_pos h11] at hf
        refine lv_aload_n hx hb dX5_readNumber_46 rfl (lv_at hl 1 rfl) ?_
        refine lv_bipush (v := (11)) hx hb dX5_readNumber_47 (by decide) ?_
        refine pf_X5_24 F hP hS dX5_readNumber_49 (fun H locs hP hS => ?_)
        obtain ⟨σ12, eσ12, hf⟩ := vl_x hf
        rw [← eσ12] at hP
        refine lv_goto (tgt := 78) hx hb dX5_readNumber_52 (by decide) ?_
        refine lv_iinc (v := a5 + (1 : Int32)) (lv' := [(5, .int (a5 + (1 : Int32))), (6, .int r9), (0, .ref (cAd E 3)), (1, .int a1), (2, .int a2), (3, .int a3), (4, .int a4)]) hx hb dX5_readNumber_78 hl (k := 6) rfl rfl (by decide) rfl (fun ls hl => ?_)
        obtain ⟨x13, ex13, hf⟩ := vl_x hf
        rw [← ex13] at hl
        refine lv_goto (tgt := 6) hx hb dX5_readNumber_81 (by decide) ?_
        exact hK6 _ hf _ _ _ hP hS (lv_sub hl [2, 3, 4, 5, 6, 0] rfl)
      · rw [if_neg h11] at hf
        refine lv_iload hx hb dX5_readNumber_39 (lv_at hl 0 rfl) ?_
        refine lv_bipush (v := (57)) hx hb dX5_readNumber_41 (by decide) ?_
        refine lv_icmp_le (tgt := 55) hx hb dX5_readNumber_43 (by decide) (fun h14 => ?_) (fun h14 => ?_)
        · rw [if_pos h14] at hf
          refine lv_iload hx hb dX5_readNumber_55 (lv_at hl 5 rfl) ?_
          refine lv_bipush (v := (10)) hx hb dX5_readNumber_57 (by decide) ?_
          refine lv_imul hx hb dX5_readNumber_59 ?_
          refine lv_iload hx hb dX5_readNumber_60 (lv_at hl 0 rfl) ?_
          refine lv_iadd hx hb dX5_readNumber_62 ?_
          refine lv_bipush (v := (48)) hx hb dX5_readNumber_63 (by decide) ?_
          refine lv_isub hx hb dX5_readNumber_65 ?_
          obtain ⟨x15, ex15, hf⟩ := vl_x hf
          rw [← ex15]
          refine lv_istore (lv' := [(4, .int x15), (6, .int r9), (0, .ref (cAd E 3)), (1, .int a1), (2, .int a2), (3, .int a3), (5, .int a5)]) hx hb dX5_readNumber_66 hl (by decide) rfl (fun ls hl => ?_)
          refine lv_aload_n hx hb dX5_readNumber_68 rfl (lv_at hl 2 rfl) ?_
          refine lv_dup hx hb dX5_readNumber_69 rfl ?_
          refine gf_X5_20 F hP dX5_readNumber_70 ?_
          refine lv_iconst (v := 1) hx hb dX5_readNumber_73 (by decide) ?_
          refine lv_iadd hx hb dX5_readNumber_74 ?_
          refine pf_X5_20 F hP hS dX5_readNumber_75 (fun H locs hP hS => ?_)
          obtain ⟨σ16, eσ16, hf⟩ := vl_x hf
          rw [← eσ16] at hP
          refine lv_iinc (v := a5 + (1 : Int32)) (lv' := [(5, .int (a5 + (1 : Int32))), (4, .int x15), (6, .int r9), (0, .ref (cAd E 3)), (1, .int a1), (2, .int a2), (3, .int a3)]) hx hb dX5_readNumber_78 hl (k := 6) rfl rfl (by decide) rfl (fun ls hl => ?_)
          obtain ⟨x17, ex17, hf⟩ := vl_x hf
          rw [← ex17] at hl
          refine lv_goto (tgt := 6) hx hb dX5_readNumber_81 (by decide) ?_
          exact hK6 _ hf _ _ _ hP hS (lv_sub hl [3, 4, 5, 6, 1, 0] rfl)
        · rw [if_neg h14] at hf
          refine lv_aload_n hx hb dX5_readNumber_46 rfl (lv_at hl 1 rfl) ?_
          refine lv_bipush (v := (11)) hx hb dX5_readNumber_47 (by decide) ?_
          refine pf_X5_24 F hP hS dX5_readNumber_49 (fun H locs hP hS => ?_)
          obtain ⟨σ18, eσ18, hf⟩ := vl_x hf
          rw [← eσ18] at hP
          refine lv_goto (tgt := 78) hx hb dX5_readNumber_52 (by decide) ?_
          refine lv_iinc (v := a5 + (1 : Int32)) (lv' := [(5, .int (a5 + (1 : Int32))), (6, .int r9), (0, .ref (cAd E 3)), (1, .int a1), (2, .int a2), (3, .int a3), (4, .int a4)]) hx hb dX5_readNumber_78 hl (k := 6) rfl rfl (by decide) rfl (fun ls hl => ?_)
          obtain ⟨x19, ex19, hf⟩ := vl_x hf
          rw [← ex19] at hl
          refine lv_goto (tgt := 6) hx hb dX5_readNumber_81 (by decide) ?_
          exact hK6 _ hf _ _ _ hP hS (lv_sub hl [2, 3, 4, 5, 6, 0] rfl)
set_option maxHeartbeats 4000000 in
set_option maxRecDepth 100000 in
theorem w_X5_readNumber_e {p : Program} {l : Launch} {e : Env} {s : State} {m : MethodId} {args : Array Value} {below : List Frame} {meth : Method} {c : Code} {E : cEv} {r : Int32} {σ' : St} (B : gBx p m meth c cX5_readNumber 7 (some .int) s args RX5 (cG E)) (p1 : Int32) (p2 : Int32) (p3 : Int32) (σ : St) (hf : f_X5_readNumber p1 p2 p3 σ = some (r, σ')) (H : Heap) (locs : List Loc) (ls : Array Slot) (hP : gW (cG E) σ H) (hS : va_S (gA (cG E)) s.heap H locs) (hl : lv_has ls 7 [(0, .ref (cAd E 3)), (1, .int p1), (2, .int p2), (3, .int p3)]) : W p l e rm_X5_readNumber s m args below meth c H locs 0 0 (gQi below args s (cG E) r σ') (F0 m 0 ls []) := by
  unfold f_X5_readNumber at hf
  obtain ⟨F, hr, hlk⟩ := id B
  have hx := F.1
  have hb := F.2.1
  have hml := F.2.2.1
  have hown := F.2.2.2.1
  have hts := F.2.2.2.2.1
  refine lv_iconst (v := 0) hx hb dX5_readNumber_0 (by decide) ?_
  refine lv_istore (lv' := [(4, .int (0 : Int32)), (0, .ref (cAd E 3)), (1, .int p1), (2, .int p2), (3, .int p3)]) hx hb dX5_readNumber_1 hl (by decide) rfl (fun ls hl => ?_)
  refine lv_iconst (v := 0) hx hb dX5_readNumber_3 (by decide) ?_
  refine lv_istore (lv' := [(5, .int (0 : Int32)), (4, .int (0 : Int32)), (0, .ref (cAd E 3)), (1, .int p1), (2, .int p2), (3, .int p3)]) hx hb dX5_readNumber_4 hl (by decide) rfl (fun ls hl => ?_)
  exact lp_w (P := P_X5_readNumber_6 p l e s m args below meth c E r σ') (fun K hK a ha => w_X5_readNumber_6 B hK a.1 a.2.1 a.2.2.1 a.2.2.2.1 a.2.2.2.2.1 a.2.2.2.2.2 ha) FU _ hf _ _ _ hP hS (lv_sub hl [2, 3, 4, 5, 1, 0] rfl)
theorem c_X5_readNumber (l : Launch) {E : cEv} (hI : gIj (cG E)) {p1 : Int32} {p2 : Int32} {p3 : Int32} {σ σ' : St} {r : Int32} (hf : f_X5_readNumber p1 p2 p3 σ = some (r, σ')) : gMi l yX5_readNumber cX5_readNumber 7 .int rm_X5_readNumber [.ref (cAd E 3), .int p1, .int p2, .int p3] (cG E) σ r σ' :=
  g_entry (by decide) (Nat.le_of_ble_eq_true rfl) hI (fun p e s m args below meth c B hP hS ls hl => w_X5_readNumber_e B _ _ _ σ hf _ _ ls hP hS hl)
/-! PromisedSlots$Reader.readEnd()V -/
def f_X5_readEnd (σ : St) : Option (Unit × St) :=
  if (σ 3 2) = 0 then
    cl (f_X6_at 1 (σ 3 1) σ) fun r4 σ3 =>
    if r4 = (59 : Int32) then
      vl (up2 σ3 3 1 ((σ3 3 1) + (1 : Int32))) fun σ7 =>
      some ((), σ7)
    else
      vl (up2 σ3 3 2 (11 : Int32)) fun σ8 =>
      vl (up2 σ8 3 1 ((σ8 3 1) + (1 : Int32))) fun σ9 =>
      some ((), σ9)
  else
    vl (up2 σ 3 1 ((σ 3 1) + (1 : Int32))) fun σ2 =>
    some ((), σ2)
abbrev rm_X5_readEnd : Room := { frames := 1, cells := 0, slots := 0, locals := 21 }
set_option maxHeartbeats 4000000 in
set_option maxRecDepth 100000 in
theorem w_X5_readEnd_e {p : Program} {l : Launch} {e : Env} {s : State} {m : MethodId} {args : Array Value} {below : List Frame} {meth : Method} {c : Code} {E : cEv} {u : Unit} {σ' : St} (B : gBx p m meth c cX5_readEnd 1 none s args RX5 (cG E)) (σ : St) (hf : f_X5_readEnd σ = some (u, σ')) (H : Heap) (locs : List Loc) (ls : Array Slot) (hP : gW (cG E) σ H) (hS : va_S (gA (cG E)) s.heap H locs) (hl : lv_has ls 1 [(0, .ref (cAd E 3))]) : W p l e rm_X5_readEnd s m args below meth c H locs 0 0 (gQv below args s (cG E) σ') (F0 m 0 ls []) := by
  unfold f_X5_readEnd at hf
  obtain ⟨F, hr, hlk⟩ := id B
  have hx := F.1
  have hb := F.2.1
  have hml := F.2.2.1
  have hown := F.2.2.2.1
  have hts := F.2.2.2.2.1
  refine lv_aload_n hx hb dX5_readEnd_0 rfl (lv_at hl 0 rfl) ?_
  refine gf_X5_24 F hP dX5_readEnd_1 ?_
  refine lv_if_ne (tgt := 29) hx hb dX5_readEnd_4 (by decide) (fun h1 => ?_) (fun h1 => ?_)
  · rw [if_neg h1] at hf
    refine lv_aload_n hx hb dX5_readEnd_29 rfl (lv_at hl 0 rfl) ?_
    refine lv_dup hx hb dX5_readEnd_30 rfl ?_
    refine gf_X5_20 F hP dX5_readEnd_31 ?_
    refine lv_iconst (v := 1) hx hb dX5_readEnd_34 (by decide) ?_
    refine lv_iadd hx hb dX5_readEnd_35 ?_
    refine pf_X5_20 F hP hS dX5_readEnd_36 (fun H locs hP hS => ?_)
    obtain ⟨σ2, eσ2, hf⟩ := vl_x hf
    rw [← eσ2] at hP
    exact g_vret B hP hS hf dX5_readEnd_39
  · rw [if_pos h1] at hf
    refine lv_aload_n hx hb dX5_readEnd_7 rfl (lv_at hl 0 rfl) ?_
    refine gf_X5_9 F hP dX5_readEnd_8 ?_
    refine lv_aload_n hx hb dX5_readEnd_11 rfl (lv_at hl 0 rfl) ?_
    refine gf_X5_20 F hP dX5_readEnd_12 ?_
    obtain ⟨r4, σ3, h5, hf⟩ := cl_e hf
    refine kc_X5_36 F hP hS (Or.inl rfl) h5 ⟨Nat.le_of_ble_eq_true rfl, Nat.le_of_ble_eq_true rfl⟩ hl.1 (Nat.le_of_ble_eq_true rfl) ⟨Nat.zero_le _, Nat.zero_le _⟩ dX5_readEnd_15 (fun H locs hP hS => ?_)
    refine lv_bipush (v := (59)) hx hb dX5_readEnd_18 (by decide) ?_
    refine lv_icmp_eq (tgt := 29) hx hb dX5_readEnd_20 (by decide) (fun h6 => ?_) (fun h6 => ?_)
    · rw [if_pos h6] at hf
      refine lv_aload_n hx hb dX5_readEnd_29 rfl (lv_at hl 0 rfl) ?_
      refine lv_dup hx hb dX5_readEnd_30 rfl ?_
      refine gf_X5_20 F hP dX5_readEnd_31 ?_
      refine lv_iconst (v := 1) hx hb dX5_readEnd_34 (by decide) ?_
      refine lv_iadd hx hb dX5_readEnd_35 ?_
      refine pf_X5_20 F hP hS dX5_readEnd_36 (fun H locs hP hS => ?_)
      obtain ⟨σ7, eσ7, hf⟩ := vl_x hf
      rw [← eσ7] at hP
      exact g_vret B hP hS hf dX5_readEnd_39
    · rw [if_neg h6] at hf
      refine lv_aload_n hx hb dX5_readEnd_23 rfl (lv_at hl 0 rfl) ?_
      refine lv_bipush (v := (11)) hx hb dX5_readEnd_24 (by decide) ?_
      refine pf_X5_24 F hP hS dX5_readEnd_26 (fun H locs hP hS => ?_)
      obtain ⟨σ8, eσ8, hf⟩ := vl_x hf
      rw [← eσ8] at hP
      refine lv_aload_n hx hb dX5_readEnd_29 rfl (lv_at hl 0 rfl) ?_
      refine lv_dup hx hb dX5_readEnd_30 rfl ?_
      refine gf_X5_20 F hP dX5_readEnd_31 ?_
      refine lv_iconst (v := 1) hx hb dX5_readEnd_34 (by decide) ?_
      refine lv_iadd hx hb dX5_readEnd_35 ?_
      refine pf_X5_20 F hP hS dX5_readEnd_36 (fun H locs hP hS => ?_)
      obtain ⟨σ9, eσ9, hf⟩ := vl_x hf
      rw [← eσ9] at hP
      exact g_vret B hP hS hf dX5_readEnd_39
theorem c_X5_readEnd (l : Launch) {E : cEv} (hI : gIj (cG E)) {σ σ' : St} {u : Unit} (hf : f_X5_readEnd σ = some (u, σ')) : gMv l yX5_readEnd cX5_readEnd 1 rm_X5_readEnd [.ref (cAd E 3)] (cG E) σ σ' :=
  g_entry (by decide) (Nat.le_of_ble_eq_true rfl) hI (fun p e s m args below meth c B hP hS ls hl => w_X5_readEnd_e B σ hf _ _ ls hP hS hl)
section SB
variable {p : Program} {l : Launch} {e : Env} {R : Room} {s : State} {m : MethodId} {args : Array Value} {below : List Frame} {meth : Method} {c : Code} {H : Heap} {locs : List Loc} {cells slots : Nat} {Q : State → Prop}
variable {cc : ByteArray} {pc nL : Nat} {ls : Array Slot} {rest : List Value} {E : cEv} {σ : St}
theorem kc_X5_58 (F : gFx p m c cc nL s args RX5 (cG E)) (hP : gW (cG E) σ H) (hS : va_S (gA (cG E)) s.heap H locs) {p1 : Int32} {p2 : Int32} {p3 : Int32} {r : Int32} {σ' : St} (hf : f_X5_readNumber p1 p2 p3 σ = some (r, σ')) (hR : rm_X5_readNumber.frames + 1 ≤ R.frames ∧ 8 + (7 + 11) + rm_X5_readNumber.locals ≤ R.locals) (hsz : ls.size = nL) (hrest : (rest.map fun v => v.category).sum ≤ 8) (hcs : cells ≤ R.cells ∧ slots ≤ R.slots) (hdg : decode cc pc = .ok (.invokevirtual 58, 3)) (kk : ∀ (H1 : Heap) (locs1 : List Loc), gW (cG E) σ' H1 → va_S (gA (cG E)) s.heap H1 locs1 → W p l e R s m args below meth c H1 locs1 cells slots Q (F0 m (pc + 3) ls (.int r :: rest))) : W p l e R s m args below meth c H locs cells slots Q (F0 m pc ls (.int p3 :: .int p2 :: .int p1 :: .ref (cAd E 3) :: rest)) :=
  g_callVi F hP hS (c_X5_readNumber l F.2.2.2.2.2.2.2 hf) (g_cwV (n := 3) F tw_350 tw_352 ts_2 tw_4 tw_353 (by decide +kernel) rfl rfl hR) (k := 3) (cin (by omega)) (ce_5 E _) rfl (As := [.int p1, .int p2, .int p3]) rfl hsz rfl hrest hdg hcs kk
theorem kc_X5_68 (F : gFx p m c cc nL s args RX5 (cG E)) (hP : gW (cG E) σ H) (hS : va_S (gA (cG E)) s.heap H locs) {u : Unit} {σ' : St} (hf : f_X5_readEnd σ = some (u, σ')) (hR : rm_X5_readEnd.frames + 1 ≤ R.frames ∧ 8 + (1 + 11) + rm_X5_readEnd.locals ≤ R.locals) (hsz : ls.size = nL) (hrest : (rest.map fun v => v.category).sum ≤ 8) (hcs : cells ≤ R.cells ∧ slots ≤ R.slots) (hdg : decode cc pc = .ok (.invokevirtual 68, 3)) (kk : ∀ (H1 : Heap) (locs1 : List Loc), gW (cG E) σ' H1 → va_S (gA (cG E)) s.heap H1 locs1 → W p l e R s m args below meth c H1 locs1 cells slots Q (F0 m (pc + 3) ls rest)) : W p l e R s m args below meth c H locs cells slots Q (F0 m pc ls (.ref (cAd E 3) :: rest)) :=
  g_callVv F hP hS (c_X5_readEnd l F.2.2.2.2.2.2.2 hf) (g_cwV (n := 0) F tw_357 tw_359 ts_3 tw_4 tw_360 (by decide +kernel) rfl rfl hR) (k := 3) (cin (by omega)) (ce_5 E _) rfl (As := []) rfl hsz rfl hrest hdg hcs kk
theorem kc_X5_71 (F : gFx p m c cc nL s args RX5 (cG E)) (hP : gW (cG E) σ H) (hS : va_S (gA (cG E)) s.heap H locs) {o : Nat} (ho : o = 8 ∨ o = 14) {p1 : Int32} {p2 : Int32} {p3 : Int32} {u : Unit} {σ' : St} (hf : f_X3_setOrders o p1 p2 p3 σ = some (u, σ')) (hR : rm_X3_setOrders.frames + 1 ≤ R.frames ∧ 8 + (4 + 11) + rm_X3_setOrders.locals ≤ R.locals) (hsz : ls.size = nL) (hrest : (rest.map fun v => v.category).sum ≤ 8) (hcs : cells ≤ R.cells ∧ slots ≤ R.slots) (hdg : decode cc pc = .ok (.invokevirtual 71, 3)) (kk : ∀ (H1 : Heap) (locs1 : List Loc), gW (cG E) σ' H1 → va_S (gA (cG E)) s.heap H1 locs1 → W p l e R s m args below meth c H1 locs1 cells slots Q (F0 m (pc + 3) ls rest)) : W p l e R s m args below meth c H locs cells slots Q (F0 m pc ls (.int p3 :: .int p2 :: .int p1 :: .ref (cAd E o) :: rest)) :=
  g_callVv F hP hS (c_X3_setOrders l F.2.2.2.2.2.2.2 ho hf) (g_cwV (n := 3) F tw_361 tw_362 tw_363 tw_5 tw_364 (by decide +kernel) rfl rfl hR) (k := o) (cin (by omega)) (ce_3 E _ ho) rfl (As := [.int p1, .int p2, .int p3]) rfl hsz rfl hrest hdg hcs kk
end SB
/-! PromisedSlots$Reader.readOrders(LPromisedSlots$Layout;)V -/
def f_X5_readOrders (p1 : Nat) (σ : St) : Option (Unit × St) :=
  cl (f_X5_readNumber (1 : Int32) (0 : Int32) (5 : Int32) σ) fun r2 σ1 =>
  vl (if r2 < (3 : Int32) then r2 else (3 : Int32)) fun x4 =>
  cl (f_X5_readNumber (1 : Int32) (0 : Int32) x4 σ1) fun r6 σ5 =>
  cl (f_X5_readNumber (1 : Int32) (1 : Int32) (9 : Int32) σ5) fun r9 σ8 =>
  cl (f_X5_readEnd σ8) fun r12 σ11 =>
  if (σ11 3 2) = 0 then
    cl (f_X3_setOrders p1 r2 r6 r9 σ11) fun r16 σ15 =>
    some ((), σ15)
  else
    some ((), σ11)
abbrev rm_X5_readOrders : Room := { frames := 2, cells := 0, slots := 0, locals := 47 }
set_option maxHeartbeats 4000000 in
set_option maxRecDepth 100000 in
theorem w_X5_readOrders_e {p : Program} {l : Launch} {e : Env} {s : State} {m : MethodId} {args : Array Value} {below : List Frame} {meth : Method} {c : Code} {E : cEv} {u : Unit} {σ' : St} {p1 : Nat} (hp1 : p1 = 8 ∨ p1 = 14) (B : gBx p m meth c cX5_readOrders 5 none s args RX5 (cG E)) (σ : St) (hf : f_X5_readOrders p1 σ = some (u, σ')) (H : Heap) (locs : List Loc) (ls : Array Slot) (hP : gW (cG E) σ H) (hS : va_S (gA (cG E)) s.heap H locs) (hl : lv_has ls 5 [(0, .ref (cAd E 3)), (1, .ref (cAd E p1))]) : W p l e rm_X5_readOrders s m args below meth c H locs 0 0 (gQv below args s (cG E) σ') (F0 m 0 ls []) := by
  unfold f_X5_readOrders at hf
  obtain ⟨F, hr, hlk⟩ := id B
  have hx := F.1
  have hb := F.2.1
  have hml := F.2.2.1
  have hown := F.2.2.2.1
  have hts := F.2.2.2.2.1
  refine lv_aload_n hx hb dX5_readOrders_0 rfl (lv_at hl 0 rfl) ?_
  refine lv_iconst (v := 1) hx hb dX5_readOrders_1 (by decide) ?_
  refine lv_iconst (v := 0) hx hb dX5_readOrders_2 (by decide) ?_
  refine lv_iconst (v := 5) hx hb dX5_readOrders_3 (by decide) ?_
  obtain ⟨r2, σ1, h3, hf⟩ := cl_e hf
  refine kc_X5_58 F hP hS h3 ⟨Nat.le_of_ble_eq_true rfl, Nat.le_of_ble_eq_true rfl⟩ hl.1 (Nat.le_of_ble_eq_true rfl) ⟨Nat.zero_le _, Nat.zero_le _⟩ dX5_readOrders_4 (fun H locs hP hS => ?_)
  refine lv_istore_n (lv' := [(2, .int r2), (0, .ref (cAd E 3)), (1, .ref (cAd E p1))]) hx hb dX5_readOrders_7 rfl hl (by decide) rfl (fun ls hl => ?_)
  refine lv_aload_n hx hb dX5_readOrders_8 rfl (lv_at hl 1 rfl) ?_
  refine lv_iconst (v := 1) hx hb dX5_readOrders_9 (by decide) ?_
  refine lv_iconst (v := 0) hx hb dX5_readOrders_10 (by decide) ?_
  refine lv_iconst (v := 3) hx hb dX5_readOrders_11 (by decide) ?_
  refine lv_iload_n hx hb dX5_readOrders_12 rfl (lv_at hl 0 rfl) ?_
  refine va_mmin hx hb (hml.trans hl.1.symm) hown (hts _ tw_354) (hts _ tw_355) (hts _ tw_3) (hts _ tw_356) (Nat.le_of_ble_eq_true rfl) (Nat.le_of_ble_eq_true rfl) (Nat.zero_le _) (Nat.zero_le _) dX5_readOrders_13 ?_
  obtain ⟨x4, ex4, hf⟩ := vl_x hf
  rw [← ex4]
  obtain ⟨r6, σ5, h7, hf⟩ := cl_e hf
  refine kc_X5_58 F hP hS h7 ⟨Nat.le_of_ble_eq_true rfl, Nat.le_of_ble_eq_true rfl⟩ hl.1 (Nat.le_of_ble_eq_true rfl) ⟨Nat.zero_le _, Nat.zero_le _⟩ dX5_readOrders_16 (fun H locs hP hS => ?_)
  refine lv_istore_n (lv' := [(3, .int r6), (2, .int r2), (0, .ref (cAd E 3)), (1, .ref (cAd E p1))]) hx hb dX5_readOrders_19 rfl hl (by decide) rfl (fun ls hl => ?_)
  refine lv_aload_n hx hb dX5_readOrders_20 rfl (lv_at hl 2 rfl) ?_
  refine lv_iconst (v := 1) hx hb dX5_readOrders_21 (by decide) ?_
  refine lv_iconst (v := 1) hx hb dX5_readOrders_22 (by decide) ?_
  refine lv_bipush (v := (9)) hx hb dX5_readOrders_23 (by decide) ?_
  obtain ⟨r9, σ8, h10, hf⟩ := cl_e hf
  refine kc_X5_58 F hP hS h10 ⟨Nat.le_of_ble_eq_true rfl, Nat.le_of_ble_eq_true rfl⟩ hl.1 (Nat.le_of_ble_eq_true rfl) ⟨Nat.zero_le _, Nat.zero_le _⟩ dX5_readOrders_25 (fun H locs hP hS => ?_)
  refine lv_istore (lv' := [(4, .int r9), (3, .int r6), (2, .int r2), (0, .ref (cAd E 3)), (1, .ref (cAd E p1))]) hx hb dX5_readOrders_28 hl (by decide) rfl (fun ls hl => ?_)
  refine lv_aload_n hx hb dX5_readOrders_30 rfl (lv_at hl 3 rfl) ?_
  obtain ⟨r12, σ11, h13, hf⟩ := cl_e hf
  refine kc_X5_68 F hP hS h13 ⟨Nat.le_of_ble_eq_true rfl, Nat.le_of_ble_eq_true rfl⟩ hl.1 (Nat.le_of_ble_eq_true rfl) ⟨Nat.zero_le _, Nat.zero_le _⟩ dX5_readOrders_31 (fun H locs hP hS => ?_)
  refine lv_aload_n hx hb dX5_readOrders_34 rfl (lv_at hl 3 rfl) ?_
  refine gf_X5_24 F hP dX5_readOrders_35 ?_
  refine lv_if_ne (tgt := 49) hx hb dX5_readOrders_38 (by decide) (fun h14 => ?_) (fun h14 => ?_)
  · rw [if_neg h14] at hf
    exact g_vret B hP hS hf dX5_readOrders_49
  · rw [if_pos h14] at hf
    refine lv_aload_n hx hb dX5_readOrders_41 rfl (lv_at hl 4 rfl) ?_
    refine lv_iload_n hx hb dX5_readOrders_42 rfl (lv_at hl 2 rfl) ?_
    refine lv_iload_n hx hb dX5_readOrders_43 rfl (lv_at hl 1 rfl) ?_
    refine lv_iload hx hb dX5_readOrders_44 (lv_at hl 0 rfl) ?_
    obtain ⟨r16, σ15, h17, hf⟩ := cl_e hf
    refine kc_X5_71 F hP hS hp1 h17 ⟨Nat.le_of_ble_eq_true rfl, Nat.le_of_ble_eq_true rfl⟩ hl.1 (Nat.le_of_ble_eq_true rfl) ⟨Nat.zero_le _, Nat.zero_le _⟩ dX5_readOrders_46 (fun H locs hP hS => ?_)
    exact g_vret B hP hS hf dX5_readOrders_49
theorem c_X5_readOrders (l : Launch) {E : cEv} (hI : gIj (cG E)) {p1 : Nat} (hp1 : p1 = 8 ∨ p1 = 14) {σ σ' : St} {u : Unit} (hf : f_X5_readOrders p1 σ = some (u, σ')) : gMv l yX5_readOrders cX5_readOrders 5 rm_X5_readOrders [.ref (cAd E 3), .ref (cAd E p1)] (cG E) σ σ' :=
  g_entry (by decide) (Nat.le_of_ble_eq_true rfl) hI (fun p e s m args below meth c B hP hS ls hl => w_X5_readOrders_e hp1 B σ hf _ _ ls hP hS hl)
section SB
variable {p : Program} {l : Launch} {e : Env} {R : Room} {s : State} {m : MethodId} {args : Array Value} {below : List Frame} {meth : Method} {c : Code} {H : Heap} {locs : List Loc} {cells slots : Nat} {Q : State → Prop}
variable {cc : ByteArray} {pc nL : Nat} {ls : Array Slot} {rest : List Value} {E : cEv} {σ : St}
theorem gf_X5_43 (F : gFx p m c cc nL s args RX5 (cG E)) (hP : gW (cG E) σ H) {o : Nat} (ho : o = 8 ∨ o = 14) (hdg : decode cc pc = .ok (.getfield 43, 3)) (kk : W p l e R s m args below meth c H locs cells slots Q (F0 m (pc + 3) ls (.int (σ o 5) :: rest))) : W p l e R s m args below meth c H locs cells slots Q (F0 m pc ls (.ref (cAd E o) :: rest)) :=
  g_getN F hP (k := o) (cin (by omega)) (ce_3 E _ ho) rfl inX3 5 (by decide) tw_83 rfl rfl hdg kk
theorem gf_X5_75 (F : gFx p m c cc nL s args RX5 (cG E)) (hP : gW (cG E) σ H) {o : Nat} (ho : o = 8 ∨ o = 14) (hdg : decode cc pc = .ok (.getfield 75, 3)) (kk : W p l e R s m args below meth c H locs cells slots Q (F0 m (pc + 3) ls (.int (σ o 0) :: rest))) : W p l e R s m args below meth c H locs cells slots Q (F0 m pc ls (.ref (cAd E o) :: rest)) :=
  g_getN F hP (k := o) (cin (by omega)) (ce_3 E _ ho) rfl inX3 0 (by decide) tw_71 rfl rfl hdg kk
theorem kc_X5_78 (F : gFx p m c cc nL s args RX5 (cG E)) (hP : gW (cG E) σ H) (hS : va_S (gA (cG E)) s.heap H locs) {o : Nat} (ho : o = 8 ∨ o = 14) {p1 : Int32} {p2 : Int32} {r : Int32} {σ' : St} (hf : f_X3_startBehind o p1 p2 σ = some (r, σ')) (hR : rm_X3_startBehind.frames + 1 ≤ R.frames ∧ 8 + (4 + 11) + rm_X3_startBehind.locals ≤ R.locals) (hsz : ls.size = nL) (hrest : (rest.map fun v => v.category).sum ≤ 8) (hcs : cells ≤ R.cells ∧ slots ≤ R.slots) (hdg : decode cc pc = .ok (.invokevirtual 78, 3)) (kk : ∀ (H1 : Heap) (locs1 : List Loc), gW (cG E) σ' H1 → va_S (gA (cG E)) s.heap H1 locs1 → W p l e R s m args below meth c H1 locs1 cells slots Q (F0 m (pc + 3) ls (.int r :: rest))) : W p l e R s m args below meth c H locs cells slots Q (F0 m pc ls (.int p2 :: .int p1 :: .ref (cAd E o) :: rest)) :=
  g_callVi F hP hS (c_X3_startBehind l F.2.2.2.2.2.2.2 ho hf) (g_cwV (n := 2) F tw_369 tw_370 tw_371 tw_5 tw_372 (by decide +kernel) rfl rfl hR) (k := o) (cin (by omega)) (ce_3 E _ ho) rfl (As := [.int p1, .int p2]) rfl hsz rfl hrest hdg hcs kk
theorem kc_X5_87 (F : gFx p m c cc nL s args RX5 (cG E)) (hP : gW (cG E) σ H) (hS : va_S (gA (cG E)) s.heap H locs) {o : Nat} (ho : o = 8 ∨ o = 14) {p1 : Int32} {p2 : Int32} {u : Unit} {σ' : St} (hf : f_X3_addCoordinator o p1 p2 σ = some (u, σ')) (hR : rm_X3_addCoordinator.frames + 1 ≤ R.frames ∧ 8 + (4 + 11) + rm_X3_addCoordinator.locals ≤ R.locals) (hsz : ls.size = nL) (hrest : (rest.map fun v => v.category).sum ≤ 8) (hcs : cells ≤ R.cells ∧ slots ≤ R.slots) (hdg : decode cc pc = .ok (.invokevirtual 87, 3)) (kk : ∀ (H1 : Heap) (locs1 : List Loc), gW (cG E) σ' H1 → va_S (gA (cG E)) s.heap H1 locs1 → W p l e R s m args below meth c H1 locs1 cells slots Q (F0 m (pc + 3) ls rest)) : W p l e R s m args below meth c H locs cells slots Q (F0 m pc ls (.int p2 :: .int p1 :: .ref (cAd E o) :: rest)) :=
  g_callVv F hP hS (c_X3_addCoordinator l F.2.2.2.2.2.2.2 ho hf) (g_cwV (n := 2) F tw_384 tw_335 tw_336 tw_5 tw_337 (by decide +kernel) rfl rfl hR) (k := o) (cin (by omega)) (ce_3 E _ ho) rfl (As := [.int p1, .int p2]) rfl hsz rfl hrest hdg hcs kk
theorem kc_X5_81 (F : gFx p m c cc nL s args RX5 (cG E)) (hP : gW (cG E) σ H) (hS : va_S (gA (cG E)) s.heap H locs) {o : Nat} (ho : o = 8 ∨ o = 14) {p1 : Int32} {r : Int32} {σ' : St} (hf : f_X3_clashOf o p1 σ = some (r, σ')) (hR : rm_X3_clashOf.frames + 1 ≤ R.frames ∧ 8 + (4 + 11) + rm_X3_clashOf.locals ≤ R.locals) (hsz : ls.size = nL) (hrest : (rest.map fun v => v.category).sum ≤ 8) (hcs : cells ≤ R.cells ∧ slots ≤ R.slots) (hdg : decode cc pc = .ok (.invokevirtual 81, 3)) (kk : ∀ (H1 : Heap) (locs1 : List Loc), gW (cG E) σ' H1 → va_S (gA (cG E)) s.heap H1 locs1 → W p l e R s m args below meth c H1 locs1 cells slots Q (F0 m (pc + 3) ls (.int r :: rest))) : W p l e R s m args below meth c H locs cells slots Q (F0 m pc ls (.int p1 :: .ref (cAd E o) :: rest)) :=
  g_callVi F hP hS (c_X3_clashOf l F.2.2.2.2.2.2.2 ho hf) (g_cwV (n := 1) F tw_377 tw_378 tw_379 tw_5 tw_380 (by decide +kernel) rfl rfl hR) (k := o) (cin (by omega)) (ce_3 E _ ho) rfl (As := [.int p1]) rfl hsz rfl hrest hdg hcs kk
theorem pf_X5_84 (F : gFx p m c cc nL s args RX5 (cG E)) (hP : gW (cG E) σ H) (hS : va_S (gA (cG E)) s.heap H locs) {x : Int32} (hdg : decode cc pc = .ok (.putfield 84, 3)) (kk : ∀ (H1 : Heap) (locs1 : List Loc), gW (cG E) (up2 σ 3 3 x) H1 → va_S (gA (cG E)) s.heap H1 locs1 → W p l e R s m args below meth c H1 locs1 cells slots Q (F0 m (pc + 3) ls rest)) : W p l e R s m args below meth c H locs cells slots Q (F0 m pc ls (.int x :: .ref (cAd E 3) :: rest)) :=
  g_put F hP hS (k := 3) (cin (by omega)) (ce_5 E _) rfl inX5 tyX5 tyX5_ok nmX5 3 (by decide) tw_53 rfl rfl rfl rfl (Nat.le_of_ble_eq_true rfl) (x := x) (jj := 3) (ce_5 E _) hdg kk
theorem gf_X5_84 (F : gFx p m c cc nL s args RX5 (cG E)) (hP : gW (cG E) σ H) (hdg : decode cc pc = .ok (.getfield 84, 3)) (kk : W p l e R s m args below meth c H locs cells slots Q (F0 m (pc + 3) ls (.int (σ 3 3) :: rest))) : W p l e R s m args below meth c H locs cells slots Q (F0 m pc ls (.ref (cAd E 3) :: rest)) :=
  g_get F hP (k := 3) (cin (by omega)) (ce_5 E _) rfl inX5 3 (by decide) tw_53 rfl rfl hdg kk
end SB
/-! PromisedSlots$Reader.readCoordinator(LPromisedSlots$Layout;)V -/
def f_X5_readCoordinator (p1 : Nat) (σ : St) : Option (Unit × St) :=
  cl (f_X5_readNumber (1 : Int32) (0 : Int32) ((σ p1 5) - (1 : Int32)) σ) fun r2 σ1 =>
  cl (f_X5_readNumber (4 : Int32) (0 : Int32) ((σ1 p1 0) - (1 : Int32)) σ1) fun r5 σ4 =>
  cl (f_X3_startBehind p1 r2 r5 σ4) fun r8 σ7 =>
  if (σ7 3 2) = 0 then
    cl (f_X3_clashOf p1 r8 σ7) fun r19 σ18 =>
    vl (up2 σ18 3 3 r19) fun σ21 =>
    if (σ21 3 3) = (-4 : Int32) then
      vl (up2 σ21 3 2 (0 : Int32)) fun σ31 =>
      cl (f_X5_readEnd σ31) fun r33 σ32 =>
      if (σ32 3 2) = 0 then
        cl (f_X3_addCoordinator p1 r2 r8 σ32) fun r37 σ36 =>
        some ((), σ36)
      else
        some ((), σ32)
    else
      vl (up2 σ21 3 2 (13 : Int32)) fun σ23 =>
      cl (f_X5_readEnd σ23) fun r25 σ24 =>
      if (σ24 3 2) = 0 then
        cl (f_X3_addCoordinator p1 r2 r8 σ24) fun r29 σ28 =>
        some ((), σ28)
      else
        some ((), σ24)
  else
    cl (f_X5_readEnd σ7) fun r12 σ11 =>
    if (σ11 3 2) = 0 then
      cl (f_X3_addCoordinator p1 r2 r8 σ11) fun r16 σ15 =>
      some ((), σ15)
    else
      some ((), σ11)
abbrev rm_X5_readCoordinator : Room := { frames := 2, cells := 0, slots := 0, locals := 47 }
set_option maxHeartbeats 4000000 in
set_option maxRecDepth 100000 in
theorem w_X5_readCoordinator_e {p : Program} {l : Launch} {e : Env} {s : State} {m : MethodId} {args : Array Value} {below : List Frame} {meth : Method} {c : Code} {E : cEv} {u : Unit} {σ' : St} {p1 : Nat} (hp1 : p1 = 8 ∨ p1 = 14) (B : gBx p m meth c cX5_readCoordinator 5 none s args RX5 (cG E)) (σ : St) (hf : f_X5_readCoordinator p1 σ = some (u, σ')) (H : Heap) (locs : List Loc) (ls : Array Slot) (hP : gW (cG E) σ H) (hS : va_S (gA (cG E)) s.heap H locs) (hl : lv_has ls 5 [(0, .ref (cAd E 3)), (1, .ref (cAd E p1))]) : W p l e rm_X5_readCoordinator s m args below meth c H locs 0 0 (gQv below args s (cG E) σ') (F0 m 0 ls []) := by
  unfold f_X5_readCoordinator at hf
  obtain ⟨F, hr, hlk⟩ := id B
  have hx := F.1
  have hb := F.2.1
  have hml := F.2.2.1
  have hown := F.2.2.2.1
  have hts := F.2.2.2.2.1
  refine lv_aload_n hx hb dX5_readCoordinator_0 rfl (lv_at hl 0 rfl) ?_
  refine lv_iconst (v := 1) hx hb dX5_readCoordinator_1 (by decide) ?_
  refine lv_iconst (v := 0) hx hb dX5_readCoordinator_2 (by decide) ?_
  refine lv_aload_n hx hb dX5_readCoordinator_3 rfl (lv_at hl 1 rfl) ?_
  refine gf_X5_43 F hP hp1 dX5_readCoordinator_4 ?_
  refine lv_iconst (v := 1) hx hb dX5_readCoordinator_7 (by decide) ?_
  refine lv_isub hx hb dX5_readCoordinator_8 ?_
  obtain ⟨r2, σ1, h3, hf⟩ := cl_e hf
  refine kc_X5_58 F hP hS h3 ⟨Nat.le_of_ble_eq_true rfl, Nat.le_of_ble_eq_true rfl⟩ hl.1 (Nat.le_of_ble_eq_true rfl) ⟨Nat.zero_le _, Nat.zero_le _⟩ dX5_readCoordinator_9 (fun H locs hP hS => ?_)
  refine lv_istore_n (lv' := [(2, .int r2), (0, .ref (cAd E 3)), (1, .ref (cAd E p1))]) hx hb dX5_readCoordinator_12 rfl hl (by decide) rfl (fun ls hl => ?_)
  refine lv_aload_n hx hb dX5_readCoordinator_13 rfl (lv_at hl 1 rfl) ?_
  refine lv_iconst (v := 4) hx hb dX5_readCoordinator_14 (by decide) ?_
  refine lv_iconst (v := 0) hx hb dX5_readCoordinator_15 (by decide) ?_
  refine lv_aload_n hx hb dX5_readCoordinator_16 rfl (lv_at hl 2 rfl) ?_
  refine gf_X5_75 F hP hp1 dX5_readCoordinator_17 ?_
  refine lv_iconst (v := 1) hx hb dX5_readCoordinator_20 (by decide) ?_
  refine lv_isub hx hb dX5_readCoordinator_21 ?_
  obtain ⟨r5, σ4, h6, hf⟩ := cl_e hf
  refine kc_X5_58 F hP hS h6 ⟨Nat.le_of_ble_eq_true rfl, Nat.le_of_ble_eq_true rfl⟩ hl.1 (Nat.le_of_ble_eq_true rfl) ⟨Nat.zero_le _, Nat.zero_le _⟩ dX5_readCoordinator_22 (fun H locs hP hS => ?_)
  refine lv_istore_n (lv' := [(3, .int r5), (2, .int r2), (0, .ref (cAd E 3)), (1, .ref (cAd E p1))]) hx hb dX5_readCoordinator_25 rfl hl (by decide) rfl (fun ls hl => ?_)
  refine lv_aload_n hx hb dX5_readCoordinator_26 rfl (lv_at hl 3 rfl) ?_
  refine lv_iload_n hx hb dX5_readCoordinator_27 rfl (lv_at hl 1 rfl) ?_
  refine lv_iload_n hx hb dX5_readCoordinator_28 rfl (lv_at hl 0 rfl) ?_
  obtain ⟨r8, σ7, h9, hf⟩ := cl_e hf
  refine kc_X5_78 F hP hS hp1 h9 ⟨Nat.le_of_ble_eq_true rfl, Nat.le_of_ble_eq_true rfl⟩ hl.1 (Nat.le_of_ble_eq_true rfl) ⟨Nat.zero_le _, Nat.zero_le _⟩ dX5_readCoordinator_29 (fun H locs hP hS => ?_)
  refine lv_istore (lv' := [(4, .int r8), (3, .int r5), (2, .int r2), (0, .ref (cAd E 3)), (1, .ref (cAd E p1))]) hx hb dX5_readCoordinator_32 hl (by decide) rfl (fun ls hl => ?_)
  refine lv_aload_n hx hb dX5_readCoordinator_34 rfl (lv_at hl 3 rfl) ?_
  refine gf_X5_24 F hP dX5_readCoordinator_35 ?_
  refine lv_if_ne (tgt := 70) hx hb dX5_readCoordinator_38 (by decide) (fun h10 => ?_) (fun h10 => ?_)
  · rw [if_neg h10] at hf
    refine lv_aload_n hx hb dX5_readCoordinator_70 rfl (lv_at hl 3 rfl) ?_
    obtain ⟨r12, σ11, h13, hf⟩ := cl_e hf
    refine kc_X5_68 F hP hS h13 ⟨Nat.le_of_ble_eq_true rfl, Nat.le_of_ble_eq_true rfl⟩ hl.1 (Nat.le_of_ble_eq_true rfl) ⟨Nat.zero_le _, Nat.zero_le _⟩ dX5_readCoordinator_71 (fun H locs hP hS => ?_)
    refine lv_aload_n hx hb dX5_readCoordinator_74 rfl (lv_at hl 3 rfl) ?_
    refine gf_X5_24 F hP dX5_readCoordinator_75 ?_
    refine lv_if_ne (tgt := 88) hx hb dX5_readCoordinator_78 (by decide) (fun h14 => ?_) (fun h14 => ?_)
    · rw [if_neg h14] at hf
      exact g_vret B hP hS hf dX5_readCoordinator_88
    · rw [if_pos h14] at hf
      refine lv_aload_n hx hb dX5_readCoordinator_81 rfl (lv_at hl 4 rfl) ?_
      refine lv_iload_n hx hb dX5_readCoordinator_82 rfl (lv_at hl 2 rfl) ?_
      refine lv_iload hx hb dX5_readCoordinator_83 (lv_at hl 0 rfl) ?_
      obtain ⟨r16, σ15, h17, hf⟩ := cl_e hf
      refine kc_X5_87 F hP hS hp1 h17 ⟨Nat.le_of_ble_eq_true rfl, Nat.le_of_ble_eq_true rfl⟩ hl.1 (Nat.le_of_ble_eq_true rfl) ⟨Nat.zero_le _, Nat.zero_le _⟩ dX5_readCoordinator_85 (fun H locs hP hS => ?_)
      exact g_vret B hP hS hf dX5_readCoordinator_88
  · rw [if_pos h10] at hf
    refine lv_aload_n hx hb dX5_readCoordinator_41 rfl (lv_at hl 3 rfl) ?_
    refine lv_aload_n hx hb dX5_readCoordinator_42 rfl (lv_at hl 4 rfl) ?_
    refine lv_iload hx hb dX5_readCoordinator_43 (lv_at hl 0 rfl) ?_
    obtain ⟨r19, σ18, h20, hf⟩ := cl_e hf
    refine kc_X5_81 F hP hS hp1 h20 ⟨Nat.le_of_ble_eq_true rfl, Nat.le_of_ble_eq_true rfl⟩ hl.1 (Nat.le_of_ble_eq_true rfl) ⟨Nat.zero_le _, Nat.zero_le _⟩ dX5_readCoordinator_45 (fun H locs hP hS => ?_)
    refine pf_X5_84 F hP hS dX5_readCoordinator_48 (fun H locs hP hS => ?_)
    obtain ⟨σ21, eσ21, hf⟩ := vl_x hf
    rw [← eσ21] at hP
    refine lv_aload_n hx hb dX5_readCoordinator_51 rfl (lv_at hl 3 rfl) ?_
    refine lv_aload_n hx hb dX5_readCoordinator_52 rfl (lv_at hl 3 rfl) ?_
    refine gf_X5_84 F hP dX5_readCoordinator_53 ?_
    refine lv_bipush (v := (-4)) hx hb dX5_readCoordinator_56 (by decide) ?_
    refine lv_icmp_ne (tgt := 65) hx hb dX5_readCoordinator_58 (by decide) (fun h22 => ?_) (fun h22 => ?_)
    · rw [if_neg h22] at hf
      refine lv_bipush (v := (13)) hx hb dX5_readCoordinator_65 (by decide) ?_
      refine pf_X5_24 F hP hS dX5_readCoordinator_67 (fun H locs hP hS => ?_)
      obtain ⟨σ23, eσ23, hf⟩ := vl_x hf
      rw [← eσ23] at hP
      refine lv_aload_n hx hb dX5_readCoordinator_70 rfl (lv_at hl 3 rfl) ?_
      obtain ⟨r25, σ24, h26, hf⟩ := cl_e hf
      refine kc_X5_68 F hP hS h26 ⟨Nat.le_of_ble_eq_true rfl, Nat.le_of_ble_eq_true rfl⟩ hl.1 (Nat.le_of_ble_eq_true rfl) ⟨Nat.zero_le _, Nat.zero_le _⟩ dX5_readCoordinator_71 (fun H locs hP hS => ?_)
      refine lv_aload_n hx hb dX5_readCoordinator_74 rfl (lv_at hl 3 rfl) ?_
      refine gf_X5_24 F hP dX5_readCoordinator_75 ?_
      refine lv_if_ne (tgt := 88) hx hb dX5_readCoordinator_78 (by decide) (fun h27 => ?_) (fun h27 => ?_)
      · rw [if_neg h27] at hf
        exact g_vret B hP hS hf dX5_readCoordinator_88
      · rw [if_pos h27] at hf
        refine lv_aload_n hx hb dX5_readCoordinator_81 rfl (lv_at hl 4 rfl) ?_
        refine lv_iload_n hx hb dX5_readCoordinator_82 rfl (lv_at hl 2 rfl) ?_
        refine lv_iload hx hb dX5_readCoordinator_83 (lv_at hl 0 rfl) ?_
        obtain ⟨r29, σ28, h30, hf⟩ := cl_e hf
        refine kc_X5_87 F hP hS hp1 h30 ⟨Nat.le_of_ble_eq_true rfl, Nat.le_of_ble_eq_true rfl⟩ hl.1 (Nat.le_of_ble_eq_true rfl) ⟨Nat.zero_le _, Nat.zero_le _⟩ dX5_readCoordinator_85 (fun H locs hP hS => ?_)
        exact g_vret B hP hS hf dX5_readCoordinator_88
    · rw [if_pos h22] at hf
      refine lv_iconst (v := 0) hx hb dX5_readCoordinator_61 (by decide) ?_
      refine lv_goto (tgt := 67) hx hb dX5_readCoordinator_62 (by decide) ?_
      refine pf_X5_24 F hP hS dX5_readCoordinator_67 (fun H locs hP hS => ?_)
      obtain ⟨σ31, eσ31, hf⟩ := vl_x hf
      rw [← eσ31] at hP
      refine lv_aload_n hx hb dX5_readCoordinator_70 rfl (lv_at hl 3 rfl) ?_
      obtain ⟨r33, σ32, h34, hf⟩ := cl_e hf
      refine kc_X5_68 F hP hS h34 ⟨Nat.le_of_ble_eq_true rfl, Nat.le_of_ble_eq_true rfl⟩ hl.1 (Nat.le_of_ble_eq_true rfl) ⟨Nat.zero_le _, Nat.zero_le _⟩ dX5_readCoordinator_71 (fun H locs hP hS => ?_)
      refine lv_aload_n hx hb dX5_readCoordinator_74 rfl (lv_at hl 3 rfl) ?_
      refine gf_X5_24 F hP dX5_readCoordinator_75 ?_
      refine lv_if_ne (tgt := 88) hx hb dX5_readCoordinator_78 (by decide) (fun h35 => ?_) (fun h35 => ?_)
      · rw [if_neg h35] at hf
        exact g_vret B hP hS hf dX5_readCoordinator_88
      · rw [if_pos h35] at hf
        refine lv_aload_n hx hb dX5_readCoordinator_81 rfl (lv_at hl 4 rfl) ?_
        refine lv_iload_n hx hb dX5_readCoordinator_82 rfl (lv_at hl 2 rfl) ?_
        refine lv_iload hx hb dX5_readCoordinator_83 (lv_at hl 0 rfl) ?_
        obtain ⟨r37, σ36, h38, hf⟩ := cl_e hf
        refine kc_X5_87 F hP hS hp1 h38 ⟨Nat.le_of_ble_eq_true rfl, Nat.le_of_ble_eq_true rfl⟩ hl.1 (Nat.le_of_ble_eq_true rfl) ⟨Nat.zero_le _, Nat.zero_le _⟩ dX5_readCoordinator_85 (fun H locs hP hS => ?_)
        exact g_vret B hP hS hf dX5_readCoordinator_88
theorem c_X5_readCoordinator (l : Launch) {E : cEv} (hI : gIj (cG E)) {p1 : Nat} (hp1 : p1 = 8 ∨ p1 = 14) {σ σ' : St} {u : Unit} (hf : f_X5_readCoordinator p1 σ = some (u, σ')) : gMv l yX5_readCoordinator cX5_readCoordinator 5 rm_X5_readCoordinator [.ref (cAd E 3), .ref (cAd E p1)] (cG E) σ σ' :=
  g_entry (by decide) (Nat.le_of_ble_eq_true rfl) hI (fun p e s m args below meth c B hP hS ls hl => w_X5_readCoordinator_e hp1 B σ hf _ _ ls hP hS hl)
section SB
variable {p : Program} {l : Launch} {e : Env} {R : Room} {s : State} {m : MethodId} {args : Array Value} {below : List Frame} {meth : Method} {c : Code} {H : Heap} {locs : List Loc} {cells slots : Nat} {Q : State → Prop}
variable {cc : ByteArray} {pc nL : Nat} {ls : Array Slot} {rest : List Value} {E : cEv} {σ : St}
theorem kc_X5_91 (F : gFx p m c cc nL s args RX5 (cG E)) (hP : gW (cG E) σ H) (hS : va_S (gA (cG E)) s.heap H locs) {o : Nat} (ho : o = 8 ∨ o = 14) {p1 : Int32} {p2 : Int32} {p3 : Int32} {u : Unit} {σ' : St} (hf : f_X3_addDevice o p1 p2 p3 σ = some (u, σ')) (hR : rm_X3_addDevice.frames + 1 ≤ R.frames ∧ 8 + (5 + 11) + rm_X3_addDevice.locals ≤ R.locals) (hsz : ls.size = nL) (hrest : (rest.map fun v => v.category).sum ≤ 8) (hcs : cells ≤ R.cells ∧ slots ≤ R.slots) (hdg : decode cc pc = .ok (.invokevirtual 91, 3)) (kk : ∀ (H1 : Heap) (locs1 : List Loc), gW (cG E) σ' H1 → va_S (gA (cG E)) s.heap H1 locs1 → W p l e R s m args below meth c H1 locs1 cells slots Q (F0 m (pc + 3) ls rest)) : W p l e R s m args below meth c H locs cells slots Q (F0 m pc ls (.int p3 :: .int p2 :: .int p1 :: .ref (cAd E o) :: rest)) :=
  g_callVv F hP hS (c_X3_addDevice l F.2.2.2.2.2.2.2 ho hf) (g_cwV (n := 3) F tw_389 tw_390 tw_391 tw_5 tw_392 (by decide +kernel) rfl rfl hR) (k := o) (cin (by omega)) (ce_3 E _ ho) rfl (As := [.int p1, .int p2, .int p3]) rfl hsz rfl hrest hdg hcs kk
end SB
/-! PromisedSlots$Reader.readDevice(LPromisedSlots$Layout;)V -/
def f_X5_readDevice (p1 : Nat) (σ : St) : Option (Unit × St) :=
  cl (f_X5_readNumber (1 : Int32) (0 : Int32) ((σ p1 5) - (1 : Int32)) σ) fun r2 σ1 =>
  cl (f_X5_readNumber (1 : Int32) (1 : Int32) (8 : Int32) σ1) fun r5 σ4 =>
  cl (f_X5_readNumber (1 : Int32) (0 : Int32) (3 : Int32) σ4) fun r8 σ7 =>
  cl (f_X5_readEnd σ7) fun r11 σ10 =>
  if (σ10 3 2) = 0 then
    cl (f_X3_addDevice p1 r2 r5 r8 σ10) fun r15 σ14 =>
    some ((), σ14)
  else
    some ((), σ10)
abbrev rm_X5_readDevice : Room := { frames := 2, cells := 0, slots := 0, locals := 47 }
set_option maxHeartbeats 4000000 in
set_option maxRecDepth 100000 in
theorem w_X5_readDevice_e {p : Program} {l : Launch} {e : Env} {s : State} {m : MethodId} {args : Array Value} {below : List Frame} {meth : Method} {c : Code} {E : cEv} {u : Unit} {σ' : St} {p1 : Nat} (hp1 : p1 = 8 ∨ p1 = 14) (B : gBx p m meth c cX5_readDevice 5 none s args RX5 (cG E)) (σ : St) (hf : f_X5_readDevice p1 σ = some (u, σ')) (H : Heap) (locs : List Loc) (ls : Array Slot) (hP : gW (cG E) σ H) (hS : va_S (gA (cG E)) s.heap H locs) (hl : lv_has ls 5 [(0, .ref (cAd E 3)), (1, .ref (cAd E p1))]) : W p l e rm_X5_readDevice s m args below meth c H locs 0 0 (gQv below args s (cG E) σ') (F0 m 0 ls []) := by
  unfold f_X5_readDevice at hf
  obtain ⟨F, hr, hlk⟩ := id B
  have hx := F.1
  have hb := F.2.1
  have hml := F.2.2.1
  have hown := F.2.2.2.1
  have hts := F.2.2.2.2.1
  refine lv_aload_n hx hb dX5_readDevice_0 rfl (lv_at hl 0 rfl) ?_
  refine lv_iconst (v := 1) hx hb dX5_readDevice_1 (by decide) ?_
  refine lv_iconst (v := 0) hx hb dX5_readDevice_2 (by decide) ?_
  refine lv_aload_n hx hb dX5_readDevice_3 rfl (lv_at hl 1 rfl) ?_
  refine gf_X5_43 F hP hp1 dX5_readDevice_4 ?_
  refine lv_iconst (v := 1) hx hb dX5_readDevice_7 (by decide) ?_
  refine lv_isub hx hb dX5_readDevice_8 ?_
  obtain ⟨r2, σ1, h3, hf⟩ := cl_e hf
  refine kc_X5_58 F hP hS h3 ⟨Nat.le_of_ble_eq_true rfl, Nat.le_of_ble_eq_true rfl⟩ hl.1 (Nat.le_of_ble_eq_true rfl) ⟨Nat.zero_le _, Nat.zero_le _⟩ dX5_readDevice_9 (fun H locs hP hS => ?_)
  refine lv_istore_n (lv' := [(2, .int r2), (0, .ref (cAd E 3)), (1, .ref (cAd E p1))]) hx hb dX5_readDevice_12 rfl hl (by decide) rfl (fun ls hl => ?_)
  refine lv_aload_n hx hb dX5_readDevice_13 rfl (lv_at hl 1 rfl) ?_
  refine lv_iconst (v := 1) hx hb dX5_readDevice_14 (by decide) ?_
  refine lv_iconst (v := 1) hx hb dX5_readDevice_15 (by decide) ?_
  refine lv_bipush (v := (8)) hx hb dX5_readDevice_16 (by decide) ?_
  obtain ⟨r5, σ4, h6, hf⟩ := cl_e hf
  refine kc_X5_58 F hP hS h6 ⟨Nat.le_of_ble_eq_true rfl, Nat.le_of_ble_eq_true rfl⟩ hl.1 (Nat.le_of_ble_eq_true rfl) ⟨Nat.zero_le _, Nat.zero_le _⟩ dX5_readDevice_18 (fun H locs hP hS => ?_)
  refine lv_istore_n (lv' := [(3, .int r5), (2, .int r2), (0, .ref (cAd E 3)), (1, .ref (cAd E p1))]) hx hb dX5_readDevice_21 rfl hl (by decide) rfl (fun ls hl => ?_)
  refine lv_aload_n hx hb dX5_readDevice_22 rfl (lv_at hl 2 rfl) ?_
  refine lv_iconst (v := 1) hx hb dX5_readDevice_23 (by decide) ?_
  refine lv_iconst (v := 0) hx hb dX5_readDevice_24 (by decide) ?_
  refine lv_iconst (v := 3) hx hb dX5_readDevice_25 (by decide) ?_
  obtain ⟨r8, σ7, h9, hf⟩ := cl_e hf
  refine kc_X5_58 F hP hS h9 ⟨Nat.le_of_ble_eq_true rfl, Nat.le_of_ble_eq_true rfl⟩ hl.1 (Nat.le_of_ble_eq_true rfl) ⟨Nat.zero_le _, Nat.zero_le _⟩ dX5_readDevice_26 (fun H locs hP hS => ?_)
  refine lv_istore (lv' := [(4, .int r8), (3, .int r5), (2, .int r2), (0, .ref (cAd E 3)), (1, .ref (cAd E p1))]) hx hb dX5_readDevice_29 hl (by decide) rfl (fun ls hl => ?_)
  refine lv_aload_n hx hb dX5_readDevice_31 rfl (lv_at hl 3 rfl) ?_
  obtain ⟨r11, σ10, h12, hf⟩ := cl_e hf
  refine kc_X5_68 F hP hS h12 ⟨Nat.le_of_ble_eq_true rfl, Nat.le_of_ble_eq_true rfl⟩ hl.1 (Nat.le_of_ble_eq_true rfl) ⟨Nat.zero_le _, Nat.zero_le _⟩ dX5_readDevice_32 (fun H locs hP hS => ?_)
  refine lv_aload_n hx hb dX5_readDevice_35 rfl (lv_at hl 3 rfl) ?_
  refine gf_X5_24 F hP dX5_readDevice_36 ?_
  refine lv_if_ne (tgt := 50) hx hb dX5_readDevice_39 (by decide) (fun h13 => ?_) (fun h13 => ?_)
  · rw [if_neg h13] at hf
    exact g_vret B hP hS hf dX5_readDevice_50
  · rw [if_pos h13] at hf
    refine lv_aload_n hx hb dX5_readDevice_42 rfl (lv_at hl 4 rfl) ?_
    refine lv_iload_n hx hb dX5_readDevice_43 rfl (lv_at hl 2 rfl) ?_
    refine lv_iload_n hx hb dX5_readDevice_44 rfl (lv_at hl 1 rfl) ?_
    refine lv_iload hx hb dX5_readDevice_45 (lv_at hl 0 rfl) ?_
    obtain ⟨r15, σ14, h16, hf⟩ := cl_e hf
    refine kc_X5_91 F hP hS hp1 h16 ⟨Nat.le_of_ble_eq_true rfl, Nat.le_of_ble_eq_true rfl⟩ hl.1 (Nat.le_of_ble_eq_true rfl) ⟨Nat.zero_le _, Nat.zero_le _⟩ dX5_readDevice_47 (fun H locs hP hS => ?_)
    exact g_vret B hP hS hf dX5_readDevice_50
theorem c_X5_readDevice (l : Launch) {E : cEv} (hI : gIj (cG E)) {p1 : Nat} (hp1 : p1 = 8 ∨ p1 = 14) {σ σ' : St} {u : Unit} (hf : f_X5_readDevice p1 σ = some (u, σ')) : gMv l yX5_readDevice cX5_readDevice 5 rm_X5_readDevice [.ref (cAd E 3), .ref (cAd E p1)] (cG E) σ σ' :=
  g_entry (by decide) (Nat.le_of_ble_eq_true rfl) hI (fun p e s m args below meth c B hP hS ls hl => w_X5_readDevice_e hp1 B σ hf _ _ ls hP hS hl)
section SB
variable {p : Program} {l : Launch} {e : Env} {R : Room} {s : State} {m : MethodId} {args : Array Value} {below : List Frame} {meth : Method} {c : Code} {H : Heap} {locs : List Loc} {cells slots : Nat} {Q : State → Prop}
variable {cc : ByteArray} {pc nL : Nat} {ls : Array Slot} {rest : List Value} {E : cEv} {σ : St}
theorem pf_X5_94 (F : gFx p m c cc nL s args RX5 (cG E)) (hP : gW (cG E) σ H) (hS : va_S (gA (cG E)) s.heap H locs) {o : Nat} (ho : o = 8 ∨ o = 14) {x : Int32} (hdg : decode cc pc = .ok (.putfield 94, 3)) (kk : ∀ (H1 : Heap) (locs1 : List Loc), gW (cG E) (up2 σ o 4 x) H1 → va_S (gA (cG E)) s.heap H1 locs1 → W p l e R s m args below meth c H1 locs1 cells slots Q (F0 m (pc + 3) ls rest)) : W p l e R s m args below meth c H locs cells slots Q (F0 m pc ls (.int x :: .ref (cAd E o) :: rest)) :=
  g_putN F hP hS (k := o) (cin (by omega)) (ce_3 E _ ho) rfl inX3 tyX3 tyX3_ok nmX3 4 (by decide) tw_80 rfl rfl rfl rfl (Nat.le_of_ble_eq_true rfl) (x := x) (jj := 4) (ce_3 E _ ho) hdg kk
end SB
/-! PromisedSlots$Reader.readLife(LPromisedSlots$Layout;)V -/
def f_X5_readLife (p1 : Nat) (σ : St) : Option (Unit × St) :=
  cl (f_X5_readNumber (1 : Int32) (1 : Int32) (9 : Int32) σ) fun r2 σ1 =>
  cl (f_X5_readEnd σ1) fun r5 σ4 =>
  if (σ4 3 2) = 0 then
    vl (up2 σ4 p1 4 r2) fun σ8 =>
    some ((), σ8)
  else
    some ((), σ4)
abbrev rm_X5_readLife : Room := { frames := 2, cells := 0, slots := 0, locals := 47 }
set_option maxHeartbeats 4000000 in
set_option maxRecDepth 100000 in
theorem w_X5_readLife_e {p : Program} {l : Launch} {e : Env} {s : State} {m : MethodId} {args : Array Value} {below : List Frame} {meth : Method} {c : Code} {E : cEv} {u : Unit} {σ' : St} {p1 : Nat} (hp1 : p1 = 8 ∨ p1 = 14) (B : gBx p m meth c cX5_readLife 3 none s args RX5 (cG E)) (σ : St) (hf : f_X5_readLife p1 σ = some (u, σ')) (H : Heap) (locs : List Loc) (ls : Array Slot) (hP : gW (cG E) σ H) (hS : va_S (gA (cG E)) s.heap H locs) (hl : lv_has ls 3 [(0, .ref (cAd E 3)), (1, .ref (cAd E p1))]) : W p l e rm_X5_readLife s m args below meth c H locs 0 0 (gQv below args s (cG E) σ') (F0 m 0 ls []) := by
  unfold f_X5_readLife at hf
  obtain ⟨F, hr, hlk⟩ := id B
  have hx := F.1
  have hb := F.2.1
  have hml := F.2.2.1
  have hown := F.2.2.2.1
  have hts := F.2.2.2.2.1
  refine lv_aload_n hx hb dX5_readLife_0 rfl (lv_at hl 0 rfl) ?_
  refine lv_iconst (v := 1) hx hb dX5_readLife_1 (by decide) ?_
  refine lv_iconst (v := 1) hx hb dX5_readLife_2 (by decide) ?_
  refine lv_bipush (v := (9)) hx hb dX5_readLife_3 (by decide) ?_
  obtain ⟨r2, σ1, h3, hf⟩ := cl_e hf
  refine kc_X5_58 F hP hS h3 ⟨Nat.le_of_ble_eq_true rfl, Nat.le_of_ble_eq_true rfl⟩ hl.1 (Nat.le_of_ble_eq_true rfl) ⟨Nat.zero_le _, Nat.zero_le _⟩ dX5_readLife_5 (fun H locs hP hS => ?_)
  refine lv_istore_n (lv' := [(2, .int r2), (0, .ref (cAd E 3)), (1, .ref (cAd E p1))]) hx hb dX5_readLife_8 rfl hl (by decide) rfl (fun ls hl => ?_)
  refine lv_aload_n hx hb dX5_readLife_9 rfl (lv_at hl 1 rfl) ?_
  obtain ⟨r5, σ4, h6, hf⟩ := cl_e hf
  refine kc_X5_68 F hP hS h6 ⟨Nat.le_of_ble_eq_true rfl, Nat.le_of_ble_eq_true rfl⟩ hl.1 (Nat.le_of_ble_eq_true rfl) ⟨Nat.zero_le _, Nat.zero_le _⟩ dX5_readLife_10 (fun H locs hP hS => ?_)
  refine lv_aload_n hx hb dX5_readLife_13 rfl (lv_at hl 1 rfl) ?_
  refine gf_X5_24 F hP dX5_readLife_14 ?_
  refine lv_if_ne (tgt := 25) hx hb dX5_readLife_17 (by decide) (fun h7 => ?_) (fun h7 => ?_)
  · rw [if_neg h7] at hf
    exact g_vret B hP hS hf dX5_readLife_25
  · rw [if_pos h7] at hf
    refine lv_aload_n hx hb dX5_readLife_20 rfl (lv_at hl 2 rfl) ?_
    refine lv_iload_n hx hb dX5_readLife_21 rfl (lv_at hl 0 rfl) ?_
    refine pf_X5_94 F hP hS hp1 dX5_readLife_22 (fun H locs hP hS => ?_)
    obtain ⟨σ8, eσ8, hf⟩ := vl_x hf
    rw [← eσ8] at hP
    exact g_vret B hP hS hf dX5_readLife_25
theorem c_X5_readLife (l : Launch) {E : cEv} (hI : gIj (cG E)) {p1 : Nat} (hp1 : p1 = 8 ∨ p1 = 14) {σ σ' : St} {u : Unit} (hf : f_X5_readLife p1 σ = some (u, σ')) : gMv l yX5_readLife cX5_readLife 3 rm_X5_readLife [.ref (cAd E 3), .ref (cAd E p1)] (cG E) σ σ' :=
  g_entry (by decide) (Nat.le_of_ble_eq_true rfl) hI (fun p e s m args below meth c B hP hS ls hl => w_X5_readLife_e hp1 B σ hf _ _ ls hP hS hl)
section SB
variable {p : Program} {l : Launch} {e : Env} {R : Room} {s : State} {m : MethodId} {args : Array Value} {below : List Frame} {meth : Method} {c : Code} {H : Heap} {locs : List Loc} {cells slots : Nat} {Q : State → Prop}
variable {cc : ByteArray} {pc nL : Nat} {ls : Array Slot} {rest : List Value} {E : cEv} {σ : St}
theorem kc_X5_55 (F : gFx p m c cc nL s args RX5 (cG E)) (hP : gW (cG E) σ H) (hS : va_S (gA (cG E)) s.heap H locs) {p1 : Nat} (hp1 : p1 = 8 ∨ p1 = 14) {u : Unit} {σ' : St} (hf : f_X5_readLife p1 σ = some (u, σ')) (hR : rm_X5_readLife.frames + 1 ≤ R.frames ∧ 8 + (3 + 11) + rm_X5_readLife.locals ≤ R.locals) (hsz : ls.size = nL) (hrest : (rest.map fun v => v.category).sum ≤ 8) (hcs : cells ≤ R.cells ∧ slots ≤ R.slots) (hdg : decode cc pc = .ok (.invokevirtual 55, 3)) (kk : ∀ (H1 : Heap) (locs1 : List Loc), gW (cG E) σ' H1 → va_S (gA (cG E)) s.heap H1 locs1 → W p l e R s m args below meth c H1 locs1 cells slots Q (F0 m (pc + 3) ls rest)) : W p l e R s m args below meth c H locs cells slots Q (F0 m pc ls (.ref (cAd E p1) :: .ref (cAd E 3) :: rest)) :=
  g_callVv F hP hS (c_X5_readLife l F.2.2.2.2.2.2.2 hp1 hf) (g_cwV (n := 1) F tw_393 tw_395 ts_6 tw_4 tw_396 (by decide +kernel) rfl rfl hR) (k := 3) (cin (by omega)) (ce_5 E _) rfl (As := [.ref (cAd E p1)]) rfl hsz rfl hrest hdg hcs kk
theorem gf_X5_49 (F : gFx p m c cc nL s args RX5 (cG E)) (hP : gW (cG E) σ H) {o : Nat} (ho : o = 8 ∨ o = 14) (hdg : decode cc pc = .ok (.getfield 49, 3)) (kk : W p l e R s m args below meth c H locs cells slots Q (F0 m (pc + 3) ls (.int (σ o 6) :: rest))) : W p l e R s m args below meth c H locs cells slots Q (F0 m pc ls (.ref (cAd E o) :: rest)) :=
  g_getN F hP (k := o) (cin (by omega)) (ce_3 E _ ho) rfl inX3 6 (by decide) tw_86 rfl rfl hdg kk
theorem kc_X5_52 (F : gFx p m c cc nL s args RX5 (cG E)) (hP : gW (cG E) σ H) (hS : va_S (gA (cG E)) s.heap H locs) {p1 : Nat} (hp1 : p1 = 8 ∨ p1 = 14) {u : Unit} {σ' : St} (hf : f_X5_readDevice p1 σ = some (u, σ')) (hR : rm_X5_readDevice.frames + 1 ≤ R.frames ∧ 8 + (5 + 11) + rm_X5_readDevice.locals ≤ R.locals) (hsz : ls.size = nL) (hrest : (rest.map fun v => v.category).sum ≤ 8) (hcs : cells ≤ R.cells ∧ slots ≤ R.slots) (hdg : decode cc pc = .ok (.invokevirtual 52, 3)) (kk : ∀ (H1 : Heap) (locs1 : List Loc), gW (cG E) σ' H1 → va_S (gA (cG E)) s.heap H1 locs1 → W p l e R s m args below meth c H1 locs1 cells slots Q (F0 m (pc + 3) ls rest)) : W p l e R s m args below meth c H locs cells slots Q (F0 m pc ls (.ref (cAd E p1) :: .ref (cAd E 3) :: rest)) :=
  g_callVv F hP hS (c_X5_readDevice l F.2.2.2.2.2.2.2 hp1 hf) (g_cwV (n := 1) F tw_385 tw_387 ts_5 tw_4 tw_388 (by decide +kernel) rfl rfl hR) (k := 3) (cin (by omega)) (ce_5 E _) rfl (As := [.ref (cAd E p1)]) rfl hsz rfl hrest hdg hcs kk
theorem kc_X5_46 (F : gFx p m c cc nL s args RX5 (cG E)) (hP : gW (cG E) σ H) (hS : va_S (gA (cG E)) s.heap H locs) {p1 : Nat} (hp1 : p1 = 8 ∨ p1 = 14) {u : Unit} {σ' : St} (hf : f_X5_readCoordinator p1 σ = some (u, σ')) (hR : rm_X5_readCoordinator.frames + 1 ≤ R.frames ∧ 8 + (5 + 11) + rm_X5_readCoordinator.locals ≤ R.locals) (hsz : ls.size = nL) (hrest : (rest.map fun v => v.category).sum ≤ 8) (hcs : cells ≤ R.cells ∧ slots ≤ R.slots) (hdg : decode cc pc = .ok (.invokevirtual 46, 3)) (kk : ∀ (H1 : Heap) (locs1 : List Loc), gW (cG E) σ' H1 → va_S (gA (cG E)) s.heap H1 locs1 → W p l e R s m args below meth c H1 locs1 cells slots Q (F0 m (pc + 3) ls rest)) : W p l e R s m args below meth c H locs cells slots Q (F0 m pc ls (.ref (cAd E p1) :: .ref (cAd E 3) :: rest)) :=
  g_callVv F hP hS (c_X5_readCoordinator l F.2.2.2.2.2.2.2 hp1 hf) (g_cwV (n := 1) F tw_365 tw_367 ts_4 tw_4 tw_368 (by decide +kernel) rfl rfl hR) (k := 3) (cin (by omega)) (ce_5 E _) rfl (As := [.ref (cAd E p1)]) rfl hsz rfl hrest hdg hcs kk
theorem kc_X5_40 (F : gFx p m c cc nL s args RX5 (cG E)) (hP : gW (cG E) σ H) (hS : va_S (gA (cG E)) s.heap H locs) {p1 : Nat} (hp1 : p1 = 8 ∨ p1 = 14) {u : Unit} {σ' : St} (hf : f_X5_readOrders p1 σ = some (u, σ')) (hR : rm_X5_readOrders.frames + 1 ≤ R.frames ∧ 8 + (5 + 11) + rm_X5_readOrders.locals ≤ R.locals) (hsz : ls.size = nL) (hrest : (rest.map fun v => v.category).sum ≤ 8) (hcs : cells ≤ R.cells ∧ slots ≤ R.slots) (hdg : decode cc pc = .ok (.invokevirtual 40, 3)) (kk : ∀ (H1 : Heap) (locs1 : List Loc), gW (cG E) σ' H1 → va_S (gA (cG E)) s.heap H1 locs1 → W p l e R s m args below meth c H1 locs1 cells slots Q (F0 m (pc + 3) ls rest)) : W p l e R s m args below meth c H locs cells slots Q (F0 m pc ls (.ref (cAd E p1) :: .ref (cAd E 3) :: rest)) :=
  g_callVv F hP hS (c_X5_readOrders l F.2.2.2.2.2.2.2 hp1 hf) (g_cwV (n := 1) F tw_346 tw_348 ts_1 tw_4 tw_349 (by decide +kernel) rfl rfl hR) (k := 3) (cin (by omega)) (ce_5 E _) rfl (As := [.ref (cAd E p1)]) rfl hsz rfl hrest hdg hcs kk
end SB
/-! PromisedSlots$Reader.readItem(LPromisedSlots$Layout;)V -/
def f_X5_readItem_95 (p1 : Nat) (a2 : Int32) (σ : St) : Option (Unit × St) :=
  if a2 = (100 : Int32) then
    if (8 : Int32) ≤ (σ p1 6) then
      if a2 = (108 : Int32) then
        cl (f_X5_readLife p1 σ) fun r20 σ19 =>
        some ((), σ19)
      else
        vl (up2 σ 3 2 (10 : Int32)) fun σ18 =>
        some ((), σ18)
    else
      cl (f_X5_readDevice p1 σ) fun r23 σ22 =>
      some ((), σ22)
  else
    if a2 = (108 : Int32) then
      cl (f_X5_readLife p1 σ) fun r14 σ13 =>
      some ((), σ13)
    else
      vl (up2 σ 3 2 (10 : Int32)) fun σ12 =>
      some ((), σ12)
def f_X5_readItem_47 (p1 : Nat) (a2 : Int32) (s0 : Int32) (s1 : Int32) (σ : St) : Option (Unit × St) :=
  if s1 = s0 then
    if a2 = (111 : Int32) then
      cl (f_X5_readOrders p1 σ) fun r30 σ29 =>
      some ((), σ29)
    else
      if a2 = (99 : Int32) then
        if (4 : Int32) ≤ (σ p1 5) then
          f_X5_readItem_95 p1 a2 σ
        else
          cl (f_X5_readCoordinator p1 σ) fun r27 σ26 =>
          some ((), σ26)
      else
        f_X5_readItem_95 p1 a2 σ
  else
    vl (up2 σ 3 2 (10 : Int32)) fun σ32 =>
    some ((), σ32)
def f_X5_readItem_24 (p1 : Nat) (a2 : Int32) (s0 : Int32) (σ : St) : Option (Unit × St) :=
  vl (up2 σ 3 1 ((σ 3 1) + (1 : Int32))) fun σ5 =>
  if a2 = (111 : Int32) then
    f_X5_readItem_47 p1 a2 (1 : Int32) s0 σ5
  else
    f_X5_readItem_47 p1 a2 (0 : Int32) s0 σ5
def f_X5_readItem (p1 : Nat) (σ : St) : Option (Unit × St) :=
  cl (f_X6_at 1 (σ 3 1) σ) fun r2 σ1 =>
  if (σ1 3 1) = 0 then
    f_X5_readItem_24 p1 r2 (1 : Int32) σ1
  else
    f_X5_readItem_24 p1 r2 (0 : Int32) σ1
abbrev rm_X5_readItem : Room := { frames := 3, cells := 0, slots := 0, locals := 71 }
set_option maxHeartbeats 4000000 in
set_option maxRecDepth 100000 in
theorem w_X5_readItem_95 {p : Program} {l : Launch} {e : Env} {s : State} {m : MethodId} {args : Array Value} {below : List Frame} {meth : Method} {c : Code} {E : cEv} {u : Unit} {σ' : St} {p1 : Nat} (hp1 : p1 = 8 ∨ p1 = 14) (B : gBx p m meth c cX5_readItem 4 none s args RX5 (cG E)) (a2 : Int32) (σ : St) (hf : f_X5_readItem_95 p1 a2 σ = some (u, σ')) (H : Heap) (locs : List Loc) (ls : Array Slot) (hP : gW (cG E) σ H) (hS : va_S (gA (cG E)) s.heap H locs) (hl : lv_has ls 4 [(0, .ref (cAd E 3)), (1, .ref (cAd E p1)), (2, .int a2)]) : W p l e rm_X5_readItem s m args below meth c H locs 0 0 (gQv below args s (cG E) σ') (F0 m 95 ls []) := by
  unfold f_X5_readItem_95 at hf
  obtain ⟨F, hr, hlk⟩ := id B
  have hx := F.1
  have hb := F.2.1
  have hml := F.2.2.1
  have hown := F.2.2.2.1
  have hts := F.2.2.2.2.1
  refine lv_iload_n hx hb dX5_readItem_95 rfl (lv_at hl 2 rfl) ?_
  refine lv_bipush (v := (100)) hx hb dX5_readItem_96 (by decide) ?_
  refine lv_icmp_ne (tgt := 118) hx hb dX5_readItem_98 (by decide) (fun h10 => ?_) (fun h10 => ?_)
  · rw [if_neg h10] at hf
    refine lv_iload_n hx hb dX5_readItem_118 rfl (lv_at hl 2 rfl) ?_
    refine lv_bipush (v := (108)) hx hb dX5_readItem_119 (by decide) ?_
    refine lv_icmp_ne (tgt := 132) hx hb dX5_readItem_121 (by decide) (fun h11 => ?_) (fun h11 => ?_)
    · rw [if_neg h11] at hf
      refine lv_aload_n hx hb dX5_readItem_132 rfl (lv_at hl 0 rfl) ?_
      refine lv_bipush (v := (10)) hx hb dX5_readItem_133 (by decide) ?_
      refine pf_X5_24 F hP hS dX5_readItem_135 (fun H locs hP hS => ?_)
      obtain ⟨σ12, eσ12, hf⟩ := vl_x hf
      rw [← eσ12] at hP
      exact g_vret B hP hS hf dX5_readItem_138
    · rw [if_pos h11] at hf
      refine lv_aload_n hx hb dX5_readItem_124 rfl (lv_at hl 0 rfl) ?_
      refine lv_aload_n hx hb dX5_readItem_125 rfl (lv_at hl 1 rfl) ?_
      obtain ⟨r14, σ13, h15, hf⟩ := cl_e hf
      refine kc_X5_55 F hP hS hp1 h15 ⟨Nat.le_of_ble_eq_true rfl, Nat.le_of_ble_eq_true rfl⟩ hl.1 (Nat.le_of_ble_eq_true rfl) ⟨Nat.zero_le _, Nat.zero_le _⟩ dX5_readItem_126 (fun H locs hP hS => ?_)
      refine lv_goto (tgt := 138) hx hb dX5_readItem_129 (by decide) ?_
      exact g_vret B hP hS hf dX5_readItem_138
  · rw [if_pos h10] at hf
    refine lv_aload_n hx hb dX5_readItem_101 rfl (lv_at hl 1 rfl) ?_
    refine gf_X5_49 F hP hp1 dX5_readItem_102 ?_
    refine lv_bipush (v := (8)) hx hb dX5_readItem_105 (by decide) ?_
    refine lv_icmp_ge (tgt := 118) hx hb dX5_readItem_107 (by decide) (fun h16 => ?_) (fun h16 => ?_)
    · rw [if_pos h16] at hf
      refine lv_iload_n hx hb dX5_readItem_118 rfl (lv_at hl 2 rfl) ?_
      refine lv_bipush (v := (108)) hx hb dX5_readItem_119 (by decide) ?_
      refine lv_icmp_ne (tgt := 132) hx hb dX5_readItem_121 (by decide) (fun h17 => ?_) (fun h17 => ?_)
      · rw [if_neg h17] at hf
        refine lv_aload_n hx hb dX5_readItem_132 rfl (lv_at hl 0 rfl) ?_
        refine lv_bipush (v := (10)) hx hb dX5_readItem_133 (by decide) ?_
        refine pf_X5_24 F hP hS dX5_readItem_135 (fun H locs hP hS => ?_)
        obtain ⟨σ18, eσ18, hf⟩ := vl_x hf
        rw [← eσ18] at hP
        exact g_vret B hP hS hf dX5_readItem_138
      · rw [if_pos h17] at hf
        refine lv_aload_n hx hb dX5_readItem_124 rfl (lv_at hl 0 rfl) ?_
        refine lv_aload_n hx hb dX5_readItem_125 rfl (lv_at hl 1 rfl) ?_
        obtain ⟨r20, σ19, h21, hf⟩ := cl_e hf
        refine kc_X5_55 F hP hS hp1 h21 ⟨Nat.le_of_ble_eq_true rfl, Nat.le_of_ble_eq_true rfl⟩ hl.1 (Nat.le_of_ble_eq_true rfl) ⟨Nat.zero_le _, Nat.zero_le _⟩ dX5_readItem_126 (fun H locs hP hS => ?_)
        refine lv_goto (tgt := 138) hx hb dX5_readItem_129 (by decide) ?_
        exact g_vret B hP hS hf dX5_readItem_138
    · rw [if_neg h16] at hf
      refine lv_aload_n hx hb dX5_readItem_110 rfl (lv_at hl 0 rfl) ?_
      refine lv_aload_n hx hb dX5_readItem_111 rfl (lv_at hl 1 rfl) ?_
      obtain ⟨r23, σ22, h24, hf⟩ := cl_e hf
      refine kc_X5_52 F hP hS hp1 h24 ⟨Nat.le_of_ble_eq_true rfl, Nat.le_of_ble_eq_true rfl⟩ hl.1 (Nat.le_of_ble_eq_true rfl) ⟨Nat.zero_le _, Nat.zero_le _⟩ dX5_readItem_112 (fun H locs hP hS => ?_)
      refine lv_goto (tgt := 138) hx hb dX5_readItem_115 (by decide) ?_
      exact g_vret B hP hS hf dX5_readItem_138
set_option maxHeartbeats 4000000 in
set_option maxRecDepth 100000 in
theorem w_X5_readItem_47 {p : Program} {l : Launch} {e : Env} {s : State} {m : MethodId} {args : Array Value} {below : List Frame} {meth : Method} {c : Code} {E : cEv} {u : Unit} {σ' : St} {p1 : Nat} (hp1 : p1 = 8 ∨ p1 = 14) (B : gBx p m meth c cX5_readItem 4 none s args RX5 (cG E)) (a2 : Int32) (s0 : Int32) (s1 : Int32) (σ : St) (hf : f_X5_readItem_47 p1 a2 s0 s1 σ = some (u, σ')) (H : Heap) (locs : List Loc) (ls : Array Slot) (hP : gW (cG E) σ H) (hS : va_S (gA (cG E)) s.heap H locs) (hl : lv_has ls 4 [(0, .ref (cAd E 3)), (1, .ref (cAd E p1)), (2, .int a2)]) : W p l e rm_X5_readItem s m args below meth c H locs 0 0 (gQv below args s (cG E) σ') (F0 m 47 ls [.int s0, .int s1]) := by
  unfold f_X5_readItem_47 at hf
  obtain ⟨F, hr, hlk⟩ := id B
  have hx := F.1
  have hb := F.2.1
  have hml := F.2.2.1
  have hown := F.2.2.2.1
  have hts := F.2.2.2.2.1
  refine lv_icmp_eq (tgt := 59) hx hb dX5_readItem_47 (by decide) (fun h7 => ?_) (fun h7 => ?_)
  · rw [if_pos h7] at hf
    refine lv_iload_n hx hb dX5_readItem_59 rfl (lv_at hl 2 rfl) ?_
    refine lv_bipush (v := (111)) hx hb dX5_readItem_60 (by decide) ?_
    refine lv_icmp_ne (tgt := 73) hx hb dX5_readItem_62 (by decide) (fun h8 => ?_) (fun h8 => ?_)
    · rw [if_neg h8] at hf
      refine lv_iload_n hx hb dX5_readItem_73 rfl (lv_at hl 2 rfl) ?_
      refine lv_bipush (v := (99)) hx hb dX5_readItem_74 (by decide) ?_
      refine lv_icmp_ne (tgt := 95) hx hb dX5_readItem_76 (by decide) (fun h9 => ?_) (fun h9 => ?_)
      · rw [if_neg h9] at hf
        exact w_X5_readItem_95 hp1 B _ σ hf _ _ _ hP hS (lv_sub hl [0, 1, 2] rfl)
      · rw [if_pos h9] at hf
        refine lv_aload_n hx hb dX5_readItem_79 rfl (lv_at hl 1 rfl) ?_
        refine gf_X5_43 F hP hp1 dX5_readItem_80 ?_
        refine lv_iconst (v := 4) hx hb dX5_readItem_83 (by decide) ?_
        refine lv_icmp_ge (tgt := 95) hx hb dX5_readItem_84 (by decide) (fun h25 => ?_) (fun h25 => ?_)
        · rw [if_pos h25] at hf
          exact w_X5_readItem_95 hp1 B _ σ hf _ _ _ hP hS (lv_sub hl [0, 1, 2] rfl)
        · rw [if_neg h25] at hf
          refine lv_aload_n hx hb dX5_readItem_87 rfl (lv_at hl 0 rfl) ?_
          refine lv_aload_n hx hb dX5_readItem_88 rfl (lv_at hl 1 rfl) ?_
          obtain ⟨r27, σ26, h28, hf⟩ := cl_e hf
          refine kc_X5_46 F hP hS hp1 h28 ⟨Nat.le_of_ble_eq_true rfl, Nat.le_of_ble_eq_true rfl⟩ hl.1 (Nat.le_of_ble_eq_true rfl) ⟨Nat.zero_le _, Nat.zero_le _⟩ dX5_readItem_89 (fun H locs hP hS => ?_)
          refine lv_goto (tgt := 138) hx hb dX5_readItem_92 (by decide) ?_
          exact g_vret B hP hS hf dX5_readItem_138
    · rw [if_pos h8] at hf
      refine lv_aload_n hx hb dX5_readItem_65 rfl (lv_at hl 0 rfl) ?_
      refine lv_aload_n hx hb dX5_readItem_66 rfl (lv_at hl 1 rfl) ?_
      obtain ⟨r30, σ29, h31, hf⟩ := cl_e hf
      refine kc_X5_40 F hP hS hp1 h31 ⟨Nat.le_of_ble_eq_true rfl, Nat.le_of_ble_eq_true rfl⟩ hl.1 (Nat.le_of_ble_eq_true rfl) ⟨Nat.zero_le _, Nat.zero_le _⟩ dX5_readItem_67 (fun H locs hP hS => ?_)
      refine lv_goto (tgt := 138) hx hb dX5_readItem_70 (by decide) ?_
      exact g_vret B hP hS hf dX5_readItem_138
  · rw [if_neg h7] at hf
    refine lv_aload_n hx hb dX5_readItem_50 rfl (lv_at hl 0 rfl) ?_
    refine lv_bipush (v := (10)) hx hb dX5_readItem_51 (by decide) ?_
    refine pf_X5_24 F hP hS dX5_readItem_53 (fun H locs hP hS => ?_)
    obtain ⟨σ32, eσ32, hf⟩ := vl_x hf
    rw [← eσ32] at hP
    refine lv_goto (tgt := 138) hx hb dX5_readItem_56 (by decide) ?_
    exact g_vret B hP hS hf dX5_readItem_138
set_option maxHeartbeats 4000000 in
set_option maxRecDepth 100000 in
theorem w_X5_readItem_24 {p : Program} {l : Launch} {e : Env} {s : State} {m : MethodId} {args : Array Value} {below : List Frame} {meth : Method} {c : Code} {E : cEv} {u : Unit} {σ' : St} {p1 : Nat} (hp1 : p1 = 8 ∨ p1 = 14) (B : gBx p m meth c cX5_readItem 4 none s args RX5 (cG E)) (a2 : Int32) (s0 : Int32) (σ : St) (hf : f_X5_readItem_24 p1 a2 s0 σ = some (u, σ')) (H : Heap) (locs : List Loc) (ls : Array Slot) (hP : gW (cG E) σ H) (hS : va_S (gA (cG E)) s.heap H locs) (hl : lv_has ls 4 [(0, .ref (cAd E 3)), (1, .ref (cAd E p1)), (2, .int a2)]) : W p l e rm_X5_readItem s m args below meth c H locs 0 0 (gQv below args s (cG E) σ') (F0 m 24 ls [.int s0]) := by
  unfold f_X5_readItem_24 at hf
  obtain ⟨F, hr, hlk⟩ := id B
  have hx := F.1
  have hb := F.2.1
  have hml := F.2.2.1
  have hown := F.2.2.2.1
  have hts := F.2.2.2.2.1
  refine lv_istore_n (lv' := [(3, .int s0), (0, .ref (cAd E 3)), (1, .ref (cAd E p1)), (2, .int a2)]) hx hb dX5_readItem_24 rfl hl (by decide) rfl (fun ls hl => ?_)
  refine lv_aload_n hx hb dX5_readItem_25 rfl (lv_at hl 1 rfl) ?_
  refine lv_dup hx hb dX5_readItem_26 rfl ?_
  refine gf_X5_20 F hP dX5_readItem_27 ?_
  refine lv_iconst (v := 1) hx hb dX5_readItem_30 (by decide) ?_
  refine lv_iadd hx hb dX5_readItem_31 ?_
  refine pf_X5_20 F hP hS dX5_readItem_32 (fun H locs hP hS => ?_)
  obtain ⟨σ5, eσ5, hf⟩ := vl_x hf
  rw [← eσ5] at hP
  refine lv_iload_n hx hb dX5_readItem_35 rfl (lv_at hl 0 rfl) ?_
  refine lv_iload_n hx hb dX5_readItem_36 rfl (lv_at hl 3 rfl) ?_
  refine lv_bipush (v := (111)) hx hb dX5_readItem_37 (by decide) ?_
  refine lv_icmp_ne (tgt := 46) hx hb dX5_readItem_39 (by decide) (fun h6 => ?_) (fun h6 => ?_)
  · rw [if_neg h6] at hf
    refine lv_iconst (v := 0) hx hb dX5_readItem_46 (by decide) ?_
    exact w_X5_readItem_47 hp1 B _ _ _ σ5 hf _ _ _ hP hS (lv_sub hl [1, 2, 3] rfl)
  · rw [if_pos h6] at hf
    refine lv_iconst (v := 1) hx hb dX5_readItem_42 (by decide) ?_
    refine lv_goto (tgt := 47) hx hb dX5_readItem_43 (by decide) ?_
    exact w_X5_readItem_47 hp1 B _ _ _ σ5 hf _ _ _ hP hS (lv_sub hl [1, 2, 3] rfl)
set_option maxHeartbeats 4000000 in
set_option maxRecDepth 100000 in
theorem w_X5_readItem_e {p : Program} {l : Launch} {e : Env} {s : State} {m : MethodId} {args : Array Value} {below : List Frame} {meth : Method} {c : Code} {E : cEv} {u : Unit} {σ' : St} {p1 : Nat} (hp1 : p1 = 8 ∨ p1 = 14) (B : gBx p m meth c cX5_readItem 4 none s args RX5 (cG E)) (σ : St) (hf : f_X5_readItem p1 σ = some (u, σ')) (H : Heap) (locs : List Loc) (ls : Array Slot) (hP : gW (cG E) σ H) (hS : va_S (gA (cG E)) s.heap H locs) (hl : lv_has ls 4 [(0, .ref (cAd E 3)), (1, .ref (cAd E p1))]) : W p l e rm_X5_readItem s m args below meth c H locs 0 0 (gQv below args s (cG E) σ') (F0 m 0 ls []) := by
  unfold f_X5_readItem at hf
  obtain ⟨F, hr, hlk⟩ := id B
  have hx := F.1
  have hb := F.2.1
  have hml := F.2.2.1
  have hown := F.2.2.2.1
  have hts := F.2.2.2.2.1
  refine lv_aload_n hx hb dX5_readItem_0 rfl (lv_at hl 0 rfl) ?_
  refine gf_X5_9 F hP dX5_readItem_1 ?_
  refine lv_aload_n hx hb dX5_readItem_4 rfl (lv_at hl 0 rfl) ?_
  refine gf_X5_20 F hP dX5_readItem_5 ?_
  obtain ⟨r2, σ1, h3, hf⟩ := cl_e hf
  refine kc_X5_36 F hP hS (Or.inl rfl) h3 ⟨Nat.le_of_ble_eq_true rfl, Nat.le_of_ble_eq_true rfl⟩ hl.1 (Nat.le_of_ble_eq_true rfl) ⟨Nat.zero_le _, Nat.zero_le _⟩ dX5_readItem_8 (fun H locs hP hS => ?_)
  refine lv_istore_n (lv' := [(2, .int r2), (0, .ref (cAd E 3)), (1, .ref (cAd E p1))]) hx hb dX5_readItem_11 rfl hl (by decide) rfl (fun ls hl => ?_)
  refine lv_aload_n hx hb dX5_readItem_12 rfl (lv_at hl 1 rfl) ?_
  refine gf_X5_20 F hP dX5_readItem_13 ?_
  refine lv_if_ne (tgt := 23) hx hb dX5_readItem_16 (by decide) (fun h4 => ?_) (fun h4 => ?_)
  · rw [if_neg h4] at hf
    refine lv_iconst (v := 0) hx hb dX5_readItem_23 (by decide) ?_
    exact w_X5_readItem_24 hp1 B _ _ σ1 hf _ _ _ hP hS (lv_sub hl [1, 2, 0] rfl)
  · rw [if_pos h4] at hf
    refine lv_iconst (v := 1) hx hb dX5_readItem_19 (by decide) ?_
    refine lv_goto (tgt := 24) hx hb dX5_readItem_20 (by decide) ?_
    exact w_X5_readItem_24 hp1 B _ _ σ1 hf _ _ _ hP hS (lv_sub hl [1, 2, 0] rfl)
theorem c_X5_readItem (l : Launch) {E : cEv} (hI : gIj (cG E)) {p1 : Nat} (hp1 : p1 = 8 ∨ p1 = 14) {σ σ' : St} {u : Unit} (hf : f_X5_readItem p1 σ = some (u, σ')) : gMv l yX5_readItem cX5_readItem 4 rm_X5_readItem [.ref (cAd E 3), .ref (cAd E p1)] (cG E) σ σ' :=
  g_entry (by decide) (Nat.le_of_ble_eq_true rfl) hI (fun p e s m args below meth c B hP hS ls hl => w_X5_readItem_e hp1 B σ hf _ _ ls hP hS hl)
section SB
variable {p : Program} {l : Launch} {e : Env} {R : Room} {s : State} {m : MethodId} {args : Array Value} {below : List Frame} {meth : Method} {c : Code} {H : Heap} {locs : List Loc} {cells slots : Nat} {Q : State → Prop}
variable {cc : ByteArray} {pc nL : Nat} {ls : Array Slot} {rest : List Value} {E : cEv} {σ : St}
theorem kc_X5_15 (F : gFx p m c cc nL s args RX5 (cG E)) (hP : gW (cG E) σ H) (hS : va_S (gA (cG E)) s.heap H locs) {o : Nat} (ho : o = 8 ∨ o = 14) {u : Unit} {σ' : St} (hf : f_X3_clear o σ = some (u, σ')) (hR : rm_X3_clear.frames + 1 ≤ R.frames ∧ 8 + (1 + 11) + rm_X3_clear.locals ≤ R.locals) (hsz : ls.size = nL) (hrest : (rest.map fun v => v.category).sum ≤ 8) (hcs : cells ≤ R.cells ∧ slots ≤ R.slots) (hdg : decode cc pc = .ok (.invokevirtual 15, 3)) (kk : ∀ (H1 : Heap) (locs1 : List Loc), gW (cG E) σ' H1 → va_S (gA (cG E)) s.heap H1 locs1 → W p l e R s m args below meth c H1 locs1 cells slots Q (F0 m (pc + 3) ls rest)) : W p l e R s m args below meth c H locs cells slots Q (F0 m pc ls (.ref (cAd E o) :: rest)) :=
  g_callVv F hP hS (c_X3_clear l F.2.2.2.2.2.2.2 ho hf) (g_cwV (n := 0) F tw_330 tw_331 tw_332 tw_5 tw_333 (by decide +kernel) rfl rfl hR) (k := o) (cin (by omega)) (ce_3 E _ ho) rfl (As := []) rfl hsz rfl hrest hdg hcs kk
theorem gf_X5_27 (F : gFx p m c cc nL s args RX5 (cG E)) (hP : gW (cG E) σ H) {o : Nat} (ho : o = 1 ∨ o = 4) (hdg : decode cc pc = .ok (.getfield 27, 3)) (kk : W p l e R s m args below meth c H locs cells slots Q (F0 m (pc + 3) ls (.int (σ o 1) :: rest))) : W p l e R s m args below meth c H locs cells slots Q (F0 m pc ls (.ref (cAd E o) :: rest)) :=
  g_getN F hP (k := o) (cin (by omega)) (ce_6 E _ ho) rfl inX6 1 (by decide) tw_36 rfl rfl hdg kk
theorem kc_X5_32 (F : gFx p m c cc nL s args RX5 (cG E)) (hP : gW (cG E) σ H) (hS : va_S (gA (cG E)) s.heap H locs) {p1 : Nat} (hp1 : p1 = 8 ∨ p1 = 14) {u : Unit} {σ' : St} (hf : f_X5_readItem p1 σ = some (u, σ')) (hR : rm_X5_readItem.frames + 1 ≤ R.frames ∧ 8 + (4 + 11) + rm_X5_readItem.locals ≤ R.locals) (hsz : ls.size = nL) (hrest : (rest.map fun v => v.category).sum ≤ 8) (hcs : cells ≤ R.cells ∧ slots ≤ R.slots) (hdg : decode cc pc = .ok (.invokevirtual 32, 3)) (kk : ∀ (H1 : Heap) (locs1 : List Loc), gW (cG E) σ' H1 → va_S (gA (cG E)) s.heap H1 locs1 → W p l e R s m args below meth c H1 locs1 cells slots Q (F0 m (pc + 3) ls rest)) : W p l e R s m args below meth c H locs cells slots Q (F0 m pc ls (.ref (cAd E p1) :: .ref (cAd E 3) :: rest)) :=
  g_callVv F hP hS (c_X5_readItem l F.2.2.2.2.2.2.2 hp1 hf) (g_cwV (n := 1) F tw_338 tw_340 ts_0 tw_4 tw_341 (by decide +kernel) rfl rfl hR) (k := 3) (cin (by omega)) (ce_5 E _) rfl (As := [.ref (cAd E p1)]) rfl hsz rfl hrest hdg hcs kk
end SB
/-! PromisedSlots$Reader.readInto(LPromisedSlots$Layout;)I -/
def b_X5_readInto_16 (p1 : Nat) (K16 : (Int32 × St → Option (Int32 × St))) (a2 : Int32) (σ : St) : Option (Int32 × St) :=
  if (200 : Int32) ≤ a2 then
    some ((-4 : Int32), σ)
  else
    if (σ 1 1) ≤ (σ 3 1) then
      some ((-4 : Int32), σ)
    else
      vl (σ 3 1) fun x8 =>
      cl (f_X5_readItem p1 σ) fun r10 σ9 =>
      if (σ9 3 2) = 0 then
        vl (a2 + (1 : Int32)) fun x13 =>
        K16 (x13, σ9)
      else
        some (x8, σ9)
def f_X5_readInto (p1 : Nat) (σ : St) : Option (Int32 × St) :=
  cl (f_X3_clear p1 σ) fun r2 σ1 =>
  vl (up2 σ1 3 1 (0 : Int32)) fun σ4 =>
  vl (up2 σ4 3 2 (0 : Int32)) fun σ5 =>
  lp (fun K a => b_X5_readInto_16 p1 K a.1 a.2) FU ((0 : Int32), σ5)
abbrev rm_X5_readInto : Room := { frames := 4, cells := 0, slots := 0, locals := 94 }
def P_X5_readInto_16 (p : Program) (l : Launch) (e : Env) (s : State) (m : MethodId) (args : Array Value) (below : List Frame) (meth : Method) (c : Code) (E : cEv) (r : Int32) (σ' : St) (p1 : Nat) (a : Int32 × St) : Prop := ∀ (H : Heap) (locs : List Loc) (ls : Array Slot), gW (cG E) a.2 H → va_S (gA (cG E)) s.heap H locs → lv_has ls 4 [(0, .ref (cAd E 3)), (1, .ref (cAd E p1)), (2, .int a.1)] → W p l e rm_X5_readInto s m args below meth c H locs 0 0 (gQi below args s (cG E) r σ') (F0 m 16 ls [])
set_option maxHeartbeats 4000000 in
set_option maxRecDepth 100000 in
theorem w_X5_readInto_16 {p : Program} {l : Launch} {e : Env} {s : State} {m : MethodId} {args : Array Value} {below : List Frame} {meth : Method} {c : Code} {E : cEv} {r : Int32} {σ' : St} {p1 : Nat} (hp1 : p1 = 8 ∨ p1 = 14) (B : gBx p m meth c cX5_readInto 4 (some .int) s args RX5 (cG E)) {K16 : (Int32 × St → Option (Int32 × St))} (hK16 : ∀ a, K16 a = some (r, σ') → P_X5_readInto_16 p l e s m args below meth c E r σ' p1 a) (a2 : Int32) (σ : St) (hf : b_X5_readInto_16 p1 K16 a2 σ = some (r, σ')) (H : Heap) (locs : List Loc) (ls : Array Slot) (hP : gW (cG E) σ H) (hS : va_S (gA (cG E)) s.heap H locs) (hl : lv_has ls 4 [(0, .ref (cAd E 3)), (1, .ref (cAd E p1)), (2, .int a2)]) : W p l e rm_X5_readInto s m args below meth c H locs 0 0 (gQi below args s (cG E) r σ') (F0 m 16 ls []) := by
  unfold b_X5_readInto_16 at hf
  obtain ⟨F, hr, hlk⟩ := id B
  have hx := F.1
  have hb := F.2.1
  have hml := F.2.2.1
  have hown := F.2.2.2.1
  have hts := F.2.2.2.2.1
  refine lv_iload_n hx hb dX5_readInto_16 rfl (lv_at hl 2 rfl) ?_
  refine lv_sipush (v := (200)) hx hb dX5_readInto_17 (by decide) ?_
  refine lv_icmp_ge (tgt := 62) hx hb dX5_readInto_20 (by decide) (fun h6 => ?_) (fun h6 => ?_)
  · rw [if_pos h6] at hf
    refine lv_bipush (v := (-4)) hx hb dX5_readInto_62 (by decide) ?_
    exact g_iret B hP hS hf dX5_readInto_64
  · rw [if_neg h6] at hf
    refine lv_aload_n hx hb dX5_readInto_23 rfl (lv_at hl 0 rfl) ?_
    refine gf_X5_20 F hP dX5_readInto_24 ?_
    refine lv_aload_n hx hb dX5_readInto_27 rfl (lv_at hl 0 rfl) ?_
    refine gf_X5_9 F hP dX5_readInto_28 ?_
    refine gf_X5_27 F hP (Or.inl rfl) dX5_readInto_31 ?_
    refine lv_icmp_ge (tgt := 62) hx hb dX5_readInto_34 (by decide) (fun h7 => ?_) (fun h7 => ?_)
    · rw [if_pos h7] at hf
      refine lv_bipush (v := (-4)) hx hb dX5_readInto_62 (by decide) ?_
      exact g_iret B hP hS hf dX5_readInto_64
    · rw [if_neg h7] at hf
      refine lv_aload_n hx hb dX5_readInto_37 rfl (lv_at hl 0 rfl) ?_
      refine gf_X5_20 F hP dX5_readInto_38 ?_
      obtain ⟨x8, ex8, hf⟩ := vl_x hf
      rw [← ex8]
      refine lv_istore_n (lv' := [(3, .int x8), (0, .ref (cAd E 3)), (1, .ref (cAd E p1)), (2, .int a2)]) hx hb dX5_readInto_41 rfl hl (by decide) rfl (fun ls hl => ?_)
      refine lv_aload_n hx hb dX5_readInto_42 rfl (lv_at hl 1 rfl) ?_
      refine lv_aload_n hx hb dX5_readInto_43 rfl (lv_at hl 2 rfl) ?_
      obtain ⟨r10, σ9, h11, hf⟩ := cl_e hf
      refine kc_X5_32 F hP hS hp1 h11 ⟨Nat.le_of_ble_eq_true rfl, Nat.le_of_ble_eq_true rfl⟩ hl.1 (Nat.le_of_ble_eq_true rfl) ⟨Nat.zero_le _, Nat.zero_le _⟩ dX5_readInto_44 (fun H locs hP hS => ?_)
      refine lv_aload_n hx hb dX5_readInto_47 rfl (lv_at hl 1 rfl) ?_
      refine gf_X5_24 F hP dX5_readInto_48 ?_
      refine lv_if_eq (tgt := 56) hx hb dX5_readInto_51 (by decide) (fun h12 => ?_) (fun h12 => ?_)
      · rw [if_pos h12] at hf
        refine lv_iinc (v := a2 + (1 : Int32)) (lv' := [(2, .int (a2 + (1 : Int32))), (3, .int x8), (0, .ref (cAd E 3)), (1, .ref (cAd E p1))]) hx hb dX5_readInto_56 hl (k := 3) rfl rfl (by decide) rfl (fun ls hl => ?_)
        obtain ⟨x13, ex13, hf⟩ := vl_x hf
        rw [← ex13] at hl
        refine lv_goto (tgt := 16) hx hb dX5_readInto_59 (by decide) ?_
        exact hK16 _ hf _ _ _ hP hS (lv_sub hl [2, 3, 0] rfl)
      · rw [if_neg h12] at hf
        refine lv_iload_n hx hb dX5_readInto_54 rfl (lv_at hl 0 rfl) ?_
        exact g_iret B hP hS hf dX5_readInto_55
set_option maxHeartbeats 4000000 in
set_option maxRecDepth 100000 in
theorem w_X5_readInto_e {p : Program} {l : Launch} {e : Env} {s : State} {m : MethodId} {args : Array Value} {below : List Frame} {meth : Method} {c : Code} {E : cEv} {r : Int32} {σ' : St} {p1 : Nat} (hp1 : p1 = 8 ∨ p1 = 14) (B : gBx p m meth c cX5_readInto 4 (some .int) s args RX5 (cG E)) (σ : St) (hf : f_X5_readInto p1 σ = some (r, σ')) (H : Heap) (locs : List Loc) (ls : Array Slot) (hP : gW (cG E) σ H) (hS : va_S (gA (cG E)) s.heap H locs) (hl : lv_has ls 4 [(0, .ref (cAd E 3)), (1, .ref (cAd E p1))]) : W p l e rm_X5_readInto s m args below meth c H locs 0 0 (gQi below args s (cG E) r σ') (F0 m 0 ls []) := by
  unfold f_X5_readInto at hf
  obtain ⟨F, hr, hlk⟩ := id B
  have hx := F.1
  have hb := F.2.1
  have hml := F.2.2.1
  have hown := F.2.2.2.1
  have hts := F.2.2.2.2.1
  refine lv_aload_n hx hb dX5_readInto_0 rfl (lv_at hl 1 rfl) ?_
  obtain ⟨r2, σ1, h3, hf⟩ := cl_e hf
  refine kc_X5_15 F hP hS hp1 h3 ⟨Nat.le_of_ble_eq_true rfl, Nat.le_of_ble_eq_true rfl⟩ hl.1 (Nat.le_of_ble_eq_true rfl) ⟨Nat.zero_le _, Nat.zero_le _⟩ dX5_readInto_1 (fun H locs hP hS => ?_)
  refine lv_aload_n hx hb dX5_readInto_4 rfl (lv_at hl 0 rfl) ?_
  refine lv_iconst (v := 0) hx hb dX5_readInto_5 (by decide) ?_
  refine pf_X5_20 F hP hS dX5_readInto_6 (fun H locs hP hS => ?_)
  obtain ⟨σ4, eσ4, hf⟩ := vl_x hf
  rw [← eσ4] at hP
  refine lv_aload_n hx hb dX5_readInto_9 rfl (lv_at hl 0 rfl) ?_
  refine lv_iconst (v := 0) hx hb dX5_readInto_10 (by decide) ?_
  refine pf_X5_24 F hP hS dX5_readInto_11 (fun H locs hP hS => ?_)
  obtain ⟨σ5, eσ5, hf⟩ := vl_x hf
  rw [← eσ5] at hP
  refine lv_iconst (v := 0) hx hb dX5_readInto_14 (by decide) ?_
  refine lv_istore_n (lv' := [(2, .int (0 : Int32)), (0, .ref (cAd E 3)), (1, .ref (cAd E p1))]) hx hb dX5_readInto_15 rfl hl (by decide) rfl (fun ls hl => ?_)
  exact lp_w (P := P_X5_readInto_16 p l e s m args below meth c E r σ' p1) (fun K hK a ha => w_X5_readInto_16 hp1 B hK a.1 a.2 ha) FU _ hf _ _ _ hP hS (lv_sub hl [1, 2, 0] rfl)
theorem c_X5_readInto (l : Launch) {E : cEv} (hI : gIj (cG E)) {p1 : Nat} (hp1 : p1 = 8 ∨ p1 = 14) {σ σ' : St} {r : Int32} (hf : f_X5_readInto p1 σ = some (r, σ')) : gMi l yX5_readInto cX5_readInto 4 .int rm_X5_readInto [.ref (cAd E 3), .ref (cAd E p1)] (cG E) σ r σ' :=
  g_entry (by decide) (Nat.le_of_ble_eq_true rfl) hI (fun p e s m args below meth c B hP hS ls hl => w_X5_readInto_e hp1 B σ hf _ _ ls hP hS hl)
