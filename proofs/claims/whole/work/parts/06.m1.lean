section SE
variable {p : Program} {l : Launch} {e : Env} {R : Room} {s : State} {m : MethodId} {args : Array Value} {below : List Frame} {meth : Method} {c : Code} {H : Heap} {locs : List Loc} {cells slots : Nat} {Q : State → Prop}
variable {cc : ByteArray} {pc nL : Nat} {ls : Array Slot} {rest : List Value} {E : mEv} {σ : St}
theorem kc_X8_272 (F : gFx p m c cc nL s args RX8 (mG E)) (hP : gW (mG E) σ H) (hS : va_S (gA (mG E)) s.heap H locs) {p1 : Int32} {r : Int32} {σ' : St} (hf : f_X8_isDevice p1 σ = some (r, σ')) (hR : rm_X8_isDevice.frames + 1 ≤ R.frames ∧ 8 + (2 + 11) + rm_X8_isDevice.locals ≤ R.locals) (hsz : ls.size = nL) (hrest : (rest.map fun v => v.category).sum ≤ 8) (hcs : cells ≤ R.cells ∧ slots ≤ R.slots) (hdg : decode cc pc = .ok (.invokevirtual 272, 3)) (kk : ∀ (H1 : Heap) (locs1 : List Loc), gW (mG E) σ' H1 → va_S (gA (mG E)) s.heap H1 locs1 → W p l e R s m args below meth c H1 locs1 cells slots Q (F0 m (pc + 3) ls (.int r :: rest))) : W p l e R s m args below meth c H locs cells slots Q (F0 m pc ls (.int p1 :: .ref (mAd E 0) :: rest)) :=
  g_callVi F hP hS (c_X8_isDevice l F.2.2.2.2.2.2.2 hf) (g_cwV (n := 1) F tw_1042 tw_1044 ts_44 tw_14 tw_1045 (by decide +kernel) rfl rfl hR) (k := 0) min0 (me_0 E _) rfl (As := [.int p1]) rfl hsz rfl hrest hdg hcs kk
theorem kc_X8_279 (F : gFx p m c cc nL s args RX8 (mG E)) (hP : gW (mG E) σ H) (hS : va_S (gA (mG E)) s.heap H locs) {p1 : Int32} {p2 : Int32} {r : Int32} {σ' : St} (hf : f_X8_goesFrom p1 p2 σ = some (r, σ')) (hR : rm_X8_goesFrom.frames + 1 ≤ R.frames ∧ 8 + (6 + 11) + rm_X8_goesFrom.locals ≤ R.locals) (hsz : ls.size = nL) (hrest : (rest.map fun v => v.category).sum ≤ 8) (hcs : cells ≤ R.cells ∧ slots ≤ R.slots) (hdg : decode cc pc = .ok (.invokevirtual 279, 3)) (kk : ∀ (H1 : Heap) (locs1 : List Loc), gW (mG E) σ' H1 → va_S (gA (mG E)) s.heap H1 locs1 → W p l e R s m args below meth c H1 locs1 cells slots Q (F0 m (pc + 3) ls (.int r :: rest))) : W p l e R s m args below meth c H locs cells slots Q (F0 m pc ls (.int p2 :: .int p1 :: .ref (mAd E 0) :: rest)) :=
  g_callVi F hP hS (c_X8_goesFrom l F.2.2.2.2.2.2.2 hf) (g_cwV (n := 2) F tw_1049 tw_1051 ts_45 tw_14 tw_1052 (by decide +kernel) rfl rfl hR) (k := 0) min0 (me_0 E _) rfl (As := [.int p1, .int p2]) rfl hsz rfl hrest hdg hcs kk
theorem kc_X8_275 (F : gFx p m c cc nL s args RX8 (mG E)) (hP : gW (mG E) σ H) (hS : va_S (gA (mG E)) s.heap H locs) {p1 : Int32} {p2 : Int32} {r : Int32} {σ' : St} (hf : f_X8_has p1 p2 σ = some (r, σ')) (hR : rm_X8_has.frames + 1 ≤ R.frames ∧ 8 + (2 + 11) + rm_X8_has.locals ≤ R.locals) (hsz : ls.size = nL) (hrest : (rest.map fun v => v.category).sum ≤ 8) (hcs : cells ≤ R.cells ∧ slots ≤ R.slots) (hdg : decode cc pc = .ok (.invokestatic 275, 3)) (kk : ∀ (H1 : Heap) (locs1 : List Loc), gW (mG E) σ' H1 → va_S (gA (mG E)) s.heap H1 locs1 → W p l e R s m args below meth c H1 locs1 cells slots Q (F0 m (pc + 3) ls (.int r :: rest))) : W p l e R s m args below meth c H locs cells slots Q (F0 m pc ls (.int p2 :: .int p1 :: rest)) :=
  g_callSi F hP hS (c_X8_has l F.2.2.2.2.2.2.2 hf) (g_cwS (n := 2) F tw_1046 tw_1047 tw_14 tw_1048 (by decide +kernel) rfl rfl hR) (As := [.int p1, .int p2]) rfl hsz rfl hrest hdg hcs kk
end SE
/-! PromisedSlotsModel.join(II)I -/
def b_X8_join_61 (K61 : (Int32 × Int32 × Int32 × Int32 × St → Option (Int32 × St))) (a1 : Int32) (a2 : Int32) (a3 : Int32) (a4 : Int32) (σ : St) : Option (Int32 × St) :=
  if (σ 0 24) ≤ a4 then
    gd (ix a2 4) <|
    gd (ix a2 4) <|
    vl (up2 σ 29 (nt a2) ((σ 29 (nt a2)) ||| ((1 : Int32) <<< (a1 &&& 31)))) fun σ19 =>
    gd (ix a1 8) <|
    vl (up2 σ19 36 (nt a1) a2) fun σ21 =>
    gd (ix a1 8) <|
    vl (up2 σ21 43 (nt a1) (0 : Int32)) fun σ23 =>
    some (a3, σ23)
  else
    gd (ix a4 4) <|
    gd (ix a4 4) <|
    vl (up2 σ 29 (nt a4) ((σ 29 (nt a4)) &&& (((1 : Int32) <<< (a1 &&& 31)) ^^^ (-1 : Int32)))) fun σ26 =>
    vl (a4 + (1 : Int32)) fun x27 =>
    K61 (a1, a2, a3, x27, σ26)
def f_X8_join (p1 : Int32) (p2 : Int32) (σ : St) : Option (Int32 × St) :=
  cl (f_X8_isDevice p1 σ) fun r2 σ1 =>
  if r2 = 0 then
    some ((-1 : Int32), σ1)
  else
    cl (f_X8_isCoord p2 σ1) fun r6 σ5 =>
    if r6 = 0 then
      some ((-1 : Int32), σ5)
    else
      gd (ix p1 8) <|
      if (σ5 36 (nt p1)) = p2 then
        gd (ix p2 4) <|
        cl (f_X8_has (σ5 29 (nt p2)) p1 σ5) fun r30 σ29 =>
        if r30 = 0 then
          gd (ix p1 8) <|
          vl (σ29 36 (nt p1)) fun x34 =>
          cl (f_X8_goesFrom p1 p2 σ29) fun r36 σ35 =>
          lp (fun K a => b_X8_join_61 K a.1 a.2.1 a.2.2.1 a.2.2.2.1 a.2.2.2.2) FU (p1, p2, x34, (0 : Int32), σ35)
        else
          some ((-2 : Int32), σ29)
      else
        gd (ix p1 8) <|
        vl (σ5 36 (nt p1)) fun x12 =>
        cl (f_X8_goesFrom p1 p2 σ5) fun r14 σ13 =>
        lp (fun K a => b_X8_join_61 K a.1 a.2.1 a.2.2.1 a.2.2.2.1 a.2.2.2.2) FU (p1, p2, x12, (0 : Int32), σ13)
abbrev rm_X8_join : Room := { frames := 2, cells := 0, slots := 0, locals := 48 }
def P_X8_join_61 (p : Program) (l : Launch) (e : Env) (s : State) (m : MethodId) (args : Array Value) (below : List Frame) (meth : Method) (c : Code) (E : mEv) (r : Int32) (σ' : St) (a : Int32 × Int32 × Int32 × Int32 × St) : Prop := ∀ (H : Heap) (locs : List Loc) (ls : Array Slot), gW (mG E) a.2.2.2.2 H → va_S (gA (mG E)) s.heap H locs → lv_has ls 5 [(0, .ref (mAd E 0)), (1, .int a.1), (2, .int a.2.1), (3, .int a.2.2.1), (4, .int a.2.2.2.1)] → W p l e rm_X8_join s m args below meth c H locs 0 0 (gQi below args s (mG E) r σ') (F0 m 61 ls [])
set_option maxHeartbeats 4000000 in
set_option maxRecDepth 100000 in
theorem w_X8_join_61 {p : Program} {l : Launch} {e : Env} {s : State} {m : MethodId} {args : Array Value} {below : List Frame} {meth : Method} {c : Code} {E : mEv} {r : Int32} {σ' : St} (B : gBx p m meth c cX8_join 5 (some .int) s args RX8 (mG E)) {K61 : (Int32 × Int32 × Int32 × Int32 × St → Option (Int32 × St))} (hK61 : ∀ a, K61 a = some (r, σ') → P_X8_join_61 p l e s m args below meth c E r σ' a) (a1 : Int32) (a2 : Int32) (a3 : Int32) (a4 : Int32) (σ : St) (hf : b_X8_join_61 K61 a1 a2 a3 a4 σ = some (r, σ')) (H : Heap) (locs : List Loc) (ls : Array Slot) (hP : gW (mG E) σ H) (hS : va_S (gA (mG E)) s.heap H locs) (hl : lv_has ls 5 [(0, .ref (mAd E 0)), (1, .int a1), (2, .int a2), (3, .int a3), (4, .int a4)]) : W p l e rm_X8_join s m args below meth c H locs 0 0 (gQi below args s (mG E) r σ') (F0 m 61 ls []) := by
  unfold b_X8_join_61 at hf
  obtain ⟨F, hr, hlk⟩ := id B
  have hx := F.1
  have hb := F.2.1
  have hml := F.2.2.1
  have hown := F.2.2.2.1
  have hts := F.2.2.2.2.1
  refine lv_iload hx hb dX8_join_61 (lv_at hl 4 rfl) ?_
  refine lv_aload_n hx hb dX8_join_63 rfl (lv_at hl 0 rfl) ?_
  refine gf_X8_246 F hP dX8_join_64 ?_
  refine lv_icmp_ge (tgt := 91) hx hb dX8_join_67 (by decide) (fun h16 => ?_) (fun h16 => ?_)
  · rw [if_pos h16] at hf
    refine lv_aload_n hx hb dX8_join_91 rfl (lv_at hl 0 rfl) ?_
    refine gf_X8_43 F hP dX8_join_92 ?_
    refine lv_iload_n hx hb dX8_join_95 rfl (lv_at hl 2 rfl) ?_
    refine lv_dup2_11 hx hb dX8_join_96 rfl rfl ?_
    obtain ⟨h17, hf⟩ := gd_e hf
    refine m_iald F hP ⟨by decide, by decide⟩ rfl h17 dX8_join_97 ?_
    refine lv_iconst (v := 1) hx hb dX8_join_98 (by decide) ?_
    refine lv_iload_n hx hb dX8_join_99 rfl (lv_at hl 1 rfl) ?_
    refine lv_ishl hx hb dX8_join_100 ?_
    refine lv_ior hx hb dX8_join_101 ?_
    obtain ⟨h18, hf⟩ := gd_e hf
    refine m_iast F hP hS ⟨by decide, by decide⟩ rfl h18 dX8_join_102 (fun H locs hP hS => ?_)
    obtain ⟨σ19, eσ19, hf⟩ := vl_x hf
    rw [← eσ19] at hP
    refine lv_aload_n hx hb dX8_join_103 rfl (lv_at hl 0 rfl) ?_
    refine gf_X8_61 F hP dX8_join_104 ?_
    refine lv_iload_n hx hb dX8_join_107 rfl (lv_at hl 1 rfl) ?_
    refine lv_iload_n hx hb dX8_join_108 rfl (lv_at hl 2 rfl) ?_
    obtain ⟨h20, hf⟩ := gd_e hf
    refine m_iast F hP hS ⟨by decide, by decide⟩ rfl h20 dX8_join_109 (fun H locs hP hS => ?_)
    obtain ⟨σ21, eσ21, hf⟩ := vl_x hf
    rw [← eσ21] at hP
    refine lv_aload_n hx hb dX8_join_110 rfl (lv_at hl 0 rfl) ?_
    refine gf_X8_82 F hP dX8_join_111 ?_
    refine lv_iload_n hx hb dX8_join_114 rfl (lv_at hl 1 rfl) ?_
    refine lv_iconst (v := 0) hx hb dX8_join_115 (by decide) ?_
    obtain ⟨h22, hf⟩ := gd_e hf
    refine m_iast F hP hS ⟨by decide, by decide⟩ rfl h22 dX8_join_116 (fun H locs hP hS => ?_)
    obtain ⟨σ23, eσ23, hf⟩ := vl_x hf
    rw [← eσ23] at hP
    refine lv_iload_n hx hb dX8_join_117 rfl (lv_at hl 3 rfl) ?_
    exact g_iret B hP hS hf dX8_join_118
  · rw [if_neg h16] at hf
    refine lv_aload_n hx hb dX8_join_70 rfl (lv_at hl 0 rfl) ?_
    refine gf_X8_43 F hP dX8_join_71 ?_
    refine lv_iload hx hb dX8_join_74 (lv_at hl 4 rfl) ?_
    refine lv_dup2_11 hx hb dX8_join_76 rfl rfl ?_
    obtain ⟨h24, hf⟩ := gd_e hf
    refine m_iald F hP ⟨by decide, by decide⟩ rfl h24 dX8_join_77 ?_
    refine lv_iconst (v := 1) hx hb dX8_join_78 (by decide) ?_
    refine lv_iload_n hx hb dX8_join_79 rfl (lv_at hl 1 rfl) ?_
    refine lv_ishl hx hb dX8_join_80 ?_
    refine lv_iconst (v := (-1)) hx hb dX8_join_81 (by decide) ?_
    refine lv_ixor hx hb dX8_join_82 ?_
    refine lv_iand hx hb dX8_join_83 ?_
    obtain ⟨h25, hf⟩ := gd_e hf
    refine m_iast F hP hS ⟨by decide, by decide⟩ rfl h25 dX8_join_84 (fun H locs hP hS => ?_)
    obtain ⟨σ26, eσ26, hf⟩ := vl_x hf
    rw [← eσ26] at hP
    refine lv_iinc (v := a4 + (1 : Int32)) (lv' := [(4, .int (a4 + (1 : Int32))), (0, .ref (mAd E 0)), (1, .int a1), (2, .int a2), (3, .int a3)]) hx hb dX8_join_85 hl (k := 4) rfl rfl (by decide) rfl (fun ls hl => ?_)
    obtain ⟨x27, ex27, hf⟩ := vl_x hf
    rw [← ex27] at hl
    refine lv_goto (tgt := 61) hx hb dX8_join_88 (by decide) ?_
    exact hK61 _ hf _ _ _ hP hS (lv_sub hl [1, 2, 3, 4, 0] rfl)
set_option maxHeartbeats 4000000 in
set_option maxRecDepth 100000 in
theorem w_X8_join_e {p : Program} {l : Launch} {e : Env} {s : State} {m : MethodId} {args : Array Value} {below : List Frame} {meth : Method} {c : Code} {E : mEv} {r : Int32} {σ' : St} (B : gBx p m meth c cX8_join 5 (some .int) s args RX8 (mG E)) (p1 : Int32) (p2 : Int32) (σ : St) (hf : f_X8_join p1 p2 σ = some (r, σ')) (H : Heap) (locs : List Loc) (ls : Array Slot) (hP : gW (mG E) σ H) (hS : va_S (gA (mG E)) s.heap H locs) (hl : lv_has ls 5 [(0, .ref (mAd E 0)), (1, .int p1), (2, .int p2)]) : W p l e rm_X8_join s m args below meth c H locs 0 0 (gQi below args s (mG E) r σ') (F0 m 0 ls []) := by
  unfold f_X8_join at hf
  obtain ⟨F, hr, hlk⟩ := id B
  have hx := F.1
  have hb := F.2.1
  have hml := F.2.2.1
  have hown := F.2.2.2.1
  have hts := F.2.2.2.2.1
  refine lv_aload_n hx hb dX8_join_0 rfl (lv_at hl 0 rfl) ?_
  refine lv_iload_n hx hb dX8_join_1 rfl (lv_at hl 1 rfl) ?_
  obtain ⟨r2, σ1, h3, hf⟩ := cl_e hf
  refine kc_X8_272 F hP hS h3 ⟨Nat.le_of_ble_eq_true rfl, Nat.le_of_ble_eq_true rfl⟩ hl.1 (Nat.le_of_ble_eq_true rfl) ⟨Nat.zero_le _, Nat.zero_le _⟩ dX8_join_2 (fun H locs hP hS => ?_)
  refine lv_if_eq (tgt := 16) hx hb dX8_join_5 (by decide) (fun h4 => ?_) (fun h4 => ?_)
  · rw [if_pos h4] at hf
    refine lv_iconst (v := (-1)) hx hb dX8_join_16 (by decide) ?_
    exact g_iret B hP hS hf dX8_join_17
  · rw [if_neg h4] at hf
    refine lv_aload_n hx hb dX8_join_8 rfl (lv_at hl 0 rfl) ?_
    refine lv_iload_n hx hb dX8_join_9 rfl (lv_at hl 2 rfl) ?_
    obtain ⟨r6, σ5, h7, hf⟩ := cl_e hf
    refine kc_X8_256 F hP hS h7 ⟨Nat.le_of_ble_eq_true rfl, Nat.le_of_ble_eq_true rfl⟩ hl.1 (Nat.le_of_ble_eq_true rfl) ⟨Nat.zero_le _, Nat.zero_le _⟩ dX8_join_10 (fun H locs hP hS => ?_)
    refine lv_if_ne (tgt := 18) hx hb dX8_join_13 (by decide) (fun h8 => ?_) (fun h8 => ?_)
    · rw [if_neg h8] at hf
      refine lv_aload_n hx hb dX8_join_18 rfl (lv_at hl 0 rfl) ?_
      refine gf_X8_61 F hP dX8_join_19 ?_
      refine lv_iload_n hx hb dX8_join_22 rfl (lv_at hl 1 rfl) ?_
      obtain ⟨h9, hf⟩ := gd_e hf
      refine m_iald F hP ⟨by decide, by decide⟩ rfl h9 dX8_join_23 ?_
      refine lv_iload_n hx hb dX8_join_24 rfl (lv_at hl 2 rfl) ?_
      refine lv_icmp_ne (tgt := 44) hx hb dX8_join_25 (by decide) (fun h10 => ?_) (fun h10 => ?_)
      · rw [if_neg h10] at hf
        refine lv_aload_n hx hb dX8_join_44 rfl (lv_at hl 0 rfl) ?_
        refine gf_X8_61 F hP dX8_join_45 ?_
        refine lv_iload_n hx hb dX8_join_48 rfl (lv_at hl 1 rfl) ?_
        obtain ⟨h11, hf⟩ := gd_e hf
        refine m_iald F hP ⟨by decide, by decide⟩ rfl h11 dX8_join_49 ?_
        obtain ⟨x12, ex12, hf⟩ := vl_x hf
        rw [← ex12]
        refine lv_istore_n (lv' := [(3, .int x12), (0, .ref (mAd E 0)), (1, .int p1), (2, .int p2)]) hx hb dX8_join_50 rfl hl (by decide) rfl (fun ls hl => ?_)
        refine lv_aload_n hx hb dX8_join_51 rfl (lv_at hl 1 rfl) ?_
        refine lv_iload_n hx hb dX8_join_52 rfl (lv_at hl 2 rfl) ?_
        refine lv_iload_n hx hb dX8_join_53 rfl (lv_at hl 3 rfl) ?_
        obtain ⟨r14, σ13, h15, hf⟩ := cl_e hf
        refine kc_X8_279 F hP hS h15 ⟨Nat.le_of_ble_eq_true rfl, Nat.le_of_ble_eq_true rfl⟩ hl.1 (Nat.le_of_ble_eq_true rfl) ⟨Nat.zero_le _, Nat.zero_le _⟩ dX8_join_54 (fun H locs hP hS => ?_)
        refine lv_pop hx hb dX8_join_57 rfl ?_
        refine lv_iconst (v := 0) hx hb dX8_join_58 (by decide) ?_
        refine lv_istore (lv' := [(4, .int (0 : Int32)), (3, .int x12), (0, .ref (mAd E 0)), (1, .int p1), (2, .int p2)]) hx hb dX8_join_59 hl (by decide) rfl (fun ls hl => ?_)
        exact lp_w (P := P_X8_join_61 p l e s m args below meth c E r σ') (fun K hK a ha => w_X8_join_61 B hK a.1 a.2.1 a.2.2.1 a.2.2.2.1 a.2.2.2.2 ha) FU _ hf _ _ _ hP hS (lv_sub hl [2, 3, 4, 1, 0] rfl)
      · rw [if_pos h10] at hf
        refine lv_aload_n hx hb dX8_join_28 rfl (lv_at hl 0 rfl) ?_
        refine gf_X8_43 F hP dX8_join_29 ?_
        refine lv_iload_n hx hb dX8_join_32 rfl (lv_at hl 2 rfl) ?_
        obtain ⟨h28, hf⟩ := gd_e hf
        refine m_iald F hP ⟨by decide, by decide⟩ rfl h28 dX8_join_33 ?_
        refine lv_iload_n hx hb dX8_join_34 rfl (lv_at hl 1 rfl) ?_
        obtain ⟨r30, σ29, h31, hf⟩ := cl_e hf
        refine kc_X8_275 F hP hS h31 ⟨Nat.le_of_ble_eq_true rfl, Nat.le_of_ble_eq_true rfl⟩ hl.1 (Nat.le_of_ble_eq_true rfl) ⟨Nat.zero_le _, Nat.zero_le _⟩ dX8_join_35 (fun H locs hP hS => ?_)
        refine lv_if_eq (tgt := 44) hx hb dX8_join_38 (by decide) (fun h32 => ?_) (fun h32 => ?_)
        · rw [if_pos h32] at hf
          refine lv_aload_n hx hb dX8_join_44 rfl (lv_at hl 0 rfl) ?_
          refine gf_X8_61 F hP dX8_join_45 ?_
          refine lv_iload_n hx hb dX8_join_48 rfl (lv_at hl 1 rfl) ?_
          obtain ⟨h33, hf⟩ := gd_e hf
          refine m_iald F hP ⟨by decide, by decide⟩ rfl h33 dX8_join_49 ?_
          obtain ⟨x34, ex34, hf⟩ := vl_x hf
          rw [← ex34]
          refine lv_istore_n (lv' := [(3, .int x34), (0, .ref (mAd E 0)), (1, .int p1), (2, .int p2)]) hx hb dX8_join_50 rfl hl (by decide) rfl (fun ls hl => ?_)
          refine lv_aload_n hx hb dX8_join_51 rfl (lv_at hl 1 rfl) ?_
          refine lv_iload_n hx hb dX8_join_52 rfl (lv_at hl 2 rfl) ?_
          refine lv_iload_n hx hb dX8_join_53 rfl (lv_at hl 3 rfl) ?_
          obtain ⟨r36, σ35, h37, hf⟩ := cl_e hf
          refine kc_X8_279 F hP hS h37 ⟨Nat.le_of_ble_eq_true rfl, Nat.le_of_ble_eq_true rfl⟩ hl.1 (Nat.le_of_ble_eq_true rfl) ⟨Nat.zero_le _, Nat.zero_le _⟩ dX8_join_54 (fun H locs hP hS => ?_)
          refine lv_pop hx hb dX8_join_57 rfl ?_
          refine lv_iconst (v := 0) hx hb dX8_join_58 (by decide) ?_
          refine lv_istore (lv' := [(4, .int (0 : Int32)), (3, .int x34), (0, .ref (mAd E 0)), (1, .int p1), (2, .int p2)]) hx hb dX8_join_59 hl (by decide) rfl (fun ls hl => ?_)
          exact lp_w (P := P_X8_join_61 p l e s m args below meth c E r σ') (fun K hK a ha => w_X8_join_61 B hK a.1 a.2.1 a.2.2.1 a.2.2.2.1 a.2.2.2.2 ha) FU _ hf _ _ _ hP hS (lv_sub hl [2, 3, 4, 1, 0] rfl)
        · rw [if_neg h32] at hf
          refine lv_bipush (v := (-2)) hx hb dX8_join_41 (by decide) ?_
          exact g_iret B hP hS hf dX8_join_43
    · rw [if_pos h8] at hf
      refine lv_iconst (v := (-1)) hx hb dX8_join_16 (by decide) ?_
      exact g_iret B hP hS hf dX8_join_17
theorem c_X8_join (l : Launch) {E : mEv} (hI : gIj (mG E)) {p1 : Int32} {p2 : Int32} {σ σ' : St} {r : Int32} (hf : f_X8_join p1 p2 σ = some (r, σ')) : gMi l yX8_join cX8_join 5 .int rm_X8_join [.ref (mAd E 0), .int p1, .int p2] (mG E) σ r σ' :=
  g_entry (by decide) (Nat.le_of_ble_eq_true rfl) hI (fun p e s m args below meth c B hP hS ls hl => w_X8_join_e B _ _ σ hf _ _ ls hP hS hl)
/-! PromisedSlotsModel.drop(I)I -/
def b_X8_drop_14 (K14 : (Int32 × Int32 × Int32 × St → Option (Int32 × St))) (a1 : Int32) (a2 : Int32) (a3 : Int32) (σ : St) : Option (Int32 × St) :=
  if (σ 0 24) ≤ a3 then
    cl (f_X8_goesFrom a1 (-4 : Int32) σ) fun r7 σ6 =>
    some (a2, σ6)
  else
    gd (ix a3 4) <|
    vl (a2 + (((σ 29 (nt a3)) >>> (a1 &&& 31)) &&& (1 : Int32))) fun x10 =>
    gd (ix a3 4) <|
    gd (ix a3 4) <|
    vl (up2 σ 29 (nt a3) ((σ 29 (nt a3)) &&& (((1 : Int32) <<< (a1 &&& 31)) ^^^ (-1 : Int32)))) fun σ13 =>
    vl (a3 + (1 : Int32)) fun x14 =>
    K14 (a1, x10, x14, σ13)
def f_X8_drop (p1 : Int32) (σ : St) : Option (Int32 × St) :=
  cl (f_X8_isDevice p1 σ) fun r2 σ1 =>
  if r2 = 0 then
    some ((-1 : Int32), σ1)
  else
    lp (fun K a => b_X8_drop_14 K a.1 a.2.1 a.2.2.1 a.2.2.2) FU (p1, (0 : Int32), (0 : Int32), σ1)
abbrev rm_X8_drop : Room := { frames := 2, cells := 0, slots := 0, locals := 48 }
def P_X8_drop_14 (p : Program) (l : Launch) (e : Env) (s : State) (m : MethodId) (args : Array Value) (below : List Frame) (meth : Method) (c : Code) (E : mEv) (r : Int32) (σ' : St) (a : Int32 × Int32 × Int32 × St) : Prop := ∀ (H : Heap) (locs : List Loc) (ls : Array Slot), gW (mG E) a.2.2.2 H → va_S (gA (mG E)) s.heap H locs → lv_has ls 4 [(0, .ref (mAd E 0)), (1, .int a.1), (2, .int a.2.1), (3, .int a.2.2.1)] → W p l e rm_X8_drop s m args below meth c H locs 0 0 (gQi below args s (mG E) r σ') (F0 m 14 ls [])
set_option maxHeartbeats 4000000 in
set_option maxRecDepth 100000 in
theorem w_X8_drop_14 {p : Program} {l : Launch} {e : Env} {s : State} {m : MethodId} {args : Array Value} {below : List Frame} {meth : Method} {c : Code} {E : mEv} {r : Int32} {σ' : St} (B : gBx p m meth c cX8_drop 4 (some .int) s args RX8 (mG E)) {K14 : (Int32 × Int32 × Int32 × St → Option (Int32 × St))} (hK14 : ∀ a, K14 a = some (r, σ') → P_X8_drop_14 p l e s m args below meth c E r σ' a) (a1 : Int32) (a2 : Int32) (a3 : Int32) (σ : St) (hf : b_X8_drop_14 K14 a1 a2 a3 σ = some (r, σ')) (H : Heap) (locs : List Loc) (ls : Array Slot) (hP : gW (mG E) σ H) (hS : va_S (gA (mG E)) s.heap H locs) (hl : lv_has ls 4 [(0, .ref (mAd E 0)), (1, .int a1), (2, .int a2), (3, .int a3)]) : W p l e rm_X8_drop s m args below meth c H locs 0 0 (gQi below args s (mG E) r σ') (F0 m 14 ls []) := by
  unfold b_X8_drop_14 at hf
  obtain ⟨F, hr, hlk⟩ := id B
  have hx := F.1
  have hb := F.2.1
  have hml := F.2.2.1
  have hown := F.2.2.2.1
  have hts := F.2.2.2.2.1
  refine lv_iload_n hx hb dX8_drop_14 rfl (lv_at hl 3 rfl) ?_
  refine lv_aload_n hx hb dX8_drop_15 rfl (lv_at hl 0 rfl) ?_
  refine gf_X8_246 F hP dX8_drop_16 ?_
  refine lv_icmp_ge (tgt := 55) hx hb dX8_drop_19 (by decide) (fun h5 => ?_) (fun h5 => ?_)
  · rw [if_pos h5] at hf
    refine lv_aload_n hx hb dX8_drop_55 rfl (lv_at hl 0 rfl) ?_
    refine lv_iload_n hx hb dX8_drop_56 rfl (lv_at hl 1 rfl) ?_
    refine lv_bipush (v := (-4)) hx hb dX8_drop_57 (by decide) ?_
    obtain ⟨r7, σ6, h8, hf⟩ := cl_e hf
    refine kc_X8_279 F hP hS h8 ⟨Nat.le_of_ble_eq_true rfl, Nat.le_of_ble_eq_true rfl⟩ hl.1 (Nat.le_of_ble_eq_true rfl) ⟨Nat.zero_le _, Nat.zero_le _⟩ dX8_drop_59 (fun H locs hP hS => ?_)
    refine lv_pop hx hb dX8_drop_62 rfl ?_
    refine lv_iload_n hx hb dX8_drop_63 rfl (lv_at hl 2 rfl) ?_
    exact g_iret B hP hS hf dX8_drop_64
  · rw [if_neg h5] at hf
    refine lv_iload_n hx hb dX8_drop_22 rfl (lv_at hl 2 rfl) ?_
    refine lv_aload_n hx hb dX8_drop_23 rfl (lv_at hl 0 rfl) ?_
    refine gf_X8_43 F hP dX8_drop_24 ?_
    refine lv_iload_n hx hb dX8_drop_27 rfl (lv_at hl 3 rfl) ?_
    obtain ⟨h9, hf⟩ := gd_e hf
    refine m_iald F hP ⟨by decide, by decide⟩ rfl h9 dX8_drop_28 ?_
    refine lv_iload_n hx hb dX8_drop_29 rfl (lv_at hl 1 rfl) ?_
    refine lv_ishr hx hb dX8_drop_30 ?_
    refine lv_iconst (v := 1) hx hb dX8_drop_31 (by decide) ?_
    refine lv_iand hx hb dX8_drop_32 ?_
    refine lv_iadd hx hb dX8_drop_33 ?_
    obtain ⟨x10, ex10, hf⟩ := vl_x hf
    rw [← ex10]
    refine lv_istore_n (lv' := [(2, .int x10), (0, .ref (mAd E 0)), (1, .int a1), (3, .int a3)]) hx hb dX8_drop_34 rfl hl (by decide) rfl (fun ls hl => ?_)
    refine lv_aload_n hx hb dX8_drop_35 rfl (lv_at hl 1 rfl) ?_
    refine gf_X8_43 F hP dX8_drop_36 ?_
    refine lv_iload_n hx hb dX8_drop_39 rfl (lv_at hl 3 rfl) ?_
    refine lv_dup2_11 hx hb dX8_drop_40 rfl rfl ?_
    obtain ⟨h11, hf⟩ := gd_e hf
    refine m_iald F hP ⟨by decide, by decide⟩ rfl h11 dX8_drop_41 ?_
    refine lv_iconst (v := 1) hx hb dX8_drop_42 (by decide) ?_
    refine lv_iload_n hx hb dX8_drop_43 rfl (lv_at hl 2 rfl) ?_
    refine lv_ishl hx hb dX8_drop_44 ?_
    refine lv_iconst (v := (-1)) hx hb dX8_drop_45 (by decide) ?_
    refine lv_ixor hx hb dX8_drop_46 ?_
    refine lv_iand hx hb dX8_drop_47 ?_
    obtain ⟨h12, hf⟩ := gd_e hf
    refine m_iast F hP hS ⟨by decide, by decide⟩ rfl h12 dX8_drop_48 (fun H locs hP hS => ?_)
    obtain ⟨σ13, eσ13, hf⟩ := vl_x hf
    rw [← eσ13] at hP
    refine lv_iinc (v := a3 + (1 : Int32)) (lv' := [(3, .int (a3 + (1 : Int32))), (2, .int x10), (0, .ref (mAd E 0)), (1, .int a1)]) hx hb dX8_drop_49 hl (k := 3) rfl rfl (by decide) rfl (fun ls hl => ?_)
    obtain ⟨x14, ex14, hf⟩ := vl_x hf
    rw [← ex14] at hl
    refine lv_goto (tgt := 14) hx hb dX8_drop_52 (by decide) ?_
    exact hK14 _ hf _ _ _ hP hS (lv_sub hl [2, 3, 1, 0] rfl)
set_option maxHeartbeats 4000000 in
set_option maxRecDepth 100000 in
theorem w_X8_drop_e {p : Program} {l : Launch} {e : Env} {s : State} {m : MethodId} {args : Array Value} {below : List Frame} {meth : Method} {c : Code} {E : mEv} {r : Int32} {σ' : St} (B : gBx p m meth c cX8_drop 4 (some .int) s args RX8 (mG E)) (p1 : Int32) (σ : St) (hf : f_X8_drop p1 σ = some (r, σ')) (H : Heap) (locs : List Loc) (ls : Array Slot) (hP : gW (mG E) σ H) (hS : va_S (gA (mG E)) s.heap H locs) (hl : lv_has ls 4 [(0, .ref (mAd E 0)), (1, .int p1)]) : W p l e rm_X8_drop s m args below meth c H locs 0 0 (gQi below args s (mG E) r σ') (F0 m 0 ls []) := by
  unfold f_X8_drop at hf
  obtain ⟨F, hr, hlk⟩ := id B
  have hx := F.1
  have hb := F.2.1
  have hml := F.2.2.1
  have hown := F.2.2.2.1
  have hts := F.2.2.2.2.1
  refine lv_aload_n hx hb dX8_drop_0 rfl (lv_at hl 0 rfl) ?_
  refine lv_iload_n hx hb dX8_drop_1 rfl (lv_at hl 1 rfl) ?_
  obtain ⟨r2, σ1, h3, hf⟩ := cl_e hf
  refine kc_X8_272 F hP hS h3 ⟨Nat.le_of_ble_eq_true rfl, Nat.le_of_ble_eq_true rfl⟩ hl.1 (Nat.le_of_ble_eq_true rfl) ⟨Nat.zero_le _, Nat.zero_le _⟩ dX8_drop_2 (fun H locs hP hS => ?_)
  refine lv_if_ne (tgt := 10) hx hb dX8_drop_5 (by decide) (fun h4 => ?_) (fun h4 => ?_)
  · rw [if_neg h4] at hf
    refine lv_iconst (v := 0) hx hb dX8_drop_10 (by decide) ?_
    refine lv_istore_n (lv' := [(2, .int (0 : Int32)), (0, .ref (mAd E 0)), (1, .int p1)]) hx hb dX8_drop_11 rfl hl (by decide) rfl (fun ls hl => ?_)
    refine lv_iconst (v := 0) hx hb dX8_drop_12 (by decide) ?_
    refine lv_istore_n (lv' := [(3, .int (0 : Int32)), (2, .int (0 : Int32)), (0, .ref (mAd E 0)), (1, .int p1)]) hx hb dX8_drop_13 rfl hl (by decide) rfl (fun ls hl => ?_)
    exact lp_w (P := P_X8_drop_14 p l e s m args below meth c E r σ') (fun K hK a ha => w_X8_drop_14 B hK a.1 a.2.1 a.2.2.1 a.2.2.2 ha) FU _ hf _ _ _ hP hS (lv_sub hl [2, 3, 1, 0] rfl)
  · rw [if_pos h4] at hf
    refine lv_iconst (v := (-1)) hx hb dX8_drop_8 (by decide) ?_
    exact g_iret B hP hS hf dX8_drop_9
theorem c_X8_drop (l : Launch) {E : mEv} (hI : gIj (mG E)) {p1 : Int32} {σ σ' : St} {r : Int32} (hf : f_X8_drop p1 σ = some (r, σ')) : gMi l yX8_drop cX8_drop 4 .int rm_X8_drop [.ref (mAd E 0), .int p1] (mG E) σ r σ' :=
  g_entry (by decide) (Nat.le_of_ble_eq_true rfl) hI (fun p e s m args below meth c B hP hS ls hl => w_X8_drop_e B _ σ hf _ _ ls hP hS hl)
/-! PromisedSlotsModel.load(III)I -/
def f_X8_load_85 (a1 : Int32) (a2 : Int32) (a4 : Int32) (s0 : Int32) (s1 : Int32) (σ : St) : Option (Int32 × St) :=
  gd (ix s1 8) <|
  vl (up2 σ 39 (nt s1) s0) fun σ20 =>
  if a2 = (1 : Int32) then
    gd (ix a1 8) <|
    vl (up2 σ20 40 (nt a1) a4) fun σ26 =>
    some (a4, σ26)
  else
    gd (ix a1 8) <|
    gd (ix a1 8) <|
    vl (up2 σ20 40 (nt a1) (σ20 40 (nt a1))) fun σ24 =>
    some (a4, σ24)
def f_X8_load_51 (a1 : Int32) (a2 : Int32) (a3 : Int32) (s0 : Int32) (σ : St) : Option (Int32 × St) :=
  vl (s0 + a3) fun x15 =>
  if x15 ≤ (99 : Int32) then
    if a2 = 0 then
      f_X8_load_85 a1 a2 x15 x15 a1 σ
    else
      gd (ix a1 8) <|
      f_X8_load_85 a1 a2 x15 (σ 39 (nt a1)) a1 σ
  else
    some ((-3 : Int32), σ)
def f_X8_load (p1 : Int32) (p2 : Int32) (p3 : Int32) (σ : St) : Option (Int32 × St) :=
  cl (f_X8_isDevice p1 σ) fun r2 σ1 =>
  if r2 = 0 then
    some ((-1 : Int32), σ1)
  else
    cl (f_X8_in (p2.toInt64) (0 : Int64) (1 : Int64) σ1) fun r6 σ5 =>
    if r6 = 0 then
      some ((-1 : Int32), σ5)
    else
      cl (f_X8_in (p3.toInt64) (0 : Int64) (99 : Int64) σ5) fun r10 σ9 =>
      if r10 = 0 then
        some ((-1 : Int32), σ9)
      else
        if p2 = 0 then
          gd (ix p1 8) <|
          f_X8_load_51 p1 p2 p3 (σ9 39 (nt p1)) σ9
        else
          gd (ix p1 8) <|
          f_X8_load_51 p1 p2 p3 (σ9 40 (nt p1)) σ9
abbrev rm_X8_load : Room := { frames := 2, cells := 0, slots := 0, locals := 46 }
set_option maxHeartbeats 4000000 in
set_option maxRecDepth 100000 in
theorem w_X8_load_85 {p : Program} {l : Launch} {e : Env} {s : State} {m : MethodId} {args : Array Value} {below : List Frame} {meth : Method} {c : Code} {E : mEv} {r : Int32} {σ' : St} (B : gBx p m meth c cX8_load 5 (some .int) s args RX8 (mG E)) (a1 : Int32) (a2 : Int32) (a4 : Int32) (s0 : Int32) (s1 : Int32) (σ : St) (hf : f_X8_load_85 a1 a2 a4 s0 s1 σ = some (r, σ')) (H : Heap) (locs : List Loc) (ls : Array Slot) (hP : gW (mG E) σ H) (hS : va_S (gA (mG E)) s.heap H locs) (hl : lv_has ls 5 [(0, .ref (mAd E 0)), (1, .int a1), (2, .int a2), (4, .int a4)]) : W p l e rm_X8_load s m args below meth c H locs 0 0 (gQi below args s (mG E) r σ') (F0 m 85 ls [.int s0, .int s1, .ref (mAd E 39)]) := by
  unfold f_X8_load_85 at hf
  obtain ⟨F, hr, hlk⟩ := id B
  have hx := F.1
  have hb := F.2.1
  have hml := F.2.2.1
  have hown := F.2.2.2.1
  have hts := F.2.2.2.2.1
  obtain ⟨h19, hf⟩ := gd_e hf
  refine m_iast F hP hS ⟨by decide, by decide⟩ rfl h19 dX8_load_85 (fun H locs hP hS => ?_)
  obtain ⟨σ20, eσ20, hf⟩ := vl_x hf
  rw [← eσ20] at hP
  refine lv_aload_n hx hb dX8_load_86 rfl (lv_at hl 0 rfl) ?_
  refine gf_X8_73 F hP dX8_load_87 ?_
  refine lv_iload_n hx hb dX8_load_90 rfl (lv_at hl 1 rfl) ?_
  refine lv_iload_n hx hb dX8_load_91 rfl (lv_at hl 2 rfl) ?_
  refine lv_iconst (v := 1) hx hb dX8_load_92 (by decide) ?_
  refine lv_icmp_ne (tgt := 101) hx hb dX8_load_93 (by decide) (fun h21 => ?_) (fun h21 => ?_)
  · rw [if_neg h21] at hf
    refine lv_aload_n hx hb dX8_load_101 rfl (lv_at hl 0 rfl) ?_
    refine gf_X8_73 F hP dX8_load_102 ?_
    refine lv_iload_n hx hb dX8_load_105 rfl (lv_at hl 1 rfl) ?_
    obtain ⟨h22, hf⟩ := gd_e hf
    refine m_iald F hP ⟨by decide, by decide⟩ rfl h22 dX8_load_106 ?_
    obtain ⟨h23, hf⟩ := gd_e hf
    refine m_iast F hP hS ⟨by decide, by decide⟩ rfl h23 dX8_load_107 (fun H locs hP hS => ?_)
    obtain ⟨σ24, eσ24, hf⟩ := vl_x hf
    rw [← eσ24] at hP
    refine lv_iload hx hb dX8_load_108 (lv_at hl 3 rfl) ?_
    exact g_iret B hP hS hf dX8_load_110
  · rw [if_pos h21] at hf
    refine lv_iload hx hb dX8_load_96 (lv_at hl 3 rfl) ?_
    refine lv_goto (tgt := 107) hx hb dX8_load_98 (by decide) ?_
    obtain ⟨h25, hf⟩ := gd_e hf
    refine m_iast F hP hS ⟨by decide, by decide⟩ rfl h25 dX8_load_107 (fun H locs hP hS => ?_)
    obtain ⟨σ26, eσ26, hf⟩ := vl_x hf
    rw [← eσ26] at hP
    refine lv_iload hx hb dX8_load_108 (lv_at hl 3 rfl) ?_
    exact g_iret B hP hS hf dX8_load_110
set_option maxHeartbeats 4000000 in
set_option maxRecDepth 100000 in
theorem w_X8_load_51 {p : Program} {l : Launch} {e : Env} {s : State} {m : MethodId} {args : Array Value} {below : List Frame} {meth : Method} {c : Code} {E : mEv} {r : Int32} {σ' : St} (B : gBx p m meth c cX8_load 5 (some .int) s args RX8 (mG E)) (a1 : Int32) (a2 : Int32) (a3 : Int32) (s0 : Int32) (σ : St) (hf : f_X8_load_51 a1 a2 a3 s0 σ = some (r, σ')) (H : Heap) (locs : List Loc) (ls : Array Slot) (hP : gW (mG E) σ H) (hS : va_S (gA (mG E)) s.heap H locs) (hl : lv_has ls 5 [(0, .ref (mAd E 0)), (1, .int a1), (2, .int a2), (3, .int a3)]) : W p l e rm_X8_load s m args below meth c H locs 0 0 (gQi below args s (mG E) r σ') (F0 m 51 ls [.int s0]) := by
  unfold f_X8_load_51 at hf
  obtain ⟨F, hr, hlk⟩ := id B
  have hx := F.1
  have hb := F.2.1
  have hml := F.2.2.1
  have hown := F.2.2.2.1
  have hts := F.2.2.2.2.1
  refine lv_iload_n hx hb dX8_load_51 rfl (lv_at hl 3 rfl) ?_
  refine lv_iadd hx hb dX8_load_52 ?_
  obtain ⟨x15, ex15, hf⟩ := vl_x hf
  rw [← ex15]
  refine lv_istore (lv' := [(4, .int x15), (0, .ref (mAd E 0)), (1, .int a1), (2, .int a2), (3, .int a3)]) hx hb dX8_load_53 hl (by decide) rfl (fun ls hl => ?_)
  refine lv_iload hx hb dX8_load_55 (lv_at hl 0 rfl) ?_
  refine lv_bipush (v := (99)) hx hb dX8_load_57 (by decide) ?_
  refine lv_icmp_le (tgt := 65) hx hb dX8_load_59 (by decide) (fun h16 => ?_) (fun h16 => ?_)
  · rw [if_pos h16] at hf
    refine lv_aload_n hx hb dX8_load_65 rfl (lv_at hl 1 rfl) ?_
    refine gf_X8_70 F hP dX8_load_66 ?_
    refine lv_iload_n hx hb dX8_load_69 rfl (lv_at hl 2 rfl) ?_
    refine lv_iload_n hx hb dX8_load_70 rfl (lv_at hl 3 rfl) ?_
    refine lv_if_ne (tgt := 79) hx hb dX8_load_71 (by decide) (fun h17 => ?_) (fun h17 => ?_)
    · rw [if_neg h17] at hf
      refine lv_aload_n hx hb dX8_load_79 rfl (lv_at hl 1 rfl) ?_
      refine gf_X8_70 F hP dX8_load_80 ?_
      refine lv_iload_n hx hb dX8_load_83 rfl (lv_at hl 2 rfl) ?_
      obtain ⟨h18, hf⟩ := gd_e hf
      refine m_iald F hP ⟨by decide, by decide⟩ rfl h18 dX8_load_84 ?_
      exact w_X8_load_85 B _ _ _ _ _ σ hf _ _ _ hP hS (lv_sub hl [1, 2, 3, 0] rfl)
    · rw [if_pos h17] at hf
      refine lv_iload hx hb dX8_load_74 (lv_at hl 0 rfl) ?_
      refine lv_goto (tgt := 85) hx hb dX8_load_76 (by decide) ?_
      exact w_X8_load_85 B _ _ _ _ _ σ hf _ _ _ hP hS (lv_sub hl [1, 2, 3, 0] rfl)
  · rw [if_neg h16] at hf
    refine lv_bipush (v := (-3)) hx hb dX8_load_62 (by decide) ?_
    exact g_iret B hP hS hf dX8_load_64
set_option maxHeartbeats 4000000 in
set_option maxRecDepth 100000 in
theorem w_X8_load_e {p : Program} {l : Launch} {e : Env} {s : State} {m : MethodId} {args : Array Value} {below : List Frame} {meth : Method} {c : Code} {E : mEv} {r : Int32} {σ' : St} (B : gBx p m meth c cX8_load 5 (some .int) s args RX8 (mG E)) (p1 : Int32) (p2 : Int32) (p3 : Int32) (σ : St) (hf : f_X8_load p1 p2 p3 σ = some (r, σ')) (H : Heap) (locs : List Loc) (ls : Array Slot) (hP : gW (mG E) σ H) (hS : va_S (gA (mG E)) s.heap H locs) (hl : lv_has ls 5 [(0, .ref (mAd E 0)), (1, .int p1), (2, .int p2), (3, .int p3)]) : W p l e rm_X8_load s m args below meth c H locs 0 0 (gQi below args s (mG E) r σ') (F0 m 0 ls []) := by
  unfold f_X8_load at hf
  obtain ⟨F, hr, hlk⟩ := id B
  have hx := F.1
  have hb := F.2.1
  have hml := F.2.2.1
  have hown := F.2.2.2.1
  have hts := F.2.2.2.2.1
  refine lv_aload_n hx hb dX8_load_0 rfl (lv_at hl 0 rfl) ?_
  refine lv_iload_n hx hb dX8_load_1 rfl (lv_at hl 1 rfl) ?_
  obtain ⟨r2, σ1, h3, hf⟩ := cl_e hf
  refine kc_X8_272 F hP hS h3 ⟨Nat.le_of_ble_eq_true rfl, Nat.le_of_ble_eq_true rfl⟩ hl.1 (Nat.le_of_ble_eq_true rfl) ⟨Nat.zero_le _, Nat.zero_le _⟩ dX8_load_2 (fun H locs hP hS => ?_)
  refine lv_if_eq (tgt := 30) hx hb dX8_load_5 (by decide) (fun h4 => ?_) (fun h4 => ?_)
  · rw [if_pos h4] at hf
    refine lv_iconst (v := (-1)) hx hb dX8_load_30 (by decide) ?_
    exact g_iret B hP hS hf dX8_load_31
  · rw [if_neg h4] at hf
    refine lv_iload_n hx hb dX8_load_8 rfl (lv_at hl 2 rfl) ?_
    refine lv_i2l hx hb dX8_load_9 rfl ?_
    refine lv_lconst (v := 0) hx hb dX8_load_10 (by decide) ?_
    refine lv_lconst (v := 1) hx hb dX8_load_11 (by decide) ?_
    obtain ⟨r6, σ5, h7, hf⟩ := cl_e hf
    refine kc_X8_161 F hP hS h7 ⟨Nat.le_of_ble_eq_true rfl, Nat.le_of_ble_eq_true rfl⟩ hl.1 (Nat.le_of_ble_eq_true rfl) ⟨Nat.zero_le _, Nat.zero_le _⟩ dX8_load_12 (fun H locs hP hS => ?_)
    refine lv_if_eq (tgt := 30) hx hb dX8_load_15 (by decide) (fun h8 => ?_) (fun h8 => ?_)
    · rw [if_pos h8] at hf
      refine lv_iconst (v := (-1)) hx hb dX8_load_30 (by decide) ?_
      exact g_iret B hP hS hf dX8_load_31
    · rw [if_neg h8] at hf
      refine lv_iload_n hx hb dX8_load_18 rfl (lv_at hl 3 rfl) ?_
      refine lv_i2l hx hb dX8_load_19 rfl ?_
      refine lv_lconst (v := 0) hx hb dX8_load_20 (by decide) ?_
      refine lv_ldc2 hx hb hown (hts _ tw_1069) dX8_load_21 ?_
      obtain ⟨r10, σ9, h11, hf⟩ := cl_e hf
      refine kc_X8_161 F hP hS h11 ⟨Nat.le_of_ble_eq_true rfl, Nat.le_of_ble_eq_true rfl⟩ hl.1 (Nat.le_of_ble_eq_true rfl) ⟨Nat.zero_le _, Nat.zero_le _⟩ dX8_load_24 (fun H locs hP hS => ?_)
      refine lv_if_ne (tgt := 32) hx hb dX8_load_27 (by decide) (fun h12 => ?_) (fun h12 => ?_)
      · rw [if_neg h12] at hf
        refine lv_iload_n hx hb dX8_load_32 rfl (lv_at hl 2 rfl) ?_
        refine lv_if_ne (tgt := 45) hx hb dX8_load_33 (by decide) (fun h13 => ?_) (fun h13 => ?_)
        · rw [if_neg h13] at hf
          refine lv_aload_n hx hb dX8_load_45 rfl (lv_at hl 0 rfl) ?_
          refine gf_X8_73 F hP dX8_load_46 ?_
          refine lv_iload_n hx hb dX8_load_49 rfl (lv_at hl 1 rfl) ?_
          obtain ⟨h14, hf⟩ := gd_e hf
          refine m_iald F hP ⟨by decide, by decide⟩ rfl h14 dX8_load_50 ?_
          exact w_X8_load_51 B _ _ _ _ σ9 hf _ _ _ hP hS (lv_sub hl [0, 1, 2, 3] rfl)
        · rw [if_pos h13] at hf
          refine lv_aload_n hx hb dX8_load_36 rfl (lv_at hl 0 rfl) ?_
          refine gf_X8_70 F hP dX8_load_37 ?_
          refine lv_iload_n hx hb dX8_load_40 rfl (lv_at hl 1 rfl) ?_
          obtain ⟨h27, hf⟩ := gd_e hf
          refine m_iald F hP ⟨by decide, by decide⟩ rfl h27 dX8_load_41 ?_
          refine lv_goto (tgt := 51) hx hb dX8_load_42 (by decide) ?_
          exact w_X8_load_51 B _ _ _ _ σ9 hf _ _ _ hP hS (lv_sub hl [0, 1, 2, 3] rfl)
      · rw [if_pos h12] at hf
        refine lv_iconst (v := (-1)) hx hb dX8_load_30 (by decide) ?_
        exact g_iret B hP hS hf dX8_load_31
theorem c_X8_load (l : Launch) {E : mEv} (hI : gIj (mG E)) {p1 : Int32} {p2 : Int32} {p3 : Int32} {σ σ' : St} {r : Int32} (hf : f_X8_load p1 p2 p3 σ = some (r, σ')) : gMi l yX8_load cX8_load 5 .int rm_X8_load [.ref (mAd E 0), .int p1, .int p2, .int p3] (mG E) σ r σ' :=
  g_entry (by decide) (Nat.le_of_ble_eq_true rfl) hI (fun p e s m args below meth c B hP hS ls hl => w_X8_load_e B _ _ _ σ hf _ _ ls hP hS hl)
/-! PromisedSlotsModel.deafen(II)I -/
def f_X8_deafen (p1 : Int32) (p2 : Int32) (σ : St) : Option (Int32 × St) :=
  cl (f_X8_isDevice p1 σ) fun r2 σ1 =>
  if r2 = 0 then
    some ((-1 : Int32), σ1)
  else
    cl (f_X8_in (p2.toInt64) (0 : Int64) (9 : Int64) σ1) fun r6 σ5 =>
    if r6 = 0 then
      some ((-1 : Int32), σ5)
    else
      gd (ix p1 8) <|
      vl (σ5 44 (nt p1)) fun x10 =>
      gd (ix p1 8) <|
      vl (up2 σ5 44 (nt p1) p2) fun σ12 =>
      some (x10, σ12)
abbrev rm_X8_deafen : Room := { frames := 2, cells := 0, slots := 0, locals := 46 }
set_option maxHeartbeats 4000000 in
set_option maxRecDepth 100000 in
theorem w_X8_deafen_e {p : Program} {l : Launch} {e : Env} {s : State} {m : MethodId} {args : Array Value} {below : List Frame} {meth : Method} {c : Code} {E : mEv} {r : Int32} {σ' : St} (B : gBx p m meth c cX8_deafen 4 (some .int) s args RX8 (mG E)) (p1 : Int32) (p2 : Int32) (σ : St) (hf : f_X8_deafen p1 p2 σ = some (r, σ')) (H : Heap) (locs : List Loc) (ls : Array Slot) (hP : gW (mG E) σ H) (hS : va_S (gA (mG E)) s.heap H locs) (hl : lv_has ls 4 [(0, .ref (mAd E 0)), (1, .int p1), (2, .int p2)]) : W p l e rm_X8_deafen s m args below meth c H locs 0 0 (gQi below args s (mG E) r σ') (F0 m 0 ls []) := by
  unfold f_X8_deafen at hf
  obtain ⟨F, hr, hlk⟩ := id B
  have hx := F.1
  have hb := F.2.1
  have hml := F.2.2.1
  have hown := F.2.2.2.1
  have hts := F.2.2.2.2.1
  refine lv_aload_n hx hb dX8_deafen_0 rfl (lv_at hl 0 rfl) ?_
  refine lv_iload_n hx hb dX8_deafen_1 rfl (lv_at hl 1 rfl) ?_
  obtain ⟨r2, σ1, h3, hf⟩ := cl_e hf
  refine kc_X8_272 F hP hS h3 ⟨Nat.le_of_ble_eq_true rfl, Nat.le_of_ble_eq_true rfl⟩ hl.1 (Nat.le_of_ble_eq_true rfl) ⟨Nat.zero_le _, Nat.zero_le _⟩ dX8_deafen_2 (fun H locs hP hS => ?_)
  refine lv_if_eq (tgt := 20) hx hb dX8_deafen_5 (by decide) (fun h4 => ?_) (fun h4 => ?_)
  · rw [if_pos h4] at hf
    refine lv_iconst (v := (-1)) hx hb dX8_deafen_20 (by decide) ?_
    exact g_iret B hP hS hf dX8_deafen_21
  · rw [if_neg h4] at hf
    refine lv_iload_n hx hb dX8_deafen_8 rfl (lv_at hl 2 rfl) ?_
    refine lv_i2l hx hb dX8_deafen_9 rfl ?_
    refine lv_lconst (v := 0) hx hb dX8_deafen_10 (by decide) ?_
    refine lv_ldc2 hx hb hown (hts _ tw_1074) dX8_deafen_11 ?_
    obtain ⟨r6, σ5, h7, hf⟩ := cl_e hf
    refine kc_X8_161 F hP hS h7 ⟨Nat.le_of_ble_eq_true rfl, Nat.le_of_ble_eq_true rfl⟩ hl.1 (Nat.le_of_ble_eq_true rfl) ⟨Nat.zero_le _, Nat.zero_le _⟩ dX8_deafen_14 (fun H locs hP hS => ?_)
    refine lv_if_ne (tgt := 22) hx hb dX8_deafen_17 (by decide) (fun h8 => ?_) (fun h8 => ?_)
    · rw [if_neg h8] at hf
      refine lv_aload_n hx hb dX8_deafen_22 rfl (lv_at hl 0 rfl) ?_
      refine gf_X8_85 F hP dX8_deafen_23 ?_
      refine lv_iload_n hx hb dX8_deafen_26 rfl (lv_at hl 1 rfl) ?_
      obtain ⟨h9, hf⟩ := gd_e hf
      refine m_iald F hP ⟨by decide, by decide⟩ rfl h9 dX8_deafen_27 ?_
      obtain ⟨x10, ex10, hf⟩ := vl_x hf
      rw [← ex10]
      refine lv_istore_n (lv' := [(3, .int x10), (0, .ref (mAd E 0)), (1, .int p1), (2, .int p2)]) hx hb dX8_deafen_28 rfl hl (by decide) rfl (fun ls hl => ?_)
      refine lv_aload_n hx hb dX8_deafen_29 rfl (lv_at hl 1 rfl) ?_
      refine gf_X8_85 F hP dX8_deafen_30 ?_
      refine lv_iload_n hx hb dX8_deafen_33 rfl (lv_at hl 2 rfl) ?_
      refine lv_iload_n hx hb dX8_deafen_34 rfl (lv_at hl 3 rfl) ?_
      obtain ⟨h11, hf⟩ := gd_e hf
      refine m_iast F hP hS ⟨by decide, by decide⟩ rfl h11 dX8_deafen_35 (fun H locs hP hS => ?_)
      obtain ⟨σ12, eσ12, hf⟩ := vl_x hf
      rw [← eσ12] at hP
      refine lv_iload_n hx hb dX8_deafen_36 rfl (lv_at hl 0 rfl) ?_
      exact g_iret B hP hS hf dX8_deafen_37
    · rw [if_pos h8] at hf
      refine lv_iconst (v := (-1)) hx hb dX8_deafen_20 (by decide) ?_
      exact g_iret B hP hS hf dX8_deafen_21
theorem c_X8_deafen (l : Launch) {E : mEv} (hI : gIj (mG E)) {p1 : Int32} {p2 : Int32} {σ σ' : St} {r : Int32} (hf : f_X8_deafen p1 p2 σ = some (r, σ')) : gMi l yX8_deafen cX8_deafen 4 .int rm_X8_deafen [.ref (mAd E 0), .int p1, .int p2] (mG E) σ r σ' :=
  g_entry (by decide) (Nat.le_of_ble_eq_true rfl) hI (fun p e s m args below meth c B hP hS ls hl => w_X8_deafen_e B _ _ σ hf _ _ ls hP hS hl)
/-! PromisedSlotsModel.scan(I)I -/
def b_X8_scan_26 (K26 : (Int32 × Int32 × St → Option (Int32 × St))) (a1 : Int32) (a2 : Int32) (σ : St) : Option (Int32 × St) :=
  if (σ 0 24) ≤ a2 then
    some ((-4 : Int32), σ)
  else
    gd (ix a2 4) <|
    cl (f_X8_has (σ 29 (nt a2)) a1 σ) fun r10 σ9 =>
    if r10 = 0 then
      vl (a2 + (1 : Int32)) fun x13 =>
      K26 (a1, x13, σ9)
    else
      gd (ix a1 8) <|
      vl (up2 σ9 36 (nt a1) a2) fun σ15 =>
      gd (ix a1 8) <|
      vl (up2 σ15 43 (nt a1) (0 : Int32)) fun σ17 =>
      some (a2, σ17)
def f_X8_scan (p1 : Int32) (σ : St) : Option (Int32 × St) :=
  cl (f_X8_isDevice p1 σ) fun r2 σ1 =>
  if r2 = 0 then
    some ((-1 : Int32), σ1)
  else
    gd (ix p1 8) <|
    if (σ1 36 (nt p1)) = (-4 : Int32) then
      lp (fun K a => b_X8_scan_26 K a.1 a.2.1 a.2.2) FU (p1, (0 : Int32), σ1)
    else
      some ((-2 : Int32), σ1)
abbrev rm_X8_scan : Room := { frames := 2, cells := 0, slots := 0, locals := 46 }
def P_X8_scan_26 (p : Program) (l : Launch) (e : Env) (s : State) (m : MethodId) (args : Array Value) (below : List Frame) (meth : Method) (c : Code) (E : mEv) (r : Int32) (σ' : St) (a : Int32 × Int32 × St) : Prop := ∀ (H : Heap) (locs : List Loc) (ls : Array Slot), gW (mG E) a.2.2 H → va_S (gA (mG E)) s.heap H locs → lv_has ls 3 [(0, .ref (mAd E 0)), (1, .int a.1), (2, .int a.2.1)] → W p l e rm_X8_scan s m args below meth c H locs 0 0 (gQi below args s (mG E) r σ') (F0 m 26 ls [])
set_option maxHeartbeats 4000000 in
set_option maxRecDepth 100000 in
theorem w_X8_scan_26 {p : Program} {l : Launch} {e : Env} {s : State} {m : MethodId} {args : Array Value} {below : List Frame} {meth : Method} {c : Code} {E : mEv} {r : Int32} {σ' : St} (B : gBx p m meth c cX8_scan 3 (some .int) s args RX8 (mG E)) {K26 : (Int32 × Int32 × St → Option (Int32 × St))} (hK26 : ∀ a, K26 a = some (r, σ') → P_X8_scan_26 p l e s m args below meth c E r σ' a) (a1 : Int32) (a2 : Int32) (σ : St) (hf : b_X8_scan_26 K26 a1 a2 σ = some (r, σ')) (H : Heap) (locs : List Loc) (ls : Array Slot) (hP : gW (mG E) σ H) (hS : va_S (gA (mG E)) s.heap H locs) (hl : lv_has ls 3 [(0, .ref (mAd E 0)), (1, .int a1), (2, .int a2)]) : W p l e rm_X8_scan s m args below meth c H locs 0 0 (gQi below args s (mG E) r σ') (F0 m 26 ls []) := by
  unfold b_X8_scan_26 at hf
  obtain ⟨F, hr, hlk⟩ := id B
  have hx := F.1
  have hb := F.2.1
  have hml := F.2.2.1
  have hown := F.2.2.2.1
  have hts := F.2.2.2.2.1
  refine lv_iload_n hx hb dX8_scan_26 rfl (lv_at hl 2 rfl) ?_
  refine lv_aload_n hx hb dX8_scan_27 rfl (lv_at hl 0 rfl) ?_
  refine gf_X8_246 F hP dX8_scan_28 ?_
  refine lv_icmp_ge (tgt := 69) hx hb dX8_scan_31 (by decide) (fun h7 => ?_) (fun h7 => ?_)
  · rw [if_pos h7] at hf
    refine lv_bipush (v := (-4)) hx hb dX8_scan_69 (by decide) ?_
    exact g_iret B hP hS hf dX8_scan_71
  · rw [if_neg h7] at hf
    refine lv_aload_n hx hb dX8_scan_34 rfl (lv_at hl 0 rfl) ?_
    refine gf_X8_43 F hP dX8_scan_35 ?_
    refine lv_iload_n hx hb dX8_scan_38 rfl (lv_at hl 2 rfl) ?_
    obtain ⟨h8, hf⟩ := gd_e hf
    refine m_iald F hP ⟨by decide, by decide⟩ rfl h8 dX8_scan_39 ?_
    refine lv_iload_n hx hb dX8_scan_40 rfl (lv_at hl 1 rfl) ?_
    obtain ⟨r10, σ9, h11, hf⟩ := cl_e hf
    refine kc_X8_275 F hP hS h11 ⟨Nat.le_of_ble_eq_true rfl, Nat.le_of_ble_eq_true rfl⟩ hl.1 (Nat.le_of_ble_eq_true rfl) ⟨Nat.zero_le _, Nat.zero_le _⟩ dX8_scan_41 (fun H locs hP hS => ?_)
    refine lv_if_eq (tgt := 63) hx hb dX8_scan_44 (by decide) (fun h12 => ?_) (fun h12 => ?_)
    · rw [if_pos h12] at hf
      refine lv_iinc (v := a2 + (1 : Int32)) (lv' := [(2, .int (a2 + (1 : Int32))), (0, .ref (mAd E 0)), (1, .int a1)]) hx hb dX8_scan_63 hl (k := 2) rfl rfl (by decide) rfl (fun ls hl => ?_)
      obtain ⟨x13, ex13, hf⟩ := vl_x hf
      rw [← ex13] at hl
      refine lv_goto (tgt := 26) hx hb dX8_scan_66 (by decide) ?_
      exact hK26 _ hf _ _ _ hP hS (lv_sub hl [1, 2, 0] rfl)
    · rw [if_neg h12] at hf
      refine lv_aload_n hx hb dX8_scan_47 rfl (lv_at hl 0 rfl) ?_
      refine gf_X8_61 F hP dX8_scan_48 ?_
      refine lv_iload_n hx hb dX8_scan_51 rfl (lv_at hl 1 rfl) ?_
      refine lv_iload_n hx hb dX8_scan_52 rfl (lv_at hl 2 rfl) ?_
      obtain ⟨h14, hf⟩ := gd_e hf
      refine m_iast F hP hS ⟨by decide, by decide⟩ rfl h14 dX8_scan_53 (fun H locs hP hS => ?_)
      obtain ⟨σ15, eσ15, hf⟩ := vl_x hf
      rw [← eσ15] at hP
      refine lv_aload_n hx hb dX8_scan_54 rfl (lv_at hl 0 rfl) ?_
      refine gf_X8_82 F hP dX8_scan_55 ?_
      refine lv_iload_n hx hb dX8_scan_58 rfl (lv_at hl 1 rfl) ?_
      refine lv_iconst (v := 0) hx hb dX8_scan_59 (by decide) ?_
      obtain ⟨h16, hf⟩ := gd_e hf
      refine m_iast F hP hS ⟨by decide, by decide⟩ rfl h16 dX8_scan_60 (fun H locs hP hS => ?_)
      obtain ⟨σ17, eσ17, hf⟩ := vl_x hf
      rw [← eσ17] at hP
      refine lv_iload_n hx hb dX8_scan_61 rfl (lv_at hl 2 rfl) ?_
      exact g_iret B hP hS hf dX8_scan_62
set_option maxHeartbeats 4000000 in
set_option maxRecDepth 100000 in
theorem w_X8_scan_e {p : Program} {l : Launch} {e : Env} {s : State} {m : MethodId} {args : Array Value} {below : List Frame} {meth : Method} {c : Code} {E : mEv} {r : Int32} {σ' : St} (B : gBx p m meth c cX8_scan 3 (some .int) s args RX8 (mG E)) (p1 : Int32) (σ : St) (hf : f_X8_scan p1 σ = some (r, σ')) (H : Heap) (locs : List Loc) (ls : Array Slot) (hP : gW (mG E) σ H) (hS : va_S (gA (mG E)) s.heap H locs) (hl : lv_has ls 3 [(0, .ref (mAd E 0)), (1, .int p1)]) : W p l e rm_X8_scan s m args below meth c H locs 0 0 (gQi below args s (mG E) r σ') (F0 m 0 ls []) := by
  unfold f_X8_scan at hf
  obtain ⟨F, hr, hlk⟩ := id B
  have hx := F.1
  have hb := F.2.1
  have hml := F.2.2.1
  have hown := F.2.2.2.1
  have hts := F.2.2.2.2.1
  refine lv_aload_n hx hb dX8_scan_0 rfl (lv_at hl 0 rfl) ?_
  refine lv_iload_n hx hb dX8_scan_1 rfl (lv_at hl 1 rfl) ?_
  obtain ⟨r2, σ1, h3, hf⟩ := cl_e hf
  refine kc_X8_272 F hP hS h3 ⟨Nat.le_of_ble_eq_true rfl, Nat.le_of_ble_eq_true rfl⟩ hl.1 (Nat.le_of_ble_eq_true rfl) ⟨Nat.zero_le _, Nat.zero_le _⟩ dX8_scan_2 (fun H locs hP hS => ?_)
  refine lv_if_ne (tgt := 10) hx hb dX8_scan_5 (by decide) (fun h4 => ?_) (fun h4 => ?_)
  · rw [if_neg h4] at hf
    refine lv_aload_n hx hb dX8_scan_10 rfl (lv_at hl 0 rfl) ?_
    refine gf_X8_61 F hP dX8_scan_11 ?_
    refine lv_iload_n hx hb dX8_scan_14 rfl (lv_at hl 1 rfl) ?_
    obtain ⟨h5, hf⟩ := gd_e hf
    refine m_iald F hP ⟨by decide, by decide⟩ rfl h5 dX8_scan_15 ?_
    refine lv_bipush (v := (-4)) hx hb dX8_scan_16 (by decide) ?_
    refine lv_icmp_eq (tgt := 24) hx hb dX8_scan_18 (by decide) (fun h6 => ?_) (fun h6 => ?_)
    · rw [if_pos h6] at hf
      refine lv_iconst (v := 0) hx hb dX8_scan_24 (by decide) ?_
      refine lv_istore_n (lv' := [(2, .int (0 : Int32)), (0, .ref (mAd E 0)), (1, .int p1)]) hx hb dX8_scan_25 rfl hl (by decide) rfl (fun ls hl => ?_)
      exact lp_w (P := P_X8_scan_26 p l e s m args below meth c E r σ') (fun K hK a ha => w_X8_scan_26 B hK a.1 a.2.1 a.2.2 ha) FU _ hf _ _ _ hP hS (lv_sub hl [1, 2, 0] rfl)
    · rw [if_neg h6] at hf
      refine lv_bipush (v := (-2)) hx hb dX8_scan_21 (by decide) ?_
      exact g_iret B hP hS hf dX8_scan_23
  · rw [if_pos h4] at hf
    refine lv_iconst (v := (-1)) hx hb dX8_scan_8 (by decide) ?_
    exact g_iret B hP hS hf dX8_scan_9
theorem c_X8_scan (l : Launch) {E : mEv} (hI : gIj (mG E)) {p1 : Int32} {σ σ' : St} {r : Int32} (hf : f_X8_scan p1 σ = some (r, σ')) : gMi l yX8_scan cX8_scan 3 .int rm_X8_scan [.ref (mAd E 0), .int p1] (mG E) σ r σ' :=
  g_entry (by decide) (Nat.le_of_ble_eq_true rfl) hI (fun p e s m args below meth c B hP hS ls hl => w_X8_scan_e B _ σ hf _ _ ls hP hS hl)
/-! PromisedSlotsModel.hasPromise(I)Z -/
def b_X8_hasPromise_4 (K4 : (Int32 × Int32 × Int32 × St → Option (Int32 × St))) (a1 : Int32) (a2 : Int32) (a3 : Int32) (σ : St) : Option (Int32 × St) :=
  if (σ 0 24) ≤ a3 then
    gd (a2 = 0 ∨ a2 = 1) <|
    some (a2, σ)
  else
    if a2 = 0 then
      cl (f_X8_promiseOf a3 a1 σ) fun r6 σ5 =>
      if r6 = (-4 : Int32) then
        vl (a3 + (1 : Int32)) fun x9 =>
        K4 (a1, (0 : Int32), x9, σ5)
      else
        vl (a3 + (1 : Int32)) fun x10 =>
        K4 (a1, (1 : Int32), x10, σ5)
    else
      vl (a3 + (1 : Int32)) fun x4 =>
      K4 (a1, (1 : Int32), x4, σ)
def f_X8_hasPromise (p1 : Int32) (σ : St) : Option (Int32 × St) :=
  lp (fun K a => b_X8_hasPromise_4 K a.1 a.2.1 a.2.2.1 a.2.2.2) FU (p1, (0 : Int32), (0 : Int32), σ)
abbrev rm_X8_hasPromise : Room := { frames := 1, cells := 0, slots := 0, locals := 23 }
def P_X8_hasPromise_4 (p : Program) (l : Launch) (e : Env) (s : State) (m : MethodId) (args : Array Value) (below : List Frame) (meth : Method) (c : Code) (E : mEv) (r : Int32) (σ' : St) (a : Int32 × Int32 × Int32 × St) : Prop := ∀ (H : Heap) (locs : List Loc) (ls : Array Slot), gW (mG E) a.2.2.2 H → va_S (gA (mG E)) s.heap H locs → lv_has ls 4 [(0, .ref (mAd E 0)), (1, .int a.1), (2, .int a.2.1), (3, .int a.2.2.1)] → W p l e rm_X8_hasPromise s m args below meth c H locs 0 0 (gQi below args s (mG E) r σ') (F0 m 4 ls [])
set_option maxHeartbeats 4000000 in
set_option maxRecDepth 100000 in
theorem w_X8_hasPromise_4 {p : Program} {l : Launch} {e : Env} {s : State} {m : MethodId} {args : Array Value} {below : List Frame} {meth : Method} {c : Code} {E : mEv} {r : Int32} {σ' : St} (B : gBx p m meth c cX8_hasPromise 4 (some .boolean) s args RX8 (mG E)) {K4 : (Int32 × Int32 × Int32 × St → Option (Int32 × St))} (hK4 : ∀ a, K4 a = some (r, σ') → P_X8_hasPromise_4 p l e s m args below meth c E r σ' a) (a1 : Int32) (a2 : Int32) (a3 : Int32) (σ : St) (hf : b_X8_hasPromise_4 K4 a1 a2 a3 σ = some (r, σ')) (H : Heap) (locs : List Loc) (ls : Array Slot) (hP : gW (mG E) σ H) (hS : va_S (gA (mG E)) s.heap H locs) (hl : lv_has ls 4 [(0, .ref (mAd E 0)), (1, .int a1), (2, .int a2), (3, .int a3)]) : W p l e rm_X8_hasPromise s m args below meth c H locs 0 0 (gQi below args s (mG E) r σ') (F0 m 4 ls []) := by
  unfold b_X8_hasPromise_4 at hf
  obtain ⟨F, hr, hlk⟩ := id B
  have hx := F.1
  have hb := F.2.1
  have hml := F.2.2.1
  have hown := F.2.2.2.1
  have hts := F.2.2.2.2.1
  refine lv_iload_n hx hb dX8_hasPromise_4 rfl (lv_at hl 3 rfl) ?_
  refine lv_aload_n hx hb dX8_hasPromise_5 rfl (lv_at hl 0 rfl) ?_
  refine gf_X8_246 F hP dX8_hasPromise_6 ?_
  refine lv_icmp_ge (tgt := 39) hx hb dX8_hasPromise_9 (by decide) (fun h1 => ?_) (fun h1 => ?_)
  · rw [if_pos h1] at hf
    refine lv_iload_n hx hb dX8_hasPromise_39 rfl (lv_at hl 2 rfl) ?_
    obtain ⟨h2, hf⟩ := gd_e hf
    exact g_zret B hP hS hf h2 dX8_hasPromise_40
  · rw [if_neg h1] at hf
    refine lv_iload_n hx hb dX8_hasPromise_12 rfl (lv_at hl 2 rfl) ?_
    refine lv_if_ne (tgt := 27) hx hb dX8_hasPromise_13 (by decide) (fun h3 => ?_) (fun h3 => ?_)
    · rw [if_neg h3] at hf
      refine lv_iconst (v := 1) hx hb dX8_hasPromise_27 (by decide) ?_
      refine lv_goto (tgt := 32) hx hb dX8_hasPromise_28 (by decide) ?_
      refine lv_istore_n (lv' := [(2, .int (1 : Int32)), (0, .ref (mAd E 0)), (1, .int a1), (3, .int a3)]) hx hb dX8_hasPromise_32 rfl hl (by decide) rfl (fun ls hl => ?_)
      refine lv_iinc (v := a3 + (1 : Int32)) (lv' := [(3, .int (a3 + (1 : Int32))), (2, .int (1 : Int32)), (0, .ref (mAd E 0)), (1, .int a1)]) hx hb dX8_hasPromise_33 hl (k := 3) rfl rfl (by decide) rfl (fun ls hl => ?_)
      obtain ⟨x4, ex4, hf⟩ := vl_x hf
      rw [← ex4] at hl
      refine lv_goto (tgt := 4) hx hb dX8_hasPromise_36 (by decide) ?_
      exact hK4 _ hf _ _ _ hP hS (lv_sub hl [2, 3, 1, 0] rfl)
    · rw [if_pos h3] at hf
      refine lv_aload_n hx hb dX8_hasPromise_16 rfl (lv_at hl 0 rfl) ?_
      refine lv_iload_n hx hb dX8_hasPromise_17 rfl (lv_at hl 3 rfl) ?_
      refine lv_iload_n hx hb dX8_hasPromise_18 rfl (lv_at hl 1 rfl) ?_
      obtain ⟨r6, σ5, h7, hf⟩ := cl_e hf
      refine kc_X8_265 F hP hS h7 ⟨Nat.le_of_ble_eq_true rfl, Nat.le_of_ble_eq_true rfl⟩ hl.1 (Nat.le_of_ble_eq_true rfl) ⟨Nat.zero_le _, Nat.zero_le _⟩ dX8_hasPromise_19 (fun H locs hP hS => ?_)
      refine lv_bipush (v := (-4)) hx hb dX8_hasPromise_22 (by decide) ?_
      refine lv_icmp_eq (tgt := 31) hx hb dX8_hasPromise_24 (by decide) (fun h8 => ?_) (fun h8 => ?_)
      · rw [if_pos h8] at hf
        refine lv_iconst (v := 0) hx hb dX8_hasPromise_31 (by decide) ?_
        refine lv_istore_n (lv' := [(2, .int (0 : Int32)), (0, .ref (mAd E 0)), (1, .int a1), (3, .int a3)]) hx hb dX8_hasPromise_32 rfl hl (by decide) rfl (fun ls hl => ?_)
        refine lv_iinc (v := a3 + (1 : Int32)) (lv' := [(3, .int (a3 + (1 : Int32))), (2, .int (0 : Int32)), (0, .ref (mAd E 0)), (1, .int a1)]) hx hb dX8_hasPromise_33 hl (k := 3) rfl rfl (by decide) rfl (fun ls hl => ?_)
        obtain ⟨x9, ex9, hf⟩ := vl_x hf
        rw [← ex9] at hl
        refine lv_goto (tgt := 4) hx hb dX8_hasPromise_36 (by decide) ?_
        exact hK4 _ hf _ _ _ hP hS (lv_sub hl [2, 3, 1, 0] rfl)
      · rw [if_neg h8] at hf
        refine lv_iconst (v := 1) hx hb dX8_hasPromise_27 (by decide) ?_
        refine lv_goto (tgt := 32) hx hb dX8_hasPromise_28 (by decide) ?_
        refine lv_istore_n (lv' := [(2, .int (1 : Int32)), (0, .ref (mAd E 0)), (1, .int a1), (3, .int a3)]) hx hb dX8_hasPromise_32 rfl hl (by decide) rfl (fun ls hl => ?_)
        refine lv_iinc (v := a3 + (1 : Int32)) (lv' := [(3, .int (a3 + (1 : Int32))), (2, .int (1 : Int32)), (0, .ref (mAd E 0)), (1, .int a1)]) hx hb dX8_hasPromise_33 hl (k := 3) rfl rfl (by decide) rfl (fun ls hl => ?_)
        obtain ⟨x10, ex10, hf⟩ := vl_x hf
        rw [← ex10] at hl
        refine lv_goto (tgt := 4) hx hb dX8_hasPromise_36 (by decide) ?_
        exact hK4 _ hf _ _ _ hP hS (lv_sub hl [2, 3, 1, 0] rfl)
set_option maxHeartbeats 4000000 in
set_option maxRecDepth 100000 in
theorem w_X8_hasPromise_e {p : Program} {l : Launch} {e : Env} {s : State} {m : MethodId} {args : Array Value} {below : List Frame} {meth : Method} {c : Code} {E : mEv} {r : Int32} {σ' : St} (B : gBx p m meth c cX8_hasPromise 4 (some .boolean) s args RX8 (mG E)) (p1 : Int32) (σ : St) (hf : f_X8_hasPromise p1 σ = some (r, σ')) (H : Heap) (locs : List Loc) (ls : Array Slot) (hP : gW (mG E) σ H) (hS : va_S (gA (mG E)) s.heap H locs) (hl : lv_has ls 4 [(0, .ref (mAd E 0)), (1, .int p1)]) : W p l e rm_X8_hasPromise s m args below meth c H locs 0 0 (gQi below args s (mG E) r σ') (F0 m 0 ls []) := by
  unfold f_X8_hasPromise at hf
  obtain ⟨F, hr, hlk⟩ := id B
  have hx := F.1
  have hb := F.2.1
  have hml := F.2.2.1
  have hown := F.2.2.2.1
  have hts := F.2.2.2.2.1
  refine lv_iconst (v := 0) hx hb dX8_hasPromise_0 (by decide) ?_
  refine lv_istore_n (lv' := [(2, .int (0 : Int32)), (0, .ref (mAd E 0)), (1, .int p1)]) hx hb dX8_hasPromise_1 rfl hl (by decide) rfl (fun ls hl => ?_)
  refine lv_iconst (v := 0) hx hb dX8_hasPromise_2 (by decide) ?_
  refine lv_istore_n (lv' := [(3, .int (0 : Int32)), (2, .int (0 : Int32)), (0, .ref (mAd E 0)), (1, .int p1)]) hx hb dX8_hasPromise_3 rfl hl (by decide) rfl (fun ls hl => ?_)
  exact lp_w (P := P_X8_hasPromise_4 p l e s m args below meth c E r σ') (fun K hK a ha => w_X8_hasPromise_4 B hK a.1 a.2.1 a.2.2.1 a.2.2.2 ha) FU _ hf _ _ _ hP hS (lv_sub hl [2, 3, 1, 0] rfl)
theorem c_X8_hasPromise (l : Launch) {E : mEv} (hI : gIj (mG E)) {p1 : Int32} {σ σ' : St} {r : Int32} (hf : f_X8_hasPromise p1 σ = some (r, σ')) : gMi l yX8_hasPromise cX8_hasPromise 4 .boolean rm_X8_hasPromise [.ref (mAd E 0), .int p1] (mG E) σ r σ' :=
  g_entry (by decide) (Nat.le_of_ble_eq_true rfl) hI (fun p e s m args below meth c B hP hS ls hl => w_X8_hasPromise_e B _ σ hf _ _ ls hP hS hl)
/-! PromisedSlotsModel.taken(I)I -/
def b_X8_taken_4 (K4 : (Int32 × Int32 × Int32 × St → Option (Int32 × St))) (a1 : Int32) (a2 : Int32) (a3 : Int32) (σ : St) : Option (Int32 × St) :=
  gd (ix a1 4) <|
  if (σ 30 (nt a1)) ≤ a3 then
    some (a2, σ)
  else
    gd (ix (((7 : Int32) * a1) + a3) 28) <|
    vl (a2 + (σ 32 (nt (((7 : Int32) * a1) + a3)))) fun x4 =>
    vl (a3 + (1 : Int32)) fun x5 =>
    K4 (a1, x4, x5, σ)
def f_X8_taken (p1 : Int32) (σ : St) : Option (Int32 × St) :=
  lp (fun K a => b_X8_taken_4 K a.1 a.2.1 a.2.2.1 a.2.2.2) FU (p1, (0 : Int32), (0 : Int32), σ)
abbrev rm_X8_taken : Room := { frames := 0, cells := 0, slots := 0, locals := 0 }
def P_X8_taken_4 (p : Program) (l : Launch) (e : Env) (s : State) (m : MethodId) (args : Array Value) (below : List Frame) (meth : Method) (c : Code) (E : mEv) (r : Int32) (σ' : St) (a : Int32 × Int32 × Int32 × St) : Prop := ∀ (H : Heap) (locs : List Loc) (ls : Array Slot), gW (mG E) a.2.2.2 H → va_S (gA (mG E)) s.heap H locs → lv_has ls 4 [(0, .ref (mAd E 0)), (1, .int a.1), (2, .int a.2.1), (3, .int a.2.2.1)] → W p l e rm_X8_taken s m args below meth c H locs 0 0 (gQi below args s (mG E) r σ') (F0 m 4 ls [])
set_option maxHeartbeats 4000000 in
set_option maxRecDepth 100000 in
theorem w_X8_taken_4 {p : Program} {l : Launch} {e : Env} {s : State} {m : MethodId} {args : Array Value} {below : List Frame} {meth : Method} {c : Code} {E : mEv} {r : Int32} {σ' : St} (B : gBx p m meth c cX8_taken 4 (some .int) s args RX8 (mG E)) {K4 : (Int32 × Int32 × Int32 × St → Option (Int32 × St))} (hK4 : ∀ a, K4 a = some (r, σ') → P_X8_taken_4 p l e s m args below meth c E r σ' a) (a1 : Int32) (a2 : Int32) (a3 : Int32) (σ : St) (hf : b_X8_taken_4 K4 a1 a2 a3 σ = some (r, σ')) (H : Heap) (locs : List Loc) (ls : Array Slot) (hP : gW (mG E) σ H) (hS : va_S (gA (mG E)) s.heap H locs) (hl : lv_has ls 4 [(0, .ref (mAd E 0)), (1, .int a1), (2, .int a2), (3, .int a3)]) : W p l e rm_X8_taken s m args below meth c H locs 0 0 (gQi below args s (mG E) r σ') (F0 m 4 ls []) := by
  unfold b_X8_taken_4 at hf
  obtain ⟨F, hr, hlk⟩ := id B
  have hx := F.1
  have hb := F.2.1
  have hml := F.2.2.1
  have hown := F.2.2.2.1
  have hts := F.2.2.2.2.1
  refine lv_iload_n hx hb dX8_taken_4 rfl (lv_at hl 3 rfl) ?_
  refine lv_aload_n hx hb dX8_taken_5 rfl (lv_at hl 0 rfl) ?_
  refine gf_X8_46 F hP dX8_taken_6 ?_
  refine lv_iload_n hx hb dX8_taken_9 rfl (lv_at hl 1 rfl) ?_
  obtain ⟨h1, hf⟩ := gd_e hf
  refine m_iald F hP ⟨by decide, by decide⟩ rfl h1 dX8_taken_10 ?_
  refine lv_icmp_ge (tgt := 34) hx hb dX8_taken_11 (by decide) (fun h2 => ?_) (fun h2 => ?_)
  · rw [if_pos h2] at hf
    refine lv_iload_n hx hb dX8_taken_34 rfl (lv_at hl 2 rfl) ?_
    exact g_iret B hP hS hf dX8_taken_35
  · rw [if_neg h2] at hf
    refine lv_iload_n hx hb dX8_taken_14 rfl (lv_at hl 2 rfl) ?_
    refine lv_aload_n hx hb dX8_taken_15 rfl (lv_at hl 0 rfl) ?_
    refine gf_X8_52 F hP dX8_taken_16 ?_
    refine lv_bipush (v := (7)) hx hb dX8_taken_19 (by decide) ?_
    refine lv_iload_n hx hb dX8_taken_21 rfl (lv_at hl 1 rfl) ?_
    refine lv_imul hx hb dX8_taken_22 ?_
    refine lv_iload_n hx hb dX8_taken_23 rfl (lv_at hl 3 rfl) ?_
    refine lv_iadd hx hb dX8_taken_24 ?_
    obtain ⟨h3, hf⟩ := gd_e hf
    refine m_iald F hP ⟨by decide, by decide⟩ rfl h3 dX8_taken_25 ?_
    refine lv_iadd hx hb dX8_taken_26 ?_
    obtain ⟨x4, ex4, hf⟩ := vl_x hf
    rw [← ex4]
    refine lv_istore_n (lv' := [(2, .int x4), (0, .ref (mAd E 0)), (1, .int a1), (3, .int a3)]) hx hb dX8_taken_27 rfl hl (by decide) rfl (fun ls hl => ?_)
    refine lv_iinc (v := a3 + (1 : Int32)) (lv' := [(3, .int (a3 + (1 : Int32))), (2, .int x4), (0, .ref (mAd E 0)), (1, .int a1)]) hx hb dX8_taken_28 hl (k := 3) rfl rfl (by decide) rfl (fun ls hl => ?_)
    obtain ⟨x5, ex5, hf⟩ := vl_x hf
    rw [← ex5] at hl
    refine lv_goto (tgt := 4) hx hb dX8_taken_31 (by decide) ?_
    exact hK4 _ hf _ _ _ hP hS (lv_sub hl [2, 3, 1, 0] rfl)
set_option maxHeartbeats 4000000 in
set_option maxRecDepth 100000 in
theorem w_X8_taken_e {p : Program} {l : Launch} {e : Env} {s : State} {m : MethodId} {args : Array Value} {below : List Frame} {meth : Method} {c : Code} {E : mEv} {r : Int32} {σ' : St} (B : gBx p m meth c cX8_taken 4 (some .int) s args RX8 (mG E)) (p1 : Int32) (σ : St) (hf : f_X8_taken p1 σ = some (r, σ')) (H : Heap) (locs : List Loc) (ls : Array Slot) (hP : gW (mG E) σ H) (hS : va_S (gA (mG E)) s.heap H locs) (hl : lv_has ls 4 [(0, .ref (mAd E 0)), (1, .int p1)]) : W p l e rm_X8_taken s m args below meth c H locs 0 0 (gQi below args s (mG E) r σ') (F0 m 0 ls []) := by
  unfold f_X8_taken at hf
  obtain ⟨F, hr, hlk⟩ := id B
  have hx := F.1
  have hb := F.2.1
  have hml := F.2.2.1
  have hown := F.2.2.2.1
  have hts := F.2.2.2.2.1
  refine lv_iconst (v := 0) hx hb dX8_taken_0 (by decide) ?_
  refine lv_istore_n (lv' := [(2, .int (0 : Int32)), (0, .ref (mAd E 0)), (1, .int p1)]) hx hb dX8_taken_1 rfl hl (by decide) rfl (fun ls hl => ?_)
  refine lv_iconst (v := 0) hx hb dX8_taken_2 (by decide) ?_
  refine lv_istore_n (lv' := [(3, .int (0 : Int32)), (2, .int (0 : Int32)), (0, .ref (mAd E 0)), (1, .int p1)]) hx hb dX8_taken_3 rfl hl (by decide) rfl (fun ls hl => ?_)
  exact lp_w (P := P_X8_taken_4 p l e s m args below meth c E r σ') (fun K hK a ha => w_X8_taken_4 B hK a.1 a.2.1 a.2.2.1 a.2.2.2 ha) FU _ hf _ _ _ hP hS (lv_sub hl [2, 3, 1, 0] rfl)
theorem c_X8_taken (l : Launch) {E : mEv} (hI : gIj (mG E)) {p1 : Int32} {σ σ' : St} {r : Int32} (hf : f_X8_taken p1 σ = some (r, σ')) : gMi l yX8_taken cX8_taken 4 .int rm_X8_taken [.ref (mAd E 0), .int p1] (mG E) σ r σ' :=
  g_entry (by decide) (Nat.le_of_ble_eq_true rfl) hI (fun p e s m args below meth c B hP hS ls hl => w_X8_taken_e B _ σ hf _ _ ls hP hS hl)
section SE
variable {p : Program} {l : Launch} {e : Env} {R : Room} {s : State} {m : MethodId} {args : Array Value} {below : List Frame} {meth : Method} {c : Code} {H : Heap} {locs : List Loc} {cells slots : Nat} {Q : State → Prop}
variable {cc : ByteArray} {pc nL : Nat} {ls : Array Slot} {rest : List Value} {E : mEv} {σ : St}
theorem kc_X8_262 (F : gFx p m c cc nL s args RX8 (mG E)) (hP : gW (mG E) σ H) (hS : va_S (gA (mG E)) s.heap H locs) {p1 : Int32} {r : Int32} {σ' : St} (hf : f_X8_taken p1 σ = some (r, σ')) (hR : rm_X8_taken.frames + 1 ≤ R.frames ∧ 8 + (4 + 11) + rm_X8_taken.locals ≤ R.locals) (hsz : ls.size = nL) (hrest : (rest.map fun v => v.category).sum ≤ 8) (hcs : cells ≤ R.cells ∧ slots ≤ R.slots) (hdg : decode cc pc = .ok (.invokevirtual 262, 3)) (kk : ∀ (H1 : Heap) (locs1 : List Loc), gW (mG E) σ' H1 → va_S (gA (mG E)) s.heap H1 locs1 → W p l e R s m args below meth c H1 locs1 cells slots Q (F0 m (pc + 3) ls (.int r :: rest))) : W p l e R s m args below meth c H locs cells slots Q (F0 m pc ls (.int p1 :: .ref (mAd E 0) :: rest)) :=
  g_callVi F hP hS (c_X8_taken l F.2.2.2.2.2.2.2 hf) (g_cwV (n := 1) F tw_1092 tw_1094 ts_50 tw_14 tw_1095 (by decide +kernel) rfl rfl hR) (k := 0) min0 (me_0 E _) rfl (As := [.int p1]) rfl hsz rfl hrest hdg hcs kk
end SE
/-! PromisedSlotsModel.shared(I)I -/
def f_X8_shared (p1 : Int32) (σ : St) : Option (Int32 × St) :=
  cl (f_X8_taken p1 σ) fun r2 σ1 =>
  some (((16 : Int32) - r2), σ1)
abbrev rm_X8_shared : Room := { frames := 1, cells := 0, slots := 0, locals := 23 }
set_option maxHeartbeats 4000000 in
set_option maxRecDepth 100000 in
theorem w_X8_shared_e {p : Program} {l : Launch} {e : Env} {s : State} {m : MethodId} {args : Array Value} {below : List Frame} {meth : Method} {c : Code} {E : mEv} {r : Int32} {σ' : St} (B : gBx p m meth c cX8_shared 2 (some .int) s args RX8 (mG E)) (p1 : Int32) (σ : St) (hf : f_X8_shared p1 σ = some (r, σ')) (H : Heap) (locs : List Loc) (ls : Array Slot) (hP : gW (mG E) σ H) (hS : va_S (gA (mG E)) s.heap H locs) (hl : lv_has ls 2 [(0, .ref (mAd E 0)), (1, .int p1)]) : W p l e rm_X8_shared s m args below meth c H locs 0 0 (gQi below args s (mG E) r σ') (F0 m 0 ls []) := by
  unfold f_X8_shared at hf
  obtain ⟨F, hr, hlk⟩ := id B
  have hx := F.1
  have hb := F.2.1
  have hml := F.2.2.1
  have hown := F.2.2.2.1
  have hts := F.2.2.2.2.1
  refine lv_bipush (v := (16)) hx hb dX8_shared_0 (by decide) ?_
  refine lv_aload_n hx hb dX8_shared_2 rfl (lv_at hl 0 rfl) ?_
  refine lv_iload_n hx hb dX8_shared_3 rfl (lv_at hl 1 rfl) ?_
  obtain ⟨r2, σ1, h3, hf⟩ := cl_e hf
  refine kc_X8_262 F hP hS h3 ⟨Nat.le_of_ble_eq_true rfl, Nat.le_of_ble_eq_true rfl⟩ hl.1 (Nat.le_of_ble_eq_true rfl) ⟨Nat.zero_le _, Nat.zero_le _⟩ dX8_shared_4 (fun H locs hP hS => ?_)
  refine lv_isub hx hb dX8_shared_7 ?_
  exact g_iret B hP hS hf dX8_shared_8
theorem c_X8_shared (l : Launch) {E : mEv} (hI : gIj (mG E)) {p1 : Int32} {σ σ' : St} {r : Int32} (hf : f_X8_shared p1 σ = some (r, σ')) : gMi l yX8_shared cX8_shared 2 .int rm_X8_shared [.ref (mAd E 0), .int p1] (mG E) σ r σ' :=
  g_entry (by decide) (Nat.le_of_ble_eq_true rfl) hI (fun p e s m args below meth c B hP hS ls hl => w_X8_shared_e B _ σ hf _ _ ls hP hS hl)
/-! PromisedSlotsModel.firstSlot(II)I -/
def b_X8_firstSlot_6 (K6 : (Int32 × Int32 × Int32 × Int32 × St → Option (Int32 × St))) (a1 : Int32) (a2 : Int32) (a3 : Int32) (a4 : Int32) (σ : St) : Option (Int32 × St) :=
  if a2 < a4 then
    some (a3, σ)
  else
    gd (ix (((7 : Int32) * a1) + a4) 28) <|
    vl (a3 - (σ 32 (nt (((7 : Int32) * a1) + a4)))) fun x3 =>
    vl (a4 + (1 : Int32)) fun x4 =>
    K6 (a1, a2, x3, x4, σ)
def f_X8_firstSlot (p1 : Int32) (p2 : Int32) (σ : St) : Option (Int32 × St) :=
  lp (fun K a => b_X8_firstSlot_6 K a.1 a.2.1 a.2.2.1 a.2.2.2.1 a.2.2.2.2) FU (p1, p2, (16 : Int32), (0 : Int32), σ)
abbrev rm_X8_firstSlot : Room := { frames := 0, cells := 0, slots := 0, locals := 0 }
def P_X8_firstSlot_6 (p : Program) (l : Launch) (e : Env) (s : State) (m : MethodId) (args : Array Value) (below : List Frame) (meth : Method) (c : Code) (E : mEv) (r : Int32) (σ' : St) (a : Int32 × Int32 × Int32 × Int32 × St) : Prop := ∀ (H : Heap) (locs : List Loc) (ls : Array Slot), gW (mG E) a.2.2.2.2 H → va_S (gA (mG E)) s.heap H locs → lv_has ls 5 [(0, .ref (mAd E 0)), (1, .int a.1), (2, .int a.2.1), (3, .int a.2.2.1), (4, .int a.2.2.2.1)] → W p l e rm_X8_firstSlot s m args below meth c H locs 0 0 (gQi below args s (mG E) r σ') (F0 m 6 ls [])
set_option maxHeartbeats 4000000 in
set_option maxRecDepth 100000 in
theorem w_X8_firstSlot_6 {p : Program} {l : Launch} {e : Env} {s : State} {m : MethodId} {args : Array Value} {below : List Frame} {meth : Method} {c : Code} {E : mEv} {r : Int32} {σ' : St} (B : gBx p m meth c cX8_firstSlot 5 (some .int) s args RX8 (mG E)) {K6 : (Int32 × Int32 × Int32 × Int32 × St → Option (Int32 × St))} (hK6 : ∀ a, K6 a = some (r, σ') → P_X8_firstSlot_6 p l e s m args below meth c E r σ' a) (a1 : Int32) (a2 : Int32) (a3 : Int32) (a4 : Int32) (σ : St) (hf : b_X8_firstSlot_6 K6 a1 a2 a3 a4 σ = some (r, σ')) (H : Heap) (locs : List Loc) (ls : Array Slot) (hP : gW (mG E) σ H) (hS : va_S (gA (mG E)) s.heap H locs) (hl : lv_has ls 5 [(0, .ref (mAd E 0)), (1, .int a1), (2, .int a2), (3, .int a3), (4, .int a4)]) : W p l e rm_X8_firstSlot s m args below meth c H locs 0 0 (gQi below args s (mG E) r σ') (F0 m 6 ls []) := by
  unfold b_X8_firstSlot_6 at hf
  obtain ⟨F, hr, hlk⟩ := id B
  have hx := F.1
  have hb := F.2.1
  have hml := F.2.2.1
  have hown := F.2.2.2.1
  have hts := F.2.2.2.2.1
  refine lv_iload hx hb dX8_firstSlot_6 (lv_at hl 4 rfl) ?_
  refine lv_iload_n hx hb dX8_firstSlot_8 rfl (lv_at hl 2 rfl) ?_
  refine lv_icmp_gt (tgt := 33) hx hb dX8_firstSlot_9 (by decide) (fun h1 => ?_) (fun h1 => ?_)
  · rw [if_pos h1] at hf
    refine lv_iload_n hx hb dX8_firstSlot_33 rfl (lv_at hl 3 rfl) ?_
    exact g_iret B hP hS hf dX8_firstSlot_34
  · rw [if_neg h1] at hf
    refine lv_iload_n hx hb dX8_firstSlot_12 rfl (lv_at hl 3 rfl) ?_
    refine lv_aload_n hx hb dX8_firstSlot_13 rfl (lv_at hl 0 rfl) ?_
    refine gf_X8_52 F hP dX8_firstSlot_14 ?_
    refine lv_bipush (v := (7)) hx hb dX8_firstSlot_17 (by decide) ?_
    refine lv_iload_n hx hb dX8_firstSlot_19 rfl (lv_at hl 1 rfl) ?_
    refine lv_imul hx hb dX8_firstSlot_20 ?_
    refine lv_iload hx hb dX8_firstSlot_21 (lv_at hl 4 rfl) ?_
    refine lv_iadd hx hb dX8_firstSlot_23 ?_
    obtain ⟨h2, hf⟩ := gd_e hf
    refine m_iald F hP ⟨by decide, by decide⟩ rfl h2 dX8_firstSlot_24 ?_
    refine lv_isub hx hb dX8_firstSlot_25 ?_
    obtain ⟨x3, ex3, hf⟩ := vl_x hf
    rw [← ex3]
    refine lv_istore_n (lv' := [(3, .int x3), (0, .ref (mAd E 0)), (1, .int a1), (2, .int a2), (4, .int a4)]) hx hb dX8_firstSlot_26 rfl hl (by decide) rfl (fun ls hl => ?_)
    refine lv_iinc (v := a4 + (1 : Int32)) (lv' := [(4, .int (a4 + (1 : Int32))), (3, .int x3), (0, .ref (mAd E 0)), (1, .int a1), (2, .int a2)]) hx hb dX8_firstSlot_27 hl (k := 4) rfl rfl (by decide) rfl (fun ls hl => ?_)
    obtain ⟨x4, ex4, hf⟩ := vl_x hf
    rw [← ex4] at hl
    refine lv_goto (tgt := 6) hx hb dX8_firstSlot_30 (by decide) ?_
    exact hK6 _ hf _ _ _ hP hS (lv_sub hl [2, 3, 4, 1, 0] rfl)
set_option maxHeartbeats 4000000 in
set_option maxRecDepth 100000 in
theorem w_X8_firstSlot_e {p : Program} {l : Launch} {e : Env} {s : State} {m : MethodId} {args : Array Value} {below : List Frame} {meth : Method} {c : Code} {E : mEv} {r : Int32} {σ' : St} (B : gBx p m meth c cX8_firstSlot 5 (some .int) s args RX8 (mG E)) (p1 : Int32) (p2 : Int32) (σ : St) (hf : f_X8_firstSlot p1 p2 σ = some (r, σ')) (H : Heap) (locs : List Loc) (ls : Array Slot) (hP : gW (mG E) σ H) (hS : va_S (gA (mG E)) s.heap H locs) (hl : lv_has ls 5 [(0, .ref (mAd E 0)), (1, .int p1), (2, .int p2)]) : W p l e rm_X8_firstSlot s m args below meth c H locs 0 0 (gQi below args s (mG E) r σ') (F0 m 0 ls []) := by
  unfold f_X8_firstSlot at hf
  obtain ⟨F, hr, hlk⟩ := id B
  have hx := F.1
  have hb := F.2.1
  have hml := F.2.2.1
  have hown := F.2.2.2.1
  have hts := F.2.2.2.2.1
  refine lv_bipush (v := (16)) hx hb dX8_firstSlot_0 (by decide) ?_
  refine lv_istore_n (lv' := [(3, .int (16 : Int32)), (0, .ref (mAd E 0)), (1, .int p1), (2, .int p2)]) hx hb dX8_firstSlot_2 rfl hl (by decide) rfl (fun ls hl => ?_)
  refine lv_iconst (v := 0) hx hb dX8_firstSlot_3 (by decide) ?_
  refine lv_istore (lv' := [(4, .int (0 : Int32)), (3, .int (16 : Int32)), (0, .ref (mAd E 0)), (1, .int p1), (2, .int p2)]) hx hb dX8_firstSlot_4 hl (by decide) rfl (fun ls hl => ?_)
  exact lp_w (P := P_X8_firstSlot_6 p l e s m args below meth c E r σ') (fun K hK a ha => w_X8_firstSlot_6 B hK a.1 a.2.1 a.2.2.1 a.2.2.2.1 a.2.2.2.2 ha) FU _ hf _ _ _ hP hS (lv_sub hl [2, 3, 4, 1, 0] rfl)
theorem c_X8_firstSlot (l : Launch) {E : mEv} (hI : gIj (mG E)) {p1 : Int32} {p2 : Int32} {σ σ' : St} {r : Int32} (hf : f_X8_firstSlot p1 p2 σ = some (r, σ')) : gMi l yX8_firstSlot cX8_firstSlot 5 .int rm_X8_firstSlot [.ref (mAd E 0), .int p1, .int p2] (mG E) σ r σ' :=
  g_entry (by decide) (Nat.le_of_ble_eq_true rfl) hI (fun p e s m args below meth c B hP hS ls hl => w_X8_firstSlot_e B _ _ σ hf _ _ ls hP hS hl)
section SE
variable {p : Program} {l : Launch} {e : Env} {R : Room} {s : State} {m : MethodId} {args : Array Value} {below : List Frame} {meth : Method} {c : Code} {H : Heap} {locs : List Loc} {cells slots : Nat} {Q : State → Prop}
variable {cc : ByteArray} {pc nL : Nat} {ls : Array Slot} {rest : List Value} {E : mEv} {σ : St}
theorem kc_X8_288 (F : gFx p m c cc nL s args RX8 (mG E)) (hP : gW (mG E) σ H) (hS : va_S (gA (mG E)) s.heap H locs) {p1 : Int32} {r : Int32} {σ' : St} (hf : f_X8_hasPromise p1 σ = some (r, σ')) (hR : rm_X8_hasPromise.frames + 1 ≤ R.frames ∧ 8 + (4 + 11) + rm_X8_hasPromise.locals ≤ R.locals) (hsz : ls.size = nL) (hrest : (rest.map fun v => v.category).sum ≤ 8) (hcs : cells ≤ R.cells ∧ slots ≤ R.slots) (hdg : decode cc pc = .ok (.invokevirtual 288, 3)) (kk : ∀ (H1 : Heap) (locs1 : List Loc), gW (mG E) σ' H1 → va_S (gA (mG E)) s.heap H1 locs1 → W p l e R s m args below meth c H1 locs1 cells slots Q (F0 m (pc + 3) ls (.int r :: rest))) : W p l e R s m args below meth c H locs cells slots Q (F0 m pc ls (.int p1 :: .ref (mAd E 0) :: rest)) :=
  g_callVi F hP hS (c_X8_hasPromise l F.2.2.2.2.2.2.2 hf) (g_cwV (n := 1) F tw_1084 tw_1086 ts_48 tw_14 tw_1087 (by decide +kernel) rfl rfl hR) (k := 0) min0 (me_0 E _) rfl (As := [.int p1]) rfl hsz rfl hrest hdg hcs kk
theorem kc_X8_291 (F : gFx p m c cc nL s args RX8 (mG E)) (hP : gW (mG E) σ H) (hS : va_S (gA (mG E)) s.heap H locs) {p1 : Int32} {r : Int32} {σ' : St} (hf : f_X8_shared p1 σ = some (r, σ')) (hR : rm_X8_shared.frames + 1 ≤ R.frames ∧ 8 + (2 + 11) + rm_X8_shared.locals ≤ R.locals) (hsz : ls.size = nL) (hrest : (rest.map fun v => v.category).sum ≤ 8) (hcs : cells ≤ R.cells ∧ slots ≤ R.slots) (hdg : decode cc pc = .ok (.invokevirtual 291, 3)) (kk : ∀ (H1 : Heap) (locs1 : List Loc), gW (mG E) σ' H1 → va_S (gA (mG E)) s.heap H1 locs1 → W p l e R s m args below meth c H1 locs1 cells slots Q (F0 m (pc + 3) ls (.int r :: rest))) : W p l e R s m args below meth c H locs cells slots Q (F0 m pc ls (.int p1 :: .ref (mAd E 0) :: rest)) :=
  g_callVi F hP hS (c_X8_shared l F.2.2.2.2.2.2.2 hf) (g_cwV (n := 1) F tw_1088 tw_1090 ts_49 tw_14 tw_1091 (by decide +kernel) rfl rfl hR) (k := 0) min0 (me_0 E _) rfl (As := [.int p1]) rfl hsz rfl hrest hdg hcs kk
theorem gf_X8_231 (F : gFx p m c cc nL s args RX8 (mG E)) (hP : gW (mG E) σ H) (hdg : decode cc pc = .ok (.getfield 231, 3)) (kk : W p l e R s m args below meth c H locs cells slots Q (F0 m (pc + 3) ls (.int (σ 0 19) :: rest))) : W p l e R s m args below meth c H locs cells slots Q (F0 m pc ls (.ref (mAd E 0) :: rest)) :=
  g_get F hP (k := 0) min0 (me_0 E _) rfl inX8 19 (by decide) tw_803 rfl rfl hdg kk
theorem kc_X8_294 (F : gFx p m c cc nL s args RX8 (mG E)) (hP : gW (mG E) σ H) (hS : va_S (gA (mG E)) s.heap H locs) {p1 : Int32} {p2 : Int32} {r : Int32} {σ' : St} (hf : f_X8_firstSlot p1 p2 σ = some (r, σ')) (hR : rm_X8_firstSlot.frames + 1 ≤ R.frames ∧ 8 + (5 + 11) + rm_X8_firstSlot.locals ≤ R.locals) (hsz : ls.size = nL) (hrest : (rest.map fun v => v.category).sum ≤ 8) (hcs : cells ≤ R.cells ∧ slots ≤ R.slots) (hdg : decode cc pc = .ok (.invokevirtual 294, 3)) (kk : ∀ (H1 : Heap) (locs1 : List Loc), gW (mG E) σ' H1 → va_S (gA (mG E)) s.heap H1 locs1 → W p l e R s m args below meth c H1 locs1 cells slots Q (F0 m (pc + 3) ls (.int r :: rest))) : W p l e R s m args below meth c H locs cells slots Q (F0 m pc ls (.int p2 :: .int p1 :: .ref (mAd E 0) :: rest)) :=
  g_callVi F hP hS (c_X8_firstSlot l F.2.2.2.2.2.2.2 hf) (g_cwV (n := 2) F tw_1096 tw_1098 ts_51 tw_14 tw_1099 (by decide +kernel) rfl rfl hR) (k := 0) min0 (me_0 E _) rfl (As := [.int p1, .int p2]) rfl hsz rfl hrest hdg hcs kk
end SE
/-! PromisedSlotsModel.ask(II)I -/
def f_X8_ask (p1 : Int32) (p2 : Int32) (σ : St) : Option (Int32 × St) :=
  cl (f_X8_isDevice p1 σ) fun r2 σ1 =>
  if r2 = 0 then
    cl (f_X8_refuses (-1 : Int32) (18 : Int32) (0 : Int32) σ1) fun r6 σ5 =>
    some (r6, σ5)
  else
    cl (f_X8_in (p2.toInt64) (1 : Int64) (15 : Int64) σ1) fun r9 σ8 =>
    if r9 = 0 then
      cl (f_X8_refuses (-1 : Int32) (18 : Int32) (0 : Int32) σ8) fun r67 σ66 =>
      some (r67, σ66)
    else
      gd (ix p1 8) <|
      vl (σ8 36 (nt p1)) fun x13 =>
      if x13 = (-4 : Int32) then
        cl (f_X8_refuses (-2 : Int32) (15 : Int32) (0 : Int32) σ8) fun r16 σ15 =>
        some (r16, σ15)
      else
        gd (ix x13 4) <|
        cl (f_X8_has (σ8 29 (nt x13)) p1 σ8) fun r20 σ19 =>
        if r20 = 0 then
          cl (f_X8_refuses (-2 : Int32) (15 : Int32) (0 : Int32) σ19) fun r24 σ23 =>
          some (r24, σ23)
        else
          cl (f_X8_hasPromise p1 σ19) fun r27 σ26 =>
          if r27 = 0 then
            gd (ix x13 4) <|
            if (σ26 30 (nt x13)) = (7 : Int32) then
              cl (f_X8_refuses (-3 : Int32) (16 : Int32) (0 : Int32) σ26) fun r61 σ60 =>
              some (r61, σ60)
            else
              cl (f_X8_shared x13 σ26) fun r33 σ32 =>
              vl (r33 - p2) fun x35 =>
              if (σ32 0 19) ≤ x35 then
                vl (up2 σ32 0 3 (0 : Int32)) fun σ37 =>
                gd (ix x13 4) <|
                vl (((7 : Int32) * x13) + (σ37 30 (nt x13))) fun x39 =>
                gd (ix x39 28) <|
                vl (up2 σ37 31 (nt x39) p1) fun σ41 =>
                gd (ix x39 28) <|
                vl (up2 σ41 32 (nt x39) p2) fun σ43 =>
                gd (ix x39 28) <|
                vl (up2 σ43 33 (nt x39) (0 : Int32)) fun σ45 =>
                gd (ix x13 4) <|
                gd (ix x13 4) <|
                vl (up2 σ45 30 (nt x13) ((σ45 30 (nt x13)) + (1 : Int32))) fun σ48 =>
                gd (ix x13 4) <|
                cl (f_X8_firstSlot x13 ((σ48 30 (nt x13)) - (1 : Int32)) σ48) fun r51 σ50 =>
                some (r51, σ50)
              else
                if 0 ≤ x35 then
                  cl (f_X8_refuses (-3 : Int32) (17 : Int32) ((30 : Int32) + x35) σ32) fun r55 σ54 =>
                  some (r55, σ54)
                else
                  cl (f_X8_refuses (-3 : Int32) (17 : Int32) (30 : Int32) σ32) fun r58 σ57 =>
                  some (r58, σ57)
          else
            cl (f_X8_refuses (-2 : Int32) (15 : Int32) (0 : Int32) σ26) fun r64 σ63 =>
            some (r64, σ63)
abbrev rm_X8_ask : Room := { frames := 2, cells := 0, slots := 0, locals := 46 }
set_option maxHeartbeats 4000000 in
set_option maxRecDepth 100000 in
theorem w_X8_ask_e {p : Program} {l : Launch} {e : Env} {s : State} {m : MethodId} {args : Array Value} {below : List Frame} {meth : Method} {c : Code} {E : mEv} {r : Int32} {σ' : St} (B : gBx p m meth c cX8_ask 6 (some .int) s args RX8 (mG E)) (p1 : Int32) (p2 : Int32) (σ : St) (hf : f_X8_ask p1 p2 σ = some (r, σ')) (H : Heap) (locs : List Loc) (ls : Array Slot) (hP : gW (mG E) σ H) (hS : va_S (gA (mG E)) s.heap H locs) (hl : lv_has ls 6 [(0, .ref (mAd E 0)), (1, .int p1), (2, .int p2)]) : W p l e rm_X8_ask s m args below meth c H locs 0 0 (gQi below args s (mG E) r σ') (F0 m 0 ls []) := by
  unfold f_X8_ask at hf
  obtain ⟨F, hr, hlk⟩ := id B
  have hx := F.1
  have hb := F.2.1
  have hml := F.2.2.1
  have hown := F.2.2.2.1
  have hts := F.2.2.2.2.1
  refine lv_aload_n hx hb dX8_ask_0 rfl (lv_at hl 0 rfl) ?_
  refine lv_iload_n hx hb dX8_ask_1 rfl (lv_at hl 1 rfl) ?_
  obtain ⟨r2, σ1, h3, hf⟩ := cl_e hf
  refine kc_X8_272 F hP hS h3 ⟨Nat.le_of_ble_eq_true rfl, Nat.le_of_ble_eq_true rfl⟩ hl.1 (Nat.le_of_ble_eq_true rfl) ⟨Nat.zero_le _, Nat.zero_le _⟩ dX8_ask_2 (fun H locs hP hS => ?_)
  refine lv_if_eq (tgt := 20) hx hb dX8_ask_5 (by decide) (fun h4 => ?_) (fun h4 => ?_)
  · rw [if_pos h4] at hf
    refine lv_aload_n hx hb dX8_ask_20 rfl (lv_at hl 0 rfl) ?_
    refine lv_iconst (v := (-1)) hx hb dX8_ask_21 (by decide) ?_
    refine lv_bipush (v := (18)) hx hb dX8_ask_22 (by decide) ?_
    refine lv_iconst (v := 0) hx hb dX8_ask_24 (by decide) ?_
    obtain ⟨r6, σ5, h7, hf⟩ := cl_e hf
    refine kc_X8_216 F hP hS h7 ⟨Nat.le_of_ble_eq_true rfl, Nat.le_of_ble_eq_true rfl⟩ hl.1 (Nat.le_of_ble_eq_true rfl) ⟨Nat.zero_le _, Nat.zero_le _⟩ dX8_ask_25 (fun H locs hP hS => ?_)
    exact g_iret B hP hS hf dX8_ask_28
  · rw [if_neg h4] at hf
    refine lv_iload_n hx hb dX8_ask_8 rfl (lv_at hl 2 rfl) ?_
    refine lv_i2l hx hb dX8_ask_9 rfl ?_
    refine lv_lconst (v := 1) hx hb dX8_ask_10 (by decide) ?_
    refine lv_ldc2 hx hb hown (hts _ tw_1083) dX8_ask_11 ?_
    obtain ⟨r9, σ8, h10, hf⟩ := cl_e hf
    refine kc_X8_161 F hP hS h10 ⟨Nat.le_of_ble_eq_true rfl, Nat.le_of_ble_eq_true rfl⟩ hl.1 (Nat.le_of_ble_eq_true rfl) ⟨Nat.zero_le _, Nat.zero_le _⟩ dX8_ask_14 (fun H locs hP hS => ?_)
    refine lv_if_ne (tgt := 29) hx hb dX8_ask_17 (by decide) (fun h11 => ?_) (fun h11 => ?_)
    · rw [if_neg h11] at hf
      refine lv_aload_n hx hb dX8_ask_29 rfl (lv_at hl 0 rfl) ?_
      refine gf_X8_61 F hP dX8_ask_30 ?_
      refine lv_iload_n hx hb dX8_ask_33 rfl (lv_at hl 1 rfl) ?_
      obtain ⟨h12, hf⟩ := gd_e hf
      refine m_iald F hP ⟨by decide, by decide⟩ rfl h12 dX8_ask_34 ?_
      obtain ⟨x13, ex13, hf⟩ := vl_x hf
      rw [← ex13]
      refine lv_istore_n (lv' := [(3, .int x13), (0, .ref (mAd E 0)), (1, .int p1), (2, .int p2)]) hx hb dX8_ask_35 rfl hl (by decide) rfl (fun ls hl => ?_)
      refine lv_iload_n hx hb dX8_ask_36 rfl (lv_at hl 0 rfl) ?_
      refine lv_bipush (v := (-4)) hx hb dX8_ask_37 (by decide) ?_
      refine lv_icmp_eq (tgt := 63) hx hb dX8_ask_39 (by decide) (fun h14 => ?_) (fun h14 => ?_)
      · rw [if_pos h14] at hf
        refine lv_aload_n hx hb dX8_ask_63 rfl (lv_at hl 1 rfl) ?_
        refine lv_bipush (v := (-2)) hx hb dX8_ask_64 (by decide) ?_
        refine lv_bipush (v := (15)) hx hb dX8_ask_66 (by decide) ?_
        refine lv_iconst (v := 0) hx hb dX8_ask_68 (by decide) ?_
        obtain ⟨r16, σ15, h17, hf⟩ := cl_e hf
        refine kc_X8_216 F hP hS h17 ⟨Nat.le_of_ble_eq_true rfl, Nat.le_of_ble_eq_true rfl⟩ hl.1 (Nat.le_of_ble_eq_true rfl) ⟨Nat.zero_le _, Nat.zero_le _⟩ dX8_ask_69 (fun H locs hP hS => ?_)
        exact g_iret B hP hS hf dX8_ask_72
      · rw [if_neg h14] at hf
        refine lv_aload_n hx hb dX8_ask_42 rfl (lv_at hl 1 rfl) ?_
        refine gf_X8_43 F hP dX8_ask_43 ?_
        refine lv_iload_n hx hb dX8_ask_46 rfl (lv_at hl 0 rfl) ?_
        obtain ⟨h18, hf⟩ := gd_e hf
        refine m_iald F hP ⟨by decide, by decide⟩ rfl h18 dX8_ask_47 ?_
        refine lv_iload_n hx hb dX8_ask_48 rfl (lv_at hl 2 rfl) ?_
        obtain ⟨r20, σ19, h21, hf⟩ := cl_e hf
        refine kc_X8_275 F hP hS h21 ⟨Nat.le_of_ble_eq_true rfl, Nat.le_of_ble_eq_true rfl⟩ hl.1 (Nat.le_of_ble_eq_true rfl) ⟨Nat.zero_le _, Nat.zero_le _⟩ dX8_ask_49 (fun H locs hP hS => ?_)
        refine lv_if_eq (tgt := 63) hx hb dX8_ask_52 (by decide) (fun h22 => ?_) (fun h22 => ?_)
        · rw [if_pos h22] at hf
          refine lv_aload_n hx hb dX8_ask_63 rfl (lv_at hl 1 rfl) ?_
          refine lv_bipush (v := (-2)) hx hb dX8_ask_64 (by decide) ?_
          refine lv_bipush (v := (15)) hx hb dX8_ask_66 (by decide) ?_
          refine lv_iconst (v := 0) hx hb dX8_ask_68 (by decide) ?_
          obtain ⟨r24, σ23, h25, hf⟩ := cl_e hf
          refine kc_X8_216 F hP hS h25 ⟨Nat.le_of_ble_eq_true rfl, Nat.le_of_ble_eq_true rfl⟩ hl.1 (Nat.le_of_ble_eq_true rfl) ⟨Nat.zero_le _, Nat.zero_le _⟩ dX8_ask_69 (fun H locs hP hS => ?_)
          exact g_iret B hP hS hf dX8_ask_72
        · rw [if_neg h22] at hf
          refine lv_aload_n hx hb dX8_ask_55 rfl (lv_at hl 1 rfl) ?_
          refine lv_iload_n hx hb dX8_ask_56 rfl (lv_at hl 2 rfl) ?_
          obtain ⟨r27, σ26, h28, hf⟩ := cl_e hf
          refine kc_X8_288 F hP hS h28 ⟨Nat.le_of_ble_eq_true rfl, Nat.le_of_ble_eq_true rfl⟩ hl.1 (Nat.le_of_ble_eq_true rfl) ⟨Nat.zero_le _, Nat.zero_le _⟩ dX8_ask_57 (fun H locs hP hS => ?_)
          refine lv_if_eq (tgt := 73) hx hb dX8_ask_60 (by decide) (fun h29 => ?_) (fun h29 => ?_)
          · rw [if_pos h29] at hf
            refine lv_aload_n hx hb dX8_ask_73 rfl (lv_at hl 1 rfl) ?_
            refine gf_X8_46 F hP dX8_ask_74 ?_
            refine lv_iload_n hx hb dX8_ask_77 rfl (lv_at hl 0 rfl) ?_
            obtain ⟨h30, hf⟩ := gd_e hf
            refine m_iald F hP ⟨by decide, by decide⟩ rfl h30 dX8_ask_78 ?_
            refine lv_bipush (v := (7)) hx hb dX8_ask_79 (by decide) ?_
            refine lv_icmp_ne (tgt := 94) hx hb dX8_ask_81 (by decide) (fun h31 => ?_) (fun h31 => ?_)
            · rw [if_neg h31] at hf
              refine lv_aload_n hx hb dX8_ask_94 rfl (lv_at hl 1 rfl) ?_
              refine lv_iload_n hx hb dX8_ask_95 rfl (lv_at hl 0 rfl) ?_
              obtain ⟨r33, σ32, h34, hf⟩ := cl_e hf
              refine kc_X8_291 F hP hS h34 ⟨Nat.le_of_ble_eq_true rfl, Nat.le_of_ble_eq_true rfl⟩ hl.1 (Nat.le_of_ble_eq_true rfl) ⟨Nat.zero_le _, Nat.zero_le _⟩ dX8_ask_96 (fun H locs hP hS => ?_)
              refine lv_iload_n hx hb dX8_ask_99 rfl (lv_at hl 3 rfl) ?_
              refine lv_isub hx hb dX8_ask_100 ?_
              obtain ⟨x35, ex35, hf⟩ := vl_x hf
              rw [← ex35]
              refine lv_istore (lv' := [(4, .int x35), (3, .int x13), (0, .ref (mAd E 0)), (1, .int p1), (2, .int p2)]) hx hb dX8_ask_101 hl (by decide) rfl (fun ls hl => ?_)
              refine lv_iload hx hb dX8_ask_103 (lv_at hl 0 rfl) ?_
              refine lv_aload_n hx hb dX8_ask_105 rfl (lv_at hl 2 rfl) ?_
              refine gf_X8_231 F hP dX8_ask_106 ?_
              refine lv_icmp_ge (tgt := 136) hx hb dX8_ask_109 (by decide) (fun h36 => ?_) (fun h36 => ?_)
              · rw [if_pos h36] at hf
                refine lv_aload_n hx hb dX8_ask_136 rfl (lv_at hl 2 rfl) ?_
                refine lv_iconst (v := 0) hx hb dX8_ask_137 (by decide) ?_
                refine pf_X8_148 F hP hS dX8_ask_138 (fun H locs hP hS => ?_)
                obtain ⟨σ37, eσ37, hf⟩ := vl_x hf
                rw [← eσ37] at hP
                refine lv_bipush (v := (7)) hx hb dX8_ask_141 (by decide) ?_
                refine lv_iload_n hx hb dX8_ask_143 rfl (lv_at hl 1 rfl) ?_
                refine lv_imul hx hb dX8_ask_144 ?_
                refine lv_aload_n hx hb dX8_ask_145 rfl (lv_at hl 2 rfl) ?_
                refine gf_X8_46 F hP dX8_ask_146 ?_
                refine lv_iload_n hx hb dX8_ask_149 rfl (lv_at hl 1 rfl) ?_
                obtain ⟨h38, hf⟩ := gd_e hf
                refine m_iald F hP ⟨by decide, by decide⟩ rfl h38 dX8_ask_150 ?_
                refine lv_iadd hx hb dX8_ask_151 ?_
                obtain ⟨x39, ex39, hf⟩ := vl_x hf
                rw [← ex39]
                refine lv_istore (lv' := [(5, .int x39), (4, .int x35), (3, .int x13), (0, .ref (mAd E 0)), (1, .int p1), (2, .int p2)]) hx hb dX8_ask_152 hl (by decide) rfl (fun ls hl => ?_)
                refine lv_aload_n hx hb dX8_ask_154 rfl (lv_at hl 3 rfl) ?_
                refine gf_X8_49 F hP dX8_ask_155 ?_
                refine lv_iload hx hb dX8_ask_158 (lv_at hl 0 rfl) ?_
                refine lv_iload_n hx hb dX8_ask_160 rfl (lv_at hl 4 rfl) ?_
                obtain ⟨h40, hf⟩ := gd_e hf
                refine m_iast F hP hS ⟨by decide, by decide⟩ rfl h40 dX8_ask_161 (fun H locs hP hS => ?_)
                obtain ⟨σ41, eσ41, hf⟩ := vl_x hf
                rw [← eσ41] at hP
                refine lv_aload_n hx hb dX8_ask_162 rfl (lv_at hl 3 rfl) ?_
                refine gf_X8_52 F hP dX8_ask_163 ?_
                refine lv_iload hx hb dX8_ask_166 (lv_at hl 0 rfl) ?_
                refine lv_iload_n hx hb dX8_ask_168 rfl (lv_at hl 5 rfl) ?_
                obtain ⟨h42, hf⟩ := gd_e hf
                refine m_iast F hP hS ⟨by decide, by decide⟩ rfl h42 dX8_ask_169 (fun H locs hP hS => ?_)
                obtain ⟨σ43, eσ43, hf⟩ := vl_x hf
                rw [← eσ43] at hP
                refine lv_aload_n hx hb dX8_ask_170 rfl (lv_at hl 3 rfl) ?_
                refine gf_X8_55 F hP dX8_ask_171 ?_
                refine lv_iload hx hb dX8_ask_174 (lv_at hl 0 rfl) ?_
                refine lv_iconst (v := 0) hx hb dX8_ask_176 (by decide) ?_
                obtain ⟨h44, hf⟩ := gd_e hf
                refine m_iast F hP hS ⟨by decide, by decide⟩ rfl h44 dX8_ask_177 (fun H locs hP hS => ?_)
                obtain ⟨σ45, eσ45, hf⟩ := vl_x hf
                rw [← eσ45] at hP
                refine lv_aload_n hx hb dX8_ask_178 rfl (lv_at hl 3 rfl) ?_
                refine gf_X8_46 F hP dX8_ask_179 ?_
                refine lv_iload_n hx hb dX8_ask_182 rfl (lv_at hl 2 rfl) ?_
                refine lv_dup2_11 hx hb dX8_ask_183 rfl rfl ?_
                obtain ⟨h46, hf⟩ := gd_e hf
                refine m_iald F hP ⟨by decide, by decide⟩ rfl h46 dX8_ask_184 ?_
                refine lv_iconst (v := 1) hx hb dX8_ask_185 (by decide) ?_
                refine lv_iadd hx hb dX8_ask_186 ?_
                obtain ⟨h47, hf⟩ := gd_e hf
                refine m_iast F hP hS ⟨by decide, by decide⟩ rfl h47 dX8_ask_187 (fun H locs hP hS => ?_)
                obtain ⟨σ48, eσ48, hf⟩ := vl_x hf
                rw [← eσ48] at hP
                refine lv_aload_n hx hb dX8_ask_188 rfl (lv_at hl 3 rfl) ?_
                refine lv_iload_n hx hb dX8_ask_189 rfl (lv_at hl 2 rfl) ?_
                refine lv_aload_n hx hb dX8_ask_190 rfl (lv_at hl 3 rfl) ?_
                refine gf_X8_46 F hP dX8_ask_191 ?_
                refine lv_iload_n hx hb dX8_ask_194 rfl (lv_at hl 2 rfl) ?_
                obtain ⟨h49, hf⟩ := gd_e hf
                refine m_iald F hP ⟨by decide, by decide⟩ rfl h49 dX8_ask_195 ?_
                refine lv_iconst (v := 1) hx hb dX8_ask_196 (by decide) ?_
                refine lv_isub hx hb dX8_ask_197 ?_
                obtain ⟨r51, σ50, h52, hf⟩ := cl_e hf
                refine kc_X8_294 F hP hS h52 ⟨Nat.le_of_ble_eq_true rfl, Nat.le_of_ble_eq_true rfl⟩ hl.1 (Nat.le_of_ble_eq_true rfl) ⟨Nat.zero_le _, Nat.zero_le _⟩ dX8_ask_198 (fun H locs hP hS => ?_)
                exact g_iret B hP hS hf dX8_ask_201
              · rw [if_neg h36] at hf
                refine lv_aload_n hx hb dX8_ask_112 rfl (lv_at hl 2 rfl) ?_
                refine lv_bipush (v := (-3)) hx hb dX8_ask_113 (by decide) ?_
                refine lv_bipush (v := (17)) hx hb dX8_ask_115 (by decide) ?_
                refine lv_iload hx hb dX8_ask_117 (lv_at hl 0 rfl) ?_
                refine lv_if_ge (tgt := 127) hx hb dX8_ask_119 (by decide) (fun h53 => ?_) (fun h53 => ?_)
                · rw [if_pos h53] at hf
                  refine lv_bipush (v := (30)) hx hb dX8_ask_127 (by decide) ?_
                  refine lv_iload hx hb dX8_ask_129 (lv_at hl 0 rfl) ?_
                  refine lv_iadd hx hb dX8_ask_131 ?_
                  obtain ⟨r55, σ54, h56, hf⟩ := cl_e hf
                  refine kc_X8_216 F hP hS h56 ⟨Nat.le_of_ble_eq_true rfl, Nat.le_of_ble_eq_true rfl⟩ hl.1 (Nat.le_of_ble_eq_true rfl) ⟨Nat.zero_le _, Nat.zero_le _⟩ dX8_ask_132 (fun H locs hP hS => ?_)
                  exact g_iret B hP hS hf dX8_ask_135
                · rw [if_neg h53] at hf
                  refine lv_bipush (v := (30)) hx hb dX8_ask_122 (by decide) ?_
                  refine lv_goto (tgt := 132) hx hb dX8_ask_124 (by decide) ?_
                  obtain ⟨r58, σ57, h59, hf⟩ := cl_e hf
                  refine kc_X8_216 F hP hS h59 ⟨Nat.le_of_ble_eq_true rfl, Nat.le_of_ble_eq_true rfl⟩ hl.1 (Nat.le_of_ble_eq_true rfl) ⟨Nat.zero_le _, Nat.zero_le _⟩ dX8_ask_132 (fun H locs hP hS => ?_)
                  exact g_iret B hP hS hf dX8_ask_135
            · rw [if_pos h31] at hf
              refine lv_aload_n hx hb dX8_ask_84 rfl (lv_at hl 1 rfl) ?_
              refine lv_bipush (v := (-3)) hx hb dX8_ask_85 (by decide) ?_
              refine lv_bipush (v := (16)) hx hb dX8_ask_87 (by decide) ?_
              refine lv_iconst (v := 0) hx hb dX8_ask_89 (by decide) ?_
              obtain ⟨r61, σ60, h62, hf⟩ := cl_e hf
              refine kc_X8_216 F hP hS h62 ⟨Nat.le_of_ble_eq_true rfl, Nat.le_of_ble_eq_true rfl⟩ hl.1 (Nat.le_of_ble_eq_true rfl) ⟨Nat.zero_le _, Nat.zero_le _⟩ dX8_ask_90 (fun H locs hP hS => ?_)
              exact g_iret B hP hS hf dX8_ask_93
          · rw [if_neg h29] at hf
            refine lv_aload_n hx hb dX8_ask_63 rfl (lv_at hl 1 rfl) ?_
            refine lv_bipush (v := (-2)) hx hb dX8_ask_64 (by decide) ?_
            refine lv_bipush (v := (15)) hx hb dX8_ask_66 (by decide) ?_
            refine lv_iconst (v := 0) hx hb dX8_ask_68 (by decide) ?_
            obtain ⟨r64, σ63, h65, hf⟩ := cl_e hf
            refine kc_X8_216 F hP hS h65 ⟨Nat.le_of_ble_eq_true rfl, Nat.le_of_ble_eq_true rfl⟩ hl.1 (Nat.le_of_ble_eq_true rfl) ⟨Nat.zero_le _, Nat.zero_le _⟩ dX8_ask_69 (fun H locs hP hS => ?_)
            exact g_iret B hP hS hf dX8_ask_72
    · rw [if_pos h11] at hf
      refine lv_aload_n hx hb dX8_ask_20 rfl (lv_at hl 0 rfl) ?_
      refine lv_iconst (v := (-1)) hx hb dX8_ask_21 (by decide) ?_
      refine lv_bipush (v := (18)) hx hb dX8_ask_22 (by decide) ?_
      refine lv_iconst (v := 0) hx hb dX8_ask_24 (by decide) ?_
      obtain ⟨r67, σ66, h68, hf⟩ := cl_e hf
      refine kc_X8_216 F hP hS h68 ⟨Nat.le_of_ble_eq_true rfl, Nat.le_of_ble_eq_true rfl⟩ hl.1 (Nat.le_of_ble_eq_true rfl) ⟨Nat.zero_le _, Nat.zero_le _⟩ dX8_ask_25 (fun H locs hP hS => ?_)
      exact g_iret B hP hS hf dX8_ask_28
theorem c_X8_ask (l : Launch) {E : mEv} (hI : gIj (mG E)) {p1 : Int32} {p2 : Int32} {σ σ' : St} {r : Int32} (hf : f_X8_ask p1 p2 σ = some (r, σ')) : gMi l yX8_ask cX8_ask 6 .int rm_X8_ask [.ref (mAd E 0), .int p1, .int p2] (mG E) σ r σ' :=
  g_entry (by decide) (Nat.le_of_ble_eq_true rfl) hI (fun p e s m args below meth c B hP hS ls hl => w_X8_ask_e B _ _ σ hf _ _ ls hP hS hl)
/-! PromisedSlotsModel.release(I)I -/
def f_X8_release (p1 : Int32) (σ : St) : Option (Int32 × St) :=
  cl (f_X8_isDevice p1 σ) fun r2 σ1 =>
  if r2 = 0 then
    some ((-1 : Int32), σ1)
  else
    cl (f_X8_goesFrom p1 (-4 : Int32) σ1) fun r6 σ5 =>
    if r6 = (-4 : Int32) then
      some ((-2 : Int32), σ5)
    else
      some (r6, σ5)
abbrev rm_X8_release : Room := { frames := 2, cells := 0, slots := 0, locals := 48 }
set_option maxHeartbeats 4000000 in
set_option maxRecDepth 100000 in
theorem w_X8_release_e {p : Program} {l : Launch} {e : Env} {s : State} {m : MethodId} {args : Array Value} {below : List Frame} {meth : Method} {c : Code} {E : mEv} {r : Int32} {σ' : St} (B : gBx p m meth c cX8_release 3 (some .int) s args RX8 (mG E)) (p1 : Int32) (σ : St) (hf : f_X8_release p1 σ = some (r, σ')) (H : Heap) (locs : List Loc) (ls : Array Slot) (hP : gW (mG E) σ H) (hS : va_S (gA (mG E)) s.heap H locs) (hl : lv_has ls 3 [(0, .ref (mAd E 0)), (1, .int p1)]) : W p l e rm_X8_release s m args below meth c H locs 0 0 (gQi below args s (mG E) r σ') (F0 m 0 ls []) := by
  unfold f_X8_release at hf
  obtain ⟨F, hr, hlk⟩ := id B
  have hx := F.1
  have hb := F.2.1
  have hml := F.2.2.1
  have hown := F.2.2.2.1
  have hts := F.2.2.2.2.1
  refine lv_aload_n hx hb dX8_release_0 rfl (lv_at hl 0 rfl) ?_
  refine lv_iload_n hx hb dX8_release_1 rfl (lv_at hl 1 rfl) ?_
  obtain ⟨r2, σ1, h3, hf⟩ := cl_e hf
  refine kc_X8_272 F hP hS h3 ⟨Nat.le_of_ble_eq_true rfl, Nat.le_of_ble_eq_true rfl⟩ hl.1 (Nat.le_of_ble_eq_true rfl) ⟨Nat.zero_le _, Nat.zero_le _⟩ dX8_release_2 (fun H locs hP hS => ?_)
  refine lv_if_ne (tgt := 10) hx hb dX8_release_5 (by decide) (fun h4 => ?_) (fun h4 => ?_)
  · rw [if_neg h4] at hf
    refine lv_aload_n hx hb dX8_release_10 rfl (lv_at hl 0 rfl) ?_
    refine lv_iload_n hx hb dX8_release_11 rfl (lv_at hl 1 rfl) ?_
    refine lv_bipush (v := (-4)) hx hb dX8_release_12 (by decide) ?_
    obtain ⟨r6, σ5, h7, hf⟩ := cl_e hf
    refine kc_X8_279 F hP hS h7 ⟨Nat.le_of_ble_eq_true rfl, Nat.le_of_ble_eq_true rfl⟩ hl.1 (Nat.le_of_ble_eq_true rfl) ⟨Nat.zero_le _, Nat.zero_le _⟩ dX8_release_14 (fun H locs hP hS => ?_)
    refine lv_istore_n (lv' := [(2, .int r6), (0, .ref (mAd E 0)), (1, .int p1)]) hx hb dX8_release_17 rfl hl (by decide) rfl (fun ls hl => ?_)
    refine lv_iload_n hx hb dX8_release_18 rfl (lv_at hl 0 rfl) ?_
    refine lv_bipush (v := (-4)) hx hb dX8_release_19 (by decide) ?_
    refine lv_icmp_ne (tgt := 29) hx hb dX8_release_21 (by decide) (fun h8 => ?_) (fun h8 => ?_)
    · rw [if_neg h8] at hf
      refine lv_iload_n hx hb dX8_release_29 rfl (lv_at hl 0 rfl) ?_
      exact g_iret B hP hS hf dX8_release_30
    · rw [if_pos h8] at hf
      refine lv_bipush (v := (-2)) hx hb dX8_release_24 (by decide) ?_
      refine lv_goto (tgt := 30) hx hb dX8_release_26 (by decide) ?_
      exact g_iret B hP hS hf dX8_release_30
  · rw [if_pos h4] at hf
    refine lv_iconst (v := (-1)) hx hb dX8_release_8 (by decide) ?_
    exact g_iret B hP hS hf dX8_release_9
theorem c_X8_release (l : Launch) {E : mEv} (hI : gIj (mG E)) {p1 : Int32} {σ σ' : St} {r : Int32} (hf : f_X8_release p1 σ = some (r, σ')) : gMi l yX8_release cX8_release 3 .int rm_X8_release [.ref (mAd E 0), .int p1] (mG E) σ r σ' :=
  g_entry (by decide) (Nat.le_of_ble_eq_true rfl) hI (fun p e s m args below meth c B hP hS ls hl => w_X8_release_e B _ σ hf _ _ ls hP hS hl)
/-! PromisedSlotsModel.promise(III)I -/
def f_X8_promise (p1 : Int32) (p2 : Int32) (p3 : Int32) (σ : St) : Option (Int32 × St) :=
  cl (f_X8_isCoord p1 σ) fun r2 σ1 =>
  if r2 = 0 then
    some ((-1 : Int32), σ1)
  else
    if p2 < (-1 : Int32) then
      some ((-1 : Int32), σ1)
    else
      cl (f_X8_in (p3.toInt64) (0 : Int64) (3 : Int64) σ1) fun r7 σ6 =>
      if r7 = 0 then
        some ((-1 : Int32), σ6)
      else
        if p2 < 0 then
          if 0 ≤ p2 then
            some ((-4 : Int32), σ6)
          else
            gd (ix p1 4) <|
            some ((σ6 30 (nt p1)), σ6)
        else
          gd (ix p1 4) <|
          if p2 < (σ6 30 (nt p1)) then
            if p3 = 0 then
              gd (ix (((7 : Int32) * p1) + p2) 28) <|
              some ((σ6 31 (nt (((7 : Int32) * p1) + p2))), σ6)
            else
              if p3 = (1 : Int32) then
                cl (f_X8_firstSlot p1 p2 σ6) fun r21 σ20 =>
                some (r21, σ20)
              else
                if p3 = (2 : Int32) then
                  gd (ix (((7 : Int32) * p1) + p2) 28) <|
                  some ((σ6 32 (nt (((7 : Int32) * p1) + p2))), σ6)
                else
                  gd (ix (((7 : Int32) * p1) + p2) 28) <|
                  some ((σ6 33 (nt (((7 : Int32) * p1) + p2))), σ6)
          else
            if 0 ≤ p2 then
              some ((-4 : Int32), σ6)
            else
              gd (ix p1 4) <|
              some ((σ6 30 (nt p1)), σ6)
abbrev rm_X8_promise : Room := { frames := 2, cells := 0, slots := 0, locals := 46 }
set_option maxHeartbeats 4000000 in
set_option maxRecDepth 100000 in
theorem w_X8_promise_e {p : Program} {l : Launch} {e : Env} {s : State} {m : MethodId} {args : Array Value} {below : List Frame} {meth : Method} {c : Code} {E : mEv} {r : Int32} {σ' : St} (B : gBx p m meth c cX8_promise 4 (some .int) s args RX8 (mG E)) (p1 : Int32) (p2 : Int32) (p3 : Int32) (σ : St) (hf : f_X8_promise p1 p2 p3 σ = some (r, σ')) (H : Heap) (locs : List Loc) (ls : Array Slot) (hP : gW (mG E) σ H) (hS : va_S (gA (mG E)) s.heap H locs) (hl : lv_has ls 4 [(0, .ref (mAd E 0)), (1, .int p1), (2, .int p2), (3, .int p3)]) : W p l e rm_X8_promise s m args below meth c H locs 0 0 (gQi below args s (mG E) r σ') (F0 m 0 ls []) := by
  unfold f_X8_promise at hf
  obtain ⟨F, hr, hlk⟩ := id B
  have hx := F.1
  have hb := F.2.1
  have hml := F.2.2.1
  have hown := F.2.2.2.1
  have hts := F.2.2.2.2.1
  refine lv_aload_n hx hb dX8_promise_0 rfl (lv_at hl 0 rfl) ?_
  refine lv_iload_n hx hb dX8_promise_1 rfl (lv_at hl 1 rfl) ?_
  obtain ⟨r2, σ1, h3, hf⟩ := cl_e hf
  refine kc_X8_256 F hP hS h3 ⟨Nat.le_of_ble_eq_true rfl, Nat.le_of_ble_eq_true rfl⟩ hl.1 (Nat.le_of_ble_eq_true rfl) ⟨Nat.zero_le _, Nat.zero_le _⟩ dX8_promise_2 (fun H locs hP hS => ?_)
  refine lv_if_eq (tgt := 25) hx hb dX8_promise_5 (by decide) (fun h4 => ?_) (fun h4 => ?_)
  · rw [if_pos h4] at hf
    refine lv_iconst (v := (-1)) hx hb dX8_promise_25 (by decide) ?_
    exact g_iret B hP hS hf dX8_promise_26
  · rw [if_neg h4] at hf
    refine lv_iload_n hx hb dX8_promise_8 rfl (lv_at hl 2 rfl) ?_
    refine lv_iconst (v := (-1)) hx hb dX8_promise_9 (by decide) ?_
    refine lv_icmp_lt (tgt := 25) hx hb dX8_promise_10 (by decide) (fun h5 => ?_) (fun h5 => ?_)
    · rw [if_pos h5] at hf
      refine lv_iconst (v := (-1)) hx hb dX8_promise_25 (by decide) ?_
      exact g_iret B hP hS hf dX8_promise_26
    · rw [if_neg h5] at hf
      refine lv_iload_n hx hb dX8_promise_13 rfl (lv_at hl 3 rfl) ?_
      refine lv_i2l hx hb dX8_promise_14 rfl ?_
      refine lv_lconst (v := 0) hx hb dX8_promise_15 (by decide) ?_
      refine lv_ldc2 hx hb hown (hts _ tw_1108) dX8_promise_16 ?_
      obtain ⟨r7, σ6, h8, hf⟩ := cl_e hf
      refine kc_X8_161 F hP hS h8 ⟨Nat.le_of_ble_eq_true rfl, Nat.le_of_ble_eq_true rfl⟩ hl.1 (Nat.le_of_ble_eq_true rfl) ⟨Nat.zero_le _, Nat.zero_le _⟩ dX8_promise_19 (fun H locs hP hS => ?_)
      refine lv_if_ne (tgt := 27) hx hb dX8_promise_22 (by decide) (fun h9 => ?_) (fun h9 => ?_)
      · rw [if_neg h9] at hf
        refine lv_iload_n hx hb dX8_promise_27 rfl (lv_at hl 2 rfl) ?_
        refine lv_if_lt (tgt := 41) hx hb dX8_promise_28 (by decide) (fun h10 => ?_) (fun h10 => ?_)
        · rw [if_pos h10] at hf
          refine lv_iload_n hx hb dX8_promise_41 rfl (lv_at hl 2 rfl) ?_
          refine lv_if_ge (tgt := 54) hx hb dX8_promise_42 (by decide) (fun h11 => ?_) (fun h11 => ?_)
          · rw [if_pos h11] at hf
            refine lv_bipush (v := (-4)) hx hb dX8_promise_54 (by decide) ?_
            exact g_iret B hP hS hf dX8_promise_56
          · rw [if_neg h11] at hf
            refine lv_aload_n hx hb dX8_promise_45 rfl (lv_at hl 0 rfl) ?_
            refine gf_X8_46 F hP dX8_promise_46 ?_
            refine lv_iload_n hx hb dX8_promise_49 rfl (lv_at hl 1 rfl) ?_
            obtain ⟨h12, hf⟩ := gd_e hf
            refine m_iald F hP ⟨by decide, by decide⟩ rfl h12 dX8_promise_50 ?_
            refine lv_goto (tgt := 56) hx hb dX8_promise_51 (by decide) ?_
            exact g_iret B hP hS hf dX8_promise_56
        · rw [if_neg h10] at hf
          refine lv_iload_n hx hb dX8_promise_31 rfl (lv_at hl 2 rfl) ?_
          refine lv_aload_n hx hb dX8_promise_32 rfl (lv_at hl 0 rfl) ?_
          refine gf_X8_46 F hP dX8_promise_33 ?_
          refine lv_iload_n hx hb dX8_promise_36 rfl (lv_at hl 1 rfl) ?_
          obtain ⟨h13, hf⟩ := gd_e hf
          refine m_iald F hP ⟨by decide, by decide⟩ rfl h13 dX8_promise_37 ?_
          refine lv_icmp_lt (tgt := 57) hx hb dX8_promise_38 (by decide) (fun h14 => ?_) (fun h14 => ?_)
          · rw [if_pos h14] at hf
            refine lv_iload_n hx hb dX8_promise_57 rfl (lv_at hl 3 rfl) ?_
            refine lv_if_ne (tgt := 75) hx hb dX8_promise_58 (by decide) (fun h15 => ?_) (fun h15 => ?_)
            · rw [if_neg h15] at hf
              refine lv_iload_n hx hb dX8_promise_75 rfl (lv_at hl 3 rfl) ?_
              refine lv_iconst (v := 1) hx hb dX8_promise_76 (by decide) ?_
              refine lv_icmp_ne (tgt := 89) hx hb dX8_promise_77 (by decide) (fun h16 => ?_) (fun h16 => ?_)
              · rw [if_neg h16] at hf
                refine lv_iload_n hx hb dX8_promise_89 rfl (lv_at hl 3 rfl) ?_
                refine lv_iconst (v := 2) hx hb dX8_promise_90 (by decide) ?_
                refine lv_icmp_ne (tgt := 108) hx hb dX8_promise_91 (by decide) (fun h17 => ?_) (fun h17 => ?_)
                · rw [if_neg h17] at hf
                  refine lv_aload_n hx hb dX8_promise_108 rfl (lv_at hl 0 rfl) ?_
                  refine gf_X8_55 F hP dX8_promise_109 ?_
                  refine lv_bipush (v := (7)) hx hb dX8_promise_112 (by decide) ?_
                  refine lv_iload_n hx hb dX8_promise_114 rfl (lv_at hl 1 rfl) ?_
                  refine lv_imul hx hb dX8_promise_115 ?_
                  refine lv_iload_n hx hb dX8_promise_116 rfl (lv_at hl 2 rfl) ?_
                  refine lv_iadd hx hb dX8_promise_117 ?_
                  obtain ⟨h18, hf⟩ := gd_e hf
                  refine m_iald F hP ⟨by decide, by decide⟩ rfl h18 dX8_promise_118 ?_
                  exact g_iret B hP hS hf dX8_promise_119
                · rw [if_pos h17] at hf
                  refine lv_aload_n hx hb dX8_promise_94 rfl (lv_at hl 0 rfl) ?_
                  refine gf_X8_52 F hP dX8_promise_95 ?_
                  refine lv_bipush (v := (7)) hx hb dX8_promise_98 (by decide) ?_
                  refine lv_iload_n hx hb dX8_promise_100 rfl (lv_at hl 1 rfl) ?_
                  refine lv_imul hx hb dX8_promise_101 ?_
                  refine lv_iload_n hx hb dX8_promise_102 rfl (lv_at hl 2 rfl) ?_
                  refine lv_iadd hx hb dX8_promise_103 ?_
                  obtain ⟨h19, hf⟩ := gd_e hf
                  refine m_iald F hP ⟨by decide, by decide⟩ rfl h19 dX8_promise_104 ?_
                  refine lv_goto (tgt := 119) hx hb dX8_promise_105 (by decide) ?_
                  exact g_iret B hP hS hf dX8_promise_119
              · rw [if_pos h16] at hf
                refine lv_aload_n hx hb dX8_promise_80 rfl (lv_at hl 0 rfl) ?_
                refine lv_iload_n hx hb dX8_promise_81 rfl (lv_at hl 1 rfl) ?_
                refine lv_iload_n hx hb dX8_promise_82 rfl (lv_at hl 2 rfl) ?_
                obtain ⟨r21, σ20, h22, hf⟩ := cl_e hf
                refine kc_X8_294 F hP hS h22 ⟨Nat.le_of_ble_eq_true rfl, Nat.le_of_ble_eq_true rfl⟩ hl.1 (Nat.le_of_ble_eq_true rfl) ⟨Nat.zero_le _, Nat.zero_le _⟩ dX8_promise_83 (fun H locs hP hS => ?_)
                refine lv_goto (tgt := 119) hx hb dX8_promise_86 (by decide) ?_
                exact g_iret B hP hS hf dX8_promise_119
            · rw [if_pos h15] at hf
              refine lv_aload_n hx hb dX8_promise_61 rfl (lv_at hl 0 rfl) ?_
              refine gf_X8_49 F hP dX8_promise_62 ?_
              refine lv_bipush (v := (7)) hx hb dX8_promise_65 (by decide) ?_
              refine lv_iload_n hx hb dX8_promise_67 rfl (lv_at hl 1 rfl) ?_
              refine lv_imul hx hb dX8_promise_68 ?_
              refine lv_iload_n hx hb dX8_promise_69 rfl (lv_at hl 2 rfl) ?_
              refine lv_iadd hx hb dX8_promise_70 ?_
              obtain ⟨h23, hf⟩ := gd_e hf
              refine m_iald F hP ⟨by decide, by decide⟩ rfl h23 dX8_promise_71 ?_
              refine lv_goto (tgt := 119) hx hb dX8_promise_72 (by decide) ?_
              exact g_iret B hP hS hf dX8_promise_119
          · rw [if_neg h14] at hf
            refine lv_iload_n hx hb dX8_promise_41 rfl (lv_at hl 2 rfl) ?_
            refine lv_if_ge (tgt := 54) hx hb dX8_promise_42 (by decide) (fun h24 => ?_) (fun h24 => ?_)
            · rw [if_pos h24] at hf
              refine lv_bipush (v := (-4)) hx hb dX8_promise_54 (by decide) ?_
              exact g_iret B hP hS hf dX8_promise_56
            · rw [if_neg h24] at hf
              refine lv_aload_n hx hb dX8_promise_45 rfl (lv_at hl 0 rfl) ?_
              refine gf_X8_46 F hP dX8_promise_46 ?_
              refine lv_iload_n hx hb dX8_promise_49 rfl (lv_at hl 1 rfl) ?_
              obtain ⟨h25, hf⟩ := gd_e hf
              refine m_iald F hP ⟨by decide, by decide⟩ rfl h25 dX8_promise_50 ?_
              refine lv_goto (tgt := 56) hx hb dX8_promise_51 (by decide) ?_
              exact g_iret B hP hS hf dX8_promise_56
      · rw [if_pos h9] at hf
        refine lv_iconst (v := (-1)) hx hb dX8_promise_25 (by decide) ?_
        exact g_iret B hP hS hf dX8_promise_26
theorem c_X8_promise (l : Launch) {E : mEv} (hI : gIj (mG E)) {p1 : Int32} {p2 : Int32} {p3 : Int32} {σ σ' : St} {r : Int32} (hf : f_X8_promise p1 p2 p3 σ = some (r, σ')) : gMi l yX8_promise cX8_promise 4 .int rm_X8_promise [.ref (mAd E 0), .int p1, .int p2, .int p3] (mG E) σ r σ' :=
  g_entry (by decide) (Nat.le_of_ble_eq_true rfl) hI (fun p e s m args below meth c B hP hS ls hl => w_X8_promise_e B _ _ _ σ hf _ _ ls hP hS hl)
section SE
variable {p : Program} {l : Launch} {e : Env} {R : Room} {s : State} {m : MethodId} {args : Array Value} {below : List Frame} {meth : Method} {c : Code} {H : Heap} {locs : List Loc} {cells slots : Nat} {Q : State → Prop}
variable {cc : ByteArray} {pc nL : Nat} {ls : Array Slot} {rest : List Value} {E : mEv} {σ : St}
theorem gf_X8_103 (F : gFx p m c cc nL s args RX8 (mG E)) (hP : gW (mG E) σ H) (hdg : decode cc pc = .ok (.getfield 103, 3)) (kk : W p l e R s m args below meth c H locs cells slots Q (F0 m (pc + 3) ls (.ref (mAd E 50) :: rest))) : W p l e R s m args below meth c H locs cells slots Q (F0 m pc ls (.ref (mAd E 0) :: rest)) :=
  g_get F hP (k := 0) min0 (me_0 E _) rfl inX8 50 (by decide) tw_834 rfl rfl hdg kk
theorem gf_X8_234 (F : gFx p m c cc nL s args RX8 (mG E)) (hP : gW (mG E) σ H) (hdg : decode cc pc = .ok (.getfield 234, 3)) (kk : W p l e R s m args below meth c H locs cells slots Q (F0 m (pc + 3) ls (.int (σ 0 20) :: rest))) : W p l e R s m args below meth c H locs cells slots Q (F0 m pc ls (.ref (mAd E 0) :: rest)) :=
  g_get F hP (k := 0) min0 (me_0 E _) rfl inX8 20 (by decide) tw_804 rfl rfl hdg kk
end SE
/-! PromisedSlotsModel.beacon(I)V -/
def f_X8_beacon_152 (K45 : (Int32 × Int32 × St → Option (Unit × St))) (a1 : Int32) (a2 : Int32) (σ : St) : Option (Unit × St) :=
  gd (ix a2 8) <|
  if (σ 36 (nt a2)) = a1 then
    gd (ix a2 8) <|
    vl (up2 σ 43 (nt a2) (0 : Int32)) fun σ15 =>
    vl (a2 + (1 : Int32)) fun x16 =>
    K45 (a1, x16, σ15)
  else
    vl (a2 + (1 : Int32)) fun x13 =>
    K45 (a1, x13, σ)
def f_X8_beacon_82 (K45 : (Int32 × Int32 × St → Option (Unit × St))) (a1 : Int32) (a2 : Int32) (s0 : Int32) (s1 : Int32) (σ : St) : Option (Unit × St) :=
  gd (ix s1 8) <|
  vl (up2 σ 50 (nt s1) s0) fun σ8 =>
  gd (ix a2 8) <|
  if (σ8 36 (nt a2)) = a1 then
    gd (ix a2 8) <|
    if (σ8 44 (nt a2)) ≤ 0 then
      f_X8_beacon_152 K45 a1 a2 σ8
    else
      gd (ix a2 8) <|
      gd (ix a2 8) <|
      vl (up2 σ8 44 (nt a2) ((σ8 44 (nt a2)) - (1 : Int32))) fun σ21 =>
      gd (ix a2 8) <|
      gd (ix a2 8) <|
      vl (up2 σ21 43 (nt a2) ((σ21 43 (nt a2)) + (1 : Int32))) fun σ24 =>
      gd (ix a2 8) <|
      if (σ24 43 (nt a2)) = (4 : Int32) then
        gd (ix a2 8) <|
        vl (up2 σ24 36 (nt a2) (-4 : Int32)) fun σ32 =>
        vl (a2 + (1 : Int32)) fun x33 =>
        K45 (a1, x33, σ32)
      else
        gd (ix a2 8) <|
        gd (ix a2 8) <|
        vl (up2 σ24 36 (nt a2) (σ24 36 (nt a2))) fun σ29 =>
        vl (a2 + (1 : Int32)) fun x30 =>
        K45 (a1, x30, σ29)
  else
    f_X8_beacon_152 K45 a1 a2 σ8
def b_X8_beacon_45 (K45 : (Int32 × Int32 × St → Option (Unit × St))) (a1 : Int32) (a2 : Int32) (σ : St) : Option (Unit × St) :=
  if (σ 0 35) ≤ a2 then
    some ((), σ)
  else
    gd (ix a2 8) <|
    if (σ 36 (nt a2)) = a1 then
      gd (ix a2 8) <|
      if (σ 44 (nt a2)) = 0 then
        f_X8_beacon_82 K45 a1 a2 (1 : Int32) a2 σ
      else
        f_X8_beacon_82 K45 a1 a2 (0 : Int32) a2 σ
    else
      f_X8_beacon_82 K45 a1 a2 (0 : Int32) a2 σ
def b_X8_beacon_9 (K9 : (Int32 × Int32 × St → Option (Unit × St))) (a1 : Int32) (a2 : Int32) (σ : St) : Option (Unit × St) :=
  if a2 < 0 then
    lp (fun K a => b_X8_beacon_45 K a.1 a.2.1 a.2.2) FU (a1, (0 : Int32), σ)
  else
    gd (ix (((7 : Int32) * a1) + a2) 28) <|
    if (σ 33 (nt (((7 : Int32) * a1) + a2))) < (σ 0 20) then
      vl (a2 + (-1 : Int32)) fun x38 =>
      K9 (a1, x38, σ)
    else
      cl (f_X8_letGo a1 a2 σ) fun r40 σ39 =>
      vl (a2 + (-1 : Int32)) fun x42 =>
      K9 (a1, x42, σ39)
def f_X8_beacon (p1 : Int32) (σ : St) : Option (Unit × St) :=
  gd (ix p1 4) <|
  vl ((σ 30 (nt p1)) - (1 : Int32)) fun x2 =>
  lp (fun K a => b_X8_beacon_9 K a.1 a.2.1 a.2.2) FU (p1, x2, σ)
abbrev rm_X8_beacon : Room := { frames := 1, cells := 0, slots := 0, locals := 23 }
def P_X8_beacon_9 (p : Program) (l : Launch) (e : Env) (s : State) (m : MethodId) (args : Array Value) (below : List Frame) (meth : Method) (c : Code) (E : mEv) (σ' : St) (a : Int32 × Int32 × St) : Prop := ∀ (H : Heap) (locs : List Loc) (ls : Array Slot), gW (mG E) a.2.2 H → va_S (gA (mG E)) s.heap H locs → lv_has ls 3 [(0, .ref (mAd E 0)), (1, .int a.1), (2, .int a.2.1)] → W p l e rm_X8_beacon s m args below meth c H locs 0 0 (gQv below args s (mG E) σ') (F0 m 9 ls [])
def P_X8_beacon_45 (p : Program) (l : Launch) (e : Env) (s : State) (m : MethodId) (args : Array Value) (below : List Frame) (meth : Method) (c : Code) (E : mEv) (σ' : St) (a : Int32 × Int32 × St) : Prop := ∀ (H : Heap) (locs : List Loc) (ls : Array Slot), gW (mG E) a.2.2 H → va_S (gA (mG E)) s.heap H locs → lv_has ls 3 [(0, .ref (mAd E 0)), (1, .int a.1), (2, .int a.2.1)] → W p l e rm_X8_beacon s m args below meth c H locs 0 0 (gQv below args s (mG E) σ') (F0 m 45 ls [])
set_option maxHeartbeats 4000000 in
set_option maxRecDepth 100000 in
theorem w_X8_beacon_152 {p : Program} {l : Launch} {e : Env} {s : State} {m : MethodId} {args : Array Value} {below : List Frame} {meth : Method} {c : Code} {E : mEv} {u : Unit} {σ' : St} (B : gBx p m meth c cX8_beacon 3 none s args RX8 (mG E)) {K45 : (Int32 × Int32 × St → Option (Unit × St))} (hK45 : ∀ a, K45 a = some (u, σ') → P_X8_beacon_45 p l e s m args below meth c E σ' a) (a1 : Int32) (a2 : Int32) (σ : St) (hf : f_X8_beacon_152 K45 a1 a2 σ = some (u, σ')) (H : Heap) (locs : List Loc) (ls : Array Slot) (hP : gW (mG E) σ H) (hS : va_S (gA (mG E)) s.heap H locs) (hl : lv_has ls 3 [(0, .ref (mAd E 0)), (1, .int a1), (2, .int a2)]) : W p l e rm_X8_beacon s m args below meth c H locs 0 0 (gQv below args s (mG E) σ') (F0 m 152 ls []) := by
  unfold f_X8_beacon_152 at hf
  obtain ⟨F, hr, hlk⟩ := id B
  have hx := F.1
  have hb := F.2.1
  have hml := F.2.2.1
  have hown := F.2.2.2.1
  have hts := F.2.2.2.2.1
  refine lv_aload_n hx hb dX8_beacon_152 rfl (lv_at hl 0 rfl) ?_
  refine gf_X8_61 F hP dX8_beacon_153 ?_
  refine lv_iload_n hx hb dX8_beacon_156 rfl (lv_at hl 2 rfl) ?_
  obtain ⟨h11, hf⟩ := gd_e hf
  refine m_iald F hP ⟨by decide, by decide⟩ rfl h11 dX8_beacon_157 ?_
  refine lv_iload_n hx hb dX8_beacon_158 rfl (lv_at hl 1 rfl) ?_
  refine lv_icmp_ne (tgt := 169) hx hb dX8_beacon_159 (by decide) (fun h12 => ?_) (fun h12 => ?_)
  · rw [if_neg h12] at hf
    refine lv_iinc (v := a2 + (1 : Int32)) (lv' := [(2, .int (a2 + (1 : Int32))), (0, .ref (mAd E 0)), (1, .int a1)]) hx hb dX8_beacon_169 hl (k := 2) rfl rfl (by decide) rfl (fun ls hl => ?_)
    obtain ⟨x13, ex13, hf⟩ := vl_x hf
    rw [← ex13] at hl
    refine lv_goto (tgt := 45) hx hb dX8_beacon_172 (by decide) ?_
    exact hK45 _ hf _ _ _ hP hS (lv_sub hl [1, 2, 0] rfl)
  · rw [if_pos h12] at hf
    refine lv_aload_n hx hb dX8_beacon_162 rfl (lv_at hl 0 rfl) ?_
    refine gf_X8_82 F hP dX8_beacon_163 ?_
    refine lv_iload_n hx hb dX8_beacon_166 rfl (lv_at hl 2 rfl) ?_
    refine lv_iconst (v := 0) hx hb dX8_beacon_167 (by decide) ?_
    obtain ⟨h14, hf⟩ := gd_e hf
    refine m_iast F hP hS ⟨by decide, by decide⟩ rfl h14 dX8_beacon_168 (fun H locs hP hS => ?_)
    obtain ⟨σ15, eσ15, hf⟩ := vl_x hf
    rw [← eσ15] at hP
    refine lv_iinc (v := a2 + (1 : Int32)) (lv' := [(2, .int (a2 + (1 : Int32))), (0, .ref (mAd E 0)), (1, .int a1)]) hx hb dX8_beacon_169 hl (k := 2) rfl rfl (by decide) rfl (fun ls hl => ?_)
    obtain ⟨x16, ex16, hf⟩ := vl_x hf
    rw [← ex16] at hl
    refine lv_goto (tgt := 45) hx hb dX8_beacon_172 (by decide) ?_
    exact hK45 _ hf _ _ _ hP hS (lv_sub hl [1, 2, 0] rfl)
set_option maxHeartbeats 4000000 in
set_option maxRecDepth 100000 in
theorem w_X8_beacon_82 {p : Program} {l : Launch} {e : Env} {s : State} {m : MethodId} {args : Array Value} {below : List Frame} {meth : Method} {c : Code} {E : mEv} {u : Unit} {σ' : St} (B : gBx p m meth c cX8_beacon 3 none s args RX8 (mG E)) {K45 : (Int32 × Int32 × St → Option (Unit × St))} (hK45 : ∀ a, K45 a = some (u, σ') → P_X8_beacon_45 p l e s m args below meth c E σ' a) (a1 : Int32) (a2 : Int32) (s0 : Int32) (s1 : Int32) (σ : St) (hf : f_X8_beacon_82 K45 a1 a2 s0 s1 σ = some (u, σ')) (H : Heap) (locs : List Loc) (ls : Array Slot) (hP : gW (mG E) σ H) (hS : va_S (gA (mG E)) s.heap H locs) (hl : lv_has ls 3 [(0, .ref (mAd E 0)), (1, .int a1), (2, .int a2)]) : W p l e rm_X8_beacon s m args below meth c H locs 0 0 (gQv below args s (mG E) σ') (F0 m 82 ls [.int s0, .int s1, .ref (mAd E 50)]) := by
  unfold f_X8_beacon_82 at hf
  obtain ⟨F, hr, hlk⟩ := id B
  have hx := F.1
  have hb := F.2.1
  have hml := F.2.2.1
  have hown := F.2.2.2.1
  have hts := F.2.2.2.2.1
  obtain ⟨h7, hf⟩ := gd_e hf
  refine m_iast F hP hS ⟨by decide, by decide⟩ rfl h7 dX8_beacon_82 (fun H locs hP hS => ?_)
  obtain ⟨σ8, eσ8, hf⟩ := vl_x hf
  rw [← eσ8] at hP
  refine lv_aload_n hx hb dX8_beacon_83 rfl (lv_at hl 0 rfl) ?_
  refine gf_X8_61 F hP dX8_beacon_84 ?_
  refine lv_iload_n hx hb dX8_beacon_87 rfl (lv_at hl 2 rfl) ?_
  obtain ⟨h9, hf⟩ := gd_e hf
  refine m_iald F hP ⟨by decide, by decide⟩ rfl h9 dX8_beacon_88 ?_
  refine lv_iload_n hx hb dX8_beacon_89 rfl (lv_at hl 1 rfl) ?_
  refine lv_icmp_ne (tgt := 152) hx hb dX8_beacon_90 (by decide) (fun h10 => ?_) (fun h10 => ?_)
  · rw [if_neg h10] at hf
    exact w_X8_beacon_152 B hK45 _ _ σ8 hf _ _ _ hP hS (lv_sub hl [0, 1, 2] rfl)
  · rw [if_pos h10] at hf
    refine lv_aload_n hx hb dX8_beacon_93 rfl (lv_at hl 0 rfl) ?_
    refine gf_X8_85 F hP dX8_beacon_94 ?_
    refine lv_iload_n hx hb dX8_beacon_97 rfl (lv_at hl 2 rfl) ?_
    obtain ⟨h17, hf⟩ := gd_e hf
    refine m_iald F hP ⟨by decide, by decide⟩ rfl h17 dX8_beacon_98 ?_
    refine lv_if_le (tgt := 152) hx hb dX8_beacon_99 (by decide) (fun h18 => ?_) (fun h18 => ?_)
    · rw [if_pos h18] at hf
      exact w_X8_beacon_152 B hK45 _ _ σ8 hf _ _ _ hP hS (lv_sub hl [0, 1, 2] rfl)
    · rw [if_neg h18] at hf
      refine lv_aload_n hx hb dX8_beacon_102 rfl (lv_at hl 0 rfl) ?_
      refine gf_X8_85 F hP dX8_beacon_103 ?_
      refine lv_iload_n hx hb dX8_beacon_106 rfl (lv_at hl 2 rfl) ?_
      refine lv_dup2_11 hx hb dX8_beacon_107 rfl rfl ?_
      obtain ⟨h19, hf⟩ := gd_e hf
      refine m_iald F hP ⟨by decide, by decide⟩ rfl h19 dX8_beacon_108 ?_
      refine lv_iconst (v := 1) hx hb dX8_beacon_109 (by decide) ?_
      refine lv_isub hx hb dX8_beacon_110 ?_
      obtain ⟨h20, hf⟩ := gd_e hf
      refine m_iast F hP hS ⟨by decide, by decide⟩ rfl h20 dX8_beacon_111 (fun H locs hP hS => ?_)
      obtain ⟨σ21, eσ21, hf⟩ := vl_x hf
      rw [← eσ21] at hP
      refine lv_aload_n hx hb dX8_beacon_112 rfl (lv_at hl 0 rfl) ?_
      refine gf_X8_82 F hP dX8_beacon_113 ?_
      refine lv_iload_n hx hb dX8_beacon_116 rfl (lv_at hl 2 rfl) ?_
      refine lv_dup2_11 hx hb dX8_beacon_117 rfl rfl ?_
      obtain ⟨h22, hf⟩ := gd_e hf
      refine m_iald F hP ⟨by decide, by decide⟩ rfl h22 dX8_beacon_118 ?_
      refine lv_iconst (v := 1) hx hb dX8_beacon_119 (by decide) ?_
      refine lv_iadd hx hb dX8_beacon_120 ?_
      obtain ⟨h23, hf⟩ := gd_e hf
      refine m_iast F hP hS ⟨by decide, by decide⟩ rfl h23 dX8_beacon_121 (fun H locs hP hS => ?_)
      obtain ⟨σ24, eσ24, hf⟩ := vl_x hf
      rw [← eσ24] at hP
      refine lv_aload_n hx hb dX8_beacon_122 rfl (lv_at hl 0 rfl) ?_
      refine gf_X8_61 F hP dX8_beacon_123 ?_
      refine lv_iload_n hx hb dX8_beacon_126 rfl (lv_at hl 2 rfl) ?_
      refine lv_aload_n hx hb dX8_beacon_127 rfl (lv_at hl 0 rfl) ?_
      refine gf_X8_82 F hP dX8_beacon_128 ?_
      refine lv_iload_n hx hb dX8_beacon_131 rfl (lv_at hl 2 rfl) ?_
      obtain ⟨h25, hf⟩ := gd_e hf
      refine m_iald F hP ⟨by decide, by decide⟩ rfl h25 dX8_beacon_132 ?_
      refine lv_iconst (v := 4) hx hb dX8_beacon_133 (by decide) ?_
      refine lv_icmp_ne (tgt := 142) hx hb dX8_beacon_134 (by decide) (fun h26 => ?_) (fun h26 => ?_)
      · rw [if_neg h26] at hf
        refine lv_aload_n hx hb dX8_beacon_142 rfl (lv_at hl 0 rfl) ?_
        refine gf_X8_61 F hP dX8_beacon_143 ?_
        refine lv_iload_n hx hb dX8_beacon_146 rfl (lv_at hl 2 rfl) ?_
        obtain ⟨h27, hf⟩ := gd_e hf
        refine m_iald F hP ⟨by decide, by decide⟩ rfl h27 dX8_beacon_147 ?_
        obtain ⟨h28, hf⟩ := gd_e hf
        refine m_iast F hP hS ⟨by decide, by decide⟩ rfl h28 dX8_beacon_148 (fun H locs hP hS => ?_)
        obtain ⟨σ29, eσ29, hf⟩ := vl_x hf
        rw [← eσ29] at hP
        refine lv_goto (tgt := 169) hx hb dX8_beacon_149 (by decide) ?_
        refine lv_iinc (v := a2 + (1 : Int32)) (lv' := [(2, .int (a2 + (1 : Int32))), (0, .ref (mAd E 0)), (1, .int a1)]) hx hb dX8_beacon_169 hl (k := 2) rfl rfl (by decide) rfl (fun ls hl => ?_)
        obtain ⟨x30, ex30, hf⟩ := vl_x hf
        rw [← ex30] at hl
        refine lv_goto (tgt := 45) hx hb dX8_beacon_172 (by decide) ?_
        exact hK45 _ hf _ _ _ hP hS (lv_sub hl [1, 2, 0] rfl)
      · rw [if_pos h26] at hf
        refine lv_bipush (v := (-4)) hx hb dX8_beacon_137 (by decide) ?_
        refine lv_goto (tgt := 148) hx hb dX8_beacon_139 (by decide) ?_
        obtain ⟨h31, hf⟩ := gd_e hf
        refine m_iast F hP hS ⟨by decide, by decide⟩ rfl h31 dX8_beacon_148 (fun H locs hP hS => ?_)
        obtain ⟨σ32, eσ32, hf⟩ := vl_x hf
        rw [← eσ32] at hP
        refine lv_goto (tgt := 169) hx hb dX8_beacon_149 (by decide) ?_
        refine lv_iinc (v := a2 + (1 : Int32)) (lv' := [(2, .int (a2 + (1 : Int32))), (0, .ref (mAd E 0)), (1, .int a1)]) hx hb dX8_beacon_169 hl (k := 2) rfl rfl (by decide) rfl (fun ls hl => ?_)
        obtain ⟨x33, ex33, hf⟩ := vl_x hf
        rw [← ex33] at hl
        refine lv_goto (tgt := 45) hx hb dX8_beacon_172 (by decide) ?_
        exact hK45 _ hf _ _ _ hP hS (lv_sub hl [1, 2, 0] rfl)
set_option maxHeartbeats 4000000 in
set_option maxRecDepth 100000 in
theorem w_X8_beacon_45 {p : Program} {l : Launch} {e : Env} {s : State} {m : MethodId} {args : Array Value} {below : List Frame} {meth : Method} {c : Code} {E : mEv} {u : Unit} {σ' : St} (B : gBx p m meth c cX8_beacon 3 none s args RX8 (mG E)) {K45 : (Int32 × Int32 × St → Option (Unit × St))} (hK45 : ∀ a, K45 a = some (u, σ') → P_X8_beacon_45 p l e s m args below meth c E σ' a) (a1 : Int32) (a2 : Int32) (σ : St) (hf : b_X8_beacon_45 K45 a1 a2 σ = some (u, σ')) (H : Heap) (locs : List Loc) (ls : Array Slot) (hP : gW (mG E) σ H) (hS : va_S (gA (mG E)) s.heap H locs) (hl : lv_has ls 3 [(0, .ref (mAd E 0)), (1, .int a1), (2, .int a2)]) : W p l e rm_X8_beacon s m args below meth c H locs 0 0 (gQv below args s (mG E) σ') (F0 m 45 ls []) := by
  unfold b_X8_beacon_45 at hf
  obtain ⟨F, hr, hlk⟩ := id B
  have hx := F.1
  have hb := F.2.1
  have hml := F.2.2.1
  have hown := F.2.2.2.1
  have hts := F.2.2.2.2.1
  refine lv_iload_n hx hb dX8_beacon_45 rfl (lv_at hl 2 rfl) ?_
  refine lv_aload_n hx hb dX8_beacon_46 rfl (lv_at hl 0 rfl) ?_
  refine gf_X8_219 F hP dX8_beacon_47 ?_
  refine lv_icmp_ge (tgt := 175) hx hb dX8_beacon_50 (by decide) (fun h4 => ?_) (fun h4 => ?_)
  · rw [if_pos h4] at hf
    exact g_vret B hP hS hf dX8_beacon_175
  · rw [if_neg h4] at hf
    refine lv_aload_n hx hb dX8_beacon_53 rfl (lv_at hl 0 rfl) ?_
    refine gf_X8_103 F hP dX8_beacon_54 ?_
    refine lv_iload_n hx hb dX8_beacon_57 rfl (lv_at hl 2 rfl) ?_
    refine lv_aload_n hx hb dX8_beacon_58 rfl (lv_at hl 0 rfl) ?_
    refine gf_X8_61 F hP dX8_beacon_59 ?_
    refine lv_iload_n hx hb dX8_beacon_62 rfl (lv_at hl 2 rfl) ?_
    obtain ⟨h5, hf⟩ := gd_e hf
    refine m_iald F hP ⟨by decide, by decide⟩ rfl h5 dX8_beacon_63 ?_
    refine lv_iload_n hx hb dX8_beacon_64 rfl (lv_at hl 1 rfl) ?_
    refine lv_icmp_ne (tgt := 81) hx hb dX8_beacon_65 (by decide) (fun h6 => ?_) (fun h6 => ?_)
    · rw [if_neg h6] at hf
      refine lv_iconst (v := 0) hx hb dX8_beacon_81 (by decide) ?_
      exact w_X8_beacon_82 B hK45 _ _ _ _ σ hf _ _ _ hP hS (lv_sub hl [0, 1, 2] rfl)
    · rw [if_pos h6] at hf
      refine lv_aload_n hx hb dX8_beacon_68 rfl (lv_at hl 0 rfl) ?_
      refine gf_X8_85 F hP dX8_beacon_69 ?_
      refine lv_iload_n hx hb dX8_beacon_72 rfl (lv_at hl 2 rfl) ?_
      obtain ⟨h34, hf⟩ := gd_e hf
      refine m_iald F hP ⟨by decide, by decide⟩ rfl h34 dX8_beacon_73 ?_
      refine lv_if_ne (tgt := 81) hx hb dX8_beacon_74 (by decide) (fun h35 => ?_) (fun h35 => ?_)
      · rw [if_neg h35] at hf
        refine lv_iconst (v := 0) hx hb dX8_beacon_81 (by decide) ?_
        exact w_X8_beacon_82 B hK45 _ _ _ _ σ hf _ _ _ hP hS (lv_sub hl [0, 1, 2] rfl)
      · rw [if_pos h35] at hf
        refine lv_iconst (v := 1) hx hb dX8_beacon_77 (by decide) ?_
        refine lv_goto (tgt := 82) hx hb dX8_beacon_78 (by decide) ?_
        exact w_X8_beacon_82 B hK45 _ _ _ _ σ hf _ _ _ hP hS (lv_sub hl [0, 1, 2] rfl)
set_option maxHeartbeats 4000000 in
set_option maxRecDepth 100000 in
theorem w_X8_beacon_9 {p : Program} {l : Launch} {e : Env} {s : State} {m : MethodId} {args : Array Value} {below : List Frame} {meth : Method} {c : Code} {E : mEv} {u : Unit} {σ' : St} (B : gBx p m meth c cX8_beacon 3 none s args RX8 (mG E)) {K9 : (Int32 × Int32 × St → Option (Unit × St))} (hK9 : ∀ a, K9 a = some (u, σ') → P_X8_beacon_9 p l e s m args below meth c E σ' a) (a1 : Int32) (a2 : Int32) (σ : St) (hf : b_X8_beacon_9 K9 a1 a2 σ = some (u, σ')) (H : Heap) (locs : List Loc) (ls : Array Slot) (hP : gW (mG E) σ H) (hS : va_S (gA (mG E)) s.heap H locs) (hl : lv_has ls 3 [(0, .ref (mAd E 0)), (1, .int a1), (2, .int a2)]) : W p l e rm_X8_beacon s m args below meth c H locs 0 0 (gQv below args s (mG E) σ') (F0 m 9 ls []) := by
  unfold b_X8_beacon_9 at hf
  obtain ⟨F, hr, hlk⟩ := id B
  have hx := F.1
  have hb := F.2.1
  have hml := F.2.2.1
  have hown := F.2.2.2.1
  have hts := F.2.2.2.2.1
  refine lv_iload_n hx hb dX8_beacon_9 rfl (lv_at hl 2 rfl) ?_
  refine lv_if_lt (tgt := 43) hx hb dX8_beacon_10 (by decide) (fun h3 => ?_) (fun h3 => ?_)
  · rw [if_pos h3] at hf
    refine lv_iconst (v := 0) hx hb dX8_beacon_43 (by decide) ?_
    refine lv_istore_n (lv' := [(2, .int (0 : Int32)), (0, .ref (mAd E 0)), (1, .int a1)]) hx hb dX8_beacon_44 rfl hl (by decide) rfl (fun ls hl => ?_)
    exact lp_w (P := P_X8_beacon_45 p l e s m args below meth c E σ') (fun K hK a ha => w_X8_beacon_45 B hK a.1 a.2.1 a.2.2 ha) FU _ hf _ _ _ hP hS (lv_sub hl [1, 2, 0] rfl)
  · rw [if_neg h3] at hf
    refine lv_aload_n hx hb dX8_beacon_13 rfl (lv_at hl 0 rfl) ?_
    refine gf_X8_55 F hP dX8_beacon_14 ?_
    refine lv_bipush (v := (7)) hx hb dX8_beacon_17 (by decide) ?_
    refine lv_iload_n hx hb dX8_beacon_19 rfl (lv_at hl 1 rfl) ?_
    refine lv_imul hx hb dX8_beacon_20 ?_
    refine lv_iload_n hx hb dX8_beacon_21 rfl (lv_at hl 2 rfl) ?_
    refine lv_iadd hx hb dX8_beacon_22 ?_
    obtain ⟨h36, hf⟩ := gd_e hf
    refine m_iald F hP ⟨by decide, by decide⟩ rfl h36 dX8_beacon_23 ?_
    refine lv_aload_n hx hb dX8_beacon_24 rfl (lv_at hl 0 rfl) ?_
    refine gf_X8_234 F hP dX8_beacon_25 ?_
    refine lv_icmp_lt (tgt := 37) hx hb dX8_beacon_28 (by decide) (fun h37 => ?_) (fun h37 => ?_)
    · rw [if_pos h37] at hf
      refine lv_iinc (v := a2 + (-1 : Int32)) (lv' := [(2, .int (a2 + (-1 : Int32))), (0, .ref (mAd E 0)), (1, .int a1)]) hx hb dX8_beacon_37 hl (k := 2) rfl rfl (by decide) rfl (fun ls hl => ?_)
      obtain ⟨x38, ex38, hf⟩ := vl_x hf
      rw [← ex38] at hl
      refine lv_goto (tgt := 9) hx hb dX8_beacon_40 (by decide) ?_
      exact hK9 _ hf _ _ _ hP hS (lv_sub hl [1, 2, 0] rfl)
    · rw [if_neg h37] at hf
      refine lv_aload_n hx hb dX8_beacon_31 rfl (lv_at hl 0 rfl) ?_
      refine lv_iload_n hx hb dX8_beacon_32 rfl (lv_at hl 1 rfl) ?_
      refine lv_iload_n hx hb dX8_beacon_33 rfl (lv_at hl 2 rfl) ?_
      obtain ⟨r40, σ39, h41, hf⟩ := cl_e hf
      refine kc_X8_269 F hP hS h41 ⟨Nat.le_of_ble_eq_true rfl, Nat.le_of_ble_eq_true rfl⟩ hl.1 (Nat.le_of_ble_eq_true rfl) ⟨Nat.zero_le _, Nat.zero_le _⟩ dX8_beacon_34 (fun H locs hP hS => ?_)
      refine lv_iinc (v := a2 + (-1 : Int32)) (lv' := [(2, .int (a2 + (-1 : Int32))), (0, .ref (mAd E 0)), (1, .int a1)]) hx hb dX8_beacon_37 hl (k := 2) rfl rfl (by decide) rfl (fun ls hl => ?_)
      obtain ⟨x42, ex42, hf⟩ := vl_x hf
      rw [← ex42] at hl
      refine lv_goto (tgt := 9) hx hb dX8_beacon_40 (by decide) ?_
      exact hK9 _ hf _ _ _ hP hS (lv_sub hl [1, 2, 0] rfl)
set_option maxHeartbeats 4000000 in
set_option maxRecDepth 100000 in
theorem w_X8_beacon_e {p : Program} {l : Launch} {e : Env} {s : State} {m : MethodId} {args : Array Value} {below : List Frame} {meth : Method} {c : Code} {E : mEv} {u : Unit} {σ' : St} (B : gBx p m meth c cX8_beacon 3 none s args RX8 (mG E)) (p1 : Int32) (σ : St) (hf : f_X8_beacon p1 σ = some (u, σ')) (H : Heap) (locs : List Loc) (ls : Array Slot) (hP : gW (mG E) σ H) (hS : va_S (gA (mG E)) s.heap H locs) (hl : lv_has ls 3 [(0, .ref (mAd E 0)), (1, .int p1)]) : W p l e rm_X8_beacon s m args below meth c H locs 0 0 (gQv below args s (mG E) σ') (F0 m 0 ls []) := by
  unfold f_X8_beacon at hf
  obtain ⟨F, hr, hlk⟩ := id B
  have hx := F.1
  have hb := F.2.1
  have hml := F.2.2.1
  have hown := F.2.2.2.1
  have hts := F.2.2.2.2.1
  refine lv_aload_n hx hb dX8_beacon_0 rfl (lv_at hl 0 rfl) ?_
  refine gf_X8_46 F hP dX8_beacon_1 ?_
  refine lv_iload_n hx hb dX8_beacon_4 rfl (lv_at hl 1 rfl) ?_
  obtain ⟨h1, hf⟩ := gd_e hf
  refine m_iald F hP ⟨by decide, by decide⟩ rfl h1 dX8_beacon_5 ?_
  refine lv_iconst (v := 1) hx hb dX8_beacon_6 (by decide) ?_
  refine lv_isub hx hb dX8_beacon_7 ?_
  obtain ⟨x2, ex2, hf⟩ := vl_x hf
  rw [← ex2]
  refine lv_istore_n (lv' := [(2, .int x2), (0, .ref (mAd E 0)), (1, .int p1)]) hx hb dX8_beacon_8 rfl hl (by decide) rfl (fun ls hl => ?_)
  exact lp_w (P := P_X8_beacon_9 p l e s m args below meth c E σ') (fun K hK a ha => w_X8_beacon_9 B hK a.1 a.2.1 a.2.2 ha) FU _ hf _ _ _ hP hS (lv_sub hl [1, 2, 0] rfl)
theorem c_X8_beacon (l : Launch) {E : mEv} (hI : gIj (mG E)) {p1 : Int32} {σ σ' : St} {u : Unit} (hf : f_X8_beacon p1 σ = some (u, σ')) : gMv l yX8_beacon cX8_beacon 3 rm_X8_beacon [.ref (mAd E 0), .int p1] (mG E) σ σ' :=
  g_entry (by decide) (Nat.le_of_ble_eq_true rfl) hI (fun p e s m args below meth c B hP hS ls hl => w_X8_beacon_e B _ σ hf _ _ ls hP hS hl)
section SE
variable {p : Program} {l : Launch} {e : Env} {R : Room} {s : State} {m : MethodId} {args : Array Value} {below : List Frame} {meth : Method} {c : Code} {H : Heap} {locs : List Loc} {cells slots : Nat} {Q : State → Prop}
variable {cc : ByteArray} {pc nL : Nat} {ls : Array Slot} {rest : List Value} {E : mEv} {σ : St}
theorem gf_X8_106 (F : gFx p m c cc nL s args RX8 (mG E)) (hP : gW (mG E) σ H) (hdg : decode cc pc = .ok (.getfield 106, 3)) (kk : W p l e R s m args below meth c H locs cells slots Q (F0 m (pc + 3) ls (.ref (mAd E 51) :: rest))) : W p l e R s m args below meth c H locs cells slots Q (F0 m pc ls (.ref (mAd E 0) :: rest)) :=
  g_get F hP (k := 0) min0 (me_0 E _) rfl inX8 51 (by decide) tw_835 rfl rfl hdg kk
end SE
/-! PromisedSlotsModel.draws(I)V -/
def f_X8_draws (p1 : Int32) (σ : St) : Option (Unit × St) :=
  vl (up2 σ 0 22 ((((7919 : Int32) * (σ 0 22)) + (12345 : Int32)) - (((7919 : Int32) * (σ 0 22)) + (12345 : Int32)) / (65521 : Int32) * (65521 : Int32))) fun σ1 =>
  gd (ix p1 8) <|
  gd (¬ ((1 : Int32) <<< ((σ1 46 (nt p1)) &&& 31)) = 0) <|
  gd (ix p1 8) <|
  vl (up2 σ1 51 (nt p1) ((σ1 0 22) - (σ1 0 22) / ((1 : Int32) <<< ((σ1 46 (nt p1)) &&& 31)) * ((1 : Int32) <<< ((σ1 46 (nt p1)) &&& 31)))) fun σ5 =>
  gd (ix p1 8) <|
  vl (up2 σ5 45 (nt p1) (1 : Int32)) fun σ7 =>
  some ((), σ7)
abbrev rm_X8_draws : Room := { frames := 0, cells := 0, slots := 0, locals := 0 }
set_option maxHeartbeats 4000000 in
set_option maxRecDepth 100000 in
theorem w_X8_draws_e {p : Program} {l : Launch} {e : Env} {s : State} {m : MethodId} {args : Array Value} {below : List Frame} {meth : Method} {c : Code} {E : mEv} {u : Unit} {σ' : St} (B : gBx p m meth c cX8_draws 2 none s args RX8 (mG E)) (p1 : Int32) (σ : St) (hf : f_X8_draws p1 σ = some (u, σ')) (H : Heap) (locs : List Loc) (ls : Array Slot) (hP : gW (mG E) σ H) (hS : va_S (gA (mG E)) s.heap H locs) (hl : lv_has ls 2 [(0, .ref (mAd E 0)), (1, .int p1)]) : W p l e rm_X8_draws s m args below meth c H locs 0 0 (gQv below args s (mG E) σ') (F0 m 0 ls []) := by
  unfold f_X8_draws at hf
  obtain ⟨F, hr, hlk⟩ := id B
  have hx := F.1
  have hb := F.2.1
  have hml := F.2.2.1
  have hown := F.2.2.2.1
  have hts := F.2.2.2.2.1
  refine lv_aload_n hx hb dX8_draws_0 rfl (lv_at hl 0 rfl) ?_
  refine lv_sipush (v := (7919)) hx hb dX8_draws_1 (by decide) ?_
  refine lv_aload_n hx hb dX8_draws_4 rfl (lv_at hl 0 rfl) ?_
  refine gf_X8_240 F hP dX8_draws_5 ?_
  refine lv_imul hx hb dX8_draws_8 ?_
  refine lv_sipush (v := (12345)) hx hb dX8_draws_9 (by decide) ?_
  refine lv_iadd hx hb dX8_draws_12 ?_
  refine lv_ldcw hx hb hown (hts _ tw_1134) dX8_draws_13 ?_
  refine lv_irem hx hb dX8_draws_16 (by decide) ?_
  refine pf_X8_240 F hP hS dX8_draws_17 (fun H locs hP hS => ?_)
  obtain ⟨σ1, eσ1, hf⟩ := vl_x hf
  rw [← eσ1] at hP
  refine lv_aload_n hx hb dX8_draws_20 rfl (lv_at hl 0 rfl) ?_
  refine gf_X8_106 F hP dX8_draws_21 ?_
  refine lv_iload_n hx hb dX8_draws_24 rfl (lv_at hl 1 rfl) ?_
  refine lv_aload_n hx hb dX8_draws_25 rfl (lv_at hl 0 rfl) ?_
  refine gf_X8_240 F hP dX8_draws_26 ?_
  refine lv_iconst (v := 1) hx hb dX8_draws_29 (by decide) ?_
  refine lv_aload_n hx hb dX8_draws_30 rfl (lv_at hl 0 rfl) ?_
  refine gf_X8_91 F hP dX8_draws_31 ?_
  refine lv_iload_n hx hb dX8_draws_34 rfl (lv_at hl 1 rfl) ?_
  obtain ⟨h2, hf⟩ := gd_e hf
  refine m_iald F hP ⟨by decide, by decide⟩ rfl h2 dX8_draws_35 ?_
  refine lv_ishl hx hb dX8_draws_36 ?_
  obtain ⟨h3, hf⟩ := gd_e hf
  refine lv_irem hx hb dX8_draws_37 h3 ?_
  obtain ⟨h4, hf⟩ := gd_e hf
  refine m_iast F hP hS ⟨by decide, by decide⟩ rfl h4 dX8_draws_38 (fun H locs hP hS => ?_)
  obtain ⟨σ5, eσ5, hf⟩ := vl_x hf
  rw [← eσ5] at hP
  refine lv_aload_n hx hb dX8_draws_39 rfl (lv_at hl 0 rfl) ?_
  refine gf_X8_88 F hP dX8_draws_40 ?_
  refine lv_iload_n hx hb dX8_draws_43 rfl (lv_at hl 1 rfl) ?_
  refine lv_iconst (v := 1) hx hb dX8_draws_44 (by decide) ?_
  obtain ⟨h6, hf⟩ := gd_e hf
  refine m_iast F hP hS ⟨by decide, by decide⟩ rfl h6 dX8_draws_45 (fun H locs hP hS => ?_)
  obtain ⟨σ7, eσ7, hf⟩ := vl_x hf
  rw [← eσ7] at hP
  exact g_vret B hP hS hf dX8_draws_46
theorem c_X8_draws (l : Launch) {E : mEv} (hI : gIj (mG E)) {p1 : Int32} {σ σ' : St} {u : Unit} (hf : f_X8_draws p1 σ = some (u, σ')) : gMv l yX8_draws cX8_draws 2 rm_X8_draws [.ref (mAd E 0), .int p1] (mG E) σ σ' :=
  g_entry (by decide) (Nat.le_of_ble_eq_true rfl) hI (fun p e s m args below meth c B hP hS ls hl => w_X8_draws_e B _ σ hf _ _ ls hP hS hl)
section SE
variable {p : Program} {l : Launch} {e : Env} {R : Room} {s : State} {m : MethodId} {args : Array Value} {below : List Frame} {meth : Method} {c : Code} {H : Heap} {locs : List Loc} {cells slots : Nat} {Q : State → Prop}
variable {cc : ByteArray} {pc nL : Nat} {ls : Array Slot} {rest : List Value} {E : mEv} {σ : St}
theorem kc_X8_300 (F : gFx p m c cc nL s args RX8 (mG E)) (hP : gW (mG E) σ H) (hS : va_S (gA (mG E)) s.heap H locs) {p1 : Int32} {u : Unit} {σ' : St} (hf : f_X8_draws p1 σ = some (u, σ')) (hR : rm_X8_draws.frames + 1 ≤ R.frames ∧ 8 + (2 + 11) + rm_X8_draws.locals ≤ R.locals) (hsz : ls.size = nL) (hrest : (rest.map fun v => v.category).sum ≤ 8) (hcs : cells ≤ R.cells ∧ slots ≤ R.slots) (hdg : decode cc pc = .ok (.invokevirtual 300, 3)) (kk : ∀ (H1 : Heap) (locs1 : List Loc), gW (mG E) σ' H1 → va_S (gA (mG E)) s.heap H1 locs1 → W p l e R s m args below meth c H1 locs1 cells slots Q (F0 m (pc + 3) ls rest)) : W p l e R s m args below meth c H locs cells slots Q (F0 m pc ls (.int p1 :: .ref (mAd E 0) :: rest)) :=
  g_callVv F hP hS (c_X8_draws l F.2.2.2.2.2.2.2 hf) (g_cwV (n := 1) F tw_1130 tw_1132 ts_56 tw_14 tw_1133 (by decide +kernel) rfl rfl hR) (k := 0) min0 (me_0 E _) rfl (As := [.int p1]) rfl hsz rfl hrest hdg hcs kk
end SE
/-! PromisedSlotsModel.begins(I)V -/
def f_X8_begins (p1 : Int32) (σ : St) : Option (Unit × St) :=
  gd (ix p1 8) <|
  vl (up2 σ 47 (nt p1) (0 : Int32)) fun σ2 =>
  gd (ix p1 8) <|
  gd (ix p1 8) <|
  vl (up2 σ2 46 (nt p1) (σ2 38 (nt p1))) fun σ5 =>
  cl (f_X8_draws p1 σ5) fun r7 σ6 =>
  some ((), σ6)
abbrev rm_X8_begins : Room := { frames := 1, cells := 0, slots := 0, locals := 21 }
set_option maxHeartbeats 4000000 in
set_option maxRecDepth 100000 in
theorem w_X8_begins_e {p : Program} {l : Launch} {e : Env} {s : State} {m : MethodId} {args : Array Value} {below : List Frame} {meth : Method} {c : Code} {E : mEv} {u : Unit} {σ' : St} (B : gBx p m meth c cX8_begins 2 none s args RX8 (mG E)) (p1 : Int32) (σ : St) (hf : f_X8_begins p1 σ = some (u, σ')) (H : Heap) (locs : List Loc) (ls : Array Slot) (hP : gW (mG E) σ H) (hS : va_S (gA (mG E)) s.heap H locs) (hl : lv_has ls 2 [(0, .ref (mAd E 0)), (1, .int p1)]) : W p l e rm_X8_begins s m args below meth c H locs 0 0 (gQv below args s (mG E) σ') (F0 m 0 ls []) := by
  unfold f_X8_begins at hf
  obtain ⟨F, hr, hlk⟩ := id B
  have hx := F.1
  have hb := F.2.1
  have hml := F.2.2.1
  have hown := F.2.2.2.1
  have hts := F.2.2.2.2.1
  refine lv_aload_n hx hb dX8_begins_0 rfl (lv_at hl 0 rfl) ?_
  refine gf_X8_94 F hP dX8_begins_1 ?_
  refine lv_iload_n hx hb dX8_begins_4 rfl (lv_at hl 1 rfl) ?_
  refine lv_iconst (v := 0) hx hb dX8_begins_5 (by decide) ?_
  obtain ⟨h1, hf⟩ := gd_e hf
  refine m_iast F hP hS ⟨by decide, by decide⟩ rfl h1 dX8_begins_6 (fun H locs hP hS => ?_)
  obtain ⟨σ2, eσ2, hf⟩ := vl_x hf
  rw [← eσ2] at hP
  refine lv_aload_n hx hb dX8_begins_7 rfl (lv_at hl 0 rfl) ?_
  refine gf_X8_91 F hP dX8_begins_8 ?_
  refine lv_iload_n hx hb dX8_begins_11 rfl (lv_at hl 1 rfl) ?_
  refine lv_aload_n hx hb dX8_begins_12 rfl (lv_at hl 0 rfl) ?_
  refine gf_X8_67 F hP dX8_begins_13 ?_
  refine lv_iload_n hx hb dX8_begins_16 rfl (lv_at hl 1 rfl) ?_
  obtain ⟨h3, hf⟩ := gd_e hf
  refine m_iald F hP ⟨by decide, by decide⟩ rfl h3 dX8_begins_17 ?_
  obtain ⟨h4, hf⟩ := gd_e hf
  refine m_iast F hP hS ⟨by decide, by decide⟩ rfl h4 dX8_begins_18 (fun H locs hP hS => ?_)
  obtain ⟨σ5, eσ5, hf⟩ := vl_x hf
  rw [← eσ5] at hP
  refine lv_aload_n hx hb dX8_begins_19 rfl (lv_at hl 0 rfl) ?_
  refine lv_iload_n hx hb dX8_begins_20 rfl (lv_at hl 1 rfl) ?_
  obtain ⟨r7, σ6, h8, hf⟩ := cl_e hf
  refine kc_X8_300 F hP hS h8 ⟨Nat.le_of_ble_eq_true rfl, Nat.le_of_ble_eq_true rfl⟩ hl.1 (Nat.le_of_ble_eq_true rfl) ⟨Nat.zero_le _, Nat.zero_le _⟩ dX8_begins_21 (fun H locs hP hS => ?_)
  exact g_vret B hP hS hf dX8_begins_24
theorem c_X8_begins (l : Launch) {E : mEv} (hI : gIj (mG E)) {p1 : Int32} {σ σ' : St} {u : Unit} (hf : f_X8_begins p1 σ = some (u, σ')) : gMv l yX8_begins cX8_begins 2 rm_X8_begins [.ref (mAd E 0), .int p1] (mG E) σ σ' :=
  g_entry (by decide) (Nat.le_of_ble_eq_true rfl) hI (fun p e s m args below meth c B hP hS ls hl => w_X8_begins_e B _ σ hf _ _ ls hP hS hl)
section SE
variable {p : Program} {l : Launch} {e : Env} {R : Room} {s : State} {m : MethodId} {args : Array Value} {below : List Frame} {meth : Method} {c : Code} {H : Heap} {locs : List Loc} {cells slots : Nat} {Q : State → Prop}
variable {cc : ByteArray} {pc nL : Nat} {ls : Array Slot} {rest : List Value} {E : mEv} {σ : St}
theorem kc_X8_303 (F : gFx p m c cc nL s args RX8 (mG E)) (hP : gW (mG E) σ H) (hS : va_S (gA (mG E)) s.heap H locs) {p1 : Int32} {u : Unit} {σ' : St} (hf : f_X8_begins p1 σ = some (u, σ')) (hR : rm_X8_begins.frames + 1 ≤ R.frames ∧ 8 + (2 + 11) + rm_X8_begins.locals ≤ R.locals) (hsz : ls.size = nL) (hrest : (rest.map fun v => v.category).sum ≤ 8) (hcs : cells ≤ R.cells ∧ slots ≤ R.slots) (hdg : decode cc pc = .ok (.invokevirtual 303, 3)) (kk : ∀ (H1 : Heap) (locs1 : List Loc), gW (mG E) σ' H1 → va_S (gA (mG E)) s.heap H1 locs1 → W p l e R s m args below meth c H1 locs1 cells slots Q (F0 m (pc + 3) ls rest)) : W p l e R s m args below meth c H locs cells slots Q (F0 m pc ls (.int p1 :: .ref (mAd E 0) :: rest)) :=
  g_callVv F hP hS (c_X8_begins l F.2.2.2.2.2.2.2 hf) (g_cwV (n := 1) F tw_1126 tw_1128 ts_55 tw_14 tw_1129 (by decide +kernel) rfl rfl hR) (k := 0) min0 (me_0 E _) rfl (As := [.int p1]) rfl hsz rfl hrest hdg hcs kk
end SE
/-! PromisedSlotsModel.stepA(I)V -/
def f_X8_stepA_46 (K2 : (Int32 × Int32 × St → Option (Unit × St))) (a1 : Int32) (a2 : Int32) (σ : St) : Option (Unit × St) :=
  gd (ix a2 8) <|
  if (σ 50 (nt a2)) = (1 : Int32) then
    gd (ix a2 8) <|
    if (σ 45 (nt a2)) = (3 : Int32) then
      if a1 = (1 : Int32) then
        cl (f_X8_draws a2 σ) fun r13 σ12 =>
        vl (a2 + (1 : Int32)) fun x15 =>
        K2 (a1, x15, σ12)
      else
        vl (a2 + (1 : Int32)) fun x11 =>
        K2 (a1, x11, σ)
    else
      vl (a2 + (1 : Int32)) fun x9 =>
      K2 (a1, x9, σ)
  else
    vl (a2 + (1 : Int32)) fun x6 =>
    K2 (a1, x6, σ)
def b_X8_stepA_2 (K2 : (Int32 × Int32 × St → Option (Unit × St))) (a1 : Int32) (a2 : Int32) (σ : St) : Option (Unit × St) :=
  if (σ 0 35) ≤ a2 then
    some ((), σ)
  else
    gd (ix a2 8) <|
    if (σ 50 (nt a2)) = (1 : Int32) then
      gd (ix a2 8) <|
      if (σ 45 (nt a2)) = 0 then
        gd (ix a2 8) <|
        if (σ 39 (nt a2)) ≤ 0 then
          f_X8_stepA_46 K2 a1 a2 σ
        else
          cl (f_X8_begins a2 σ) fun r21 σ20 =>
          vl (a2 + (1 : Int32)) fun x23 =>
          K2 (a1, x23, σ20)
      else
        f_X8_stepA_46 K2 a1 a2 σ
    else
      f_X8_stepA_46 K2 a1 a2 σ
def f_X8_stepA (p1 : Int32) (σ : St) : Option (Unit × St) :=
  lp (fun K a => b_X8_stepA_2 K a.1 a.2.1 a.2.2) FU (p1, (0 : Int32), σ)
abbrev rm_X8_stepA : Room := { frames := 2, cells := 0, slots := 0, locals := 42 }
def P_X8_stepA_2 (p : Program) (l : Launch) (e : Env) (s : State) (m : MethodId) (args : Array Value) (below : List Frame) (meth : Method) (c : Code) (E : mEv) (σ' : St) (a : Int32 × Int32 × St) : Prop := ∀ (H : Heap) (locs : List Loc) (ls : Array Slot), gW (mG E) a.2.2 H → va_S (gA (mG E)) s.heap H locs → lv_has ls 3 [(0, .ref (mAd E 0)), (1, .int a.1), (2, .int a.2.1)] → W p l e rm_X8_stepA s m args below meth c H locs 0 0 (gQv below args s (mG E) σ') (F0 m 2 ls [])
set_option maxHeartbeats 4000000 in
set_option maxRecDepth 100000 in
theorem w_X8_stepA_46 {p : Program} {l : Launch} {e : Env} {s : State} {m : MethodId} {args : Array Value} {below : List Frame} {meth : Method} {c : Code} {E : mEv} {u : Unit} {σ' : St} (B : gBx p m meth c cX8_stepA 3 none s args RX8 (mG E)) {K2 : (Int32 × Int32 × St → Option (Unit × St))} (hK2 : ∀ a, K2 a = some (u, σ') → P_X8_stepA_2 p l e s m args below meth c E σ' a) (a1 : Int32) (a2 : Int32) (σ : St) (hf : f_X8_stepA_46 K2 a1 a2 σ = some (u, σ')) (H : Heap) (locs : List Loc) (ls : Array Slot) (hP : gW (mG E) σ H) (hS : va_S (gA (mG E)) s.heap H locs) (hl : lv_has ls 3 [(0, .ref (mAd E 0)), (1, .int a1), (2, .int a2)]) : W p l e rm_X8_stepA s m args below meth c H locs 0 0 (gQv below args s (mG E) σ') (F0 m 46 ls []) := by
  unfold f_X8_stepA_46 at hf
  obtain ⟨F, hr, hlk⟩ := id B
  have hx := F.1
  have hb := F.2.1
  have hml := F.2.2.1
  have hown := F.2.2.2.1
  have hts := F.2.2.2.2.1
  refine lv_aload_n hx hb dX8_stepA_46 rfl (lv_at hl 0 rfl) ?_
  refine gf_X8_103 F hP dX8_stepA_47 ?_
  refine lv_iload_n hx hb dX8_stepA_50 rfl (lv_at hl 2 rfl) ?_
  obtain ⟨h4, hf⟩ := gd_e hf
  refine m_iald F hP ⟨by decide, by decide⟩ rfl h4 dX8_stepA_51 ?_
  refine lv_iconst (v := 1) hx hb dX8_stepA_52 (by decide) ?_
  refine lv_icmp_ne (tgt := 76) hx hb dX8_stepA_53 (by decide) (fun h5 => ?_) (fun h5 => ?_)
  · rw [if_neg h5] at hf
    refine lv_iinc (v := a2 + (1 : Int32)) (lv' := [(2, .int (a2 + (1 : Int32))), (0, .ref (mAd E 0)), (1, .int a1)]) hx hb dX8_stepA_76 hl (k := 2) rfl rfl (by decide) rfl (fun ls hl => ?_)
    obtain ⟨x6, ex6, hf⟩ := vl_x hf
    rw [← ex6] at hl
    refine lv_goto (tgt := 2) hx hb dX8_stepA_79 (by decide) ?_
    exact hK2 _ hf _ _ _ hP hS (lv_sub hl [1, 2, 0] rfl)
  · rw [if_pos h5] at hf
    refine lv_aload_n hx hb dX8_stepA_56 rfl (lv_at hl 0 rfl) ?_
    refine gf_X8_88 F hP dX8_stepA_57 ?_
    refine lv_iload_n hx hb dX8_stepA_60 rfl (lv_at hl 2 rfl) ?_
    obtain ⟨h7, hf⟩ := gd_e hf
    refine m_iald F hP ⟨by decide, by decide⟩ rfl h7 dX8_stepA_61 ?_
    refine lv_iconst (v := 3) hx hb dX8_stepA_62 (by decide) ?_
    refine lv_icmp_ne (tgt := 76) hx hb dX8_stepA_63 (by decide) (fun h8 => ?_) (fun h8 => ?_)
    · rw [if_neg h8] at hf
      refine lv_iinc (v := a2 + (1 : Int32)) (lv' := [(2, .int (a2 + (1 : Int32))), (0, .ref (mAd E 0)), (1, .int a1)]) hx hb dX8_stepA_76 hl (k := 2) rfl rfl (by decide) rfl (fun ls hl => ?_)
      obtain ⟨x9, ex9, hf⟩ := vl_x hf
      rw [← ex9] at hl
      refine lv_goto (tgt := 2) hx hb dX8_stepA_79 (by decide) ?_
      exact hK2 _ hf _ _ _ hP hS (lv_sub hl [1, 2, 0] rfl)
    · rw [if_pos h8] at hf
      refine lv_iload_n hx hb dX8_stepA_66 rfl (lv_at hl 1 rfl) ?_
      refine lv_iconst (v := 1) hx hb dX8_stepA_67 (by decide) ?_
      refine lv_icmp_ne (tgt := 76) hx hb dX8_stepA_68 (by decide) (fun h10 => ?_) (fun h10 => ?_)
      · rw [if_neg h10] at hf
        refine lv_iinc (v := a2 + (1 : Int32)) (lv' := [(2, .int (a2 + (1 : Int32))), (0, .ref (mAd E 0)), (1, .int a1)]) hx hb dX8_stepA_76 hl (k := 2) rfl rfl (by decide) rfl (fun ls hl => ?_)
        obtain ⟨x11, ex11, hf⟩ := vl_x hf
        rw [← ex11] at hl
        refine lv_goto (tgt := 2) hx hb dX8_stepA_79 (by decide) ?_
        exact hK2 _ hf _ _ _ hP hS (lv_sub hl [1, 2, 0] rfl)
      · rw [if_pos h10] at hf
        refine lv_aload_n hx hb dX8_stepA_71 rfl (lv_at hl 0 rfl) ?_
        refine lv_iload_n hx hb dX8_stepA_72 rfl (lv_at hl 2 rfl) ?_
        obtain ⟨r13, σ12, h14, hf⟩ := cl_e hf
        refine kc_X8_300 F hP hS h14 ⟨Nat.le_of_ble_eq_true rfl, Nat.le_of_ble_eq_true rfl⟩ hl.1 (Nat.le_of_ble_eq_true rfl) ⟨Nat.zero_le _, Nat.zero_le _⟩ dX8_stepA_73 (fun H locs hP hS => ?_)
        refine lv_iinc (v := a2 + (1 : Int32)) (lv' := [(2, .int (a2 + (1 : Int32))), (0, .ref (mAd E 0)), (1, .int a1)]) hx hb dX8_stepA_76 hl (k := 2) rfl rfl (by decide) rfl (fun ls hl => ?_)
        obtain ⟨x15, ex15, hf⟩ := vl_x hf
        rw [← ex15] at hl
        refine lv_goto (tgt := 2) hx hb dX8_stepA_79 (by decide) ?_
        exact hK2 _ hf _ _ _ hP hS (lv_sub hl [1, 2, 0] rfl)
set_option maxHeartbeats 4000000 in
set_option maxRecDepth 100000 in
theorem w_X8_stepA_2 {p : Program} {l : Launch} {e : Env} {s : State} {m : MethodId} {args : Array Value} {below : List Frame} {meth : Method} {c : Code} {E : mEv} {u : Unit} {σ' : St} (B : gBx p m meth c cX8_stepA 3 none s args RX8 (mG E)) {K2 : (Int32 × Int32 × St → Option (Unit × St))} (hK2 : ∀ a, K2 a = some (u, σ') → P_X8_stepA_2 p l e s m args below meth c E σ' a) (a1 : Int32) (a2 : Int32) (σ : St) (hf : b_X8_stepA_2 K2 a1 a2 σ = some (u, σ')) (H : Heap) (locs : List Loc) (ls : Array Slot) (hP : gW (mG E) σ H) (hS : va_S (gA (mG E)) s.heap H locs) (hl : lv_has ls 3 [(0, .ref (mAd E 0)), (1, .int a1), (2, .int a2)]) : W p l e rm_X8_stepA s m args below meth c H locs 0 0 (gQv below args s (mG E) σ') (F0 m 2 ls []) := by
  unfold b_X8_stepA_2 at hf
  obtain ⟨F, hr, hlk⟩ := id B
  have hx := F.1
  have hb := F.2.1
  have hml := F.2.2.1
  have hown := F.2.2.2.1
  have hts := F.2.2.2.2.1
  refine lv_iload_n hx hb dX8_stepA_2 rfl (lv_at hl 2 rfl) ?_
  refine lv_aload_n hx hb dX8_stepA_3 rfl (lv_at hl 0 rfl) ?_
  refine gf_X8_219 F hP dX8_stepA_4 ?_
  refine lv_icmp_ge (tgt := 82) hx hb dX8_stepA_7 (by decide) (fun h1 => ?_) (fun h1 => ?_)
  · rw [if_pos h1] at hf
    exact g_vret B hP hS hf dX8_stepA_82
  · rw [if_neg h1] at hf
    refine lv_aload_n hx hb dX8_stepA_10 rfl (lv_at hl 0 rfl) ?_
    refine gf_X8_103 F hP dX8_stepA_11 ?_
    refine lv_iload_n hx hb dX8_stepA_14 rfl (lv_at hl 2 rfl) ?_
    obtain ⟨h2, hf⟩ := gd_e hf
    refine m_iald F hP ⟨by decide, by decide⟩ rfl h2 dX8_stepA_15 ?_
    refine lv_iconst (v := 1) hx hb dX8_stepA_16 (by decide) ?_
    refine lv_icmp_ne (tgt := 46) hx hb dX8_stepA_17 (by decide) (fun h3 => ?_) (fun h3 => ?_)
    · rw [if_neg h3] at hf
      exact w_X8_stepA_46 B hK2 _ _ σ hf _ _ _ hP hS (lv_sub hl [0, 1, 2] rfl)
    · rw [if_pos h3] at hf
      refine lv_aload_n hx hb dX8_stepA_20 rfl (lv_at hl 0 rfl) ?_
      refine gf_X8_88 F hP dX8_stepA_21 ?_
      refine lv_iload_n hx hb dX8_stepA_24 rfl (lv_at hl 2 rfl) ?_
      obtain ⟨h16, hf⟩ := gd_e hf
      refine m_iald F hP ⟨by decide, by decide⟩ rfl h16 dX8_stepA_25 ?_
      refine lv_if_ne (tgt := 46) hx hb dX8_stepA_26 (by decide) (fun h17 => ?_) (fun h17 => ?_)
      · rw [if_neg h17] at hf
        exact w_X8_stepA_46 B hK2 _ _ σ hf _ _ _ hP hS (lv_sub hl [0, 1, 2] rfl)
      · rw [if_pos h17] at hf
        refine lv_aload_n hx hb dX8_stepA_29 rfl (lv_at hl 0 rfl) ?_
        refine gf_X8_70 F hP dX8_stepA_30 ?_
        refine lv_iload_n hx hb dX8_stepA_33 rfl (lv_at hl 2 rfl) ?_
        obtain ⟨h18, hf⟩ := gd_e hf
        refine m_iald F hP ⟨by decide, by decide⟩ rfl h18 dX8_stepA_34 ?_
        refine lv_if_le (tgt := 46) hx hb dX8_stepA_35 (by decide) (fun h19 => ?_) (fun h19 => ?_)
        · rw [if_pos h19] at hf
          exact w_X8_stepA_46 B hK2 _ _ σ hf _ _ _ hP hS (lv_sub hl [0, 1, 2] rfl)
        · rw [if_neg h19] at hf
          refine lv_aload_n hx hb dX8_stepA_38 rfl (lv_at hl 0 rfl) ?_
          refine lv_iload_n hx hb dX8_stepA_39 rfl (lv_at hl 2 rfl) ?_
          obtain ⟨r21, σ20, h22, hf⟩ := cl_e hf
          refine kc_X8_303 F hP hS h22 ⟨Nat.le_of_ble_eq_true rfl, Nat.le_of_ble_eq_true rfl⟩ hl.1 (Nat.le_of_ble_eq_true rfl) ⟨Nat.zero_le _, Nat.zero_le _⟩ dX8_stepA_40 (fun H locs hP hS => ?_)
          refine lv_goto (tgt := 76) hx hb dX8_stepA_43 (by decide) ?_
          refine lv_iinc (v := a2 + (1 : Int32)) (lv' := [(2, .int (a2 + (1 : Int32))), (0, .ref (mAd E 0)), (1, .int a1)]) hx hb dX8_stepA_76 hl (k := 2) rfl rfl (by decide) rfl (fun ls hl => ?_)
          obtain ⟨x23, ex23, hf⟩ := vl_x hf
          rw [← ex23] at hl
          refine lv_goto (tgt := 2) hx hb dX8_stepA_79 (by decide) ?_
          exact hK2 _ hf _ _ _ hP hS (lv_sub hl [1, 2, 0] rfl)
set_option maxHeartbeats 4000000 in
set_option maxRecDepth 100000 in
theorem w_X8_stepA_e {p : Program} {l : Launch} {e : Env} {s : State} {m : MethodId} {args : Array Value} {below : List Frame} {meth : Method} {c : Code} {E : mEv} {u : Unit} {σ' : St} (B : gBx p m meth c cX8_stepA 3 none s args RX8 (mG E)) (p1 : Int32) (σ : St) (hf : f_X8_stepA p1 σ = some (u, σ')) (H : Heap) (locs : List Loc) (ls : Array Slot) (hP : gW (mG E) σ H) (hS : va_S (gA (mG E)) s.heap H locs) (hl : lv_has ls 3 [(0, .ref (mAd E 0)), (1, .int p1)]) : W p l e rm_X8_stepA s m args below meth c H locs 0 0 (gQv below args s (mG E) σ') (F0 m 0 ls []) := by
  unfold f_X8_stepA at hf
  obtain ⟨F, hr, hlk⟩ := id B
  have hx := F.1
  have hb := F.2.1
  have hml := F.2.2.1
  have hown := F.2.2.2.1
  have hts := F.2.2.2.2.1
  refine lv_iconst (v := 0) hx hb dX8_stepA_0 (by decide) ?_
  refine lv_istore_n (lv' := [(2, .int (0 : Int32)), (0, .ref (mAd E 0)), (1, .int p1)]) hx hb dX8_stepA_1 rfl hl (by decide) rfl (fun ls hl => ?_)
  exact lp_w (P := P_X8_stepA_2 p l e s m args below meth c E σ') (fun K hK a ha => w_X8_stepA_2 B hK a.1 a.2.1 a.2.2 ha) FU _ hf _ _ _ hP hS (lv_sub hl [1, 2, 0] rfl)
theorem c_X8_stepA (l : Launch) {E : mEv} (hI : gIj (mG E)) {p1 : Int32} {σ σ' : St} {u : Unit} (hf : f_X8_stepA p1 σ = some (u, σ')) : gMv l yX8_stepA cX8_stepA 3 rm_X8_stepA [.ref (mAd E 0), .int p1] (mG E) σ σ' :=
  g_entry (by decide) (Nat.le_of_ble_eq_true rfl) hI (fun p e s m args below meth c B hP hS ls hl => w_X8_stepA_e B _ σ hf _ _ ls hP hS hl)
section SE
variable {p : Program} {l : Launch} {e : Env} {R : Room} {s : State} {m : MethodId} {args : Array Value} {below : List Frame} {meth : Method} {c : Code} {H : Heap} {locs : List Loc} {cells slots : Nat} {Q : State → Prop}
variable {cc : ByteArray} {pc nL : Nat} {ls : Array Slot} {rest : List Value} {E : mEv} {σ : St}
theorem gf_X8_109 (F : gFx p m c cc nL s args RX8 (mG E)) (hP : gW (mG E) σ H) (hdg : decode cc pc = .ok (.getfield 109, 3)) (kk : W p l e R s m args below meth c H locs cells slots Q (F0 m (pc + 3) ls (.ref (mAd E 52) :: rest))) : W p l e R s m args below meth c H locs cells slots Q (F0 m pc ls (.ref (mAd E 0) :: rest)) :=
  g_get F hP (k := 0) min0 (me_0 E _) rfl inX8 52 (by decide) tw_836 rfl rfl hdg kk
theorem gf_X8_112 (F : gFx p m c cc nL s args RX8 (mG E)) (hP : gW (mG E) σ H) (hdg : decode cc pc = .ok (.getfield 112, 3)) (kk : W p l e R s m args below meth c H locs cells slots Q (F0 m (pc + 3) ls (.ref (mAd E 53) :: rest))) : W p l e R s m args below meth c H locs cells slots Q (F0 m pc ls (.ref (mAd E 0) :: rest)) :=
  g_get F hP (k := 0) min0 (me_0 E _) rfl inX8 53 (by decide) tw_837 rfl rfl hdg kk
theorem gf_X8_115 (F : gFx p m c cc nL s args RX8 (mG E)) (hP : gW (mG E) σ H) (hdg : decode cc pc = .ok (.getfield 115, 3)) (kk : W p l e R s m args below meth c H locs cells slots Q (F0 m (pc + 3) ls (.ref (mAd E 54) :: rest))) : W p l e R s m args below meth c H locs cells slots Q (F0 m pc ls (.ref (mAd E 0) :: rest)) :=
  g_get F hP (k := 0) min0 (me_0 E _) rfl inX8 54 (by decide) tw_838 rfl rfl hdg kk
end SE
/-! PromisedSlotsModel.stepsBC(II)V -/
def b_X8_stepsBC_79 (K79 : (Int32 × St → Option (Unit × St))) (a3 : Int32) (σ : St) : Option (Unit × St) :=
  if (σ 0 35) ≤ a3 then
    some ((), σ)
  else
    gd (ix a3 8) <|
    if (σ 50 (nt a3)) = (1 : Int32) then
      gd (ix a3 8) <|
      if (σ 45 (nt a3)) = (2 : Int32) then
        gd (ix a3 8) <|
        if (σ 52 (nt a3)) = (2 : Int32) then
          gd (ix a3 8) <|
          vl (up2 σ 45 (nt a3) (4 : Int32)) fun σ13 =>
          gd (ix a3 8) <|
          gd (ix a3 8) <|
          vl (up2 σ13 53 (nt a3) (σ13 37 (nt a3))) fun σ16 =>
          gd (ix a3 8) <|
          vl (up2 σ16 54 (nt a3) (0 : Int32)) fun σ18 =>
          vl (a3 + (1 : Int32)) fun x19 =>
          K79 (x19, σ18)
        else
          vl (a3 + (1 : Int32)) fun x11 =>
          K79 (x11, σ)
      else
        vl (a3 + (1 : Int32)) fun x8 =>
        K79 (x8, σ)
    else
      vl (a3 + (1 : Int32)) fun x5 =>
      K79 (x5, σ)
def b_X8_stepsBC_2 (K2 : (Int32 × Int32 × Int32 × St → Option (Unit × St))) (a1 : Int32) (a2 : Int32) (a3 : Int32) (σ : St) : Option (Unit × St) :=
  if (σ 0 35) ≤ a3 then
    lp (fun K a => b_X8_stepsBC_79 K a.1 a.2) FU ((0 : Int32), σ)
  else
    gd (ix a3 8) <|
    if (σ 50 (nt a3)) = (1 : Int32) then
      gd (ix a3 8) <|
      if (σ 45 (nt a3)) = (1 : Int32) then
        gd (ix a3 8) <|
        if (σ 51 (nt a3)) = 0 then
          gd (ix a3 8) <|
          if a2 < ((a1 + (σ 37 (nt a3))) + (2 : Int32)) then
            gd (ix a3 8) <|
            vl (up2 σ 45 (nt a3) (3 : Int32)) fun σ32 =>
            gd (ix a3 8) <|
            vl (up2 σ32 52 (nt a3) (0 : Int32)) fun σ34 =>
            vl (a3 + (1 : Int32)) fun x35 =>
            K2 (a1, a2, x35, σ34)
          else
            gd (ix a3 8) <|
            vl (up2 σ 45 (nt a3) (2 : Int32)) fun σ37 =>
            gd (ix a3 8) <|
            vl (up2 σ37 52 (nt a3) (0 : Int32)) fun σ39 =>
            vl (a3 + (1 : Int32)) fun x40 =>
            K2 (a1, a2, x40, σ39)
        else
          vl (a3 + (1 : Int32)) fun x28 =>
          K2 (a1, a2, x28, σ)
      else
        vl (a3 + (1 : Int32)) fun x25 =>
        K2 (a1, a2, x25, σ)
    else
      vl (a3 + (1 : Int32)) fun x22 =>
      K2 (a1, a2, x22, σ)
def f_X8_stepsBC (p1 : Int32) (p2 : Int32) (σ : St) : Option (Unit × St) :=
  lp (fun K a => b_X8_stepsBC_2 K a.1 a.2.1 a.2.2.1 a.2.2.2) FU (p1, p2, (0 : Int32), σ)
abbrev rm_X8_stepsBC : Room := { frames := 0, cells := 0, slots := 0, locals := 0 }
def P_X8_stepsBC_2 (p : Program) (l : Launch) (e : Env) (s : State) (m : MethodId) (args : Array Value) (below : List Frame) (meth : Method) (c : Code) (E : mEv) (σ' : St) (a : Int32 × Int32 × Int32 × St) : Prop := ∀ (H : Heap) (locs : List Loc) (ls : Array Slot), gW (mG E) a.2.2.2 H → va_S (gA (mG E)) s.heap H locs → lv_has ls 4 [(0, .ref (mAd E 0)), (1, .int a.1), (2, .int a.2.1), (3, .int a.2.2.1)] → W p l e rm_X8_stepsBC s m args below meth c H locs 0 0 (gQv below args s (mG E) σ') (F0 m 2 ls [])
def P_X8_stepsBC_79 (p : Program) (l : Launch) (e : Env) (s : State) (m : MethodId) (args : Array Value) (below : List Frame) (meth : Method) (c : Code) (E : mEv) (σ' : St) (a : Int32 × St) : Prop := ∀ (H : Heap) (locs : List Loc) (ls : Array Slot), gW (mG E) a.2 H → va_S (gA (mG E)) s.heap H locs → lv_has ls 4 [(0, .ref (mAd E 0)), (3, .int a.1)] → W p l e rm_X8_stepsBC s m args below meth c H locs 0 0 (gQv below args s (mG E) σ') (F0 m 79 ls [])
set_option maxHeartbeats 4000000 in
set_option maxRecDepth 100000 in
theorem w_X8_stepsBC_79 {p : Program} {l : Launch} {e : Env} {s : State} {m : MethodId} {args : Array Value} {below : List Frame} {meth : Method} {c : Code} {E : mEv} {u : Unit} {σ' : St} (B : gBx p m meth c cX8_stepsBC 4 none s args RX8 (mG E)) {K79 : (Int32 × St → Option (Unit × St))} (hK79 : ∀ a, K79 a = some (u, σ') → P_X8_stepsBC_79 p l e s m args below meth c E σ' a) (a3 : Int32) (σ : St) (hf : b_X8_stepsBC_79 K79 a3 σ = some (u, σ')) (H : Heap) (locs : List Loc) (ls : Array Slot) (hP : gW (mG E) σ H) (hS : va_S (gA (mG E)) s.heap H locs) (hl : lv_has ls 4 [(0, .ref (mAd E 0)), (3, .int a3)]) : W p l e rm_X8_stepsBC s m args below meth c H locs 0 0 (gQv below args s (mG E) σ') (F0 m 79 ls []) := by
  unfold b_X8_stepsBC_79 at hf
  obtain ⟨F, hr, hlk⟩ := id B
  have hx := F.1
  have hb := F.2.1
  have hml := F.2.2.1
  have hown := F.2.2.2.1
  have hts := F.2.2.2.2.1
  refine lv_iload_n hx hb dX8_stepsBC_79 rfl (lv_at hl 1 rfl) ?_
  refine lv_aload_n hx hb dX8_stepsBC_80 rfl (lv_at hl 0 rfl) ?_
  refine gf_X8_219 F hP dX8_stepsBC_81 ?_
  refine lv_icmp_ge (tgt := 149) hx hb dX8_stepsBC_84 (by decide) (fun h2 => ?_) (fun h2 => ?_)
  · rw [if_pos h2] at hf
    exact g_vret B hP hS hf dX8_stepsBC_149
  · rw [if_neg h2] at hf
    refine lv_aload_n hx hb dX8_stepsBC_87 rfl (lv_at hl 0 rfl) ?_
    refine gf_X8_103 F hP dX8_stepsBC_88 ?_
    refine lv_iload_n hx hb dX8_stepsBC_91 rfl (lv_at hl 1 rfl) ?_
    obtain ⟨h3, hf⟩ := gd_e hf
    refine m_iald F hP ⟨by decide, by decide⟩ rfl h3 dX8_stepsBC_92 ?_
    refine lv_iconst (v := 1) hx hb dX8_stepsBC_93 (by decide) ?_
    refine lv_icmp_ne (tgt := 143) hx hb dX8_stepsBC_94 (by decide) (fun h4 => ?_) (fun h4 => ?_)
    · rw [if_neg h4] at hf
      refine lv_iinc (v := a3 + (1 : Int32)) (lv' := [(3, .int (a3 + (1 : Int32))), (0, .ref (mAd E 0))]) hx hb dX8_stepsBC_143 hl (k := 1) rfl rfl (by decide) rfl (fun ls hl => ?_)
      obtain ⟨x5, ex5, hf⟩ := vl_x hf
      rw [← ex5] at hl
      refine lv_goto (tgt := 79) hx hb dX8_stepsBC_146 (by decide) ?_
      exact hK79 _ hf _ _ _ hP hS (lv_sub hl [1, 0] rfl)
    · rw [if_pos h4] at hf
      refine lv_aload_n hx hb dX8_stepsBC_97 rfl (lv_at hl 0 rfl) ?_
      refine gf_X8_88 F hP dX8_stepsBC_98 ?_
      refine lv_iload_n hx hb dX8_stepsBC_101 rfl (lv_at hl 1 rfl) ?_
      obtain ⟨h6, hf⟩ := gd_e hf
      refine m_iald F hP ⟨by decide, by decide⟩ rfl h6 dX8_stepsBC_102 ?_
      refine lv_iconst (v := 2) hx hb dX8_stepsBC_103 (by decide) ?_
      refine lv_icmp_ne (tgt := 143) hx hb dX8_stepsBC_104 (by decide) (fun h7 => ?_) (fun h7 => ?_)
      · rw [if_neg h7] at hf
        refine lv_iinc (v := a3 + (1 : Int32)) (lv' := [(3, .int (a3 + (1 : Int32))), (0, .ref (mAd E 0))]) hx hb dX8_stepsBC_143 hl (k := 1) rfl rfl (by decide) rfl (fun ls hl => ?_)
        obtain ⟨x8, ex8, hf⟩ := vl_x hf
        rw [← ex8] at hl
        refine lv_goto (tgt := 79) hx hb dX8_stepsBC_146 (by decide) ?_
        exact hK79 _ hf _ _ _ hP hS (lv_sub hl [1, 0] rfl)
      · rw [if_pos h7] at hf
        refine lv_aload_n hx hb dX8_stepsBC_107 rfl (lv_at hl 0 rfl) ?_
        refine gf_X8_109 F hP dX8_stepsBC_108 ?_
        refine lv_iload_n hx hb dX8_stepsBC_111 rfl (lv_at hl 1 rfl) ?_
        obtain ⟨h9, hf⟩ := gd_e hf
        refine m_iald F hP ⟨by decide, by decide⟩ rfl h9 dX8_stepsBC_112 ?_
        refine lv_iconst (v := 2) hx hb dX8_stepsBC_113 (by decide) ?_
        refine lv_icmp_ne (tgt := 143) hx hb dX8_stepsBC_114 (by decide) (fun h10 => ?_) (fun h10 => ?_)
        · rw [if_neg h10] at hf
          refine lv_iinc (v := a3 + (1 : Int32)) (lv' := [(3, .int (a3 + (1 : Int32))), (0, .ref (mAd E 0))]) hx hb dX8_stepsBC_143 hl (k := 1) rfl rfl (by decide) rfl (fun ls hl => ?_)
          obtain ⟨x11, ex11, hf⟩ := vl_x hf
          rw [← ex11] at hl
          refine lv_goto (tgt := 79) hx hb dX8_stepsBC_146 (by decide) ?_
          exact hK79 _ hf _ _ _ hP hS (lv_sub hl [1, 0] rfl)
        · rw [if_pos h10] at hf
          refine lv_aload_n hx hb dX8_stepsBC_117 rfl (lv_at hl 0 rfl) ?_
          refine gf_X8_88 F hP dX8_stepsBC_118 ?_
          refine lv_iload_n hx hb dX8_stepsBC_121 rfl (lv_at hl 1 rfl) ?_
          refine lv_iconst (v := 4) hx hb dX8_stepsBC_122 (by decide) ?_
          obtain ⟨h12, hf⟩ := gd_e hf
          refine m_iast F hP hS ⟨by decide, by decide⟩ rfl h12 dX8_stepsBC_123 (fun H locs hP hS => ?_)
          obtain ⟨σ13, eσ13, hf⟩ := vl_x hf
          rw [← eσ13] at hP
          refine lv_aload_n hx hb dX8_stepsBC_124 rfl (lv_at hl 0 rfl) ?_
          refine gf_X8_112 F hP dX8_stepsBC_125 ?_
          refine lv_iload_n hx hb dX8_stepsBC_128 rfl (lv_at hl 1 rfl) ?_
          refine lv_aload_n hx hb dX8_stepsBC_129 rfl (lv_at hl 0 rfl) ?_
          refine gf_X8_64 F hP dX8_stepsBC_130 ?_
          refine lv_iload_n hx hb dX8_stepsBC_133 rfl (lv_at hl 1 rfl) ?_
          obtain ⟨h14, hf⟩ := gd_e hf
          refine m_iald F hP ⟨by decide, by decide⟩ rfl h14 dX8_stepsBC_134 ?_
          obtain ⟨h15, hf⟩ := gd_e hf
          refine m_iast F hP hS ⟨by decide, by decide⟩ rfl h15 dX8_stepsBC_135 (fun H locs hP hS => ?_)
          obtain ⟨σ16, eσ16, hf⟩ := vl_x hf
          rw [← eσ16] at hP
          refine lv_aload_n hx hb dX8_stepsBC_136 rfl (lv_at hl 0 rfl) ?_
          refine gf_X8_115 F hP dX8_stepsBC_137 ?_
          refine lv_iload_n hx hb dX8_stepsBC_140 rfl (lv_at hl 1 rfl) ?_
          refine lv_iconst (v := 0) hx hb dX8_stepsBC_141 (by decide) ?_
          obtain ⟨h17, hf⟩ := gd_e hf
          refine m_iast F hP hS ⟨by decide, by decide⟩ rfl h17 dX8_stepsBC_142 (fun H locs hP hS => ?_)
          obtain ⟨σ18, eσ18, hf⟩ := vl_x hf
          rw [← eσ18] at hP
          refine lv_iinc (v := a3 + (1 : Int32)) (lv' := [(3, .int (a3 + (1 : Int32))), (0, .ref (mAd E 0))]) hx hb dX8_stepsBC_143 hl (k := 1) rfl rfl (by decide) rfl (fun ls hl => ?_)
          obtain ⟨x19, ex19, hf⟩ := vl_x hf
          rw [← ex19] at hl
          refine lv_goto (tgt := 79) hx hb dX8_stepsBC_146 (by decide) ?_
          exact hK79 _ hf _ _ _ hP hS (lv_sub hl [1, 0] rfl)
set_option maxHeartbeats 4000000 in
set_option maxRecDepth 100000 in
theorem w_X8_stepsBC_2 {p : Program} {l : Launch} {e : Env} {s : State} {m : MethodId} {args : Array Value} {below : List Frame} {meth : Method} {c : Code} {E : mEv} {u : Unit} {σ' : St} (B : gBx p m meth c cX8_stepsBC 4 none s args RX8 (mG E)) {K2 : (Int32 × Int32 × Int32 × St → Option (Unit × St))} (hK2 : ∀ a, K2 a = some (u, σ') → P_X8_stepsBC_2 p l e s m args below meth c E σ' a) (a1 : Int32) (a2 : Int32) (a3 : Int32) (σ : St) (hf : b_X8_stepsBC_2 K2 a1 a2 a3 σ = some (u, σ')) (H : Heap) (locs : List Loc) (ls : Array Slot) (hP : gW (mG E) σ H) (hS : va_S (gA (mG E)) s.heap H locs) (hl : lv_has ls 4 [(0, .ref (mAd E 0)), (1, .int a1), (2, .int a2), (3, .int a3)]) : W p l e rm_X8_stepsBC s m args below meth c H locs 0 0 (gQv below args s (mG E) σ') (F0 m 2 ls []) := by
  unfold b_X8_stepsBC_2 at hf
  obtain ⟨F, hr, hlk⟩ := id B
  have hx := F.1
  have hb := F.2.1
  have hml := F.2.2.1
  have hown := F.2.2.2.1
  have hts := F.2.2.2.2.1
  refine lv_iload_n hx hb dX8_stepsBC_2 rfl (lv_at hl 3 rfl) ?_
  refine lv_aload_n hx hb dX8_stepsBC_3 rfl (lv_at hl 0 rfl) ?_
  refine gf_X8_219 F hP dX8_stepsBC_4 ?_
  refine lv_icmp_ge (tgt := 77) hx hb dX8_stepsBC_7 (by decide) (fun h1 => ?_) (fun h1 => ?_)
  · rw [if_pos h1] at hf
    refine lv_iconst (v := 0) hx hb dX8_stepsBC_77 (by decide) ?_
    refine lv_istore_n (lv' := [(3, .int (0 : Int32)), (0, .ref (mAd E 0)), (1, .int a1), (2, .int a2)]) hx hb dX8_stepsBC_78 rfl hl (by decide) rfl (fun ls hl => ?_)
    exact lp_w (P := P_X8_stepsBC_79 p l e s m args below meth c E σ') (fun K hK a ha => w_X8_stepsBC_79 B hK a.1 a.2 ha) FU _ hf _ _ _ hP hS (lv_sub hl [1, 0] rfl)
  · rw [if_neg h1] at hf
    refine lv_aload_n hx hb dX8_stepsBC_10 rfl (lv_at hl 0 rfl) ?_
    refine gf_X8_103 F hP dX8_stepsBC_11 ?_
    refine lv_iload_n hx hb dX8_stepsBC_14 rfl (lv_at hl 3 rfl) ?_
    obtain ⟨h20, hf⟩ := gd_e hf
    refine m_iald F hP ⟨by decide, by decide⟩ rfl h20 dX8_stepsBC_15 ?_
    refine lv_iconst (v := 1) hx hb dX8_stepsBC_16 (by decide) ?_
    refine lv_icmp_ne (tgt := 71) hx hb dX8_stepsBC_17 (by decide) (fun h21 => ?_) (fun h21 => ?_)
    · rw [if_neg h21] at hf
      refine lv_iinc (v := a3 + (1 : Int32)) (lv' := [(3, .int (a3 + (1 : Int32))), (0, .ref (mAd E 0)), (1, .int a1), (2, .int a2)]) hx hb dX8_stepsBC_71 hl (k := 3) rfl rfl (by decide) rfl (fun ls hl => ?_)
      obtain ⟨x22, ex22, hf⟩ := vl_x hf
      rw [← ex22] at hl
      refine lv_goto (tgt := 2) hx hb dX8_stepsBC_74 (by decide) ?_
      exact hK2 _ hf _ _ _ hP hS (lv_sub hl [1, 2, 3, 0] rfl)
    · rw [if_pos h21] at hf
      refine lv_aload_n hx hb dX8_stepsBC_20 rfl (lv_at hl 0 rfl) ?_
      refine gf_X8_88 F hP dX8_stepsBC_21 ?_
      refine lv_iload_n hx hb dX8_stepsBC_24 rfl (lv_at hl 3 rfl) ?_
      obtain ⟨h23, hf⟩ := gd_e hf
      refine m_iald F hP ⟨by decide, by decide⟩ rfl h23 dX8_stepsBC_25 ?_
      refine lv_iconst (v := 1) hx hb dX8_stepsBC_26 (by decide) ?_
      refine lv_icmp_ne (tgt := 71) hx hb dX8_stepsBC_27 (by decide) (fun h24 => ?_) (fun h24 => ?_)
      · rw [if_neg h24] at hf
        refine lv_iinc (v := a3 + (1 : Int32)) (lv' := [(3, .int (a3 + (1 : Int32))), (0, .ref (mAd E 0)), (1, .int a1), (2, .int a2)]) hx hb dX8_stepsBC_71 hl (k := 3) rfl rfl (by decide) rfl (fun ls hl => ?_)
        obtain ⟨x25, ex25, hf⟩ := vl_x hf
        rw [← ex25] at hl
        refine lv_goto (tgt := 2) hx hb dX8_stepsBC_74 (by decide) ?_
        exact hK2 _ hf _ _ _ hP hS (lv_sub hl [1, 2, 3, 0] rfl)
      · rw [if_pos h24] at hf
        refine lv_aload_n hx hb dX8_stepsBC_30 rfl (lv_at hl 0 rfl) ?_
        refine gf_X8_106 F hP dX8_stepsBC_31 ?_
        refine lv_iload_n hx hb dX8_stepsBC_34 rfl (lv_at hl 3 rfl) ?_
        obtain ⟨h26, hf⟩ := gd_e hf
        refine m_iald F hP ⟨by decide, by decide⟩ rfl h26 dX8_stepsBC_35 ?_
        refine lv_if_ne (tgt := 71) hx hb dX8_stepsBC_36 (by decide) (fun h27 => ?_) (fun h27 => ?_)
        · rw [if_neg h27] at hf
          refine lv_iinc (v := a3 + (1 : Int32)) (lv' := [(3, .int (a3 + (1 : Int32))), (0, .ref (mAd E 0)), (1, .int a1), (2, .int a2)]) hx hb dX8_stepsBC_71 hl (k := 3) rfl rfl (by decide) rfl (fun ls hl => ?_)
          obtain ⟨x28, ex28, hf⟩ := vl_x hf
          rw [← ex28] at hl
          refine lv_goto (tgt := 2) hx hb dX8_stepsBC_74 (by decide) ?_
          exact hK2 _ hf _ _ _ hP hS (lv_sub hl [1, 2, 3, 0] rfl)
        · rw [if_pos h27] at hf
          refine lv_aload_n hx hb dX8_stepsBC_39 rfl (lv_at hl 0 rfl) ?_
          refine gf_X8_88 F hP dX8_stepsBC_40 ?_
          refine lv_iload_n hx hb dX8_stepsBC_43 rfl (lv_at hl 3 rfl) ?_
          refine lv_iload_n hx hb dX8_stepsBC_44 rfl (lv_at hl 1 rfl) ?_
          refine lv_aload_n hx hb dX8_stepsBC_45 rfl (lv_at hl 0 rfl) ?_
          refine gf_X8_64 F hP dX8_stepsBC_46 ?_
          refine lv_iload_n hx hb dX8_stepsBC_49 rfl (lv_at hl 3 rfl) ?_
          obtain ⟨h29, hf⟩ := gd_e hf
          refine m_iald F hP ⟨by decide, by decide⟩ rfl h29 dX8_stepsBC_50 ?_
          refine lv_iadd hx hb dX8_stepsBC_51 ?_
          refine lv_iconst (v := 2) hx hb dX8_stepsBC_52 (by decide) ?_
          refine lv_iadd hx hb dX8_stepsBC_53 ?_
          refine lv_iload_n hx hb dX8_stepsBC_54 rfl (lv_at hl 2 rfl) ?_
          refine lv_icmp_gt (tgt := 62) hx hb dX8_stepsBC_55 (by decide) (fun h30 => ?_) (fun h30 => ?_)
          · rw [if_pos h30] at hf
            refine lv_iconst (v := 3) hx hb dX8_stepsBC_62 (by decide) ?_
            obtain ⟨h31, hf⟩ := gd_e hf
            refine m_iast F hP hS ⟨by decide, by decide⟩ rfl h31 dX8_stepsBC_63 (fun H locs hP hS => ?_)
            obtain ⟨σ32, eσ32, hf⟩ := vl_x hf
            rw [← eσ32] at hP
            refine lv_aload_n hx hb dX8_stepsBC_64 rfl (lv_at hl 0 rfl) ?_
            refine gf_X8_109 F hP dX8_stepsBC_65 ?_
            refine lv_iload_n hx hb dX8_stepsBC_68 rfl (lv_at hl 3 rfl) ?_
            refine lv_iconst (v := 0) hx hb dX8_stepsBC_69 (by decide) ?_
            obtain ⟨h33, hf⟩ := gd_e hf
            refine m_iast F hP hS ⟨by decide, by decide⟩ rfl h33 dX8_stepsBC_70 (fun H locs hP hS => ?_)
            obtain ⟨σ34, eσ34, hf⟩ := vl_x hf
            rw [← eσ34] at hP
            refine lv_iinc (v := a3 + (1 : Int32)) (lv' := [(3, .int (a3 + (1 : Int32))), (0, .ref (mAd E 0)), (1, .int a1), (2, .int a2)]) hx hb dX8_stepsBC_71 hl (k := 3) rfl rfl (by decide) rfl (fun ls hl => ?_)
            obtain ⟨x35, ex35, hf⟩ := vl_x hf
            rw [← ex35] at hl
            refine lv_goto (tgt := 2) hx hb dX8_stepsBC_74 (by decide) ?_
            exact hK2 _ hf _ _ _ hP hS (lv_sub hl [1, 2, 3, 0] rfl)
          · rw [if_neg h30] at hf
            refine lv_iconst (v := 2) hx hb dX8_stepsBC_58 (by decide) ?_
            refine lv_goto (tgt := 63) hx hb dX8_stepsBC_59 (by decide) ?_
            obtain ⟨h36, hf⟩ := gd_e hf
            refine m_iast F hP hS ⟨by decide, by decide⟩ rfl h36 dX8_stepsBC_63 (fun H locs hP hS => ?_)
            obtain ⟨σ37, eσ37, hf⟩ := vl_x hf
            rw [← eσ37] at hP
            refine lv_aload_n hx hb dX8_stepsBC_64 rfl (lv_at hl 0 rfl) ?_
            refine gf_X8_109 F hP dX8_stepsBC_65 ?_
            refine lv_iload_n hx hb dX8_stepsBC_68 rfl (lv_at hl 3 rfl) ?_
            refine lv_iconst (v := 0) hx hb dX8_stepsBC_69 (by decide) ?_
            obtain ⟨h38, hf⟩ := gd_e hf
            refine m_iast F hP hS ⟨by decide, by decide⟩ rfl h38 dX8_stepsBC_70 (fun H locs hP hS => ?_)
            obtain ⟨σ39, eσ39, hf⟩ := vl_x hf
            rw [← eσ39] at hP
            refine lv_iinc (v := a3 + (1 : Int32)) (lv' := [(3, .int (a3 + (1 : Int32))), (0, .ref (mAd E 0)), (1, .int a1), (2, .int a2)]) hx hb dX8_stepsBC_71 hl (k := 3) rfl rfl (by decide) rfl (fun ls hl => ?_)
            obtain ⟨x40, ex40, hf⟩ := vl_x hf
            rw [← ex40] at hl
            refine lv_goto (tgt := 2) hx hb dX8_stepsBC_74 (by decide) ?_
            exact hK2 _ hf _ _ _ hP hS (lv_sub hl [1, 2, 3, 0] rfl)
set_option maxHeartbeats 4000000 in
set_option maxRecDepth 100000 in
theorem w_X8_stepsBC_e {p : Program} {l : Launch} {e : Env} {s : State} {m : MethodId} {args : Array Value} {below : List Frame} {meth : Method} {c : Code} {E : mEv} {u : Unit} {σ' : St} (B : gBx p m meth c cX8_stepsBC 4 none s args RX8 (mG E)) (p1 : Int32) (p2 : Int32) (σ : St) (hf : f_X8_stepsBC p1 p2 σ = some (u, σ')) (H : Heap) (locs : List Loc) (ls : Array Slot) (hP : gW (mG E) σ H) (hS : va_S (gA (mG E)) s.heap H locs) (hl : lv_has ls 4 [(0, .ref (mAd E 0)), (1, .int p1), (2, .int p2)]) : W p l e rm_X8_stepsBC s m args below meth c H locs 0 0 (gQv below args s (mG E) σ') (F0 m 0 ls []) := by
  unfold f_X8_stepsBC at hf
  obtain ⟨F, hr, hlk⟩ := id B
  have hx := F.1
  have hb := F.2.1
  have hml := F.2.2.1
  have hown := F.2.2.2.1
  have hts := F.2.2.2.2.1
  refine lv_iconst (v := 0) hx hb dX8_stepsBC_0 (by decide) ?_
  refine lv_istore_n (lv' := [(3, .int (0 : Int32)), (0, .ref (mAd E 0)), (1, .int p1), (2, .int p2)]) hx hb dX8_stepsBC_1 rfl hl (by decide) rfl (fun ls hl => ?_)
  exact lp_w (P := P_X8_stepsBC_2 p l e s m args below meth c E σ') (fun K hK a ha => w_X8_stepsBC_2 B hK a.1 a.2.1 a.2.2.1 a.2.2.2 ha) FU _ hf _ _ _ hP hS (lv_sub hl [1, 2, 3, 0] rfl)
theorem c_X8_stepsBC (l : Launch) {E : mEv} (hI : gIj (mG E)) {p1 : Int32} {p2 : Int32} {σ σ' : St} {u : Unit} (hf : f_X8_stepsBC p1 p2 σ = some (u, σ')) : gMv l yX8_stepsBC cX8_stepsBC 4 rm_X8_stepsBC [.ref (mAd E 0), .int p1, .int p2] (mG E) σ σ' :=
  g_entry (by decide) (Nat.le_of_ble_eq_true rfl) hI (fun p e s m args below meth c B hP hS ls hl => w_X8_stepsBC_e B _ _ σ hf _ _ ls hP hS hl)
section SE
variable {p : Program} {l : Launch} {e : Env} {R : Room} {s : State} {m : MethodId} {args : Array Value} {below : List Frame} {meth : Method} {c : Code} {H : Heap} {locs : List Loc} {cells slots : Nat} {Q : State → Prop}
variable {cc : ByteArray} {pc nL : Nat} {ls : Array Slot} {rest : List Value} {E : mEv} {σ : St}
theorem gf_X8_58 (F : gFx p m c cc nL s args RX8 (mG E)) (hP : gW (mG E) σ H) (hdg : decode cc pc = .ok (.getfield 58, 3)) (kk : W p l e R s m args below meth c H locs cells slots Q (F0 m (pc + 3) ls (.ref (mAd E 34) :: rest))) : W p l e R s m args below meth c H locs cells slots Q (F0 m pc ls (.ref (mAd E 0) :: rest)) :=
  g_get F hP (k := 0) min0 (me_0 E _) rfl inX8 34 (by decide) tw_818 rfl rfl hdg kk
end SE
/-! PromisedSlotsModel.sending(II)I -/
def f_X8_sending_115 (a1 : Int32) (a2 : Int32) (a3 : Int32) (a4 : Int32) (σ : St) : Option (Int32 × St) :=
  if a3 = 0 then
    gd (ix (((384 : Int32) * a1) + a2) 1536) <|
    vl (up2 σ 34 (nt (((384 : Int32) * a1) + a2)) (0 : Int32)) fun σ10 =>
    some (a3, σ10)
  else
    if a3 = (1 : Int32) then
      gd (ix (((384 : Int32) * a1) + a2) 1536) <|
      vl (up2 σ 34 (nt (((384 : Int32) * a1) + a2)) ((10 : Int32) + a4)) fun σ8 =>
      some (a3, σ8)
    else
      gd (ix (((384 : Int32) * a1) + a2) 1536) <|
      vl (up2 σ 34 (nt (((384 : Int32) * a1) + a2)) (2 : Int32)) fun σ6 =>
      some (a3, σ6)
def b_X8_sending_55 (K55 : (Int32 × Int32 × Int32 × Int32 × Int32 × St → Option (Int32 × St))) (a1 : Int32) (a2 : Int32) (a3 : Int32) (a4 : Int32) (a5 : Int32) (σ : St) : Option (Int32 × St) :=
  if (σ 0 35) ≤ a5 then
    f_X8_sending_115 a1 a2 a3 a4 σ
  else
    if a3 ≤ (1 : Int32) then
      f_X8_sending_115 a1 a2 a3 a4 σ
    else
      gd (ix a5 8) <|
      if (σ 50 (nt a5)) = (1 : Int32) then
        gd (ix a5 8) <|
        if (σ 45 (nt a5)) = (4 : Int32) then
          gd (ix a5 8) <|
          vl (up2 σ 54 (nt a5) (1 : Int32)) fun σ25 =>
          vl (a5 + (1 : Int32)) fun x26 =>
          K55 (a1, a2, a3, a4, x26, σ25)
        else
          gd (ix a5 8) <|
          gd (ix a5 8) <|
          vl (up2 σ 54 (nt a5) (σ 54 (nt a5))) fun σ22 =>
          vl (a5 + (1 : Int32)) fun x23 =>
          K55 (a1, a2, a3, a4, x23, σ22)
      else
        gd (ix a5 8) <|
        gd (ix a5 8) <|
        vl (up2 σ 54 (nt a5) (σ 54 (nt a5))) fun σ16 =>
        vl (a5 + (1 : Int32)) fun x17 =>
        K55 (a1, a2, a3, a4, x17, σ16)
def b_X8_sending_8 (K8 : (Int32 × Int32 × Int32 × Int32 × Int32 × St → Option (Int32 × St))) (a1 : Int32) (a2 : Int32) (a3 : Int32) (a4 : Int32) (a5 : Int32) (σ : St) : Option (Int32 × St) :=
  if (σ 0 35) ≤ a5 then
    lp (fun K a => b_X8_sending_55 K a.1 a.2.1 a.2.2.1 a.2.2.2.1 a.2.2.2.2.1 a.2.2.2.2.2) FU (a1, a2, a3, a4, (0 : Int32), σ)
  else
    gd (ix a5 8) <|
    if (σ 50 (nt a5)) = (1 : Int32) then
      gd (ix a5 8) <|
      if (σ 45 (nt a5)) = (4 : Int32) then
        vl (a3 + (1 : Int32)) fun x33 =>
        vl (a5 + (1 : Int32)) fun x34 =>
        K8 (a1, a2, x33, a5, x34, σ)
      else
        vl (a5 + (1 : Int32)) fun x32 =>
        K8 (a1, a2, a3, a4, x32, σ)
    else
      vl (a5 + (1 : Int32)) fun x29 =>
      K8 (a1, a2, a3, a4, x29, σ)
def f_X8_sending (p1 : Int32) (p2 : Int32) (σ : St) : Option (Int32 × St) :=
  lp (fun K a => b_X8_sending_8 K a.1 a.2.1 a.2.2.1 a.2.2.2.1 a.2.2.2.2.1 a.2.2.2.2.2) FU (p1, p2, (0 : Int32), (0 : Int32), (0 : Int32), σ)
abbrev rm_X8_sending : Room := { frames := 0, cells := 0, slots := 0, locals := 0 }
def P_X8_sending_8 (p : Program) (l : Launch) (e : Env) (s : State) (m : MethodId) (args : Array Value) (below : List Frame) (meth : Method) (c : Code) (E : mEv) (r : Int32) (σ' : St) (a : Int32 × Int32 × Int32 × Int32 × Int32 × St) : Prop := ∀ (H : Heap) (locs : List Loc) (ls : Array Slot), gW (mG E) a.2.2.2.2.2 H → va_S (gA (mG E)) s.heap H locs → lv_has ls 6 [(0, .ref (mAd E 0)), (1, .int a.1), (2, .int a.2.1), (3, .int a.2.2.1), (4, .int a.2.2.2.1), (5, .int a.2.2.2.2.1)] → W p l e rm_X8_sending s m args below meth c H locs 0 0 (gQi below args s (mG E) r σ') (F0 m 8 ls [])
def P_X8_sending_55 (p : Program) (l : Launch) (e : Env) (s : State) (m : MethodId) (args : Array Value) (below : List Frame) (meth : Method) (c : Code) (E : mEv) (r : Int32) (σ' : St) (a : Int32 × Int32 × Int32 × Int32 × Int32 × St) : Prop := ∀ (H : Heap) (locs : List Loc) (ls : Array Slot), gW (mG E) a.2.2.2.2.2 H → va_S (gA (mG E)) s.heap H locs → lv_has ls 6 [(0, .ref (mAd E 0)), (1, .int a.1), (2, .int a.2.1), (3, .int a.2.2.1), (4, .int a.2.2.2.1), (5, .int a.2.2.2.2.1)] → W p l e rm_X8_sending s m args below meth c H locs 0 0 (gQi below args s (mG E) r σ') (F0 m 55 ls [])
set_option maxHeartbeats 4000000 in
set_option maxRecDepth 100000 in
theorem w_X8_sending_115 {p : Program} {l : Launch} {e : Env} {s : State} {m : MethodId} {args : Array Value} {below : List Frame} {meth : Method} {c : Code} {E : mEv} {r : Int32} {σ' : St} (B : gBx p m meth c cX8_sending 6 (some .int) s args RX8 (mG E)) (a1 : Int32) (a2 : Int32) (a3 : Int32) (a4 : Int32) (σ : St) (hf : f_X8_sending_115 a1 a2 a3 a4 σ = some (r, σ')) (H : Heap) (locs : List Loc) (ls : Array Slot) (hP : gW (mG E) σ H) (hS : va_S (gA (mG E)) s.heap H locs) (hl : lv_has ls 6 [(0, .ref (mAd E 0)), (1, .int a1), (2, .int a2), (3, .int a3), (4, .int a4)]) : W p l e rm_X8_sending s m args below meth c H locs 0 0 (gQi below args s (mG E) r σ') (F0 m 115 ls []) := by
  unfold f_X8_sending_115 at hf
  obtain ⟨F, hr, hlk⟩ := id B
  have hx := F.1
  have hb := F.2.1
  have hml := F.2.2.1
  have hown := F.2.2.2.1
  have hts := F.2.2.2.2.1
  refine lv_aload_n hx hb dX8_sending_115 rfl (lv_at hl 0 rfl) ?_
  refine gf_X8_58 F hP dX8_sending_116 ?_
  refine lv_sipush (v := (384)) hx hb dX8_sending_119 (by decide) ?_
  refine lv_iload_n hx hb dX8_sending_122 rfl (lv_at hl 1 rfl) ?_
  refine lv_imul hx hb dX8_sending_123 ?_
  refine lv_iload_n hx hb dX8_sending_124 rfl (lv_at hl 2 rfl) ?_
  refine lv_iadd hx hb dX8_sending_125 ?_
  refine lv_iload_n hx hb dX8_sending_126 rfl (lv_at hl 3 rfl) ?_
  refine lv_if_ne (tgt := 134) hx hb dX8_sending_127 (by decide) (fun h3 => ?_) (fun h3 => ?_)
  · rw [if_neg h3] at hf
    refine lv_iload_n hx hb dX8_sending_134 rfl (lv_at hl 3 rfl) ?_
    refine lv_iconst (v := 1) hx hb dX8_sending_135 (by decide) ?_
    refine lv_icmp_ne (tgt := 147) hx hb dX8_sending_136 (by decide) (fun h4 => ?_) (fun h4 => ?_)
    · rw [if_neg h4] at hf
      refine lv_iconst (v := 2) hx hb dX8_sending_147 (by decide) ?_
      obtain ⟨h5, hf⟩ := gd_e hf
      refine m_iast F hP hS ⟨by decide, by decide⟩ rfl h5 dX8_sending_148 (fun H locs hP hS => ?_)
      obtain ⟨σ6, eσ6, hf⟩ := vl_x hf
      rw [← eσ6] at hP
      refine lv_iload_n hx hb dX8_sending_149 rfl (lv_at hl 3 rfl) ?_
      exact g_iret B hP hS hf dX8_sending_150
    · rw [if_pos h4] at hf
      refine lv_bipush (v := (10)) hx hb dX8_sending_139 (by decide) ?_
      refine lv_iload hx hb dX8_sending_141 (lv_at hl 4 rfl) ?_
      refine lv_iadd hx hb dX8_sending_143 ?_
      refine lv_goto (tgt := 148) hx hb dX8_sending_144 (by decide) ?_
      obtain ⟨h7, hf⟩ := gd_e hf
      refine m_iast F hP hS ⟨by decide, by decide⟩ rfl h7 dX8_sending_148 (fun H locs hP hS => ?_)
      obtain ⟨σ8, eσ8, hf⟩ := vl_x hf
      rw [← eσ8] at hP
      refine lv_iload_n hx hb dX8_sending_149 rfl (lv_at hl 3 rfl) ?_
      exact g_iret B hP hS hf dX8_sending_150
  · rw [if_pos h3] at hf
    refine lv_iconst (v := 0) hx hb dX8_sending_130 (by decide) ?_
    refine lv_goto (tgt := 148) hx hb dX8_sending_131 (by decide) ?_
    obtain ⟨h9, hf⟩ := gd_e hf
    refine m_iast F hP hS ⟨by decide, by decide⟩ rfl h9 dX8_sending_148 (fun H locs hP hS => ?_)
    obtain ⟨σ10, eσ10, hf⟩ := vl_x hf
    rw [← eσ10] at hP
    refine lv_iload_n hx hb dX8_sending_149 rfl (lv_at hl 3 rfl) ?_
    exact g_iret B hP hS hf dX8_sending_150
set_option maxHeartbeats 4000000 in
set_option maxRecDepth 100000 in
theorem w_X8_sending_55 {p : Program} {l : Launch} {e : Env} {s : State} {m : MethodId} {args : Array Value} {below : List Frame} {meth : Method} {c : Code} {E : mEv} {r : Int32} {σ' : St} (B : gBx p m meth c cX8_sending 6 (some .int) s args RX8 (mG E)) {K55 : (Int32 × Int32 × Int32 × Int32 × Int32 × St → Option (Int32 × St))} (hK55 : ∀ a, K55 a = some (r, σ') → P_X8_sending_55 p l e s m args below meth c E r σ' a) (a1 : Int32) (a2 : Int32) (a3 : Int32) (a4 : Int32) (a5 : Int32) (σ : St) (hf : b_X8_sending_55 K55 a1 a2 a3 a4 a5 σ = some (r, σ')) (H : Heap) (locs : List Loc) (ls : Array Slot) (hP : gW (mG E) σ H) (hS : va_S (gA (mG E)) s.heap H locs) (hl : lv_has ls 6 [(0, .ref (mAd E 0)), (1, .int a1), (2, .int a2), (3, .int a3), (4, .int a4), (5, .int a5)]) : W p l e rm_X8_sending s m args below meth c H locs 0 0 (gQi below args s (mG E) r σ') (F0 m 55 ls []) := by
  unfold b_X8_sending_55 at hf
  obtain ⟨F, hr, hlk⟩ := id B
  have hx := F.1
  have hb := F.2.1
  have hml := F.2.2.1
  have hown := F.2.2.2.1
  have hts := F.2.2.2.2.1
  refine lv_iload hx hb dX8_sending_55 (lv_at hl 5 rfl) ?_
  refine lv_aload_n hx hb dX8_sending_57 rfl (lv_at hl 0 rfl) ?_
  refine gf_X8_219 F hP dX8_sending_58 ?_
  refine lv_icmp_ge (tgt := 115) hx hb dX8_sending_61 (by decide) (fun h2 => ?_) (fun h2 => ?_)
  · rw [if_pos h2] at hf
    exact w_X8_sending_115 B _ _ _ _ σ hf _ _ _ hP hS (lv_sub hl [0, 1, 2, 3, 4] rfl)
  · rw [if_neg h2] at hf
    refine lv_iload_n hx hb dX8_sending_64 rfl (lv_at hl 3 rfl) ?_
    refine lv_iconst (v := 1) hx hb dX8_sending_65 (by decide) ?_
    refine lv_icmp_le (tgt := 115) hx hb dX8_sending_66 (by decide) (fun h11 => ?_) (fun h11 => ?_)
    · rw [if_pos h11] at hf
      exact w_X8_sending_115 B _ _ _ _ σ hf _ _ _ hP hS (lv_sub hl [0, 1, 2, 3, 4] rfl)
    · rw [if_neg h11] at hf
      refine lv_aload_n hx hb dX8_sending_69 rfl (lv_at hl 0 rfl) ?_
      refine gf_X8_115 F hP dX8_sending_70 ?_
      refine lv_iload hx hb dX8_sending_73 (lv_at hl 5 rfl) ?_
      refine lv_aload_n hx hb dX8_sending_75 rfl (lv_at hl 0 rfl) ?_
      refine gf_X8_103 F hP dX8_sending_76 ?_
      refine lv_iload hx hb dX8_sending_79 (lv_at hl 5 rfl) ?_
      obtain ⟨h12, hf⟩ := gd_e hf
      refine m_iald F hP ⟨by decide, by decide⟩ rfl h12 dX8_sending_81 ?_
      refine lv_iconst (v := 1) hx hb dX8_sending_82 (by decide) ?_
      refine lv_icmp_ne (tgt := 101) hx hb dX8_sending_83 (by decide) (fun h13 => ?_) (fun h13 => ?_)
      · rw [if_neg h13] at hf
        refine lv_aload_n hx hb dX8_sending_101 rfl (lv_at hl 0 rfl) ?_
        refine gf_X8_115 F hP dX8_sending_102 ?_
        refine lv_iload hx hb dX8_sending_105 (lv_at hl 5 rfl) ?_
        obtain ⟨h14, hf⟩ := gd_e hf
        refine m_iald F hP ⟨by decide, by decide⟩ rfl h14 dX8_sending_107 ?_
        obtain ⟨h15, hf⟩ := gd_e hf
        refine m_iast F hP hS ⟨by decide, by decide⟩ rfl h15 dX8_sending_108 (fun H locs hP hS => ?_)
        obtain ⟨σ16, eσ16, hf⟩ := vl_x hf
        rw [← eσ16] at hP
        refine lv_iinc (v := a5 + (1 : Int32)) (lv' := [(5, .int (a5 + (1 : Int32))), (0, .ref (mAd E 0)), (1, .int a1), (2, .int a2), (3, .int a3), (4, .int a4)]) hx hb dX8_sending_109 hl (k := 5) rfl rfl (by decide) rfl (fun ls hl => ?_)
        obtain ⟨x17, ex17, hf⟩ := vl_x hf
        rw [← ex17] at hl
        refine lv_goto (tgt := 55) hx hb dX8_sending_112 (by decide) ?_
        exact hK55 _ hf _ _ _ hP hS (lv_sub hl [1, 2, 3, 4, 5, 0] rfl)
      · rw [if_pos h13] at hf
        refine lv_aload_n hx hb dX8_sending_86 rfl (lv_at hl 0 rfl) ?_
        refine gf_X8_88 F hP dX8_sending_87 ?_
        refine lv_iload hx hb dX8_sending_90 (lv_at hl 5 rfl) ?_
        obtain ⟨h18, hf⟩ := gd_e hf
        refine m_iald F hP ⟨by decide, by decide⟩ rfl h18 dX8_sending_92 ?_
        refine lv_iconst (v := 4) hx hb dX8_sending_93 (by decide) ?_
        refine lv_icmp_ne (tgt := 101) hx hb dX8_sending_94 (by decide) (fun h19 => ?_) (fun h19 => ?_)
        · rw [if_neg h19] at hf
          refine lv_aload_n hx hb dX8_sending_101 rfl (lv_at hl 0 rfl) ?_
          refine gf_X8_115 F hP dX8_sending_102 ?_
          refine lv_iload hx hb dX8_sending_105 (lv_at hl 5 rfl) ?_
          obtain ⟨h20, hf⟩ := gd_e hf
          refine m_iald F hP ⟨by decide, by decide⟩ rfl h20 dX8_sending_107 ?_
          obtain ⟨h21, hf⟩ := gd_e hf
          refine m_iast F hP hS ⟨by decide, by decide⟩ rfl h21 dX8_sending_108 (fun H locs hP hS => ?_)
          obtain ⟨σ22, eσ22, hf⟩ := vl_x hf
          rw [← eσ22] at hP
          refine lv_iinc (v := a5 + (1 : Int32)) (lv' := [(5, .int (a5 + (1 : Int32))), (0, .ref (mAd E 0)), (1, .int a1), (2, .int a2), (3, .int a3), (4, .int a4)]) hx hb dX8_sending_109 hl (k := 5) rfl rfl (by decide) rfl (fun ls hl => ?_)
          obtain ⟨x23, ex23, hf⟩ := vl_x hf
          rw [← ex23] at hl
          refine lv_goto (tgt := 55) hx hb dX8_sending_112 (by decide) ?_
          exact hK55 _ hf _ _ _ hP hS (lv_sub hl [1, 2, 3, 4, 5, 0] rfl)
        · rw [if_pos h19] at hf
          refine lv_iconst (v := 1) hx hb dX8_sending_97 (by decide) ?_
          refine lv_goto (tgt := 108) hx hb dX8_sending_98 (by decide) ?_
          obtain ⟨h24, hf⟩ := gd_e hf
          refine m_iast F hP hS ⟨by decide, by decide⟩ rfl h24 dX8_sending_108 (fun H locs hP hS => ?_)
          obtain ⟨σ25, eσ25, hf⟩ := vl_x hf
          rw [← eσ25] at hP
          refine lv_iinc (v := a5 + (1 : Int32)) (lv' := [(5, .int (a5 + (1 : Int32))), (0, .ref (mAd E 0)), (1, .int a1), (2, .int a2), (3, .int a3), (4, .int a4)]) hx hb dX8_sending_109 hl (k := 5) rfl rfl (by decide) rfl (fun ls hl => ?_)
          obtain ⟨x26, ex26, hf⟩ := vl_x hf
          rw [← ex26] at hl
          refine lv_goto (tgt := 55) hx hb dX8_sending_112 (by decide) ?_
          exact hK55 _ hf _ _ _ hP hS (lv_sub hl [1, 2, 3, 4, 5, 0] rfl)
set_option maxHeartbeats 4000000 in
set_option maxRecDepth 100000 in
theorem w_X8_sending_8 {p : Program} {l : Launch} {e : Env} {s : State} {m : MethodId} {args : Array Value} {below : List Frame} {meth : Method} {c : Code} {E : mEv} {r : Int32} {σ' : St} (B : gBx p m meth c cX8_sending 6 (some .int) s args RX8 (mG E)) {K8 : (Int32 × Int32 × Int32 × Int32 × Int32 × St → Option (Int32 × St))} (hK8 : ∀ a, K8 a = some (r, σ') → P_X8_sending_8 p l e s m args below meth c E r σ' a) (a1 : Int32) (a2 : Int32) (a3 : Int32) (a4 : Int32) (a5 : Int32) (σ : St) (hf : b_X8_sending_8 K8 a1 a2 a3 a4 a5 σ = some (r, σ')) (H : Heap) (locs : List Loc) (ls : Array Slot) (hP : gW (mG E) σ H) (hS : va_S (gA (mG E)) s.heap H locs) (hl : lv_has ls 6 [(0, .ref (mAd E 0)), (1, .int a1), (2, .int a2), (3, .int a3), (4, .int a4), (5, .int a5)]) : W p l e rm_X8_sending s m args below meth c H locs 0 0 (gQi below args s (mG E) r σ') (F0 m 8 ls []) := by
  unfold b_X8_sending_8 at hf
  obtain ⟨F, hr, hlk⟩ := id B
  have hx := F.1
  have hb := F.2.1
  have hml := F.2.2.1
  have hown := F.2.2.2.1
  have hts := F.2.2.2.2.1
  refine lv_iload hx hb dX8_sending_8 (lv_at hl 5 rfl) ?_
  refine lv_aload_n hx hb dX8_sending_10 rfl (lv_at hl 0 rfl) ?_
  refine gf_X8_219 F hP dX8_sending_11 ?_
  refine lv_icmp_ge (tgt := 52) hx hb dX8_sending_14 (by decide) (fun h1 => ?_) (fun h1 => ?_)
  · rw [if_pos h1] at hf
    refine lv_iconst (v := 0) hx hb dX8_sending_52 (by decide) ?_
    refine lv_istore (lv' := [(5, .int (0 : Int32)), (0, .ref (mAd E 0)), (1, .int a1), (2, .int a2), (3, .int a3), (4, .int a4)]) hx hb dX8_sending_53 hl (by decide) rfl (fun ls hl => ?_)
    exact lp_w (P := P_X8_sending_55 p l e s m args below meth c E r σ') (fun K hK a ha => w_X8_sending_55 B hK a.1 a.2.1 a.2.2.1 a.2.2.2.1 a.2.2.2.2.1 a.2.2.2.2.2 ha) FU _ hf _ _ _ hP hS (lv_sub hl [1, 2, 3, 4, 5, 0] rfl)
  · rw [if_neg h1] at hf
    refine lv_aload_n hx hb dX8_sending_17 rfl (lv_at hl 0 rfl) ?_
    refine gf_X8_103 F hP dX8_sending_18 ?_
    refine lv_iload hx hb dX8_sending_21 (lv_at hl 5 rfl) ?_
    obtain ⟨h27, hf⟩ := gd_e hf
    refine m_iald F hP ⟨by decide, by decide⟩ rfl h27 dX8_sending_23 ?_
    refine lv_iconst (v := 1) hx hb dX8_sending_24 (by decide) ?_
    refine lv_icmp_ne (tgt := 46) hx hb dX8_sending_25 (by decide) (fun h28 => ?_) (fun h28 => ?_)
    · rw [if_neg h28] at hf
      refine lv_iinc (v := a5 + (1 : Int32)) (lv' := [(5, .int (a5 + (1 : Int32))), (0, .ref (mAd E 0)), (1, .int a1), (2, .int a2), (3, .int a3), (4, .int a4)]) hx hb dX8_sending_46 hl (k := 5) rfl rfl (by decide) rfl (fun ls hl => ?_)
      obtain ⟨x29, ex29, hf⟩ := vl_x hf
      rw [← ex29] at hl
      refine lv_goto (tgt := 8) hx hb dX8_sending_49 (by decide) ?_
      exact hK8 _ hf _ _ _ hP hS (lv_sub hl [1, 2, 3, 4, 5, 0] rfl)
    · rw [if_pos h28] at hf
      refine lv_aload_n hx hb dX8_sending_28 rfl (lv_at hl 0 rfl) ?_
      refine gf_X8_88 F hP dX8_sending_29 ?_
      refine lv_iload hx hb dX8_sending_32 (lv_at hl 5 rfl) ?_
      obtain ⟨h30, hf⟩ := gd_e hf
      refine m_iald F hP ⟨by decide, by decide⟩ rfl h30 dX8_sending_34 ?_
      refine lv_iconst (v := 4) hx hb dX8_sending_35 (by decide) ?_
      refine lv_icmp_ne (tgt := 46) hx hb dX8_sending_36 (by decide) (fun h31 => ?_) (fun h31 => ?_)
      · rw [if_neg h31] at hf
        refine lv_iinc (v := a5 + (1 : Int32)) (lv' := [(5, .int (a5 + (1 : Int32))), (0, .ref (mAd E 0)), (1, .int a1), (2, .int a2), (3, .int a3), (4, .int a4)]) hx hb dX8_sending_46 hl (k := 5) rfl rfl (by decide) rfl (fun ls hl => ?_)
        obtain ⟨x32, ex32, hf⟩ := vl_x hf
        rw [← ex32] at hl
        refine lv_goto (tgt := 8) hx hb dX8_sending_49 (by decide) ?_
        exact hK8 _ hf _ _ _ hP hS (lv_sub hl [1, 2, 3, 4, 5, 0] rfl)
      · rw [if_pos h31] at hf
        refine lv_iinc (v := a3 + (1 : Int32)) (lv' := [(3, .int (a3 + (1 : Int32))), (0, .ref (mAd E 0)), (1, .int a1), (2, .int a2), (4, .int a4), (5, .int a5)]) hx hb dX8_sending_39 hl (k := 3) rfl rfl (by decide) rfl (fun ls hl => ?_)
        obtain ⟨x33, ex33, hf⟩ := vl_x hf
        rw [← ex33] at hl
        refine lv_iload hx hb dX8_sending_42 (lv_at hl 5 rfl) ?_
        refine lv_istore (lv' := [(4, .int a5), (3, .int x33), (0, .ref (mAd E 0)), (1, .int a1), (2, .int a2), (5, .int a5)]) hx hb dX8_sending_44 hl (by decide) rfl (fun ls hl => ?_)
        refine lv_iinc (v := a5 + (1 : Int32)) (lv' := [(5, .int (a5 + (1 : Int32))), (4, .int a5), (3, .int x33), (0, .ref (mAd E 0)), (1, .int a1), (2, .int a2)]) hx hb dX8_sending_46 hl (k := 5) rfl rfl (by decide) rfl (fun ls hl => ?_)
        obtain ⟨x34, ex34, hf⟩ := vl_x hf
        rw [← ex34] at hl
        refine lv_goto (tgt := 8) hx hb dX8_sending_49 (by decide) ?_
        exact hK8 _ hf _ _ _ hP hS (lv_sub hl [3, 4, 5, 2, 1, 0] rfl)
set_option maxHeartbeats 4000000 in
set_option maxRecDepth 100000 in
theorem w_X8_sending_e {p : Program} {l : Launch} {e : Env} {s : State} {m : MethodId} {args : Array Value} {below : List Frame} {meth : Method} {c : Code} {E : mEv} {r : Int32} {σ' : St} (B : gBx p m meth c cX8_sending 6 (some .int) s args RX8 (mG E)) (p1 : Int32) (p2 : Int32) (σ : St) (hf : f_X8_sending p1 p2 σ = some (r, σ')) (H : Heap) (locs : List Loc) (ls : Array Slot) (hP : gW (mG E) σ H) (hS : va_S (gA (mG E)) s.heap H locs) (hl : lv_has ls 6 [(0, .ref (mAd E 0)), (1, .int p1), (2, .int p2)]) : W p l e rm_X8_sending s m args below meth c H locs 0 0 (gQi below args s (mG E) r σ') (F0 m 0 ls []) := by
  unfold f_X8_sending at hf
  obtain ⟨F, hr, hlk⟩ := id B
  have hx := F.1
  have hb := F.2.1
  have hml := F.2.2.1
  have hown := F.2.2.2.1
  have hts := F.2.2.2.2.1
  refine lv_iconst (v := 0) hx hb dX8_sending_0 (by decide) ?_
  refine lv_istore_n (lv' := [(3, .int (0 : Int32)), (0, .ref (mAd E 0)), (1, .int p1), (2, .int p2)]) hx hb dX8_sending_1 rfl hl (by decide) rfl (fun ls hl => ?_)
  refine lv_iconst (v := 0) hx hb dX8_sending_2 (by decide) ?_
  refine lv_istore (lv' := [(4, .int (0 : Int32)), (3, .int (0 : Int32)), (0, .ref (mAd E 0)), (1, .int p1), (2, .int p2)]) hx hb dX8_sending_3 hl (by decide) rfl (fun ls hl => ?_)
  refine lv_iconst (v := 0) hx hb dX8_sending_5 (by decide) ?_
  refine lv_istore (lv' := [(5, .int (0 : Int32)), (4, .int (0 : Int32)), (3, .int (0 : Int32)), (0, .ref (mAd E 0)), (1, .int p1), (2, .int p2)]) hx hb dX8_sending_6 hl (by decide) rfl (fun ls hl => ?_)
  exact lp_w (P := P_X8_sending_8 p l e s m args below meth c E r σ') (fun K hK a ha => w_X8_sending_8 B hK a.1 a.2.1 a.2.2.1 a.2.2.2.1 a.2.2.2.2.1 a.2.2.2.2.2 ha) FU _ hf _ _ _ hP hS (lv_sub hl [3, 4, 5, 2, 1, 0] rfl)
theorem c_X8_sending (l : Launch) {E : mEv} (hI : gIj (mG E)) {p1 : Int32} {p2 : Int32} {σ σ' : St} {r : Int32} (hf : f_X8_sending p1 p2 σ = some (r, σ')) : gMi l yX8_sending cX8_sending 6 .int rm_X8_sending [.ref (mAd E 0), .int p1, .int p2] (mG E) σ r σ' :=
  g_entry (by decide) (Nat.le_of_ble_eq_true rfl) hI (fun p e s m args below meth c B hP hS ls hl => w_X8_sending_e B _ _ σ hf _ _ ls hP hS hl)
/-! PromisedSlotsModel.goneFrame(I)V -/
def f_X8_goneFrame (p1 : Int32) (σ : St) : Option (Unit × St) :=
  gd (ix p1 8) <|
  gd (ix p1 8) <|
  vl (up2 σ 39 (nt p1) ((σ 39 (nt p1)) - (1 : Int32))) fun σ3 =>
  gd (ix p1 8) <|
  vl (up2 σ3 45 (nt p1) (0 : Int32)) fun σ5 =>
  gd (ix p1 8) <|
  vl (up2 σ5 48 (nt p1) (0 : Int32)) fun σ7 =>
  some ((), σ7)
abbrev rm_X8_goneFrame : Room := { frames := 0, cells := 0, slots := 0, locals := 0 }
set_option maxHeartbeats 4000000 in
set_option maxRecDepth 100000 in
theorem w_X8_goneFrame_e {p : Program} {l : Launch} {e : Env} {s : State} {m : MethodId} {args : Array Value} {below : List Frame} {meth : Method} {c : Code} {E : mEv} {u : Unit} {σ' : St} (B : gBx p m meth c cX8_goneFrame 2 none s args RX8 (mG E)) (p1 : Int32) (σ : St) (hf : f_X8_goneFrame p1 σ = some (u, σ')) (H : Heap) (locs : List Loc) (ls : Array Slot) (hP : gW (mG E) σ H) (hS : va_S (gA (mG E)) s.heap H locs) (hl : lv_has ls 2 [(0, .ref (mAd E 0)), (1, .int p1)]) : W p l e rm_X8_goneFrame s m args below meth c H locs 0 0 (gQv below args s (mG E) σ') (F0 m 0 ls []) := by
  unfold f_X8_goneFrame at hf
  obtain ⟨F, hr, hlk⟩ := id B
  have hx := F.1
  have hb := F.2.1
  have hml := F.2.2.1
  have hown := F.2.2.2.1
  have hts := F.2.2.2.2.1
  refine lv_aload_n hx hb dX8_goneFrame_0 rfl (lv_at hl 0 rfl) ?_
  refine gf_X8_70 F hP dX8_goneFrame_1 ?_
  refine lv_iload_n hx hb dX8_goneFrame_4 rfl (lv_at hl 1 rfl) ?_
  refine lv_dup2_11 hx hb dX8_goneFrame_5 rfl rfl ?_
  obtain ⟨h1, hf⟩ := gd_e hf
  refine m_iald F hP ⟨by decide, by decide⟩ rfl h1 dX8_goneFrame_6 ?_
  refine lv_iconst (v := 1) hx hb dX8_goneFrame_7 (by decide) ?_
  refine lv_isub hx hb dX8_goneFrame_8 ?_
  obtain ⟨h2, hf⟩ := gd_e hf
  refine m_iast F hP hS ⟨by decide, by decide⟩ rfl h2 dX8_goneFrame_9 (fun H locs hP hS => ?_)
  obtain ⟨σ3, eσ3, hf⟩ := vl_x hf
  rw [← eσ3] at hP
  refine lv_aload_n hx hb dX8_goneFrame_10 rfl (lv_at hl 0 rfl) ?_
  refine gf_X8_88 F hP dX8_goneFrame_11 ?_
  refine lv_iload_n hx hb dX8_goneFrame_14 rfl (lv_at hl 1 rfl) ?_
  refine lv_iconst (v := 0) hx hb dX8_goneFrame_15 (by decide) ?_
  obtain ⟨h4, hf⟩ := gd_e hf
  refine m_iast F hP hS ⟨by decide, by decide⟩ rfl h4 dX8_goneFrame_16 (fun H locs hP hS => ?_)
  obtain ⟨σ5, eσ5, hf⟩ := vl_x hf
  rw [← eσ5] at hP
  refine lv_aload_n hx hb dX8_goneFrame_17 rfl (lv_at hl 0 rfl) ?_
  refine gf_X8_97 F hP dX8_goneFrame_18 ?_
  refine lv_iload_n hx hb dX8_goneFrame_21 rfl (lv_at hl 1 rfl) ?_
  refine lv_iconst (v := 0) hx hb dX8_goneFrame_22 (by decide) ?_
  obtain ⟨h6, hf⟩ := gd_e hf
  refine m_iast F hP hS ⟨by decide, by decide⟩ rfl h6 dX8_goneFrame_23 (fun H locs hP hS => ?_)
  obtain ⟨σ7, eσ7, hf⟩ := vl_x hf
  rw [← eσ7] at hP
  exact g_vret B hP hS hf dX8_goneFrame_24
theorem c_X8_goneFrame (l : Launch) {E : mEv} (hI : gIj (mG E)) {p1 : Int32} {σ σ' : St} {u : Unit} (hf : f_X8_goneFrame p1 σ = some (u, σ')) : gMv l yX8_goneFrame cX8_goneFrame 2 rm_X8_goneFrame [.ref (mAd E 0), .int p1] (mG E) σ σ' :=
  g_entry (by decide) (Nat.le_of_ble_eq_true rfl) hI (fun p e s m args below meth c B hP hS ls hl => w_X8_goneFrame_e B _ σ hf _ _ ls hP hS hl)
section SE
variable {p : Program} {l : Launch} {e : Env} {R : Room} {s : State} {m : MethodId} {args : Array Value} {below : List Frame} {meth : Method} {c : Code} {H : Heap} {locs : List Loc} {cells slots : Nat} {Q : State → Prop}
variable {cc : ByteArray} {pc nL : Nat} {ls : Array Slot} {rest : List Value} {E : mEv} {σ : St}
theorem gf_X8_118 (F : gFx p m c cc nL s args RX8 (mG E)) (hP : gW (mG E) σ H) (hdg : decode cc pc = .ok (.getfield 118, 3)) (kk : W p l e R s m args below meth c H locs cells slots Q (F0 m (pc + 3) ls (.ref (mAd E 55) :: rest))) : W p l e R s m args below meth c H locs cells slots Q (F0 m pc ls (.ref (mAd E 0) :: rest)) :=
  g_get F hP (k := 0) min0 (me_0 E _) rfl inX8 55 (by decide) tw_839 rfl rfl hdg kk
theorem kc_X8_306 (F : gFx p m c cc nL s args RX8 (mG E)) (hP : gW (mG E) σ H) (hS : va_S (gA (mG E)) s.heap H locs) {p1 : Int32} {u : Unit} {σ' : St} (hf : f_X8_goneFrame p1 σ = some (u, σ')) (hR : rm_X8_goneFrame.frames + 1 ≤ R.frames ∧ 8 + (2 + 11) + rm_X8_goneFrame.locals ≤ R.locals) (hsz : ls.size = nL) (hrest : (rest.map fun v => v.category).sum ≤ 8) (hcs : cells ≤ R.cells ∧ slots ≤ R.slots) (hdg : decode cc pc = .ok (.invokevirtual 306, 3)) (kk : ∀ (H1 : Heap) (locs1 : List Loc), gW (mG E) σ' H1 → va_S (gA (mG E)) s.heap H1 locs1 → W p l e R s m args below meth c H1 locs1 cells slots Q (F0 m (pc + 3) ls rest)) : W p l e R s m args below meth c H locs cells slots Q (F0 m pc ls (.int p1 :: .ref (mAd E 0) :: rest)) :=
  g_callVv F hP hS (c_X8_goneFrame l F.2.2.2.2.2.2.2 hf) (g_cwV (n := 1) F tw_1147 tw_1149 ts_60 tw_14 tw_1150 (by decide +kernel) rfl rfl hR) (k := 0) min0 (me_0 E _) rfl (As := [.int p1]) rfl hsz rfl hrest hdg hcs kk
end SE
/-! PromisedSlotsModel.stepD(Z)V -/
def f_X8_stepD_91 (K2 : (Int32 × Int32 × St → Option (Unit × St))) (a1 : Int32) (a2 : Int32) (s0 : Int32) (s1 : Int32) (σ : St) : Option (Unit × St) :=
  gd (ix s1 8) <|
  vl (up2 σ 46 (nt s1) s0) fun σ18 =>
  gd (ix a2 8) <|
  if (σ18 47 (nt a2)) = (5 : Int32) then
    gd (ix a2 8) <|
    gd (ix a2 8) <|
    vl (up2 σ18 42 (nt a2) ((σ18 42 (nt a2)) + (1 : Int32))) fun σ29 =>
    cl (f_X8_goneFrame a2 σ29) fun r31 σ30 =>
    vl (a2 + (1 : Int32)) fun x33 =>
    K2 (a1, x33, σ30)
  else
    cl (f_X8_draws a2 σ18) fun r22 σ21 =>
    gd (ix a2 8) <|
    vl (up2 σ21 55 (nt a2) (1 : Int32)) fun σ25 =>
    vl (a2 + (1 : Int32)) fun x26 =>
    K2 (a1, x26, σ25)
def b_X8_stepD_2 (K2 : (Int32 × Int32 × St → Option (Unit × St))) (a1 : Int32) (a2 : Int32) (σ : St) : Option (Unit × St) :=
  if (σ 0 35) ≤ a2 then
    some ((), σ)
  else
    gd (ix a2 8) <|
    vl (up2 σ 55 (nt a2) (0 : Int32)) fun σ3 =>
    gd (ix a2 8) <|
    if (σ3 50 (nt a2)) = (1 : Int32) then
      gd (ix a2 8) <|
      if (σ3 45 (nt a2)) = (2 : Int32) then
        if a1 = 0 then
          gd (ix a2 8) <|
          gd (ix a2 8) <|
          vl (up2 σ3 52 (nt a2) ((σ3 52 (nt a2)) + (1 : Int32))) fun σ36 =>
          vl (a2 + (1 : Int32)) fun x37 =>
          K2 (a1, x37, σ36)
        else
          gd (ix a2 8) <|
          gd (ix a2 8) <|
          vl (up2 σ3 47 (nt a2) ((σ3 47 (nt a2)) + (1 : Int32))) fun σ13 =>
          gd (ix a2 8) <|
          if (σ13 46 (nt a2)) = (5 : Int32) then
            f_X8_stepD_91 K2 a1 a2 (5 : Int32) a2 σ13
          else
            gd (ix a2 8) <|
            f_X8_stepD_91 K2 a1 a2 ((σ13 46 (nt a2)) + (1 : Int32)) a2 σ13
      else
        vl (a2 + (1 : Int32)) fun x9 =>
        K2 (a1, x9, σ3)
    else
      vl (a2 + (1 : Int32)) fun x6 =>
      K2 (a1, x6, σ3)
def f_X8_stepD (p1 : Int32) (σ : St) : Option (Unit × St) :=
  lp (fun K a => b_X8_stepD_2 K a.1 a.2.1 a.2.2) FU (p1, (0 : Int32), σ)
abbrev rm_X8_stepD : Room := { frames := 1, cells := 0, slots := 0, locals := 21 }
def P_X8_stepD_2 (p : Program) (l : Launch) (e : Env) (s : State) (m : MethodId) (args : Array Value) (below : List Frame) (meth : Method) (c : Code) (E : mEv) (σ' : St) (a : Int32 × Int32 × St) : Prop := ∀ (H : Heap) (locs : List Loc) (ls : Array Slot), gW (mG E) a.2.2 H → va_S (gA (mG E)) s.heap H locs → lv_has ls 3 [(0, .ref (mAd E 0)), (1, .int a.1), (2, .int a.2.1)] → W p l e rm_X8_stepD s m args below meth c H locs 0 0 (gQv below args s (mG E) σ') (F0 m 2 ls [])
set_option maxHeartbeats 4000000 in
set_option maxRecDepth 100000 in
theorem w_X8_stepD_91 {p : Program} {l : Launch} {e : Env} {s : State} {m : MethodId} {args : Array Value} {below : List Frame} {meth : Method} {c : Code} {E : mEv} {u : Unit} {σ' : St} (B : gBx p m meth c cX8_stepD 3 none s args RX8 (mG E)) {K2 : (Int32 × Int32 × St → Option (Unit × St))} (hK2 : ∀ a, K2 a = some (u, σ') → P_X8_stepD_2 p l e s m args below meth c E σ' a) (a1 : Int32) (a2 : Int32) (s0 : Int32) (s1 : Int32) (σ : St) (hf : f_X8_stepD_91 K2 a1 a2 s0 s1 σ = some (u, σ')) (H : Heap) (locs : List Loc) (ls : Array Slot) (hP : gW (mG E) σ H) (hS : va_S (gA (mG E)) s.heap H locs) (hl : lv_has ls 3 [(0, .ref (mAd E 0)), (1, .int a1), (2, .int a2)]) : W p l e rm_X8_stepD s m args below meth c H locs 0 0 (gQv below args s (mG E) σ') (F0 m 91 ls [.int s0, .int s1, .ref (mAd E 46)]) := by
  unfold f_X8_stepD_91 at hf
  obtain ⟨F, hr, hlk⟩ := id B
  have hx := F.1
  have hb := F.2.1
  have hml := F.2.2.1
  have hown := F.2.2.2.1
  have hts := F.2.2.2.2.1
  obtain ⟨h17, hf⟩ := gd_e hf
  refine m_iast F hP hS ⟨by decide, by decide⟩ rfl h17 dX8_stepD_91 (fun H locs hP hS => ?_)
  obtain ⟨σ18, eσ18, hf⟩ := vl_x hf
  rw [← eσ18] at hP
  refine lv_aload_n hx hb dX8_stepD_92 rfl (lv_at hl 0 rfl) ?_
  refine gf_X8_94 F hP dX8_stepD_93 ?_
  refine lv_iload_n hx hb dX8_stepD_96 rfl (lv_at hl 2 rfl) ?_
  obtain ⟨h19, hf⟩ := gd_e hf
  refine m_iald F hP ⟨by decide, by decide⟩ rfl h19 dX8_stepD_97 ?_
  refine lv_iconst (v := 5) hx hb dX8_stepD_98 (by decide) ?_
  refine lv_icmp_ne (tgt := 120) hx hb dX8_stepD_99 (by decide) (fun h20 => ?_) (fun h20 => ?_)
  · rw [if_neg h20] at hf
    refine lv_aload_n hx hb dX8_stepD_120 rfl (lv_at hl 0 rfl) ?_
    refine lv_iload_n hx hb dX8_stepD_121 rfl (lv_at hl 2 rfl) ?_
    obtain ⟨r22, σ21, h23, hf⟩ := cl_e hf
    refine kc_X8_300 F hP hS h23 ⟨Nat.le_of_ble_eq_true rfl, Nat.le_of_ble_eq_true rfl⟩ hl.1 (Nat.le_of_ble_eq_true rfl) ⟨Nat.zero_le _, Nat.zero_le _⟩ dX8_stepD_122 (fun H locs hP hS => ?_)
    refine lv_aload_n hx hb dX8_stepD_125 rfl (lv_at hl 0 rfl) ?_
    refine gf_X8_118 F hP dX8_stepD_126 ?_
    refine lv_iload_n hx hb dX8_stepD_129 rfl (lv_at hl 2 rfl) ?_
    refine lv_iconst (v := 1) hx hb dX8_stepD_130 (by decide) ?_
    obtain ⟨h24, hf⟩ := gd_e hf
    refine m_iast F hP hS ⟨by decide, by decide⟩ rfl h24 dX8_stepD_131 (fun H locs hP hS => ?_)
    obtain ⟨σ25, eσ25, hf⟩ := vl_x hf
    rw [← eσ25] at hP
    refine lv_iinc (v := a2 + (1 : Int32)) (lv' := [(2, .int (a2 + (1 : Int32))), (0, .ref (mAd E 0)), (1, .int a1)]) hx hb dX8_stepD_132 hl (k := 2) rfl rfl (by decide) rfl (fun ls hl => ?_)
    obtain ⟨x26, ex26, hf⟩ := vl_x hf
    rw [← ex26] at hl
    refine lv_goto (tgt := 2) hx hb dX8_stepD_135 (by decide) ?_
    exact hK2 _ hf _ _ _ hP hS (lv_sub hl [1, 2, 0] rfl)
  · rw [if_pos h20] at hf
    refine lv_aload_n hx hb dX8_stepD_102 rfl (lv_at hl 0 rfl) ?_
    refine gf_X8_79 F hP dX8_stepD_103 ?_
    refine lv_iload_n hx hb dX8_stepD_106 rfl (lv_at hl 2 rfl) ?_
    refine lv_dup2_11 hx hb dX8_stepD_107 rfl rfl ?_
    obtain ⟨h27, hf⟩ := gd_e hf
    refine m_iald F hP ⟨by decide, by decide⟩ rfl h27 dX8_stepD_108 ?_
    refine lv_iconst (v := 1) hx hb dX8_stepD_109 (by decide) ?_
    refine lv_iadd hx hb dX8_stepD_110 ?_
    obtain ⟨h28, hf⟩ := gd_e hf
    refine m_iast F hP hS ⟨by decide, by decide⟩ rfl h28 dX8_stepD_111 (fun H locs hP hS => ?_)
    obtain ⟨σ29, eσ29, hf⟩ := vl_x hf
    rw [← eσ29] at hP
    refine lv_aload_n hx hb dX8_stepD_112 rfl (lv_at hl 0 rfl) ?_
    refine lv_iload_n hx hb dX8_stepD_113 rfl (lv_at hl 2 rfl) ?_
    obtain ⟨r31, σ30, h32, hf⟩ := cl_e hf
    refine kc_X8_306 F hP hS h32 ⟨Nat.le_of_ble_eq_true rfl, Nat.le_of_ble_eq_true rfl⟩ hl.1 (Nat.le_of_ble_eq_true rfl) ⟨Nat.zero_le _, Nat.zero_le _⟩ dX8_stepD_114 (fun H locs hP hS => ?_)
    refine lv_goto (tgt := 132) hx hb dX8_stepD_117 (by decide) ?_
    refine lv_iinc (v := a2 + (1 : Int32)) (lv' := [(2, .int (a2 + (1 : Int32))), (0, .ref (mAd E 0)), (1, .int a1)]) hx hb dX8_stepD_132 hl (k := 2) rfl rfl (by decide) rfl (fun ls hl => ?_)
    obtain ⟨x33, ex33, hf⟩ := vl_x hf
    rw [← ex33] at hl
    refine lv_goto (tgt := 2) hx hb dX8_stepD_135 (by decide) ?_
    exact hK2 _ hf _ _ _ hP hS (lv_sub hl [1, 2, 0] rfl)
set_option maxHeartbeats 4000000 in
set_option maxRecDepth 100000 in
theorem w_X8_stepD_2 {p : Program} {l : Launch} {e : Env} {s : State} {m : MethodId} {args : Array Value} {below : List Frame} {meth : Method} {c : Code} {E : mEv} {u : Unit} {σ' : St} (B : gBx p m meth c cX8_stepD 3 none s args RX8 (mG E)) {K2 : (Int32 × Int32 × St → Option (Unit × St))} (hK2 : ∀ a, K2 a = some (u, σ') → P_X8_stepD_2 p l e s m args below meth c E σ' a) (a1 : Int32) (a2 : Int32) (σ : St) (hf : b_X8_stepD_2 K2 a1 a2 σ = some (u, σ')) (H : Heap) (locs : List Loc) (ls : Array Slot) (hP : gW (mG E) σ H) (hS : va_S (gA (mG E)) s.heap H locs) (hl : lv_has ls 3 [(0, .ref (mAd E 0)), (1, .int a1), (2, .int a2)]) : W p l e rm_X8_stepD s m args below meth c H locs 0 0 (gQv below args s (mG E) σ') (F0 m 2 ls []) := by
  unfold b_X8_stepD_2 at hf
  obtain ⟨F, hr, hlk⟩ := id B
  have hx := F.1
  have hb := F.2.1
  have hml := F.2.2.1
  have hown := F.2.2.2.1
  have hts := F.2.2.2.2.1
  refine lv_iload_n hx hb dX8_stepD_2 rfl (lv_at hl 2 rfl) ?_
  refine lv_aload_n hx hb dX8_stepD_3 rfl (lv_at hl 0 rfl) ?_
  refine gf_X8_219 F hP dX8_stepD_4 ?_
  refine lv_icmp_ge (tgt := 138) hx hb dX8_stepD_7 (by decide) (fun h1 => ?_) (fun h1 => ?_)
  · rw [if_pos h1] at hf
    exact g_vret B hP hS hf dX8_stepD_138
  · rw [if_neg h1] at hf
    refine lv_aload_n hx hb dX8_stepD_10 rfl (lv_at hl 0 rfl) ?_
    refine gf_X8_118 F hP dX8_stepD_11 ?_
    refine lv_iload_n hx hb dX8_stepD_14 rfl (lv_at hl 2 rfl) ?_
    refine lv_iconst (v := 0) hx hb dX8_stepD_15 (by decide) ?_
    obtain ⟨h2, hf⟩ := gd_e hf
    refine m_iast F hP hS ⟨by decide, by decide⟩ rfl h2 dX8_stepD_16 (fun H locs hP hS => ?_)
    obtain ⟨σ3, eσ3, hf⟩ := vl_x hf
    rw [← eσ3] at hP
    refine lv_aload_n hx hb dX8_stepD_17 rfl (lv_at hl 0 rfl) ?_
    refine gf_X8_103 F hP dX8_stepD_18 ?_
    refine lv_iload_n hx hb dX8_stepD_21 rfl (lv_at hl 2 rfl) ?_
    obtain ⟨h4, hf⟩ := gd_e hf
    refine m_iald F hP ⟨by decide, by decide⟩ rfl h4 dX8_stepD_22 ?_
    refine lv_iconst (v := 1) hx hb dX8_stepD_23 (by decide) ?_
    refine lv_icmp_ne (tgt := 132) hx hb dX8_stepD_24 (by decide) (fun h5 => ?_) (fun h5 => ?_)
    · rw [if_neg h5] at hf
      refine lv_iinc (v := a2 + (1 : Int32)) (lv' := [(2, .int (a2 + (1 : Int32))), (0, .ref (mAd E 0)), (1, .int a1)]) hx hb dX8_stepD_132 hl (k := 2) rfl rfl (by decide) rfl (fun ls hl => ?_)
      obtain ⟨x6, ex6, hf⟩ := vl_x hf
      rw [← ex6] at hl
      refine lv_goto (tgt := 2) hx hb dX8_stepD_135 (by decide) ?_
      exact hK2 _ hf _ _ _ hP hS (lv_sub hl [1, 2, 0] rfl)
    · rw [if_pos h5] at hf
      refine lv_aload_n hx hb dX8_stepD_27 rfl (lv_at hl 0 rfl) ?_
      refine gf_X8_88 F hP dX8_stepD_28 ?_
      refine lv_iload_n hx hb dX8_stepD_31 rfl (lv_at hl 2 rfl) ?_
      obtain ⟨h7, hf⟩ := gd_e hf
      refine m_iald F hP ⟨by decide, by decide⟩ rfl h7 dX8_stepD_32 ?_
      refine lv_iconst (v := 2) hx hb dX8_stepD_33 (by decide) ?_
      refine lv_icmp_ne (tgt := 132) hx hb dX8_stepD_34 (by decide) (fun h8 => ?_) (fun h8 => ?_)
      · rw [if_neg h8] at hf
        refine lv_iinc (v := a2 + (1 : Int32)) (lv' := [(2, .int (a2 + (1 : Int32))), (0, .ref (mAd E 0)), (1, .int a1)]) hx hb dX8_stepD_132 hl (k := 2) rfl rfl (by decide) rfl (fun ls hl => ?_)
        obtain ⟨x9, ex9, hf⟩ := vl_x hf
        rw [← ex9] at hl
        refine lv_goto (tgt := 2) hx hb dX8_stepD_135 (by decide) ?_
        exact hK2 _ hf _ _ _ hP hS (lv_sub hl [1, 2, 0] rfl)
      · rw [if_pos h8] at hf
        refine lv_iload_n hx hb dX8_stepD_37 rfl (lv_at hl 1 rfl) ?_
        refine lv_if_ne (tgt := 54) hx hb dX8_stepD_38 (by decide) (fun h10 => ?_) (fun h10 => ?_)
        · rw [if_neg h10] at hf
          refine lv_aload_n hx hb dX8_stepD_54 rfl (lv_at hl 0 rfl) ?_
          refine gf_X8_94 F hP dX8_stepD_55 ?_
          refine lv_iload_n hx hb dX8_stepD_58 rfl (lv_at hl 2 rfl) ?_
          refine lv_dup2_11 hx hb dX8_stepD_59 rfl rfl ?_
          obtain ⟨h11, hf⟩ := gd_e hf
          refine m_iald F hP ⟨by decide, by decide⟩ rfl h11 dX8_stepD_60 ?_
          refine lv_iconst (v := 1) hx hb dX8_stepD_61 (by decide) ?_
          refine lv_iadd hx hb dX8_stepD_62 ?_
          obtain ⟨h12, hf⟩ := gd_e hf
          refine m_iast F hP hS ⟨by decide, by decide⟩ rfl h12 dX8_stepD_63 (fun H locs hP hS => ?_)
          obtain ⟨σ13, eσ13, hf⟩ := vl_x hf
          rw [← eσ13] at hP
          refine lv_aload_n hx hb dX8_stepD_64 rfl (lv_at hl 0 rfl) ?_
          refine gf_X8_91 F hP dX8_stepD_65 ?_
          refine lv_iload_n hx hb dX8_stepD_68 rfl (lv_at hl 2 rfl) ?_
          refine lv_aload_n hx hb dX8_stepD_69 rfl (lv_at hl 0 rfl) ?_
          refine gf_X8_91 F hP dX8_stepD_70 ?_
          refine lv_iload_n hx hb dX8_stepD_73 rfl (lv_at hl 2 rfl) ?_
          obtain ⟨h14, hf⟩ := gd_e hf
          refine m_iald F hP ⟨by decide, by decide⟩ rfl h14 dX8_stepD_74 ?_
          refine lv_iconst (v := 5) hx hb dX8_stepD_75 (by decide) ?_
          refine lv_icmp_ne (tgt := 83) hx hb dX8_stepD_76 (by decide) (fun h15 => ?_) (fun h15 => ?_)
          · rw [if_neg h15] at hf
            refine lv_aload_n hx hb dX8_stepD_83 rfl (lv_at hl 0 rfl) ?_
            refine gf_X8_91 F hP dX8_stepD_84 ?_
            refine lv_iload_n hx hb dX8_stepD_87 rfl (lv_at hl 2 rfl) ?_
            obtain ⟨h16, hf⟩ := gd_e hf
            refine m_iald F hP ⟨by decide, by decide⟩ rfl h16 dX8_stepD_88 ?_
            refine lv_iconst (v := 1) hx hb dX8_stepD_89 (by decide) ?_
            refine lv_iadd hx hb dX8_stepD_90 ?_
            exact w_X8_stepD_91 B hK2 _ _ _ _ σ13 hf _ _ _ hP hS (lv_sub hl [0, 1, 2] rfl)
          · rw [if_pos h15] at hf
            refine lv_iconst (v := 5) hx hb dX8_stepD_79 (by decide) ?_
            refine lv_goto (tgt := 91) hx hb dX8_stepD_80 (by decide) ?_
            exact w_X8_stepD_91 B hK2 _ _ _ _ σ13 hf _ _ _ hP hS (lv_sub hl [0, 1, 2] rfl)
        · rw [if_pos h10] at hf
          refine lv_aload_n hx hb dX8_stepD_41 rfl (lv_at hl 0 rfl) ?_
          refine gf_X8_109 F hP dX8_stepD_42 ?_
          refine lv_iload_n hx hb dX8_stepD_45 rfl (lv_at hl 2 rfl) ?_
          refine lv_dup2_11 hx hb dX8_stepD_46 rfl rfl ?_
          obtain ⟨h34, hf⟩ := gd_e hf
          refine m_iald F hP ⟨by decide, by decide⟩ rfl h34 dX8_stepD_47 ?_
          refine lv_iconst (v := 1) hx hb dX8_stepD_48 (by decide) ?_
          refine lv_iadd hx hb dX8_stepD_49 ?_
          obtain ⟨h35, hf⟩ := gd_e hf
          refine m_iast F hP hS ⟨by decide, by decide⟩ rfl h35 dX8_stepD_50 (fun H locs hP hS => ?_)
          obtain ⟨σ36, eσ36, hf⟩ := vl_x hf
          rw [← eσ36] at hP
          refine lv_goto (tgt := 132) hx hb dX8_stepD_51 (by decide) ?_
          refine lv_iinc (v := a2 + (1 : Int32)) (lv' := [(2, .int (a2 + (1 : Int32))), (0, .ref (mAd E 0)), (1, .int a1)]) hx hb dX8_stepD_132 hl (k := 2) rfl rfl (by decide) rfl (fun ls hl => ?_)
          obtain ⟨x37, ex37, hf⟩ := vl_x hf
          rw [← ex37] at hl
          refine lv_goto (tgt := 2) hx hb dX8_stepD_135 (by decide) ?_
          exact hK2 _ hf _ _ _ hP hS (lv_sub hl [1, 2, 0] rfl)
set_option maxHeartbeats 4000000 in
set_option maxRecDepth 100000 in
theorem w_X8_stepD_e {p : Program} {l : Launch} {e : Env} {s : State} {m : MethodId} {args : Array Value} {below : List Frame} {meth : Method} {c : Code} {E : mEv} {u : Unit} {σ' : St} (B : gBx p m meth c cX8_stepD 3 none s args RX8 (mG E)) (p1 : Int32) (σ : St) (hf : f_X8_stepD p1 σ = some (u, σ')) (H : Heap) (locs : List Loc) (ls : Array Slot) (hP : gW (mG E) σ H) (hS : va_S (gA (mG E)) s.heap H locs) (hl : lv_has ls 3 [(0, .ref (mAd E 0)), (1, .int p1)]) : W p l e rm_X8_stepD s m args below meth c H locs 0 0 (gQv below args s (mG E) σ') (F0 m 0 ls []) := by
  unfold f_X8_stepD at hf
  obtain ⟨F, hr, hlk⟩ := id B
  have hx := F.1
  have hb := F.2.1
  have hml := F.2.2.1
  have hown := F.2.2.2.1
  have hts := F.2.2.2.2.1
  refine lv_iconst (v := 0) hx hb dX8_stepD_0 (by decide) ?_
  refine lv_istore_n (lv' := [(2, .int (0 : Int32)), (0, .ref (mAd E 0)), (1, .int p1)]) hx hb dX8_stepD_1 rfl hl (by decide) rfl (fun ls hl => ?_)
  exact lp_w (P := P_X8_stepD_2 p l e s m args below meth c E σ') (fun K hK a ha => w_X8_stepD_2 B hK a.1 a.2.1 a.2.2 ha) FU _ hf _ _ _ hP hS (lv_sub hl [1, 2, 0] rfl)
theorem c_X8_stepD (l : Launch) {E : mEv} (hI : gIj (mG E)) {p1 : Int32} {σ σ' : St} {u : Unit} (hf : f_X8_stepD p1 σ = some (u, σ')) : gMv l yX8_stepD cX8_stepD 3 rm_X8_stepD [.ref (mAd E 0), .int p1] (mG E) σ σ' :=
  g_entry (by decide) (Nat.le_of_ble_eq_true rfl) hI (fun p e s m args below meth c B hP hS ls hl => w_X8_stepD_e B _ σ hf _ _ ls hP hS hl)
/-! PromisedSlotsModel.stepE()V -/
def b_X8_stepE_2 (K2 : (Int32 × St → Option (Unit × St))) (a1 : Int32) (σ : St) : Option (Unit × St) :=
  if (σ 0 35) ≤ a1 then
    some ((), σ)
  else
    gd (ix a1 8) <|
    if (σ 50 (nt a1)) = (1 : Int32) then
      gd (ix a1 8) <|
      if (σ 45 (nt a1)) = (1 : Int32) then
        gd (ix a1 8) <|
        if (σ 55 (nt a1)) = 0 then
          gd (ix a1 8) <|
          if (σ 51 (nt a1)) ≤ 0 then
            vl (a1 + (1 : Int32)) fun x13 =>
            K2 (x13, σ)
          else
            gd (ix a1 8) <|
            gd (ix a1 8) <|
            vl (up2 σ 51 (nt a1) ((σ 51 (nt a1)) - (1 : Int32))) fun σ16 =>
            vl (a1 + (1 : Int32)) fun x17 =>
            K2 (x17, σ16)
        else
          vl (a1 + (1 : Int32)) fun x10 =>
          K2 (x10, σ)
      else
        vl (a1 + (1 : Int32)) fun x7 =>
        K2 (x7, σ)
    else
      vl (a1 + (1 : Int32)) fun x4 =>
      K2 (x4, σ)
def f_X8_stepE (σ : St) : Option (Unit × St) :=
  lp (fun K a => b_X8_stepE_2 K a.1 a.2) FU ((0 : Int32), σ)
abbrev rm_X8_stepE : Room := { frames := 0, cells := 0, slots := 0, locals := 0 }
def P_X8_stepE_2 (p : Program) (l : Launch) (e : Env) (s : State) (m : MethodId) (args : Array Value) (below : List Frame) (meth : Method) (c : Code) (E : mEv) (σ' : St) (a : Int32 × St) : Prop := ∀ (H : Heap) (locs : List Loc) (ls : Array Slot), gW (mG E) a.2 H → va_S (gA (mG E)) s.heap H locs → lv_has ls 2 [(0, .ref (mAd E 0)), (1, .int a.1)] → W p l e rm_X8_stepE s m args below meth c H locs 0 0 (gQv below args s (mG E) σ') (F0 m 2 ls [])
set_option maxHeartbeats 4000000 in
set_option maxRecDepth 100000 in
theorem w_X8_stepE_2 {p : Program} {l : Launch} {e : Env} {s : State} {m : MethodId} {args : Array Value} {below : List Frame} {meth : Method} {c : Code} {E : mEv} {u : Unit} {σ' : St} (B : gBx p m meth c cX8_stepE 2 none s args RX8 (mG E)) {K2 : (Int32 × St → Option (Unit × St))} (hK2 : ∀ a, K2 a = some (u, σ') → P_X8_stepE_2 p l e s m args below meth c E σ' a) (a1 : Int32) (σ : St) (hf : b_X8_stepE_2 K2 a1 σ = some (u, σ')) (H : Heap) (locs : List Loc) (ls : Array Slot) (hP : gW (mG E) σ H) (hS : va_S (gA (mG E)) s.heap H locs) (hl : lv_has ls 2 [(0, .ref (mAd E 0)), (1, .int a1)]) : W p l e rm_X8_stepE s m args below meth c H locs 0 0 (gQv below args s (mG E) σ') (F0 m 2 ls []) := by
  unfold b_X8_stepE_2 at hf
  obtain ⟨F, hr, hlk⟩ := id B
  have hx := F.1
  have hb := F.2.1
  have hml := F.2.2.1
  have hown := F.2.2.2.1
  have hts := F.2.2.2.2.1
  refine lv_iload_n hx hb dX8_stepE_2 rfl (lv_at hl 1 rfl) ?_
  refine lv_aload_n hx hb dX8_stepE_3 rfl (lv_at hl 0 rfl) ?_
  refine gf_X8_219 F hP dX8_stepE_4 ?_
  refine lv_icmp_ge (tgt := 64) hx hb dX8_stepE_7 (by decide) (fun h1 => ?_) (fun h1 => ?_)
  · rw [if_pos h1] at hf
    exact g_vret B hP hS hf dX8_stepE_64
  · rw [if_neg h1] at hf
    refine lv_aload_n hx hb dX8_stepE_10 rfl (lv_at hl 0 rfl) ?_
    refine gf_X8_103 F hP dX8_stepE_11 ?_
    refine lv_iload_n hx hb dX8_stepE_14 rfl (lv_at hl 1 rfl) ?_
    obtain ⟨h2, hf⟩ := gd_e hf
    refine m_iald F hP ⟨by decide, by decide⟩ rfl h2 dX8_stepE_15 ?_
    refine lv_iconst (v := 1) hx hb dX8_stepE_16 (by decide) ?_
    refine lv_icmp_ne (tgt := 58) hx hb dX8_stepE_17 (by decide) (fun h3 => ?_) (fun h3 => ?_)
    · rw [if_neg h3] at hf
      refine lv_iinc (v := a1 + (1 : Int32)) (lv' := [(1, .int (a1 + (1 : Int32))), (0, .ref (mAd E 0))]) hx hb dX8_stepE_58 hl (k := 1) rfl rfl (by decide) rfl (fun ls hl => ?_)
      obtain ⟨x4, ex4, hf⟩ := vl_x hf
      rw [← ex4] at hl
      refine lv_goto (tgt := 2) hx hb dX8_stepE_61 (by decide) ?_
      exact hK2 _ hf _ _ _ hP hS (lv_sub hl [1, 0] rfl)
    · rw [if_pos h3] at hf
      refine lv_aload_n hx hb dX8_stepE_20 rfl (lv_at hl 0 rfl) ?_
      refine gf_X8_88 F hP dX8_stepE_21 ?_
      refine lv_iload_n hx hb dX8_stepE_24 rfl (lv_at hl 1 rfl) ?_
      obtain ⟨h5, hf⟩ := gd_e hf
      refine m_iald F hP ⟨by decide, by decide⟩ rfl h5 dX8_stepE_25 ?_
      refine lv_iconst (v := 1) hx hb dX8_stepE_26 (by decide) ?_
      refine lv_icmp_ne (tgt := 58) hx hb dX8_stepE_27 (by decide) (fun h6 => ?_) (fun h6 => ?_)
      · rw [if_neg h6] at hf
        refine lv_iinc (v := a1 + (1 : Int32)) (lv' := [(1, .int (a1 + (1 : Int32))), (0, .ref (mAd E 0))]) hx hb dX8_stepE_58 hl (k := 1) rfl rfl (by decide) rfl (fun ls hl => ?_)
        obtain ⟨x7, ex7, hf⟩ := vl_x hf
        rw [← ex7] at hl
        refine lv_goto (tgt := 2) hx hb dX8_stepE_61 (by decide) ?_
        exact hK2 _ hf _ _ _ hP hS (lv_sub hl [1, 0] rfl)
      · rw [if_pos h6] at hf
        refine lv_aload_n hx hb dX8_stepE_30 rfl (lv_at hl 0 rfl) ?_
        refine gf_X8_118 F hP dX8_stepE_31 ?_
        refine lv_iload_n hx hb dX8_stepE_34 rfl (lv_at hl 1 rfl) ?_
        obtain ⟨h8, hf⟩ := gd_e hf
        refine m_iald F hP ⟨by decide, by decide⟩ rfl h8 dX8_stepE_35 ?_
        refine lv_if_ne (tgt := 58) hx hb dX8_stepE_36 (by decide) (fun h9 => ?_) (fun h9 => ?_)
        · rw [if_neg h9] at hf
          refine lv_iinc (v := a1 + (1 : Int32)) (lv' := [(1, .int (a1 + (1 : Int32))), (0, .ref (mAd E 0))]) hx hb dX8_stepE_58 hl (k := 1) rfl rfl (by decide) rfl (fun ls hl => ?_)
          obtain ⟨x10, ex10, hf⟩ := vl_x hf
          rw [← ex10] at hl
          refine lv_goto (tgt := 2) hx hb dX8_stepE_61 (by decide) ?_
          exact hK2 _ hf _ _ _ hP hS (lv_sub hl [1, 0] rfl)
        · rw [if_pos h9] at hf
          refine lv_aload_n hx hb dX8_stepE_39 rfl (lv_at hl 0 rfl) ?_
          refine gf_X8_106 F hP dX8_stepE_40 ?_
          refine lv_iload_n hx hb dX8_stepE_43 rfl (lv_at hl 1 rfl) ?_
          obtain ⟨h11, hf⟩ := gd_e hf
          refine m_iald F hP ⟨by decide, by decide⟩ rfl h11 dX8_stepE_44 ?_
          refine lv_if_le (tgt := 58) hx hb dX8_stepE_45 (by decide) (fun h12 => ?_) (fun h12 => ?_)
          · rw [if_pos h12] at hf
            refine lv_iinc (v := a1 + (1 : Int32)) (lv' := [(1, .int (a1 + (1 : Int32))), (0, .ref (mAd E 0))]) hx hb dX8_stepE_58 hl (k := 1) rfl rfl (by decide) rfl (fun ls hl => ?_)
            obtain ⟨x13, ex13, hf⟩ := vl_x hf
            rw [← ex13] at hl
            refine lv_goto (tgt := 2) hx hb dX8_stepE_61 (by decide) ?_
            exact hK2 _ hf _ _ _ hP hS (lv_sub hl [1, 0] rfl)
          · rw [if_neg h12] at hf
            refine lv_aload_n hx hb dX8_stepE_48 rfl (lv_at hl 0 rfl) ?_
            refine gf_X8_106 F hP dX8_stepE_49 ?_
            refine lv_iload_n hx hb dX8_stepE_52 rfl (lv_at hl 1 rfl) ?_
            refine lv_dup2_11 hx hb dX8_stepE_53 rfl rfl ?_
            obtain ⟨h14, hf⟩ := gd_e hf
            refine m_iald F hP ⟨by decide, by decide⟩ rfl h14 dX8_stepE_54 ?_
            refine lv_iconst (v := 1) hx hb dX8_stepE_55 (by decide) ?_
            refine lv_isub hx hb dX8_stepE_56 ?_
            obtain ⟨h15, hf⟩ := gd_e hf
            refine m_iast F hP hS ⟨by decide, by decide⟩ rfl h15 dX8_stepE_57 (fun H locs hP hS => ?_)
            obtain ⟨σ16, eσ16, hf⟩ := vl_x hf
            rw [← eσ16] at hP
            refine lv_iinc (v := a1 + (1 : Int32)) (lv' := [(1, .int (a1 + (1 : Int32))), (0, .ref (mAd E 0))]) hx hb dX8_stepE_58 hl (k := 1) rfl rfl (by decide) rfl (fun ls hl => ?_)
            obtain ⟨x17, ex17, hf⟩ := vl_x hf
            rw [← ex17] at hl
            refine lv_goto (tgt := 2) hx hb dX8_stepE_61 (by decide) ?_
            exact hK2 _ hf _ _ _ hP hS (lv_sub hl [1, 0] rfl)
set_option maxHeartbeats 4000000 in
set_option maxRecDepth 100000 in
theorem w_X8_stepE_e {p : Program} {l : Launch} {e : Env} {s : State} {m : MethodId} {args : Array Value} {below : List Frame} {meth : Method} {c : Code} {E : mEv} {u : Unit} {σ' : St} (B : gBx p m meth c cX8_stepE 2 none s args RX8 (mG E)) (σ : St) (hf : f_X8_stepE σ = some (u, σ')) (H : Heap) (locs : List Loc) (ls : Array Slot) (hP : gW (mG E) σ H) (hS : va_S (gA (mG E)) s.heap H locs) (hl : lv_has ls 2 [(0, .ref (mAd E 0))]) : W p l e rm_X8_stepE s m args below meth c H locs 0 0 (gQv below args s (mG E) σ') (F0 m 0 ls []) := by
  unfold f_X8_stepE at hf
  obtain ⟨F, hr, hlk⟩ := id B
  have hx := F.1
  have hb := F.2.1
  have hml := F.2.2.1
  have hown := F.2.2.2.1
  have hts := F.2.2.2.2.1
  refine lv_iconst (v := 0) hx hb dX8_stepE_0 (by decide) ?_
  refine lv_istore_n (lv' := [(1, .int (0 : Int32)), (0, .ref (mAd E 0))]) hx hb dX8_stepE_1 rfl hl (by decide) rfl (fun ls hl => ?_)
  exact lp_w (P := P_X8_stepE_2 p l e s m args below meth c E σ') (fun K hK a ha => w_X8_stepE_2 B hK a.1 a.2 ha) FU _ hf _ _ _ hP hS (lv_sub hl [1, 0] rfl)
theorem c_X8_stepE (l : Launch) {E : mEv} (hI : gIj (mG E)) {σ σ' : St} {u : Unit} (hf : f_X8_stepE σ = some (u, σ')) : gMv l yX8_stepE cX8_stepE 2 rm_X8_stepE [.ref (mAd E 0)] (mG E) σ σ' :=
  g_entry (by decide) (Nat.le_of_ble_eq_true rfl) hI (fun p e s m args below meth c B hP hS ls hl => w_X8_stepE_e B σ hf _ _ ls hP hS hl)
/-! PromisedSlotsModel.ends(I)I -/
def f_X8_ends (p1 : Int32) (σ : St) : Option (Int32 × St) :=
  gd (ix p1 8) <|
  if (σ 54 (nt p1)) = 0 then
    gd (ix p1 8) <|
    gd (ix p1 8) <|
    vl (up2 σ 41 (nt p1) ((σ 41 (nt p1)) + (1 : Int32))) fun σ22 =>
    cl (f_X8_goneFrame p1 σ22) fun r24 σ23 =>
    some ((1 : Int32), σ23)
  else
    gd (ix p1 8) <|
    gd (ix p1 8) <|
    vl (up2 σ 49 (nt p1) ((σ 49 (nt p1)) + (1 : Int32))) fun σ5 =>
    gd (ix p1 8) <|
    gd (ix p1 8) <|
    vl (up2 σ5 48 (nt p1) ((σ5 48 (nt p1)) + (1 : Int32))) fun σ8 =>
    gd (ix p1 8) <|
    if (σ8 48 (nt p1)) = (4 : Int32) then
      gd (ix p1 8) <|
      gd (ix p1 8) <|
      vl (up2 σ8 42 (nt p1) ((σ8 42 (nt p1)) + (1 : Int32))) fun σ16 =>
      cl (f_X8_goneFrame p1 σ16) fun r18 σ17 =>
      some ((0 : Int32), σ17)
    else
      cl (f_X8_begins p1 σ8) fun r12 σ11 =>
      some ((0 : Int32), σ11)
abbrev rm_X8_ends : Room := { frames := 2, cells := 0, slots := 0, locals := 42 }
set_option maxHeartbeats 4000000 in
set_option maxRecDepth 100000 in
theorem w_X8_ends_e {p : Program} {l : Launch} {e : Env} {s : State} {m : MethodId} {args : Array Value} {below : List Frame} {meth : Method} {c : Code} {E : mEv} {r : Int32} {σ' : St} (B : gBx p m meth c cX8_ends 2 (some .int) s args RX8 (mG E)) (p1 : Int32) (σ : St) (hf : f_X8_ends p1 σ = some (r, σ')) (H : Heap) (locs : List Loc) (ls : Array Slot) (hP : gW (mG E) σ H) (hS : va_S (gA (mG E)) s.heap H locs) (hl : lv_has ls 2 [(0, .ref (mAd E 0)), (1, .int p1)]) : W p l e rm_X8_ends s m args below meth c H locs 0 0 (gQi below args s (mG E) r σ') (F0 m 0 ls []) := by
  unfold f_X8_ends at hf
  obtain ⟨F, hr, hlk⟩ := id B
  have hx := F.1
  have hb := F.2.1
  have hml := F.2.2.1
  have hown := F.2.2.2.1
  have hts := F.2.2.2.2.1
  refine lv_aload_n hx hb dX8_ends_0 rfl (lv_at hl 0 rfl) ?_
  refine gf_X8_115 F hP dX8_ends_1 ?_
  refine lv_iload_n hx hb dX8_ends_4 rfl (lv_at hl 1 rfl) ?_
  obtain ⟨h1, hf⟩ := gd_e hf
  refine m_iald F hP ⟨by decide, by decide⟩ rfl h1 dX8_ends_5 ?_
  refine lv_if_ne (tgt := 26) hx hb dX8_ends_6 (by decide) (fun h2 => ?_) (fun h2 => ?_)
  · rw [if_neg h2] at hf
    refine lv_aload_n hx hb dX8_ends_26 rfl (lv_at hl 0 rfl) ?_
    refine gf_X8_100 F hP dX8_ends_27 ?_
    refine lv_iload_n hx hb dX8_ends_30 rfl (lv_at hl 1 rfl) ?_
    refine lv_dup2_11 hx hb dX8_ends_31 rfl rfl ?_
    obtain ⟨h3, hf⟩ := gd_e hf
    refine m_iald F hP ⟨by decide, by decide⟩ rfl h3 dX8_ends_32 ?_
    refine lv_iconst (v := 1) hx hb dX8_ends_33 (by decide) ?_
    refine lv_iadd hx hb dX8_ends_34 ?_
    obtain ⟨h4, hf⟩ := gd_e hf
    refine m_iast F hP hS ⟨by decide, by decide⟩ rfl h4 dX8_ends_35 (fun H locs hP hS => ?_)
    obtain ⟨σ5, eσ5, hf⟩ := vl_x hf
    rw [← eσ5] at hP
    refine lv_aload_n hx hb dX8_ends_36 rfl (lv_at hl 0 rfl) ?_
    refine gf_X8_97 F hP dX8_ends_37 ?_
    refine lv_iload_n hx hb dX8_ends_40 rfl (lv_at hl 1 rfl) ?_
    refine lv_dup2_11 hx hb dX8_ends_41 rfl rfl ?_
    obtain ⟨h6, hf⟩ := gd_e hf
    refine m_iald F hP ⟨by decide, by decide⟩ rfl h6 dX8_ends_42 ?_
    refine lv_iconst (v := 1) hx hb dX8_ends_43 (by decide) ?_
    refine lv_iadd hx hb dX8_ends_44 ?_
    obtain ⟨h7, hf⟩ := gd_e hf
    refine m_iast F hP hS ⟨by decide, by decide⟩ rfl h7 dX8_ends_45 (fun H locs hP hS => ?_)
    obtain ⟨σ8, eσ8, hf⟩ := vl_x hf
    rw [← eσ8] at hP
    refine lv_aload_n hx hb dX8_ends_46 rfl (lv_at hl 0 rfl) ?_
    refine gf_X8_97 F hP dX8_ends_47 ?_
    refine lv_iload_n hx hb dX8_ends_50 rfl (lv_at hl 1 rfl) ?_
    obtain ⟨h9, hf⟩ := gd_e hf
    refine m_iald F hP ⟨by decide, by decide⟩ rfl h9 dX8_ends_51 ?_
    refine lv_iconst (v := 4) hx hb dX8_ends_52 (by decide) ?_
    refine lv_icmp_ne (tgt := 74) hx hb dX8_ends_53 (by decide) (fun h10 => ?_) (fun h10 => ?_)
    · rw [if_neg h10] at hf
      refine lv_aload_n hx hb dX8_ends_74 rfl (lv_at hl 0 rfl) ?_
      refine lv_iload_n hx hb dX8_ends_75 rfl (lv_at hl 1 rfl) ?_
      obtain ⟨r12, σ11, h13, hf⟩ := cl_e hf
      refine kc_X8_303 F hP hS h13 ⟨Nat.le_of_ble_eq_true rfl, Nat.le_of_ble_eq_true rfl⟩ hl.1 (Nat.le_of_ble_eq_true rfl) ⟨Nat.zero_le _, Nat.zero_le _⟩ dX8_ends_76 (fun H locs hP hS => ?_)
      refine lv_iconst (v := 0) hx hb dX8_ends_79 (by decide) ?_
      exact g_iret B hP hS hf dX8_ends_80
    · rw [if_pos h10] at hf
      refine lv_aload_n hx hb dX8_ends_56 rfl (lv_at hl 0 rfl) ?_
      refine gf_X8_79 F hP dX8_ends_57 ?_
      refine lv_iload_n hx hb dX8_ends_60 rfl (lv_at hl 1 rfl) ?_
      refine lv_dup2_11 hx hb dX8_ends_61 rfl rfl ?_
      obtain ⟨h14, hf⟩ := gd_e hf
      refine m_iald F hP ⟨by decide, by decide⟩ rfl h14 dX8_ends_62 ?_
      refine lv_iconst (v := 1) hx hb dX8_ends_63 (by decide) ?_
      refine lv_iadd hx hb dX8_ends_64 ?_
      obtain ⟨h15, hf⟩ := gd_e hf
      refine m_iast F hP hS ⟨by decide, by decide⟩ rfl h15 dX8_ends_65 (fun H locs hP hS => ?_)
      obtain ⟨σ16, eσ16, hf⟩ := vl_x hf
      rw [← eσ16] at hP
      refine lv_aload_n hx hb dX8_ends_66 rfl (lv_at hl 0 rfl) ?_
      refine lv_iload_n hx hb dX8_ends_67 rfl (lv_at hl 1 rfl) ?_
      obtain ⟨r18, σ17, h19, hf⟩ := cl_e hf
      refine kc_X8_306 F hP hS h19 ⟨Nat.le_of_ble_eq_true rfl, Nat.le_of_ble_eq_true rfl⟩ hl.1 (Nat.le_of_ble_eq_true rfl) ⟨Nat.zero_le _, Nat.zero_le _⟩ dX8_ends_68 (fun H locs hP hS => ?_)
      refine lv_goto (tgt := 79) hx hb dX8_ends_71 (by decide) ?_
      refine lv_iconst (v := 0) hx hb dX8_ends_79 (by decide) ?_
      exact g_iret B hP hS hf dX8_ends_80
  · rw [if_pos h2] at hf
    refine lv_aload_n hx hb dX8_ends_9 rfl (lv_at hl 0 rfl) ?_
    refine gf_X8_76 F hP dX8_ends_10 ?_
    refine lv_iload_n hx hb dX8_ends_13 rfl (lv_at hl 1 rfl) ?_
    refine lv_dup2_11 hx hb dX8_ends_14 rfl rfl ?_
    obtain ⟨h20, hf⟩ := gd_e hf
    refine m_iald F hP ⟨by decide, by decide⟩ rfl h20 dX8_ends_15 ?_
    refine lv_iconst (v := 1) hx hb dX8_ends_16 (by decide) ?_
    refine lv_iadd hx hb dX8_ends_17 ?_
    obtain ⟨h21, hf⟩ := gd_e hf
    refine m_iast F hP hS ⟨by decide, by decide⟩ rfl h21 dX8_ends_18 (fun H locs hP hS => ?_)
    obtain ⟨σ22, eσ22, hf⟩ := vl_x hf
    rw [← eσ22] at hP
    refine lv_aload_n hx hb dX8_ends_19 rfl (lv_at hl 0 rfl) ?_
    refine lv_iload_n hx hb dX8_ends_20 rfl (lv_at hl 1 rfl) ?_
    obtain ⟨r24, σ23, h25, hf⟩ := cl_e hf
    refine kc_X8_306 F hP hS h25 ⟨Nat.le_of_ble_eq_true rfl, Nat.le_of_ble_eq_true rfl⟩ hl.1 (Nat.le_of_ble_eq_true rfl) ⟨Nat.zero_le _, Nat.zero_le _⟩ dX8_ends_21 (fun H locs hP hS => ?_)
    refine lv_iconst (v := 1) hx hb dX8_ends_24 (by decide) ?_
    exact g_iret B hP hS hf dX8_ends_25
theorem c_X8_ends (l : Launch) {E : mEv} (hI : gIj (mG E)) {p1 : Int32} {σ σ' : St} {r : Int32} (hf : f_X8_ends p1 σ = some (r, σ')) : gMi l yX8_ends cX8_ends 2 .int rm_X8_ends [.ref (mAd E 0), .int p1] (mG E) σ r σ' :=
  g_entry (by decide) (Nat.le_of_ble_eq_true rfl) hI (fun p e s m args below meth c B hP hS ls hl => w_X8_ends_e B _ σ hf _ _ ls hP hS hl)
section SE
variable {p : Program} {l : Launch} {e : Env} {R : Room} {s : State} {m : MethodId} {args : Array Value} {below : List Frame} {meth : Method} {c : Code} {H : Heap} {locs : List Loc} {cells slots : Nat} {Q : State → Prop}
variable {cc : ByteArray} {pc nL : Nat} {ls : Array Slot} {rest : List Value} {E : mEv} {σ : St}
theorem kc_X8_309 (F : gFx p m c cc nL s args RX8 (mG E)) (hP : gW (mG E) σ H) (hS : va_S (gA (mG E)) s.heap H locs) {p1 : Int32} {r : Int32} {σ' : St} (hf : f_X8_ends p1 σ = some (r, σ')) (hR : rm_X8_ends.frames + 1 ≤ R.frames ∧ 8 + (2 + 11) + rm_X8_ends.locals ≤ R.locals) (hsz : ls.size = nL) (hrest : (rest.map fun v => v.category).sum ≤ 8) (hcs : cells ≤ R.cells ∧ slots ≤ R.slots) (hdg : decode cc pc = .ok (.invokevirtual 309, 3)) (kk : ∀ (H1 : Heap) (locs1 : List Loc), gW (mG E) σ' H1 → va_S (gA (mG E)) s.heap H1 locs1 → W p l e R s m args below meth c H1 locs1 cells slots Q (F0 m (pc + 3) ls (.int r :: rest))) : W p l e R s m args below meth c H locs cells slots Q (F0 m pc ls (.int p1 :: .ref (mAd E 0) :: rest)) :=
  g_callVi F hP hS (c_X8_ends l F.2.2.2.2.2.2.2 hf) (g_cwV (n := 1) F tw_1159 tw_1161 ts_63 tw_14 tw_1162 (by decide +kernel) rfl rfl hR) (k := 0) min0 (me_0 E _) rfl (As := [.int p1]) rfl hsz rfl hrest hdg hcs kk
end SE
/-! PromisedSlotsModel.stepF()I -/
def b_X8_stepF_4 (K4 : (Int32 × Int32 × St → Option (Int32 × St))) (a1 : Int32) (a2 : Int32) (σ : St) : Option (Int32 × St) :=
  if (σ 0 35) ≤ a2 then
    some (a1, σ)
  else
    gd (ix a2 8) <|
    if (σ 50 (nt a2)) = (1 : Int32) then
      gd (ix a2 8) <|
      if (σ 45 (nt a2)) = (4 : Int32) then
        gd (ix a2 8) <|
        gd (ix a2 8) <|
        vl (up2 σ 53 (nt a2) ((σ 53 (nt a2)) - (1 : Int32))) fun σ10 =>
        gd (ix a2 8) <|
        if (σ10 53 (nt a2)) = 0 then
          cl (f_X8_ends a2 σ10) fun r15 σ14 =>
          vl (a1 + r15) fun x17 =>
          vl (a2 + (1 : Int32)) fun x18 =>
          K4 (x17, x18, σ14)
        else
          vl (a2 + (1 : Int32)) fun x13 =>
          K4 (a1, x13, σ10)
      else
        vl (a2 + (1 : Int32)) fun x7 =>
        K4 (a1, x7, σ)
    else
      vl (a2 + (1 : Int32)) fun x4 =>
      K4 (a1, x4, σ)
def f_X8_stepF (σ : St) : Option (Int32 × St) :=
  lp (fun K a => b_X8_stepF_4 K a.1 a.2.1 a.2.2) FU ((0 : Int32), (0 : Int32), σ)
abbrev rm_X8_stepF : Room := { frames := 3, cells := 0, slots := 0, locals := 63 }
def P_X8_stepF_4 (p : Program) (l : Launch) (e : Env) (s : State) (m : MethodId) (args : Array Value) (below : List Frame) (meth : Method) (c : Code) (E : mEv) (r : Int32) (σ' : St) (a : Int32 × Int32 × St) : Prop := ∀ (H : Heap) (locs : List Loc) (ls : Array Slot), gW (mG E) a.2.2 H → va_S (gA (mG E)) s.heap H locs → lv_has ls 3 [(0, .ref (mAd E 0)), (1, .int a.1), (2, .int a.2.1)] → W p l e rm_X8_stepF s m args below meth c H locs 0 0 (gQi below args s (mG E) r σ') (F0 m 4 ls [])
set_option maxHeartbeats 4000000 in
set_option maxRecDepth 100000 in
theorem w_X8_stepF_4 {p : Program} {l : Launch} {e : Env} {s : State} {m : MethodId} {args : Array Value} {below : List Frame} {meth : Method} {c : Code} {E : mEv} {r : Int32} {σ' : St} (B : gBx p m meth c cX8_stepF 3 (some .int) s args RX8 (mG E)) {K4 : (Int32 × Int32 × St → Option (Int32 × St))} (hK4 : ∀ a, K4 a = some (r, σ') → P_X8_stepF_4 p l e s m args below meth c E r σ' a) (a1 : Int32) (a2 : Int32) (σ : St) (hf : b_X8_stepF_4 K4 a1 a2 σ = some (r, σ')) (H : Heap) (locs : List Loc) (ls : Array Slot) (hP : gW (mG E) σ H) (hS : va_S (gA (mG E)) s.heap H locs) (hl : lv_has ls 3 [(0, .ref (mAd E 0)), (1, .int a1), (2, .int a2)]) : W p l e rm_X8_stepF s m args below meth c H locs 0 0 (gQi below args s (mG E) r σ') (F0 m 4 ls []) := by
  unfold b_X8_stepF_4 at hf
  obtain ⟨F, hr, hlk⟩ := id B
  have hx := F.1
  have hb := F.2.1
  have hml := F.2.2.1
  have hown := F.2.2.2.1
  have hts := F.2.2.2.2.1
  refine lv_iload_n hx hb dX8_stepF_4 rfl (lv_at hl 2 rfl) ?_
  refine lv_aload_n hx hb dX8_stepF_5 rfl (lv_at hl 0 rfl) ?_
  refine gf_X8_219 F hP dX8_stepF_6 ?_
  refine lv_icmp_ge (tgt := 65) hx hb dX8_stepF_9 (by decide) (fun h1 => ?_) (fun h1 => ?_)
  · rw [if_pos h1] at hf
    refine lv_iload_n hx hb dX8_stepF_65 rfl (lv_at hl 1 rfl) ?_
    exact g_iret B hP hS hf dX8_stepF_66
  · rw [if_neg h1] at hf
    refine lv_aload_n hx hb dX8_stepF_12 rfl (lv_at hl 0 rfl) ?_
    refine gf_X8_103 F hP dX8_stepF_13 ?_
    refine lv_iload_n hx hb dX8_stepF_16 rfl (lv_at hl 2 rfl) ?_
    obtain ⟨h2, hf⟩ := gd_e hf
    refine m_iald F hP ⟨by decide, by decide⟩ rfl h2 dX8_stepF_17 ?_
    refine lv_iconst (v := 1) hx hb dX8_stepF_18 (by decide) ?_
    refine lv_icmp_ne (tgt := 59) hx hb dX8_stepF_19 (by decide) (fun h3 => ?_) (fun h3 => ?_)
    · rw [if_neg h3] at hf
      refine lv_iinc (v := a2 + (1 : Int32)) (lv' := [(2, .int (a2 + (1 : Int32))), (0, .ref (mAd E 0)), (1, .int a1)]) hx hb dX8_stepF_59 hl (k := 2) rfl rfl (by decide) rfl (fun ls hl => ?_)
      obtain ⟨x4, ex4, hf⟩ := vl_x hf
      rw [← ex4] at hl
      refine lv_goto (tgt := 4) hx hb dX8_stepF_62 (by decide) ?_
      exact hK4 _ hf _ _ _ hP hS (lv_sub hl [1, 2, 0] rfl)
    · rw [if_pos h3] at hf
      refine lv_aload_n hx hb dX8_stepF_22 rfl (lv_at hl 0 rfl) ?_
      refine gf_X8_88 F hP dX8_stepF_23 ?_
      refine lv_iload_n hx hb dX8_stepF_26 rfl (lv_at hl 2 rfl) ?_
      obtain ⟨h5, hf⟩ := gd_e hf
      refine m_iald F hP ⟨by decide, by decide⟩ rfl h5 dX8_stepF_27 ?_
      refine lv_iconst (v := 4) hx hb dX8_stepF_28 (by decide) ?_
      refine lv_icmp_ne (tgt := 59) hx hb dX8_stepF_29 (by decide) (fun h6 => ?_) (fun h6 => ?_)
      · rw [if_neg h6] at hf
        refine lv_iinc (v := a2 + (1 : Int32)) (lv' := [(2, .int (a2 + (1 : Int32))), (0, .ref (mAd E 0)), (1, .int a1)]) hx hb dX8_stepF_59 hl (k := 2) rfl rfl (by decide) rfl (fun ls hl => ?_)
        obtain ⟨x7, ex7, hf⟩ := vl_x hf
        rw [← ex7] at hl
        refine lv_goto (tgt := 4) hx hb dX8_stepF_62 (by decide) ?_
        exact hK4 _ hf _ _ _ hP hS (lv_sub hl [1, 2, 0] rfl)
      · rw [if_pos h6] at hf
        refine lv_aload_n hx hb dX8_stepF_32 rfl (lv_at hl 0 rfl) ?_
        refine gf_X8_112 F hP dX8_stepF_33 ?_
        refine lv_iload_n hx hb dX8_stepF_36 rfl (lv_at hl 2 rfl) ?_
        refine lv_dup2_11 hx hb dX8_stepF_37 rfl rfl ?_
        obtain ⟨h8, hf⟩ := gd_e hf
        refine m_iald F hP ⟨by decide, by decide⟩ rfl h8 dX8_stepF_38 ?_
        refine lv_iconst (v := 1) hx hb dX8_stepF_39 (by decide) ?_
        refine lv_isub hx hb dX8_stepF_40 ?_
        obtain ⟨h9, hf⟩ := gd_e hf
        refine m_iast F hP hS ⟨by decide, by decide⟩ rfl h9 dX8_stepF_41 (fun H locs hP hS => ?_)
        obtain ⟨σ10, eσ10, hf⟩ := vl_x hf
        rw [← eσ10] at hP
        refine lv_aload_n hx hb dX8_stepF_42 rfl (lv_at hl 0 rfl) ?_
        refine gf_X8_112 F hP dX8_stepF_43 ?_
        refine lv_iload_n hx hb dX8_stepF_46 rfl (lv_at hl 2 rfl) ?_
        obtain ⟨h11, hf⟩ := gd_e hf
        refine m_iald F hP ⟨by decide, by decide⟩ rfl h11 dX8_stepF_47 ?_
        refine lv_if_ne (tgt := 59) hx hb dX8_stepF_48 (by decide) (fun h12 => ?_) (fun h12 => ?_)
        · rw [if_neg h12] at hf
          refine lv_iinc (v := a2 + (1 : Int32)) (lv' := [(2, .int (a2 + (1 : Int32))), (0, .ref (mAd E 0)), (1, .int a1)]) hx hb dX8_stepF_59 hl (k := 2) rfl rfl (by decide) rfl (fun ls hl => ?_)
          obtain ⟨x13, ex13, hf⟩ := vl_x hf
          rw [← ex13] at hl
          refine lv_goto (tgt := 4) hx hb dX8_stepF_62 (by decide) ?_
          exact hK4 _ hf _ _ _ hP hS (lv_sub hl [1, 2, 0] rfl)
        · rw [if_pos h12] at hf
          refine lv_iload_n hx hb dX8_stepF_51 rfl (lv_at hl 1 rfl) ?_
          refine lv_aload_n hx hb dX8_stepF_52 rfl (lv_at hl 0 rfl) ?_
          refine lv_iload_n hx hb dX8_stepF_53 rfl (lv_at hl 2 rfl) ?_
          obtain ⟨r15, σ14, h16, hf⟩ := cl_e hf
          refine kc_X8_309 F hP hS h16 ⟨Nat.le_of_ble_eq_true rfl, Nat.le_of_ble_eq_true rfl⟩ hl.1 (Nat.le_of_ble_eq_true rfl) ⟨Nat.zero_le _, Nat.zero_le _⟩ dX8_stepF_54 (fun H locs hP hS => ?_)
          refine lv_iadd hx hb dX8_stepF_57 ?_
          obtain ⟨x17, ex17, hf⟩ := vl_x hf
          rw [← ex17]
          refine lv_istore_n (lv' := [(1, .int x17), (0, .ref (mAd E 0)), (2, .int a2)]) hx hb dX8_stepF_58 rfl hl (by decide) rfl (fun ls hl => ?_)
          refine lv_iinc (v := a2 + (1 : Int32)) (lv' := [(2, .int (a2 + (1 : Int32))), (1, .int x17), (0, .ref (mAd E 0))]) hx hb dX8_stepF_59 hl (k := 2) rfl rfl (by decide) rfl (fun ls hl => ?_)
          obtain ⟨x18, ex18, hf⟩ := vl_x hf
          rw [← ex18] at hl
          refine lv_goto (tgt := 4) hx hb dX8_stepF_62 (by decide) ?_
          exact hK4 _ hf _ _ _ hP hS (lv_sub hl [2, 1, 0] rfl)
set_option maxHeartbeats 4000000 in
set_option maxRecDepth 100000 in
theorem w_X8_stepF_e {p : Program} {l : Launch} {e : Env} {s : State} {m : MethodId} {args : Array Value} {below : List Frame} {meth : Method} {c : Code} {E : mEv} {r : Int32} {σ' : St} (B : gBx p m meth c cX8_stepF 3 (some .int) s args RX8 (mG E)) (σ : St) (hf : f_X8_stepF σ = some (r, σ')) (H : Heap) (locs : List Loc) (ls : Array Slot) (hP : gW (mG E) σ H) (hS : va_S (gA (mG E)) s.heap H locs) (hl : lv_has ls 3 [(0, .ref (mAd E 0))]) : W p l e rm_X8_stepF s m args below meth c H locs 0 0 (gQi below args s (mG E) r σ') (F0 m 0 ls []) := by
  unfold f_X8_stepF at hf
  obtain ⟨F, hr, hlk⟩ := id B
  have hx := F.1
  have hb := F.2.1
  have hml := F.2.2.1
  have hown := F.2.2.2.1
  have hts := F.2.2.2.2.1
  refine lv_iconst (v := 0) hx hb dX8_stepF_0 (by decide) ?_
  refine lv_istore_n (lv' := [(1, .int (0 : Int32)), (0, .ref (mAd E 0))]) hx hb dX8_stepF_1 rfl hl (by decide) rfl (fun ls hl => ?_)
  refine lv_iconst (v := 0) hx hb dX8_stepF_2 (by decide) ?_
  refine lv_istore_n (lv' := [(2, .int (0 : Int32)), (1, .int (0 : Int32)), (0, .ref (mAd E 0))]) hx hb dX8_stepF_3 rfl hl (by decide) rfl (fun ls hl => ?_)
  exact lp_w (P := P_X8_stepF_4 p l e s m args below meth c E r σ') (fun K hK a ha => w_X8_stepF_4 B hK a.1 a.2.1 a.2.2 ha) FU _ hf _ _ _ hP hS (lv_sub hl [2, 1, 0] rfl)
theorem c_X8_stepF (l : Launch) {E : mEv} (hI : gIj (mG E)) {σ σ' : St} {r : Int32} (hf : f_X8_stepF σ = some (r, σ')) : gMi l yX8_stepF cX8_stepF 3 .int rm_X8_stepF [.ref (mAd E 0)] (mG E) σ r σ' :=
  g_entry (by decide) (Nat.le_of_ble_eq_true rfl) hI (fun p e s m args below meth c B hP hS ls hl => w_X8_stepF_e B σ hf _ _ ls hP hS hl)
section SE
variable {p : Program} {l : Launch} {e : Env} {R : Room} {s : State} {m : MethodId} {args : Array Value} {below : List Frame} {meth : Method} {c : Code} {H : Heap} {locs : List Loc} {cells slots : Nat} {Q : State → Prop}
variable {cc : ByteArray} {pc nL : Nat} {ls : Array Slot} {rest : List Value} {E : mEv} {σ : St}
theorem gf_X8_228 (F : gFx p m c cc nL s args RX8 (mG E)) (hP : gW (mG E) σ H) (hdg : decode cc pc = .ok (.getfield 228, 3)) (kk : W p l e R s m args below meth c H locs cells slots Q (F0 m (pc + 3) ls (.int (σ 0 18) :: rest))) : W p l e R s m args below meth c H locs cells slots Q (F0 m pc ls (.ref (mAd E 0) :: rest)) :=
  g_get F hP (k := 0) min0 (me_0 E _) rfl inX8 18 (by decide) tw_802 rfl rfl hdg kk
end SE
/-! PromisedSlotsModel.uses(I)I -/
def b_X8_uses_109 (K109 : (Int32 × Int32 × Int32 × Int32 × Int32 × Int32 × Int32 × St → Option (Int32 × St))) (K4 : (Int32 × Int32 × Int32 × St → Option (Int32 × St))) (a1 : Int32) (a2 : Int32) (a3 : Int32) (a4 : Int32) (a6 : Int32) (a7 : Int32) (a8 : Int32) (σ : St) : Option (Int32 × St) :=
  gd (ix a4 8) <|
  if (a6 * (σ 37 (nt a4))) ≤ a8 then
    gd (ix a4 8) <|
    gd (ix a4 8) <|
    vl (up2 σ 40 (nt a4) ((σ 40 (nt a4)) - a6)) fun σ23 =>
    gd (ix a4 8) <|
    gd (ix a4 8) <|
    vl (up2 σ23 41 (nt a4) ((σ23 41 (nt a4)) + a6)) fun σ26 =>
    if a6 ≤ 0 then
      gd (ix (((7 : Int32) * a1) + a3) 28) <|
      gd (ix (((7 : Int32) * a1) + a3) 28) <|
      vl (up2 σ26 33 (nt (((7 : Int32) * a1) + a3)) ((σ26 33 (nt (((7 : Int32) * a1) + a3))) + (1 : Int32))) fun σ30 =>
      vl (a2 + a6) fun x31 =>
      vl (a3 + (1 : Int32)) fun x32 =>
      K4 (a1, x31, x32, σ30)
    else
      gd (ix (((7 : Int32) * a1) + a3) 28) <|
      vl (up2 σ26 33 (nt (((7 : Int32) * a1) + a3)) (0 : Int32)) fun σ34 =>
      vl (a2 + a6) fun x35 =>
      vl (a3 + (1 : Int32)) fun x36 =>
      K4 (a1, x35, x36, σ34)
  else
    gd (ix ((((384 : Int32) * a1) + a7) + a8) 1536) <|
    vl (up2 σ 34 (nt ((((384 : Int32) * a1) + a7) + a8)) ((10 : Int32) + a4)) fun σ38 =>
    vl (a8 + (1 : Int32)) fun x39 =>
    K109 (a1, a2, a3, a4, a6, a7, x39, σ38)
def b_X8_uses_4 (K4 : (Int32 × Int32 × Int32 × St → Option (Int32 × St))) (a1 : Int32) (a2 : Int32) (a3 : Int32) (σ : St) : Option (Int32 × St) :=
  gd (ix a1 4) <|
  if (σ 30 (nt a1)) ≤ a3 then
    some (a2, σ)
  else
    gd (ix (((7 : Int32) * a1) + a3) 28) <|
    vl (σ 31 (nt (((7 : Int32) * a1) + a3))) fun x4 =>
    gd (ix (((7 : Int32) * a1) + a3) 28) <|
    gd (ix x4 8) <|
    gd (¬ (σ 37 (nt x4)) = 0) <|
    vl (((σ 32 (nt (((7 : Int32) * a1) + a3))) * (σ 0 18)) / (σ 37 (nt x4))) fun x8 =>
    gd (ix x4 8) <|
    if (σ 50 (nt x4)) = 0 then
      cl (f_X8_firstSlot a1 a3 σ) fun r45 σ44 =>
      vl (r45 * (σ44 0 18)) fun x47 =>
      lp (fun K a => b_X8_uses_109 K K4 a.1 a.2.1 a.2.2.1 a.2.2.2.1 a.2.2.2.2.1 a.2.2.2.2.2.1 a.2.2.2.2.2.2.1 a.2.2.2.2.2.2.2) FU (a1, a2, a3, x4, (0 : Int32), x47, (0 : Int32), σ44)
    else
      gd (ix x4 8) <|
      if (σ 40 (nt x4)) ≤ x8 then
        gd (ix x4 8) <|
        vl (σ 40 (nt x4)) fun x14 =>
        cl (f_X8_firstSlot a1 a3 σ) fun r16 σ15 =>
        vl (r16 * (σ15 0 18)) fun x18 =>
        lp (fun K a => b_X8_uses_109 K K4 a.1 a.2.1 a.2.2.1 a.2.2.2.1 a.2.2.2.2.1 a.2.2.2.2.2.1 a.2.2.2.2.2.2.1 a.2.2.2.2.2.2.2) FU (a1, a2, a3, x4, x14, x18, (0 : Int32), σ15)
      else
        cl (f_X8_firstSlot a1 a3 σ) fun r41 σ40 =>
        vl (r41 * (σ40 0 18)) fun x43 =>
        lp (fun K a => b_X8_uses_109 K K4 a.1 a.2.1 a.2.2.1 a.2.2.2.1 a.2.2.2.2.1 a.2.2.2.2.2.1 a.2.2.2.2.2.2.1 a.2.2.2.2.2.2.2) FU (a1, a2, a3, x4, x8, x43, (0 : Int32), σ40)
def f_X8_uses (p1 : Int32) (σ : St) : Option (Int32 × St) :=
  lp (fun K a => b_X8_uses_4 K a.1 a.2.1 a.2.2.1 a.2.2.2) FU (p1, (0 : Int32), (0 : Int32), σ)
abbrev rm_X8_uses : Room := { frames := 1, cells := 0, slots := 0, locals := 24 }
def P_X8_uses_4 (p : Program) (l : Launch) (e : Env) (s : State) (m : MethodId) (args : Array Value) (below : List Frame) (meth : Method) (c : Code) (E : mEv) (r : Int32) (σ' : St) (a : Int32 × Int32 × Int32 × St) : Prop := ∀ (H : Heap) (locs : List Loc) (ls : Array Slot), gW (mG E) a.2.2.2 H → va_S (gA (mG E)) s.heap H locs → lv_has ls 9 [(0, .ref (mAd E 0)), (1, .int a.1), (2, .int a.2.1), (3, .int a.2.2.1)] → W p l e rm_X8_uses s m args below meth c H locs 0 0 (gQi below args s (mG E) r σ') (F0 m 4 ls [])
def P_X8_uses_109 (p : Program) (l : Launch) (e : Env) (s : State) (m : MethodId) (args : Array Value) (below : List Frame) (meth : Method) (c : Code) (E : mEv) (r : Int32) (σ' : St) (a : Int32 × Int32 × Int32 × Int32 × Int32 × Int32 × Int32 × St) : Prop := ∀ (H : Heap) (locs : List Loc) (ls : Array Slot), gW (mG E) a.2.2.2.2.2.2.2 H → va_S (gA (mG E)) s.heap H locs → lv_has ls 9 [(0, .ref (mAd E 0)), (1, .int a.1), (2, .int a.2.1), (3, .int a.2.2.1), (4, .int a.2.2.2.1), (6, .int a.2.2.2.2.1), (7, .int a.2.2.2.2.2.1), (8, .int a.2.2.2.2.2.2.1)] → W p l e rm_X8_uses s m args below meth c H locs 0 0 (gQi below args s (mG E) r σ') (F0 m 109 ls [])
set_option maxHeartbeats 4000000 in
set_option maxRecDepth 100000 in
theorem w_X8_uses_109 {p : Program} {l : Launch} {e : Env} {s : State} {m : MethodId} {args : Array Value} {below : List Frame} {meth : Method} {c : Code} {E : mEv} {r : Int32} {σ' : St} (B : gBx p m meth c cX8_uses 9 (some .int) s args RX8 (mG E)) {K109 : (Int32 × Int32 × Int32 × Int32 × Int32 × Int32 × Int32 × St → Option (Int32 × St))} (hK109 : ∀ a, K109 a = some (r, σ') → P_X8_uses_109 p l e s m args below meth c E r σ' a) {K4 : (Int32 × Int32 × Int32 × St → Option (Int32 × St))} (hK4 : ∀ a, K4 a = some (r, σ') → P_X8_uses_4 p l e s m args below meth c E r σ' a) (a1 : Int32) (a2 : Int32) (a3 : Int32) (a4 : Int32) (a6 : Int32) (a7 : Int32) (a8 : Int32) (σ : St) (hf : b_X8_uses_109 K109 K4 a1 a2 a3 a4 a6 a7 a8 σ = some (r, σ')) (H : Heap) (locs : List Loc) (ls : Array Slot) (hP : gW (mG E) σ H) (hS : va_S (gA (mG E)) s.heap H locs) (hl : lv_has ls 9 [(0, .ref (mAd E 0)), (1, .int a1), (2, .int a2), (3, .int a3), (4, .int a4), (6, .int a6), (7, .int a7), (8, .int a8)]) : W p l e rm_X8_uses s m args below meth c H locs 0 0 (gQi below args s (mG E) r σ') (F0 m 109 ls []) := by
  unfold b_X8_uses_109 at hf
  obtain ⟨F, hr, hlk⟩ := id B
  have hx := F.1
  have hb := F.2.1
  have hml := F.2.2.1
  have hown := F.2.2.2.1
  have hts := F.2.2.2.2.1
  refine lv_iload hx hb dX8_uses_109 (lv_at hl 7 rfl) ?_
  refine lv_iload hx hb dX8_uses_111 (lv_at hl 5 rfl) ?_
  refine lv_aload_n hx hb dX8_uses_113 rfl (lv_at hl 0 rfl) ?_
  refine gf_X8_64 F hP dX8_uses_114 ?_
  refine lv_iload hx hb dX8_uses_117 (lv_at hl 4 rfl) ?_
  obtain ⟨h19, hf⟩ := gd_e hf
  refine m_iald F hP ⟨by decide, by decide⟩ rfl h19 dX8_uses_119 ?_
  refine lv_imul hx hb dX8_uses_120 ?_
  refine lv_icmp_ge (tgt := 151) hx hb dX8_uses_121 (by decide) (fun h20 => ?_) (fun h20 => ?_)
  · rw [if_pos h20] at hf
    refine lv_aload_n hx hb dX8_uses_151 rfl (lv_at hl 0 rfl) ?_
    refine gf_X8_73 F hP dX8_uses_152 ?_
    refine lv_iload hx hb dX8_uses_155 (lv_at hl 4 rfl) ?_
    refine lv_dup2_11 hx hb dX8_uses_157 rfl rfl ?_
    obtain ⟨h21, hf⟩ := gd_e hf
    refine m_iald F hP ⟨by decide, by decide⟩ rfl h21 dX8_uses_158 ?_
    refine lv_iload hx hb dX8_uses_159 (lv_at hl 5 rfl) ?_
    refine lv_isub hx hb dX8_uses_161 ?_
    obtain ⟨h22, hf⟩ := gd_e hf
    refine m_iast F hP hS ⟨by decide, by decide⟩ rfl h22 dX8_uses_162 (fun H locs hP hS => ?_)
    obtain ⟨σ23, eσ23, hf⟩ := vl_x hf
    rw [← eσ23] at hP
    refine lv_aload_n hx hb dX8_uses_163 rfl (lv_at hl 0 rfl) ?_
    refine gf_X8_76 F hP dX8_uses_164 ?_
    refine lv_iload hx hb dX8_uses_167 (lv_at hl 4 rfl) ?_
    refine lv_dup2_11 hx hb dX8_uses_169 rfl rfl ?_
    obtain ⟨h24, hf⟩ := gd_e hf
    refine m_iald F hP ⟨by decide, by decide⟩ rfl h24 dX8_uses_170 ?_
    refine lv_iload hx hb dX8_uses_171 (lv_at hl 5 rfl) ?_
    refine lv_iadd hx hb dX8_uses_173 ?_
    obtain ⟨h25, hf⟩ := gd_e hf
    refine m_iast F hP hS ⟨by decide, by decide⟩ rfl h25 dX8_uses_174 (fun H locs hP hS => ?_)
    obtain ⟨σ26, eσ26, hf⟩ := vl_x hf
    rw [← eσ26] at hP
    refine lv_aload_n hx hb dX8_uses_175 rfl (lv_at hl 0 rfl) ?_
    refine gf_X8_55 F hP dX8_uses_176 ?_
    refine lv_bipush (v := (7)) hx hb dX8_uses_179 (by decide) ?_
    refine lv_iload_n hx hb dX8_uses_181 rfl (lv_at hl 1 rfl) ?_
    refine lv_imul hx hb dX8_uses_182 ?_
    refine lv_iload_n hx hb dX8_uses_183 rfl (lv_at hl 3 rfl) ?_
    refine lv_iadd hx hb dX8_uses_184 ?_
    refine lv_iload hx hb dX8_uses_185 (lv_at hl 5 rfl) ?_
    refine lv_if_le (tgt := 194) hx hb dX8_uses_187 (by decide) (fun h27 => ?_) (fun h27 => ?_)
    · rw [if_pos h27] at hf
      refine lv_aload_n hx hb dX8_uses_194 rfl (lv_at hl 0 rfl) ?_
      refine gf_X8_55 F hP dX8_uses_195 ?_
      refine lv_bipush (v := (7)) hx hb dX8_uses_198 (by decide) ?_
      refine lv_iload_n hx hb dX8_uses_200 rfl (lv_at hl 1 rfl) ?_
      refine lv_imul hx hb dX8_uses_201 ?_
      refine lv_iload_n hx hb dX8_uses_202 rfl (lv_at hl 3 rfl) ?_
      refine lv_iadd hx hb dX8_uses_203 ?_
      obtain ⟨h28, hf⟩ := gd_e hf
      refine m_iald F hP ⟨by decide, by decide⟩ rfl h28 dX8_uses_204 ?_
      refine lv_iconst (v := 1) hx hb dX8_uses_205 (by decide) ?_
      refine lv_iadd hx hb dX8_uses_206 ?_
      obtain ⟨h29, hf⟩ := gd_e hf
      refine m_iast F hP hS ⟨by decide, by decide⟩ rfl h29 dX8_uses_207 (fun H locs hP hS => ?_)
      obtain ⟨σ30, eσ30, hf⟩ := vl_x hf
      rw [← eσ30] at hP
      refine lv_iload_n hx hb dX8_uses_208 rfl (lv_at hl 2 rfl) ?_
      refine lv_iload hx hb dX8_uses_209 (lv_at hl 5 rfl) ?_
      refine lv_iadd hx hb dX8_uses_211 ?_
      obtain ⟨x31, ex31, hf⟩ := vl_x hf
      rw [← ex31]
      refine lv_istore_n (lv' := [(2, .int x31), (0, .ref (mAd E 0)), (1, .int a1), (3, .int a3), (4, .int a4), (6, .int a6), (7, .int a7), (8, .int a8)]) hx hb dX8_uses_212 rfl hl (by decide) rfl (fun ls hl => ?_)
      refine lv_iinc (v := a3 + (1 : Int32)) (lv' := [(3, .int (a3 + (1 : Int32))), (2, .int x31), (0, .ref (mAd E 0)), (1, .int a1), (4, .int a4), (6, .int a6), (7, .int a7), (8, .int a8)]) hx hb dX8_uses_213 hl (k := 3) rfl rfl (by decide) rfl (fun ls hl => ?_)
      obtain ⟨x32, ex32, hf⟩ := vl_x hf
      rw [← ex32] at hl
      refine lv_goto (tgt := 4) hx hb dX8_uses_216 (by decide) ?_
      exact hK4 _ hf _ _ _ hP hS (lv_sub hl [2, 3, 1, 0] rfl)
    · rw [if_neg h27] at hf
      refine lv_iconst (v := 0) hx hb dX8_uses_190 (by decide) ?_
      refine lv_goto (tgt := 207) hx hb dX8_uses_191 (by decide) ?_
      obtain ⟨h33, hf⟩ := gd_e hf
      refine m_iast F hP hS ⟨by decide, by decide⟩ rfl h33 dX8_uses_207 (fun H locs hP hS => ?_)
      obtain ⟨σ34, eσ34, hf⟩ := vl_x hf
      rw [← eσ34] at hP
      refine lv_iload_n hx hb dX8_uses_208 rfl (lv_at hl 2 rfl) ?_
      refine lv_iload hx hb dX8_uses_209 (lv_at hl 5 rfl) ?_
      refine lv_iadd hx hb dX8_uses_211 ?_
      obtain ⟨x35, ex35, hf⟩ := vl_x hf
      rw [← ex35]
      refine lv_istore_n (lv' := [(2, .int x35), (0, .ref (mAd E 0)), (1, .int a1), (3, .int a3), (4, .int a4), (6, .int a6), (7, .int a7), (8, .int a8)]) hx hb dX8_uses_212 rfl hl (by decide) rfl (fun ls hl => ?_)
      refine lv_iinc (v := a3 + (1 : Int32)) (lv' := [(3, .int (a3 + (1 : Int32))), (2, .int x35), (0, .ref (mAd E 0)), (1, .int a1), (4, .int a4), (6, .int a6), (7, .int a7), (8, .int a8)]) hx hb dX8_uses_213 hl (k := 3) rfl rfl (by decide) rfl (fun ls hl => ?_)
      obtain ⟨x36, ex36, hf⟩ := vl_x hf
      rw [← ex36] at hl
      refine lv_goto (tgt := 4) hx hb dX8_uses_216 (by decide) ?_
      exact hK4 _ hf _ _ _ hP hS (lv_sub hl [2, 3, 1, 0] rfl)
  · rw [if_neg h20] at hf
    refine lv_aload_n hx hb dX8_uses_124 rfl (lv_at hl 0 rfl) ?_
    refine gf_X8_58 F hP dX8_uses_125 ?_
    refine lv_sipush (v := (384)) hx hb dX8_uses_128 (by decide) ?_
    refine lv_iload_n hx hb dX8_uses_131 rfl (lv_at hl 1 rfl) ?_
    refine lv_imul hx hb dX8_uses_132 ?_
    refine lv_iload hx hb dX8_uses_133 (lv_at hl 6 rfl) ?_
    refine lv_iadd hx hb dX8_uses_135 ?_
    refine lv_iload hx hb dX8_uses_136 (lv_at hl 7 rfl) ?_
    refine lv_iadd hx hb dX8_uses_138 ?_
    refine lv_bipush (v := (10)) hx hb dX8_uses_139 (by decide) ?_
    refine lv_iload hx hb dX8_uses_141 (lv_at hl 4 rfl) ?_
    refine lv_iadd hx hb dX8_uses_143 ?_
    obtain ⟨h37, hf⟩ := gd_e hf
    refine m_iast F hP hS ⟨by decide, by decide⟩ rfl h37 dX8_uses_144 (fun H locs hP hS => ?_)
    obtain ⟨σ38, eσ38, hf⟩ := vl_x hf
    rw [← eσ38] at hP
    refine lv_iinc (v := a8 + (1 : Int32)) (lv' := [(8, .int (a8 + (1 : Int32))), (0, .ref (mAd E 0)), (1, .int a1), (2, .int a2), (3, .int a3), (4, .int a4), (6, .int a6), (7, .int a7)]) hx hb dX8_uses_145 hl (k := 7) rfl rfl (by decide) rfl (fun ls hl => ?_)
    obtain ⟨x39, ex39, hf⟩ := vl_x hf
    rw [← ex39] at hl
    refine lv_goto (tgt := 109) hx hb dX8_uses_148 (by decide) ?_
    exact hK109 _ hf _ _ _ hP hS (lv_sub hl [1, 2, 3, 4, 5, 6, 7, 0] rfl)
set_option maxHeartbeats 4000000 in
set_option maxRecDepth 100000 in
theorem w_X8_uses_4 {p : Program} {l : Launch} {e : Env} {s : State} {m : MethodId} {args : Array Value} {below : List Frame} {meth : Method} {c : Code} {E : mEv} {r : Int32} {σ' : St} (B : gBx p m meth c cX8_uses 9 (some .int) s args RX8 (mG E)) {K4 : (Int32 × Int32 × Int32 × St → Option (Int32 × St))} (hK4 : ∀ a, K4 a = some (r, σ') → P_X8_uses_4 p l e s m args below meth c E r σ' a) (a1 : Int32) (a2 : Int32) (a3 : Int32) (σ : St) (hf : b_X8_uses_4 K4 a1 a2 a3 σ = some (r, σ')) (H : Heap) (locs : List Loc) (ls : Array Slot) (hP : gW (mG E) σ H) (hS : va_S (gA (mG E)) s.heap H locs) (hl : lv_has ls 9 [(0, .ref (mAd E 0)), (1, .int a1), (2, .int a2), (3, .int a3)]) : W p l e rm_X8_uses s m args below meth c H locs 0 0 (gQi below args s (mG E) r σ') (F0 m 4 ls []) := by
  unfold b_X8_uses_4 at hf
  obtain ⟨F, hr, hlk⟩ := id B
  have hx := F.1
  have hb := F.2.1
  have hml := F.2.2.1
  have hown := F.2.2.2.1
  have hts := F.2.2.2.2.1
  refine lv_iload_n hx hb dX8_uses_4 rfl (lv_at hl 3 rfl) ?_
  refine lv_aload_n hx hb dX8_uses_5 rfl (lv_at hl 0 rfl) ?_
  refine gf_X8_46 F hP dX8_uses_6 ?_
  refine lv_iload_n hx hb dX8_uses_9 rfl (lv_at hl 1 rfl) ?_
  obtain ⟨h1, hf⟩ := gd_e hf
  refine m_iald F hP ⟨by decide, by decide⟩ rfl h1 dX8_uses_10 ?_
  refine lv_icmp_ge (tgt := 219) hx hb dX8_uses_11 (by decide) (fun h2 => ?_) (fun h2 => ?_)
  · rw [if_pos h2] at hf
    refine lv_iload_n hx hb dX8_uses_219 rfl (lv_at hl 2 rfl) ?_
    exact g_iret B hP hS hf dX8_uses_220
  · rw [if_neg h2] at hf
    refine lv_aload_n hx hb dX8_uses_14 rfl (lv_at hl 0 rfl) ?_
    refine gf_X8_49 F hP dX8_uses_15 ?_
    refine lv_bipush (v := (7)) hx hb dX8_uses_18 (by decide) ?_
    refine lv_iload_n hx hb dX8_uses_20 rfl (lv_at hl 1 rfl) ?_
    refine lv_imul hx hb dX8_uses_21 ?_
    refine lv_iload_n hx hb dX8_uses_22 rfl (lv_at hl 3 rfl) ?_
    refine lv_iadd hx hb dX8_uses_23 ?_
    obtain ⟨h3, hf⟩ := gd_e hf
    refine m_iald F hP ⟨by decide, by decide⟩ rfl h3 dX8_uses_24 ?_
    obtain ⟨x4, ex4, hf⟩ := vl_x hf
    rw [← ex4]
    refine lv_istore (lv' := [(4, .int x4), (0, .ref (mAd E 0)), (1, .int a1), (2, .int a2), (3, .int a3)]) hx hb dX8_uses_25 hl (by decide) rfl (fun ls hl => ?_)
    refine lv_aload_n hx hb dX8_uses_27 rfl (lv_at hl 1 rfl) ?_
    refine gf_X8_52 F hP dX8_uses_28 ?_
    refine lv_bipush (v := (7)) hx hb dX8_uses_31 (by decide) ?_
    refine lv_iload_n hx hb dX8_uses_33 rfl (lv_at hl 2 rfl) ?_
    refine lv_imul hx hb dX8_uses_34 ?_
    refine lv_iload_n hx hb dX8_uses_35 rfl (lv_at hl 4 rfl) ?_
    refine lv_iadd hx hb dX8_uses_36 ?_
    obtain ⟨h5, hf⟩ := gd_e hf
    refine m_iald F hP ⟨by decide, by decide⟩ rfl h5 dX8_uses_37 ?_
    refine lv_aload_n hx hb dX8_uses_38 rfl (lv_at hl 1 rfl) ?_
    refine gf_X8_228 F hP dX8_uses_39 ?_
    refine lv_imul hx hb dX8_uses_42 ?_
    refine lv_aload_n hx hb dX8_uses_43 rfl (lv_at hl 1 rfl) ?_
    refine gf_X8_64 F hP dX8_uses_44 ?_
    refine lv_iload hx hb dX8_uses_47 (lv_at hl 0 rfl) ?_
    obtain ⟨h6, hf⟩ := gd_e hf
    refine m_iald F hP ⟨by decide, by decide⟩ rfl h6 dX8_uses_49 ?_
    obtain ⟨h7, hf⟩ := gd_e hf
    refine lv_idiv hx hb dX8_uses_50 h7 ?_
    obtain ⟨x8, ex8, hf⟩ := vl_x hf
    rw [← ex8]
    refine lv_istore (lv' := [(5, .int x8), (4, .int x4), (0, .ref (mAd E 0)), (1, .int a1), (2, .int a2), (3, .int a3)]) hx hb dX8_uses_51 hl (by decide) rfl (fun ls hl => ?_)
    refine lv_aload_n hx hb dX8_uses_53 rfl (lv_at hl 2 rfl) ?_
    refine gf_X8_103 F hP dX8_uses_54 ?_
    refine lv_iload hx hb dX8_uses_57 (lv_at hl 1 rfl) ?_
    obtain ⟨h9, hf⟩ := gd_e hf
    refine m_iald F hP ⟨by decide, by decide⟩ rfl h9 dX8_uses_59 ?_
    refine lv_if_ne (tgt := 67) hx hb dX8_uses_60 (by decide) (fun h10 => ?_) (fun h10 => ?_)
    · rw [if_neg h10] at hf
      refine lv_iload hx hb dX8_uses_67 (lv_at hl 0 rfl) ?_
      refine lv_aload_n hx hb dX8_uses_69 rfl (lv_at hl 2 rfl) ?_
      refine gf_X8_73 F hP dX8_uses_70 ?_
      refine lv_iload hx hb dX8_uses_73 (lv_at hl 1 rfl) ?_
      obtain ⟨h11, hf⟩ := gd_e hf
      refine m_iald F hP ⟨by decide, by decide⟩ rfl h11 dX8_uses_75 ?_
      refine lv_icmp_ge (tgt := 84) hx hb dX8_uses_76 (by decide) (fun h12 => ?_) (fun h12 => ?_)
      · rw [if_pos h12] at hf
        refine lv_aload_n hx hb dX8_uses_84 rfl (lv_at hl 2 rfl) ?_
        refine gf_X8_73 F hP dX8_uses_85 ?_
        refine lv_iload hx hb dX8_uses_88 (lv_at hl 1 rfl) ?_
        obtain ⟨h13, hf⟩ := gd_e hf
        refine m_iald F hP ⟨by decide, by decide⟩ rfl h13 dX8_uses_90 ?_
        obtain ⟨x14, ex14, hf⟩ := vl_x hf
        rw [← ex14]
        refine lv_istore (lv' := [(6, .int x14), (5, .int x8), (4, .int x4), (0, .ref (mAd E 0)), (1, .int a1), (2, .int a2), (3, .int a3)]) hx hb dX8_uses_91 hl (by decide) rfl (fun ls hl => ?_)
        refine lv_aload_n hx hb dX8_uses_93 rfl (lv_at hl 3 rfl) ?_
        refine lv_iload_n hx hb dX8_uses_94 rfl (lv_at hl 4 rfl) ?_
        refine lv_iload_n hx hb dX8_uses_95 rfl (lv_at hl 6 rfl) ?_
        obtain ⟨r16, σ15, h17, hf⟩ := cl_e hf
        refine kc_X8_294 F hP hS h17 ⟨Nat.le_of_ble_eq_true rfl, Nat.le_of_ble_eq_true rfl⟩ hl.1 (Nat.le_of_ble_eq_true rfl) ⟨Nat.zero_le _, Nat.zero_le _⟩ dX8_uses_96 (fun H locs hP hS => ?_)
        refine lv_aload_n hx hb dX8_uses_99 rfl (lv_at hl 3 rfl) ?_
        refine gf_X8_228 F hP dX8_uses_100 ?_
        refine lv_imul hx hb dX8_uses_103 ?_
        obtain ⟨x18, ex18, hf⟩ := vl_x hf
        rw [← ex18]
        refine lv_istore (lv' := [(7, .int x18), (6, .int x14), (5, .int x8), (4, .int x4), (0, .ref (mAd E 0)), (1, .int a1), (2, .int a2), (3, .int a3)]) hx hb dX8_uses_104 hl (by decide) rfl (fun ls hl => ?_)
        refine lv_iconst (v := 0) hx hb dX8_uses_106 (by decide) ?_
        refine lv_istore (lv' := [(8, .int (0 : Int32)), (7, .int x18), (6, .int x14), (5, .int x8), (4, .int x4), (0, .ref (mAd E 0)), (1, .int a1), (2, .int a2), (3, .int a3)]) hx hb dX8_uses_107 hl (by decide) rfl (fun ls hl => ?_)
        exact lp_w (P := P_X8_uses_109 p l e s m args below meth c E r σ') (fun K hK a ha => w_X8_uses_109 B hK hK4 a.1 a.2.1 a.2.2.1 a.2.2.2.1 a.2.2.2.2.1 a.2.2.2.2.2.1 a.2.2.2.2.2.2.1 a.2.2.2.2.2.2.2 ha) FU _ hf _ _ _ hP hS (lv_sub hl [5, 6, 7, 8, 4, 2, 1, 0] rfl)
      · rw [if_neg h12] at hf
        refine lv_iload hx hb dX8_uses_79 (lv_at hl 0 rfl) ?_
        refine lv_goto (tgt := 91) hx hb dX8_uses_81 (by decide) ?_
        refine lv_istore (lv' := [(6, .int x8), (5, .int x8), (4, .int x4), (0, .ref (mAd E 0)), (1, .int a1), (2, .int a2), (3, .int a3)]) hx hb dX8_uses_91 hl (by decide) rfl (fun ls hl => ?_)
        refine lv_aload_n hx hb dX8_uses_93 rfl (lv_at hl 3 rfl) ?_
        refine lv_iload_n hx hb dX8_uses_94 rfl (lv_at hl 4 rfl) ?_
        refine lv_iload_n hx hb dX8_uses_95 rfl (lv_at hl 6 rfl) ?_
        obtain ⟨r41, σ40, h42, hf⟩ := cl_e hf
        refine kc_X8_294 F hP hS h42 ⟨Nat.le_of_ble_eq_true rfl, Nat.le_of_ble_eq_true rfl⟩ hl.1 (Nat.le_of_ble_eq_true rfl) ⟨Nat.zero_le _, Nat.zero_le _⟩ dX8_uses_96 (fun H locs hP hS => ?_)
        refine lv_aload_n hx hb dX8_uses_99 rfl (lv_at hl 3 rfl) ?_
        refine gf_X8_228 F hP dX8_uses_100 ?_
        refine lv_imul hx hb dX8_uses_103 ?_
        obtain ⟨x43, ex43, hf⟩ := vl_x hf
        rw [← ex43]
        refine lv_istore (lv' := [(7, .int x43), (6, .int x8), (5, .int x8), (4, .int x4), (0, .ref (mAd E 0)), (1, .int a1), (2, .int a2), (3, .int a3)]) hx hb dX8_uses_104 hl (by decide) rfl (fun ls hl => ?_)
        refine lv_iconst (v := 0) hx hb dX8_uses_106 (by decide) ?_
        refine lv_istore (lv' := [(8, .int (0 : Int32)), (7, .int x43), (6, .int x8), (5, .int x8), (4, .int x4), (0, .ref (mAd E 0)), (1, .int a1), (2, .int a2), (3, .int a3)]) hx hb dX8_uses_107 hl (by decide) rfl (fun ls hl => ?_)
        exact lp_w (P := P_X8_uses_109 p l e s m args below meth c E r σ') (fun K hK a ha => w_X8_uses_109 B hK hK4 a.1 a.2.1 a.2.2.1 a.2.2.2.1 a.2.2.2.2.1 a.2.2.2.2.2.1 a.2.2.2.2.2.2.1 a.2.2.2.2.2.2.2 ha) FU _ hf _ _ _ hP hS (lv_sub hl [5, 6, 7, 8, 4, 2, 1, 0] rfl)
    · rw [if_pos h10] at hf
      refine lv_iconst (v := 0) hx hb dX8_uses_63 (by decide) ?_
      refine lv_goto (tgt := 91) hx hb dX8_uses_64 (by decide) ?_
      refine lv_istore (lv' := [(6, .int (0 : Int32)), (5, .int x8), (4, .int x4), (0, .ref (mAd E 0)), (1, .int a1), (2, .int a2), (3, .int a3)]) hx hb dX8_uses_91 hl (by decide) rfl (fun ls hl => ?_)
      refine lv_aload_n hx hb dX8_uses_93 rfl (lv_at hl 3 rfl) ?_
      refine lv_iload_n hx hb dX8_uses_94 rfl (lv_at hl 4 rfl) ?_
      refine lv_iload_n hx hb dX8_uses_95 rfl (lv_at hl 6 rfl) ?_
      obtain ⟨r45, σ44, h46, hf⟩ := cl_e hf
      refine kc_X8_294 F hP hS h46 ⟨Nat.le_of_ble_eq_true rfl, Nat.le_of_ble_eq_true rfl⟩ hl.1 (Nat.le_of_ble_eq_true rfl) ⟨Nat.zero_le _, Nat.zero_le _⟩ dX8_uses_96 (fun H locs hP hS => ?_)
      refine lv_aload_n hx hb dX8_uses_99 rfl (lv_at hl 3 rfl) ?_
      refine gf_X8_228 F hP dX8_uses_100 ?_
      refine lv_imul hx hb dX8_uses_103 ?_
      obtain ⟨x47, ex47, hf⟩ := vl_x hf
      rw [← ex47]
      refine lv_istore (lv' := [(7, .int x47), (6, .int (0 : Int32)), (5, .int x8), (4, .int x4), (0, .ref (mAd E 0)), (1, .int a1), (2, .int a2), (3, .int a3)]) hx hb dX8_uses_104 hl (by decide) rfl (fun ls hl => ?_)
      refine lv_iconst (v := 0) hx hb dX8_uses_106 (by decide) ?_
      refine lv_istore (lv' := [(8, .int (0 : Int32)), (7, .int x47), (6, .int (0 : Int32)), (5, .int x8), (4, .int x4), (0, .ref (mAd E 0)), (1, .int a1), (2, .int a2), (3, .int a3)]) hx hb dX8_uses_107 hl (by decide) rfl (fun ls hl => ?_)
      exact lp_w (P := P_X8_uses_109 p l e s m args below meth c E r σ') (fun K hK a ha => w_X8_uses_109 B hK hK4 a.1 a.2.1 a.2.2.1 a.2.2.2.1 a.2.2.2.2.1 a.2.2.2.2.2.1 a.2.2.2.2.2.2.1 a.2.2.2.2.2.2.2 ha) FU _ hf _ _ _ hP hS (lv_sub hl [5, 6, 7, 8, 4, 2, 1, 0] rfl)
set_option maxHeartbeats 4000000 in
set_option maxRecDepth 100000 in
theorem w_X8_uses_e {p : Program} {l : Launch} {e : Env} {s : State} {m : MethodId} {args : Array Value} {below : List Frame} {meth : Method} {c : Code} {E : mEv} {r : Int32} {σ' : St} (B : gBx p m meth c cX8_uses 9 (some .int) s args RX8 (mG E)) (p1 : Int32) (σ : St) (hf : f_X8_uses p1 σ = some (r, σ')) (H : Heap) (locs : List Loc) (ls : Array Slot) (hP : gW (mG E) σ H) (hS : va_S (gA (mG E)) s.heap H locs) (hl : lv_has ls 9 [(0, .ref (mAd E 0)), (1, .int p1)]) : W p l e rm_X8_uses s m args below meth c H locs 0 0 (gQi below args s (mG E) r σ') (F0 m 0 ls []) := by
  unfold f_X8_uses at hf
  obtain ⟨F, hr, hlk⟩ := id B
  have hx := F.1
  have hb := F.2.1
  have hml := F.2.2.1
  have hown := F.2.2.2.1
  have hts := F.2.2.2.2.1
  refine lv_iconst (v := 0) hx hb dX8_uses_0 (by decide) ?_
  refine lv_istore_n (lv' := [(2, .int (0 : Int32)), (0, .ref (mAd E 0)), (1, .int p1)]) hx hb dX8_uses_1 rfl hl (by decide) rfl (fun ls hl => ?_)
  refine lv_iconst (v := 0) hx hb dX8_uses_2 (by decide) ?_
  refine lv_istore_n (lv' := [(3, .int (0 : Int32)), (2, .int (0 : Int32)), (0, .ref (mAd E 0)), (1, .int p1)]) hx hb dX8_uses_3 rfl hl (by decide) rfl (fun ls hl => ?_)
  exact lp_w (P := P_X8_uses_4 p l e s m args below meth c E r σ') (fun K hK a ha => w_X8_uses_4 B hK a.1 a.2.1 a.2.2.1 a.2.2.2 ha) FU _ hf _ _ _ hP hS (lv_sub hl [2, 3, 1, 0] rfl)
theorem c_X8_uses (l : Launch) {E : mEv} (hI : gIj (mG E)) {p1 : Int32} {σ σ' : St} {r : Int32} (hf : f_X8_uses p1 σ = some (r, σ')) : gMi l yX8_uses cX8_uses 9 .int rm_X8_uses [.ref (mAd E 0), .int p1] (mG E) σ r σ' :=
  g_entry (by decide) (Nat.le_of_ble_eq_true rfl) hI (fun p e s m args below meth c B hP hS ls hl => w_X8_uses_e B _ σ hf _ _ ls hP hS hl)
section SE
variable {p : Program} {l : Launch} {e : Env} {R : Room} {s : State} {m : MethodId} {args : Array Value} {below : List Frame} {meth : Method} {c : Code} {H : Heap} {locs : List Loc} {cells slots : Nat} {Q : State → Prop}
variable {cc : ByteArray} {pc nL : Nat} {ls : Array Slot} {rest : List Value} {E : mEv} {σ : St}
theorem kc_X8_312 (F : gFx p m c cc nL s args RX8 (mG E)) (hP : gW (mG E) σ H) (hS : va_S (gA (mG E)) s.heap H locs) {p1 : Int32} {u : Unit} {σ' : St} (hf : f_X8_beacon p1 σ = some (u, σ')) (hR : rm_X8_beacon.frames + 1 ≤ R.frames ∧ 8 + (3 + 11) + rm_X8_beacon.locals ≤ R.locals) (hsz : ls.size = nL) (hrest : (rest.map fun v => v.category).sum ≤ 8) (hcs : cells ≤ R.cells ∧ slots ≤ R.slots) (hdg : decode cc pc = .ok (.invokevirtual 312, 3)) (kk : ∀ (H1 : Heap) (locs1 : List Loc), gW (mG E) σ' H1 → va_S (gA (mG E)) s.heap H1 locs1 → W p l e R s m args below meth c H1 locs1 cells slots Q (F0 m (pc + 3) ls rest)) : W p l e R s m args below meth c H locs cells slots Q (F0 m pc ls (.int p1 :: .ref (mAd E 0) :: rest)) :=
  g_callVv F hP hS (c_X8_beacon l F.2.2.2.2.2.2.2 hf) (g_cwV (n := 1) F tw_1118 tw_1120 ts_53 tw_14 tw_1121 (by decide +kernel) rfl rfl hR) (k := 0) min0 (me_0 E _) rfl (As := [.int p1]) rfl hsz rfl hrest hdg hcs kk
theorem kc_X8_334 (F : gFx p m c cc nL s args RX8 (mG E)) (hP : gW (mG E) σ H) (hS : va_S (gA (mG E)) s.heap H locs) {p1 : Int32} {r : Int32} {σ' : St} (hf : f_X8_uses p1 σ = some (r, σ')) (hR : rm_X8_uses.frames + 1 ≤ R.frames ∧ 8 + (9 + 11) + rm_X8_uses.locals ≤ R.locals) (hsz : ls.size = nL) (hrest : (rest.map fun v => v.category).sum ≤ 8) (hcs : cells ≤ R.cells ∧ slots ≤ R.slots) (hdg : decode cc pc = .ok (.invokevirtual 334, 3)) (kk : ∀ (H1 : Heap) (locs1 : List Loc), gW (mG E) σ' H1 → va_S (gA (mG E)) s.heap H1 locs1 → W p l e R s m args below meth c H1 locs1 cells slots Q (F0 m (pc + 3) ls (.int r :: rest))) : W p l e R s m args below meth c H locs cells slots Q (F0 m pc ls (.int p1 :: .ref (mAd E 0) :: rest)) :=
  g_callVi F hP hS (c_X8_uses l F.2.2.2.2.2.2.2 hf) (g_cwV (n := 1) F tw_1163 tw_1165 ts_64 tw_14 tw_1166 (by decide +kernel) rfl rfl hR) (k := 0) min0 (me_0 E _) rfl (As := [.int p1]) rfl hsz rfl hrest hdg hcs kk
theorem gf_X8_243 (F : gFx p m c cc nL s args RX8 (mG E)) (hP : gW (mG E) σ H) (hdg : decode cc pc = .ok (.getfield 243, 3)) (kk : W p l e R s m args below meth c H locs cells slots Q (F0 m (pc + 3) ls (.int (σ 0 23) :: rest))) : W p l e R s m args below meth c H locs cells slots Q (F0 m pc ls (.ref (mAd E 0) :: rest)) :=
  g_get F hP (k := 0) min0 (me_0 E _) rfl inX8 23 (by decide) tw_807 rfl rfl hdg kk
theorem kc_X8_315 (F : gFx p m c cc nL s args RX8 (mG E)) (hP : gW (mG E) σ H) (hS : va_S (gA (mG E)) s.heap H locs) {p1 : Int32} {u : Unit} {σ' : St} (hf : f_X8_stepA p1 σ = some (u, σ')) (hR : rm_X8_stepA.frames + 1 ≤ R.frames ∧ 8 + (3 + 11) + rm_X8_stepA.locals ≤ R.locals) (hsz : ls.size = nL) (hrest : (rest.map fun v => v.category).sum ≤ 8) (hcs : cells ≤ R.cells ∧ slots ≤ R.slots) (hdg : decode cc pc = .ok (.invokevirtual 315, 3)) (kk : ∀ (H1 : Heap) (locs1 : List Loc), gW (mG E) σ' H1 → va_S (gA (mG E)) s.heap H1 locs1 → W p l e R s m args below meth c H1 locs1 cells slots Q (F0 m (pc + 3) ls rest)) : W p l e R s m args below meth c H locs cells slots Q (F0 m pc ls (.int p1 :: .ref (mAd E 0) :: rest)) :=
  g_callVv F hP hS (c_X8_stepA l F.2.2.2.2.2.2.2 hf) (g_cwV (n := 1) F tw_1122 tw_1124 ts_54 tw_14 tw_1125 (by decide +kernel) rfl rfl hR) (k := 0) min0 (me_0 E _) rfl (As := [.int p1]) rfl hsz rfl hrest hdg hcs kk
theorem kc_X8_318 (F : gFx p m c cc nL s args RX8 (mG E)) (hP : gW (mG E) σ H) (hS : va_S (gA (mG E)) s.heap H locs) {p1 : Int32} {p2 : Int32} {u : Unit} {σ' : St} (hf : f_X8_stepsBC p1 p2 σ = some (u, σ')) (hR : rm_X8_stepsBC.frames + 1 ≤ R.frames ∧ 8 + (4 + 11) + rm_X8_stepsBC.locals ≤ R.locals) (hsz : ls.size = nL) (hrest : (rest.map fun v => v.category).sum ≤ 8) (hcs : cells ≤ R.cells ∧ slots ≤ R.slots) (hdg : decode cc pc = .ok (.invokevirtual 318, 3)) (kk : ∀ (H1 : Heap) (locs1 : List Loc), gW (mG E) σ' H1 → va_S (gA (mG E)) s.heap H1 locs1 → W p l e R s m args below meth c H1 locs1 cells slots Q (F0 m (pc + 3) ls rest)) : W p l e R s m args below meth c H locs cells slots Q (F0 m pc ls (.int p2 :: .int p1 :: .ref (mAd E 0) :: rest)) :=
  g_callVv F hP hS (c_X8_stepsBC l F.2.2.2.2.2.2.2 hf) (g_cwV (n := 2) F tw_1135 tw_1137 ts_57 tw_14 tw_1138 (by decide +kernel) rfl rfl hR) (k := 0) min0 (me_0 E _) rfl (As := [.int p1, .int p2]) rfl hsz rfl hrest hdg hcs kk
theorem kc_X8_321 (F : gFx p m c cc nL s args RX8 (mG E)) (hP : gW (mG E) σ H) (hS : va_S (gA (mG E)) s.heap H locs) {p1 : Int32} {p2 : Int32} {r : Int32} {σ' : St} (hf : f_X8_sending p1 p2 σ = some (r, σ')) (hR : rm_X8_sending.frames + 1 ≤ R.frames ∧ 8 + (6 + 11) + rm_X8_sending.locals ≤ R.locals) (hsz : ls.size = nL) (hrest : (rest.map fun v => v.category).sum ≤ 8) (hcs : cells ≤ R.cells ∧ slots ≤ R.slots) (hdg : decode cc pc = .ok (.invokevirtual 321, 3)) (kk : ∀ (H1 : Heap) (locs1 : List Loc), gW (mG E) σ' H1 → va_S (gA (mG E)) s.heap H1 locs1 → W p l e R s m args below meth c H1 locs1 cells slots Q (F0 m (pc + 3) ls (.int r :: rest))) : W p l e R s m args below meth c H locs cells slots Q (F0 m pc ls (.int p2 :: .int p1 :: .ref (mAd E 0) :: rest)) :=
  g_callVi F hP hS (c_X8_sending l F.2.2.2.2.2.2.2 hf) (g_cwV (n := 2) F tw_1139 tw_1141 ts_58 tw_14 tw_1142 (by decide +kernel) rfl rfl hR) (k := 0) min0 (me_0 E _) rfl (As := [.int p1, .int p2]) rfl hsz rfl hrest hdg hcs kk
theorem kc_X8_324 (F : gFx p m c cc nL s args RX8 (mG E)) (hP : gW (mG E) σ H) (hS : va_S (gA (mG E)) s.heap H locs) {p1 : Int32} {u : Unit} {σ' : St} (hf : f_X8_stepD p1 σ = some (u, σ')) (hR : rm_X8_stepD.frames + 1 ≤ R.frames ∧ 8 + (3 + 11) + rm_X8_stepD.locals ≤ R.locals) (hsz : ls.size = nL) (hrest : (rest.map fun v => v.category).sum ≤ 8) (hcs : cells ≤ R.cells ∧ slots ≤ R.slots) (hdg : decode cc pc = .ok (.invokevirtual 324, 3)) (kk : ∀ (H1 : Heap) (locs1 : List Loc), gW (mG E) σ' H1 → va_S (gA (mG E)) s.heap H1 locs1 → W p l e R s m args below meth c H1 locs1 cells slots Q (F0 m (pc + 3) ls rest)) : W p l e R s m args below meth c H locs cells slots Q (F0 m pc ls (.int p1 :: .ref (mAd E 0) :: rest)) :=
  g_callVv F hP hS (c_X8_stepD l F.2.2.2.2.2.2.2 hf) (g_cwV (n := 1) F tw_1143 tw_1145 ts_59 tw_14 tw_1146 (by decide +kernel) rfl rfl hR) (k := 0) min0 (me_0 E _) rfl (As := [.int p1]) rfl hsz rfl hrest hdg hcs kk
theorem kc_X8_328 (F : gFx p m c cc nL s args RX8 (mG E)) (hP : gW (mG E) σ H) (hS : va_S (gA (mG E)) s.heap H locs) {u : Unit} {σ' : St} (hf : f_X8_stepE σ = some (u, σ')) (hR : rm_X8_stepE.frames + 1 ≤ R.frames ∧ 8 + (2 + 11) + rm_X8_stepE.locals ≤ R.locals) (hsz : ls.size = nL) (hrest : (rest.map fun v => v.category).sum ≤ 8) (hcs : cells ≤ R.cells ∧ slots ≤ R.slots) (hdg : decode cc pc = .ok (.invokevirtual 328, 3)) (kk : ∀ (H1 : Heap) (locs1 : List Loc), gW (mG E) σ' H1 → va_S (gA (mG E)) s.heap H1 locs1 → W p l e R s m args below meth c H1 locs1 cells slots Q (F0 m (pc + 3) ls rest)) : W p l e R s m args below meth c H locs cells slots Q (F0 m pc ls (.ref (mAd E 0) :: rest)) :=
  g_callVv F hP hS (c_X8_stepE l F.2.2.2.2.2.2.2 hf) (g_cwV (n := 0) F tw_1151 tw_1153 ts_61 tw_14 tw_1154 (by decide +kernel) rfl rfl hR) (k := 0) min0 (me_0 E _) rfl (As := []) rfl hsz rfl hrest hdg hcs kk
theorem kc_X8_331 (F : gFx p m c cc nL s args RX8 (mG E)) (hP : gW (mG E) σ H) (hS : va_S (gA (mG E)) s.heap H locs) {r : Int32} {σ' : St} (hf : f_X8_stepF σ = some (r, σ')) (hR : rm_X8_stepF.frames + 1 ≤ R.frames ∧ 8 + (3 + 11) + rm_X8_stepF.locals ≤ R.locals) (hsz : ls.size = nL) (hrest : (rest.map fun v => v.category).sum ≤ 8) (hcs : cells ≤ R.cells ∧ slots ≤ R.slots) (hdg : decode cc pc = .ok (.invokevirtual 331, 3)) (kk : ∀ (H1 : Heap) (locs1 : List Loc), gW (mG E) σ' H1 → va_S (gA (mG E)) s.heap H1 locs1 → W p l e R s m args below meth c H1 locs1 cells slots Q (F0 m (pc + 3) ls (.int r :: rest))) : W p l e R s m args below meth c H locs cells slots Q (F0 m pc ls (.ref (mAd E 0) :: rest)) :=
  g_callVi F hP hS (c_X8_stepF l F.2.2.2.2.2.2.2 hf) (g_cwV (n := 0) F tw_1155 tw_1157 ts_62 tw_14 tw_1158 (by decide +kernel) rfl rfl hR) (k := 0) min0 (me_0 E _) rfl (As := []) rfl hsz rfl hrest hdg hcs kk
end SE
/-! PromisedSlotsModel.part(I)I -/
def b_X8_part_116 (K116 : (Int32 × Int32 × Int32 × St → Option (Int32 × St))) (a1 : Int32) (a3 : Int32) (a4 : Int32) (σ : St) : Option (Int32 × St) :=
  if (σ 0 35) ≤ a4 then
    cl (f_X8_uses a1 σ) fun r12 σ11 =>
    vl (a3 + r12) fun x14 =>
    gd (ix a1 4) <|
    vl (up2 σ11 0 21 ((σ11 27 (nt a1)) + (σ11 0 17))) fun σ16 =>
    gd (ix a1 4) <|
    gd (ix a1 4) <|
    vl (up2 σ16 27 (nt a1) ((σ16 27 (nt a1)) + (σ16 0 16))) fun σ19 =>
    gd (ix a1 4) <|
    gd (ix a1 4) <|
    vl (up2 σ19 28 (nt a1) ((σ19 28 (nt a1)) + (1 : Int32))) fun σ22 =>
    vl (up2 σ22 0 23 ((σ22 0 23) + (1 : Int32))) fun σ23 =>
    some (x14, σ23)
  else
    gd (ix a4 8) <|
    if (σ 50 (nt a4)) = (1 : Int32) then
      gd (ix a4 8) <|
      if (σ 45 (nt a4)) = (1 : Int32) then
        gd (ix a4 8) <|
        vl (up2 σ 45 (nt a4) (3 : Int32)) fun σ33 =>
        vl (a4 + (1 : Int32)) fun x34 =>
        K116 (a1, a3, x34, σ33)
      else
        gd (ix a4 8) <|
        if (σ 45 (nt a4)) = (2 : Int32) then
          gd (ix a4 8) <|
          vl (up2 σ 45 (nt a4) (3 : Int32)) fun σ42 =>
          vl (a4 + (1 : Int32)) fun x43 =>
          K116 (a1, a3, x43, σ42)
        else
          gd (ix a4 8) <|
          gd (ix a4 8) <|
          vl (up2 σ 45 (nt a4) (σ 45 (nt a4))) fun σ39 =>
          vl (a4 + (1 : Int32)) fun x40 =>
          K116 (a1, a3, x40, σ39)
    else
      gd (ix a4 8) <|
      gd (ix a4 8) <|
      vl (up2 σ 45 (nt a4) (σ 45 (nt a4))) fun σ28 =>
      vl (a4 + (1 : Int32)) fun x29 =>
      K116 (a1, a3, x29, σ28)
def b_X8_part_58 (K58 : (Int32 × Int32 × Int32 × Int32 × St → Option (Int32 × St))) (a1 : Int32) (a2 : Int32) (a3 : Int32) (a4 : Int32) (σ : St) : Option (Int32 × St) :=
  if a2 ≤ a4 then
    lp (fun K a => b_X8_part_116 K a.1 a.2.1 a.2.2.1 a.2.2.2) FU (a1, a3, (0 : Int32), σ)
  else
    cl (f_X8_stepA a4 σ) fun r45 σ44 =>
    cl (f_X8_stepsBC a4 a2 σ44) fun r48 σ47 =>
    cl (f_X8_sending a1 a4 σ47) fun r51 σ50 =>
    if r51 ≤ 0 then
      cl (f_X8_stepD (0 : Int32) σ50) fun r55 σ54 =>
      cl (f_X8_stepE σ54) fun r58 σ57 =>
      cl (f_X8_stepF σ57) fun r61 σ60 =>
      vl (a3 + r61) fun x63 =>
      vl (a4 + (1 : Int32)) fun x64 =>
      K58 (a1, a2, x63, x64, σ60)
    else
      cl (f_X8_stepD (1 : Int32) σ50) fun r66 σ65 =>
      cl (f_X8_stepE σ65) fun r69 σ68 =>
      cl (f_X8_stepF σ68) fun r72 σ71 =>
      vl (a3 + r72) fun x74 =>
      vl (a4 + (1 : Int32)) fun x75 =>
      K58 (a1, a2, x74, x75, σ71)
def b_X8_part_2 (K2 : (Int32 × Int32 × St → Option (Int32 × St))) (a1 : Int32) (a2 : Int32) (σ : St) : Option (Int32 × St) :=
  if (σ 0 17) ≤ a2 then
    cl (f_X8_beacon a1 σ) fun r3 σ2 =>
    cl (f_X8_shared a1 σ2) fun r6 σ5 =>
    vl (r6 * (σ5 0 18)) fun x8 =>
    lp (fun K a => b_X8_part_58 K a.1 a.2.1 a.2.2.1 a.2.2.2.1 a.2.2.2.2) FU (a1, x8, (0 : Int32), (1 : Int32), σ5)
  else
    if a2 = 0 then
      gd (ix (((384 : Int32) * a1) + a2) 1536) <|
      vl (up2 σ 34 (nt (((384 : Int32) * a1) + a2)) (1 : Int32)) fun σ81 =>
      vl (a2 + (1 : Int32)) fun x82 =>
      K2 (a1, x82, σ81)
    else
      gd (ix (((384 : Int32) * a1) + a2) 1536) <|
      vl (up2 σ 34 (nt (((384 : Int32) * a1) + a2)) (0 : Int32)) fun σ78 =>
      vl (a2 + (1 : Int32)) fun x79 =>
      K2 (a1, x79, σ78)
def f_X8_part (p1 : Int32) (σ : St) : Option (Int32 × St) :=
  lp (fun K a => b_X8_part_2 K a.1 a.2.1 a.2.2) FU (p1, (0 : Int32), σ)
abbrev rm_X8_part : Room := { frames := 4, cells := 0, slots := 0, locals := 85 }
def P_X8_part_2 (p : Program) (l : Launch) (e : Env) (s : State) (m : MethodId) (args : Array Value) (below : List Frame) (meth : Method) (c : Code) (E : mEv) (r : Int32) (σ' : St) (a : Int32 × Int32 × St) : Prop := ∀ (H : Heap) (locs : List Loc) (ls : Array Slot), gW (mG E) a.2.2 H → va_S (gA (mG E)) s.heap H locs → lv_has ls 5 [(0, .ref (mAd E 0)), (1, .int a.1), (2, .int a.2.1)] → W p l e rm_X8_part s m args below meth c H locs 0 0 (gQi below args s (mG E) r σ') (F0 m 2 ls [])
def P_X8_part_58 (p : Program) (l : Launch) (e : Env) (s : State) (m : MethodId) (args : Array Value) (below : List Frame) (meth : Method) (c : Code) (E : mEv) (r : Int32) (σ' : St) (a : Int32 × Int32 × Int32 × Int32 × St) : Prop := ∀ (H : Heap) (locs : List Loc) (ls : Array Slot), gW (mG E) a.2.2.2.2 H → va_S (gA (mG E)) s.heap H locs → lv_has ls 5 [(0, .ref (mAd E 0)), (1, .int a.1), (2, .int a.2.1), (3, .int a.2.2.1), (4, .int a.2.2.2.1)] → W p l e rm_X8_part s m args below meth c H locs 0 0 (gQi below args s (mG E) r σ') (F0 m 58 ls [])
def P_X8_part_116 (p : Program) (l : Launch) (e : Env) (s : State) (m : MethodId) (args : Array Value) (below : List Frame) (meth : Method) (c : Code) (E : mEv) (r : Int32) (σ' : St) (a : Int32 × Int32 × Int32 × St) : Prop := ∀ (H : Heap) (locs : List Loc) (ls : Array Slot), gW (mG E) a.2.2.2 H → va_S (gA (mG E)) s.heap H locs → lv_has ls 5 [(0, .ref (mAd E 0)), (1, .int a.1), (3, .int a.2.1), (4, .int a.2.2.1)] → W p l e rm_X8_part s m args below meth c H locs 0 0 (gQi below args s (mG E) r σ') (F0 m 116 ls [])
set_option maxHeartbeats 4000000 in
set_option maxRecDepth 100000 in
theorem w_X8_part_116 {p : Program} {l : Launch} {e : Env} {s : State} {m : MethodId} {args : Array Value} {below : List Frame} {meth : Method} {c : Code} {E : mEv} {r : Int32} {σ' : St} (B : gBx p m meth c cX8_part 5 (some .int) s args RX8 (mG E)) {K116 : (Int32 × Int32 × Int32 × St → Option (Int32 × St))} (hK116 : ∀ a, K116 a = some (r, σ') → P_X8_part_116 p l e s m args below meth c E r σ' a) (a1 : Int32) (a3 : Int32) (a4 : Int32) (σ : St) (hf : b_X8_part_116 K116 a1 a3 a4 σ = some (r, σ')) (H : Heap) (locs : List Loc) (ls : Array Slot) (hP : gW (mG E) σ H) (hS : va_S (gA (mG E)) s.heap H locs) (hl : lv_has ls 5 [(0, .ref (mAd E 0)), (1, .int a1), (3, .int a3), (4, .int a4)]) : W p l e rm_X8_part s m args below meth c H locs 0 0 (gQi below args s (mG E) r σ') (F0 m 116 ls []) := by
  unfold b_X8_part_116 at hf
  obtain ⟨F, hr, hlk⟩ := id B
  have hx := F.1
  have hb := F.2.1
  have hml := F.2.2.1
  have hown := F.2.2.2.1
  have hts := F.2.2.2.2.1
  refine lv_iload hx hb dX8_part_116 (lv_at hl 3 rfl) ?_
  refine lv_aload_n hx hb dX8_part_118 rfl (lv_at hl 0 rfl) ?_
  refine gf_X8_219 F hP dX8_part_119 ?_
  refine lv_icmp_ge (tgt := 182) hx hb dX8_part_122 (by decide) (fun h10 => ?_) (fun h10 => ?_)
  · rw [if_pos h10] at hf
    refine lv_iload_n hx hb dX8_part_182 rfl (lv_at hl 2 rfl) ?_
    refine lv_aload_n hx hb dX8_part_183 rfl (lv_at hl 0 rfl) ?_
    refine lv_iload_n hx hb dX8_part_184 rfl (lv_at hl 1 rfl) ?_
    obtain ⟨r12, σ11, h13, hf⟩ := cl_e hf
    refine kc_X8_334 F hP hS h13 ⟨Nat.le_of_ble_eq_true rfl, Nat.le_of_ble_eq_true rfl⟩ hl.1 (Nat.le_of_ble_eq_true rfl) ⟨Nat.zero_le _, Nat.zero_le _⟩ dX8_part_185 (fun H locs hP hS => ?_)
    refine lv_iadd hx hb dX8_part_188 ?_
    obtain ⟨x14, ex14, hf⟩ := vl_x hf
    rw [← ex14]
    refine lv_istore_n (lv' := [(3, .int x14), (0, .ref (mAd E 0)), (1, .int a1), (4, .int a4)]) hx hb dX8_part_189 rfl hl (by decide) rfl (fun ls hl => ?_)
    refine lv_aload_n hx hb dX8_part_190 rfl (lv_at hl 1 rfl) ?_
    refine lv_aload_n hx hb dX8_part_191 rfl (lv_at hl 1 rfl) ?_
    refine gf_X8_37 F hP dX8_part_192 ?_
    refine lv_iload_n hx hb dX8_part_195 rfl (lv_at hl 2 rfl) ?_
    obtain ⟨h15, hf⟩ := gd_e hf
    refine m_iald F hP ⟨by decide, by decide⟩ rfl h15 dX8_part_196 ?_
    refine lv_aload_n hx hb dX8_part_197 rfl (lv_at hl 1 rfl) ?_
    refine gf_X8_225 F hP dX8_part_198 ?_
    refine lv_iadd hx hb dX8_part_201 ?_
    refine pf_X8_237 F hP hS dX8_part_202 (fun H locs hP hS => ?_)
    obtain ⟨σ16, eσ16, hf⟩ := vl_x hf
    rw [← eσ16] at hP
    refine lv_aload_n hx hb dX8_part_205 rfl (lv_at hl 1 rfl) ?_
    refine gf_X8_37 F hP dX8_part_206 ?_
    refine lv_iload_n hx hb dX8_part_209 rfl (lv_at hl 2 rfl) ?_
    refine lv_dup2_11 hx hb dX8_part_210 rfl rfl ?_
    obtain ⟨h17, hf⟩ := gd_e hf
    refine m_iald F hP ⟨by decide, by decide⟩ rfl h17 dX8_part_211 ?_
    refine lv_aload_n hx hb dX8_part_212 rfl (lv_at hl 1 rfl) ?_
    refine gf_X8_222 F hP dX8_part_213 ?_
    refine lv_iadd hx hb dX8_part_216 ?_
    obtain ⟨h18, hf⟩ := gd_e hf
    refine m_iast F hP hS ⟨by decide, by decide⟩ rfl h18 dX8_part_217 (fun H locs hP hS => ?_)
    obtain ⟨σ19, eσ19, hf⟩ := vl_x hf
    rw [← eσ19] at hP
    refine lv_aload_n hx hb dX8_part_218 rfl (lv_at hl 1 rfl) ?_
    refine gf_X8_40 F hP dX8_part_219 ?_
    refine lv_iload_n hx hb dX8_part_222 rfl (lv_at hl 2 rfl) ?_
    refine lv_dup2_11 hx hb dX8_part_223 rfl rfl ?_
    obtain ⟨h20, hf⟩ := gd_e hf
    refine m_iald F hP ⟨by decide, by decide⟩ rfl h20 dX8_part_224 ?_
    refine lv_iconst (v := 1) hx hb dX8_part_225 (by decide) ?_
    refine lv_iadd hx hb dX8_part_226 ?_
    obtain ⟨h21, hf⟩ := gd_e hf
    refine m_iast F hP hS ⟨by decide, by decide⟩ rfl h21 dX8_part_227 (fun H locs hP hS => ?_)
    obtain ⟨σ22, eσ22, hf⟩ := vl_x hf
    rw [← eσ22] at hP
    refine lv_aload_n hx hb dX8_part_228 rfl (lv_at hl 1 rfl) ?_
    refine lv_dup hx hb dX8_part_229 rfl ?_
    refine gf_X8_243 F hP dX8_part_230 ?_
    refine lv_iconst (v := 1) hx hb dX8_part_233 (by decide) ?_
    refine lv_iadd hx hb dX8_part_234 ?_
    refine pf_X8_243 F hP hS dX8_part_235 (fun H locs hP hS => ?_)
    obtain ⟨σ23, eσ23, hf⟩ := vl_x hf
    rw [← eσ23] at hP
    refine lv_iload_n hx hb dX8_part_238 rfl (lv_at hl 0 rfl) ?_
    exact g_iret B hP hS hf dX8_part_239
  · rw [if_neg h10] at hf
    refine lv_aload_n hx hb dX8_part_125 rfl (lv_at hl 0 rfl) ?_
    refine gf_X8_88 F hP dX8_part_126 ?_
    refine lv_iload hx hb dX8_part_129 (lv_at hl 3 rfl) ?_
    refine lv_aload_n hx hb dX8_part_131 rfl (lv_at hl 0 rfl) ?_
    refine gf_X8_103 F hP dX8_part_132 ?_
    refine lv_iload hx hb dX8_part_135 (lv_at hl 3 rfl) ?_
    obtain ⟨h24, hf⟩ := gd_e hf
    refine m_iald F hP ⟨by decide, by decide⟩ rfl h24 dX8_part_137 ?_
    refine lv_iconst (v := 1) hx hb dX8_part_138 (by decide) ?_
    refine lv_icmp_ne (tgt := 168) hx hb dX8_part_139 (by decide) (fun h25 => ?_) (fun h25 => ?_)
    · rw [if_neg h25] at hf
      refine lv_aload_n hx hb dX8_part_168 rfl (lv_at hl 0 rfl) ?_
      refine gf_X8_88 F hP dX8_part_169 ?_
      refine lv_iload hx hb dX8_part_172 (lv_at hl 3 rfl) ?_
      obtain ⟨h26, hf⟩ := gd_e hf
      refine m_iald F hP ⟨by decide, by decide⟩ rfl h26 dX8_part_174 ?_
      obtain ⟨h27, hf⟩ := gd_e hf
      refine m_iast F hP hS ⟨by decide, by decide⟩ rfl h27 dX8_part_175 (fun H locs hP hS => ?_)
      obtain ⟨σ28, eσ28, hf⟩ := vl_x hf
      rw [← eσ28] at hP
      refine lv_iinc (v := a4 + (1 : Int32)) (lv' := [(4, .int (a4 + (1 : Int32))), (0, .ref (mAd E 0)), (1, .int a1), (3, .int a3)]) hx hb dX8_part_176 hl (k := 3) rfl rfl (by decide) rfl (fun ls hl => ?_)
      obtain ⟨x29, ex29, hf⟩ := vl_x hf
      rw [← ex29] at hl
      refine lv_goto (tgt := 116) hx hb dX8_part_179 (by decide) ?_
      exact hK116 _ hf _ _ _ hP hS (lv_sub hl [1, 2, 3, 0] rfl)
    · rw [if_pos h25] at hf
      refine lv_aload_n hx hb dX8_part_142 rfl (lv_at hl 0 rfl) ?_
      refine gf_X8_88 F hP dX8_part_143 ?_
      refine lv_iload hx hb dX8_part_146 (lv_at hl 3 rfl) ?_
      obtain ⟨h30, hf⟩ := gd_e hf
      refine m_iald F hP ⟨by decide, by decide⟩ rfl h30 dX8_part_148 ?_
      refine lv_iconst (v := 1) hx hb dX8_part_149 (by decide) ?_
      refine lv_icmp_eq (tgt := 164) hx hb dX8_part_150 (by decide) (fun h31 => ?_) (fun h31 => ?_)
      · rw [if_pos h31] at hf
        refine lv_iconst (v := 3) hx hb dX8_part_164 (by decide) ?_
        refine lv_goto (tgt := 175) hx hb dX8_part_165 (by decide) ?_
        obtain ⟨h32, hf⟩ := gd_e hf
        refine m_iast F hP hS ⟨by decide, by decide⟩ rfl h32 dX8_part_175 (fun H locs hP hS => ?_)
        obtain ⟨σ33, eσ33, hf⟩ := vl_x hf
        rw [← eσ33] at hP
        refine lv_iinc (v := a4 + (1 : Int32)) (lv' := [(4, .int (a4 + (1 : Int32))), (0, .ref (mAd E 0)), (1, .int a1), (3, .int a3)]) hx hb dX8_part_176 hl (k := 3) rfl rfl (by decide) rfl (fun ls hl => ?_)
        obtain ⟨x34, ex34, hf⟩ := vl_x hf
        rw [← ex34] at hl
        refine lv_goto (tgt := 116) hx hb dX8_part_179 (by decide) ?_
        exact hK116 _ hf _ _ _ hP hS (lv_sub hl [1, 2, 3, 0] rfl)
      · rw [if_neg h31] at hf
        refine lv_aload_n hx hb dX8_part_153 rfl (lv_at hl 0 rfl) ?_
        refine gf_X8_88 F hP dX8_part_154 ?_
        refine lv_iload hx hb dX8_part_157 (lv_at hl 3 rfl) ?_
        obtain ⟨h35, hf⟩ := gd_e hf
        refine m_iald F hP ⟨by decide, by decide⟩ rfl h35 dX8_part_159 ?_
        refine lv_iconst (v := 2) hx hb dX8_part_160 (by decide) ?_
        refine lv_icmp_ne (tgt := 168) hx hb dX8_part_161 (by decide) (fun h36 => ?_) (fun h36 => ?_)
        · rw [if_neg h36] at hf
          refine lv_aload_n hx hb dX8_part_168 rfl (lv_at hl 0 rfl) ?_
          refine gf_X8_88 F hP dX8_part_169 ?_
          refine lv_iload hx hb dX8_part_172 (lv_at hl 3 rfl) ?_
          obtain ⟨h37, hf⟩ := gd_e hf
          refine m_iald F hP ⟨by decide, by decide⟩ rfl h37 dX8_part_174 ?_
          obtain ⟨h38, hf⟩ := gd_e hf
          refine m_iast F hP hS ⟨by decide, by decide⟩ rfl h38 dX8_part_175 (fun H locs hP hS => ?_)
          obtain ⟨σ39, eσ39, hf⟩ := vl_x hf
          rw [← eσ39] at hP
          refine lv_iinc (v := a4 + (1 : Int32)) (lv' := [(4, .int (a4 + (1 : Int32))), (0, .ref (mAd E 0)), (1, .int a1), (3, .int a3)]) hx hb dX8_part_176 hl (k := 3) rfl rfl (by decide) rfl (fun ls hl => ?_)
          obtain ⟨x40, ex40, hf⟩ := vl_x hf
          rw [← ex40] at hl
          refine lv_goto (tgt := 116) hx hb dX8_part_179 (by decide) ?_
          exact hK116 _ hf _ _ _ hP hS (lv_sub hl [1, 2, 3, 0] rfl)
        · rw [if_pos h36] at hf
          refine lv_iconst (v := 3) hx hb dX8_part_164 (by decide) ?_
          refine lv_goto (tgt := 175) hx hb dX8_part_165 (by decide) ?_
          obtain ⟨h41, hf⟩ := gd_e hf
          refine m_iast F hP hS ⟨by decide, by decide⟩ rfl h41 dX8_part_175 (fun H locs hP hS => ?_)
          obtain ⟨σ42, eσ42, hf⟩ := vl_x hf
          rw [← eσ42] at hP
          refine lv_iinc (v := a4 + (1 : Int32)) (lv' := [(4, .int (a4 + (1 : Int32))), (0, .ref (mAd E 0)), (1, .int a1), (3, .int a3)]) hx hb dX8_part_176 hl (k := 3) rfl rfl (by decide) rfl (fun ls hl => ?_)
          obtain ⟨x43, ex43, hf⟩ := vl_x hf
          rw [← ex43] at hl
          refine lv_goto (tgt := 116) hx hb dX8_part_179 (by decide) ?_
          exact hK116 _ hf _ _ _ hP hS (lv_sub hl [1, 2, 3, 0] rfl)
set_option maxHeartbeats 4000000 in
set_option maxRecDepth 100000 in
theorem w_X8_part_58 {p : Program} {l : Launch} {e : Env} {s : State} {m : MethodId} {args : Array Value} {below : List Frame} {meth : Method} {c : Code} {E : mEv} {r : Int32} {σ' : St} (B : gBx p m meth c cX8_part 5 (some .int) s args RX8 (mG E)) {K58 : (Int32 × Int32 × Int32 × Int32 × St → Option (Int32 × St))} (hK58 : ∀ a, K58 a = some (r, σ') → P_X8_part_58 p l e s m args below meth c E r σ' a) (a1 : Int32) (a2 : Int32) (a3 : Int32) (a4 : Int32) (σ : St) (hf : b_X8_part_58 K58 a1 a2 a3 a4 σ = some (r, σ')) (H : Heap) (locs : List Loc) (ls : Array Slot) (hP : gW (mG E) σ H) (hS : va_S (gA (mG E)) s.heap H locs) (hl : lv_has ls 5 [(0, .ref (mAd E 0)), (1, .int a1), (2, .int a2), (3, .int a3), (4, .int a4)]) : W p l e rm_X8_part s m args below meth c H locs 0 0 (gQi below args s (mG E) r σ') (F0 m 58 ls []) := by
  unfold b_X8_part_58 at hf
  obtain ⟨F, hr, hlk⟩ := id B
  have hx := F.1
  have hb := F.2.1
  have hml := F.2.2.1
  have hown := F.2.2.2.1
  have hts := F.2.2.2.2.1
  refine lv_iload hx hb dX8_part_58 (lv_at hl 4 rfl) ?_
  refine lv_iload_n hx hb dX8_part_60 rfl (lv_at hl 2 rfl) ?_
  refine lv_icmp_ge (tgt := 113) hx hb dX8_part_61 (by decide) (fun h9 => ?_) (fun h9 => ?_)
  · rw [if_pos h9] at hf
    refine lv_iconst (v := 0) hx hb dX8_part_113 (by decide) ?_
    refine lv_istore (lv' := [(4, .int (0 : Int32)), (0, .ref (mAd E 0)), (1, .int a1), (2, .int a2), (3, .int a3)]) hx hb dX8_part_114 hl (by decide) rfl (fun ls hl => ?_)
    exact lp_w (P := P_X8_part_116 p l e s m args below meth c E r σ') (fun K hK a ha => w_X8_part_116 B hK a.1 a.2.1 a.2.2.1 a.2.2.2 ha) FU _ hf _ _ _ hP hS (lv_sub hl [1, 2, 4, 0] rfl)
  · rw [if_neg h9] at hf
    refine lv_aload_n hx hb dX8_part_64 rfl (lv_at hl 0 rfl) ?_
    refine lv_iload hx hb dX8_part_65 (lv_at hl 4 rfl) ?_
    obtain ⟨r45, σ44, h46, hf⟩ := cl_e hf
    refine kc_X8_315 F hP hS h46 ⟨Nat.le_of_ble_eq_true rfl, Nat.le_of_ble_eq_true rfl⟩ hl.1 (Nat.le_of_ble_eq_true rfl) ⟨Nat.zero_le _, Nat.zero_le _⟩ dX8_part_67 (fun H locs hP hS => ?_)
    refine lv_aload_n hx hb dX8_part_70 rfl (lv_at hl 0 rfl) ?_
    refine lv_iload hx hb dX8_part_71 (lv_at hl 4 rfl) ?_
    refine lv_iload_n hx hb dX8_part_73 rfl (lv_at hl 2 rfl) ?_
    obtain ⟨r48, σ47, h49, hf⟩ := cl_e hf
    refine kc_X8_318 F hP hS h49 ⟨Nat.le_of_ble_eq_true rfl, Nat.le_of_ble_eq_true rfl⟩ hl.1 (Nat.le_of_ble_eq_true rfl) ⟨Nat.zero_le _, Nat.zero_le _⟩ dX8_part_74 (fun H locs hP hS => ?_)
    refine lv_aload_n hx hb dX8_part_77 rfl (lv_at hl 0 rfl) ?_
    refine lv_aload_n hx hb dX8_part_78 rfl (lv_at hl 0 rfl) ?_
    refine lv_iload_n hx hb dX8_part_79 rfl (lv_at hl 1 rfl) ?_
    refine lv_iload hx hb dX8_part_80 (lv_at hl 4 rfl) ?_
    obtain ⟨r51, σ50, h52, hf⟩ := cl_e hf
    refine kc_X8_321 F hP hS h52 ⟨Nat.le_of_ble_eq_true rfl, Nat.le_of_ble_eq_true rfl⟩ hl.1 (Nat.le_of_ble_eq_true rfl) ⟨Nat.zero_le _, Nat.zero_le _⟩ dX8_part_82 (fun H locs hP hS => ?_)
    refine lv_if_le (tgt := 92) hx hb dX8_part_85 (by decide) (fun h53 => ?_) (fun h53 => ?_)
    · rw [if_pos h53] at hf
      refine lv_iconst (v := 0) hx hb dX8_part_92 (by decide) ?_
      obtain ⟨r55, σ54, h56, hf⟩ := cl_e hf
      refine kc_X8_324 F hP hS h56 ⟨Nat.le_of_ble_eq_true rfl, Nat.le_of_ble_eq_true rfl⟩ hl.1 (Nat.le_of_ble_eq_true rfl) ⟨Nat.zero_le _, Nat.zero_le _⟩ dX8_part_93 (fun H locs hP hS => ?_)
      refine lv_aload_n hx hb dX8_part_96 rfl (lv_at hl 0 rfl) ?_
      obtain ⟨r58, σ57, h59, hf⟩ := cl_e hf
      refine kc_X8_328 F hP hS h59 ⟨Nat.le_of_ble_eq_true rfl, Nat.le_of_ble_eq_true rfl⟩ hl.1 (Nat.le_of_ble_eq_true rfl) ⟨Nat.zero_le _, Nat.zero_le _⟩ dX8_part_97 (fun H locs hP hS => ?_)
      refine lv_iload_n hx hb dX8_part_100 rfl (lv_at hl 3 rfl) ?_
      refine lv_aload_n hx hb dX8_part_101 rfl (lv_at hl 0 rfl) ?_
      obtain ⟨r61, σ60, h62, hf⟩ := cl_e hf
      refine kc_X8_331 F hP hS h62 ⟨Nat.le_of_ble_eq_true rfl, Nat.le_of_ble_eq_true rfl⟩ hl.1 (Nat.le_of_ble_eq_true rfl) ⟨Nat.zero_le _, Nat.zero_le _⟩ dX8_part_102 (fun H locs hP hS => ?_)
      refine lv_iadd hx hb dX8_part_105 ?_
      obtain ⟨x63, ex63, hf⟩ := vl_x hf
      rw [← ex63]
      refine lv_istore_n (lv' := [(3, .int x63), (0, .ref (mAd E 0)), (1, .int a1), (2, .int a2), (4, .int a4)]) hx hb dX8_part_106 rfl hl (by decide) rfl (fun ls hl => ?_)
      refine lv_iinc (v := a4 + (1 : Int32)) (lv' := [(4, .int (a4 + (1 : Int32))), (3, .int x63), (0, .ref (mAd E 0)), (1, .int a1), (2, .int a2)]) hx hb dX8_part_107 hl (k := 4) rfl rfl (by decide) rfl (fun ls hl => ?_)
      obtain ⟨x64, ex64, hf⟩ := vl_x hf
      rw [← ex64] at hl
      refine lv_goto (tgt := 58) hx hb dX8_part_110 (by decide) ?_
      exact hK58 _ hf _ _ _ hP hS (lv_sub hl [2, 3, 4, 1, 0] rfl)
    · rw [if_neg h53] at hf
      refine lv_iconst (v := 1) hx hb dX8_part_88 (by decide) ?_
      refine lv_goto (tgt := 93) hx hb dX8_part_89 (by decide) ?_
      obtain ⟨r66, σ65, h67, hf⟩ := cl_e hf
      refine kc_X8_324 F hP hS h67 ⟨Nat.le_of_ble_eq_true rfl, Nat.le_of_ble_eq_true rfl⟩ hl.1 (Nat.le_of_ble_eq_true rfl) ⟨Nat.zero_le _, Nat.zero_le _⟩ dX8_part_93 (fun H locs hP hS => ?_)
      refine lv_aload_n hx hb dX8_part_96 rfl (lv_at hl 0 rfl) ?_
      obtain ⟨r69, σ68, h70, hf⟩ := cl_e hf
      refine kc_X8_328 F hP hS h70 ⟨Nat.le_of_ble_eq_true rfl, Nat.le_of_ble_eq_true rfl⟩ hl.1 (Nat.le_of_ble_eq_true rfl) ⟨Nat.zero_le _, Nat.zero_le _⟩ dX8_part_97 (fun H locs hP hS => ?_)
      refine lv_iload_n hx hb dX8_part_100 rfl (lv_at hl 3 rfl) ?_
      refine lv_aload_n hx hb dX8_part_101 rfl (lv_at hl 0 rfl) ?_
      obtain ⟨r72, σ71, h73, hf⟩ := cl_e hf
      refine kc_X8_331 F hP hS h73 ⟨Nat.le_of_ble_eq_true rfl, Nat.le_of_ble_eq_true rfl⟩ hl.1 (Nat.le_of_ble_eq_true rfl) ⟨Nat.zero_le _, Nat.zero_le _⟩ dX8_part_102 (fun H locs hP hS => ?_)
      refine lv_iadd hx hb dX8_part_105 ?_
      obtain ⟨x74, ex74, hf⟩ := vl_x hf
      rw [← ex74]
      refine lv_istore_n (lv' := [(3, .int x74), (0, .ref (mAd E 0)), (1, .int a1), (2, .int a2), (4, .int a4)]) hx hb dX8_part_106 rfl hl (by decide) rfl (fun ls hl => ?_)
      refine lv_iinc (v := a4 + (1 : Int32)) (lv' := [(4, .int (a4 + (1 : Int32))), (3, .int x74), (0, .ref (mAd E 0)), (1, .int a1), (2, .int a2)]) hx hb dX8_part_107 hl (k := 4) rfl rfl (by decide) rfl (fun ls hl => ?_)
      obtain ⟨x75, ex75, hf⟩ := vl_x hf
      rw [← ex75] at hl
      refine lv_goto (tgt := 58) hx hb dX8_part_110 (by decide) ?_
      exact hK58 _ hf _ _ _ hP hS (lv_sub hl [2, 3, 4, 1, 0] rfl)
set_option maxHeartbeats 4000000 in
set_option maxRecDepth 100000 in
theorem w_X8_part_2 {p : Program} {l : Launch} {e : Env} {s : State} {m : MethodId} {args : Array Value} {below : List Frame} {meth : Method} {c : Code} {E : mEv} {r : Int32} {σ' : St} (B : gBx p m meth c cX8_part 5 (some .int) s args RX8 (mG E)) {K2 : (Int32 × Int32 × St → Option (Int32 × St))} (hK2 : ∀ a, K2 a = some (r, σ') → P_X8_part_2 p l e s m args below meth c E r σ' a) (a1 : Int32) (a2 : Int32) (σ : St) (hf : b_X8_part_2 K2 a1 a2 σ = some (r, σ')) (H : Heap) (locs : List Loc) (ls : Array Slot) (hP : gW (mG E) σ H) (hS : va_S (gA (mG E)) s.heap H locs) (hl : lv_has ls 5 [(0, .ref (mAd E 0)), (1, .int a1), (2, .int a2)]) : W p l e rm_X8_part s m args below meth c H locs 0 0 (gQi below args s (mG E) r σ') (F0 m 2 ls []) := by
  unfold b_X8_part_2 at hf
  obtain ⟨F, hr, hlk⟩ := id B
  have hx := F.1
  have hb := F.2.1
  have hml := F.2.2.1
  have hown := F.2.2.2.1
  have hts := F.2.2.2.2.1
  refine lv_iload_n hx hb dX8_part_2 rfl (lv_at hl 2 rfl) ?_
  refine lv_aload_n hx hb dX8_part_3 rfl (lv_at hl 0 rfl) ?_
  refine gf_X8_225 F hP dX8_part_4 ?_
  refine lv_icmp_ge (tgt := 37) hx hb dX8_part_7 (by decide) (fun h1 => ?_) (fun h1 => ?_)
  · rw [if_pos h1] at hf
    refine lv_aload_n hx hb dX8_part_37 rfl (lv_at hl 0 rfl) ?_
    refine lv_iload_n hx hb dX8_part_38 rfl (lv_at hl 1 rfl) ?_
    obtain ⟨r3, σ2, h4, hf⟩ := cl_e hf
    refine kc_X8_312 F hP hS h4 ⟨Nat.le_of_ble_eq_true rfl, Nat.le_of_ble_eq_true rfl⟩ hl.1 (Nat.le_of_ble_eq_true rfl) ⟨Nat.zero_le _, Nat.zero_le _⟩ dX8_part_39 (fun H locs hP hS => ?_)
    refine lv_aload_n hx hb dX8_part_42 rfl (lv_at hl 0 rfl) ?_
    refine lv_iload_n hx hb dX8_part_43 rfl (lv_at hl 1 rfl) ?_
    obtain ⟨r6, σ5, h7, hf⟩ := cl_e hf
    refine kc_X8_291 F hP hS h7 ⟨Nat.le_of_ble_eq_true rfl, Nat.le_of_ble_eq_true rfl⟩ hl.1 (Nat.le_of_ble_eq_true rfl) ⟨Nat.zero_le _, Nat.zero_le _⟩ dX8_part_44 (fun H locs hP hS => ?_)
    refine lv_aload_n hx hb dX8_part_47 rfl (lv_at hl 0 rfl) ?_
    refine gf_X8_228 F hP dX8_part_48 ?_
    refine lv_imul hx hb dX8_part_51 ?_
    obtain ⟨x8, ex8, hf⟩ := vl_x hf
    rw [← ex8]
    refine lv_istore_n (lv' := [(2, .int x8), (0, .ref (mAd E 0)), (1, .int a1)]) hx hb dX8_part_52 rfl hl (by decide) rfl (fun ls hl => ?_)
    refine lv_iconst (v := 0) hx hb dX8_part_53 (by decide) ?_
    refine lv_istore_n (lv' := [(3, .int (0 : Int32)), (2, .int x8), (0, .ref (mAd E 0)), (1, .int a1)]) hx hb dX8_part_54 rfl hl (by decide) rfl (fun ls hl => ?_)
    refine lv_iconst (v := 1) hx hb dX8_part_55 (by decide) ?_
    refine lv_istore (lv' := [(4, .int (1 : Int32)), (3, .int (0 : Int32)), (2, .int x8), (0, .ref (mAd E 0)), (1, .int a1)]) hx hb dX8_part_56 hl (by decide) rfl (fun ls hl => ?_)
    exact lp_w (P := P_X8_part_58 p l e s m args below meth c E r σ') (fun K hK a ha => w_X8_part_58 B hK a.1 a.2.1 a.2.2.1 a.2.2.2.1 a.2.2.2.2 ha) FU _ hf _ _ _ hP hS (lv_sub hl [3, 4, 2, 1, 0] rfl)
  · rw [if_neg h1] at hf
    refine lv_aload_n hx hb dX8_part_10 rfl (lv_at hl 0 rfl) ?_
    refine gf_X8_58 F hP dX8_part_11 ?_
    refine lv_sipush (v := (384)) hx hb dX8_part_14 (by decide) ?_
    refine lv_iload_n hx hb dX8_part_17 rfl (lv_at hl 1 rfl) ?_
    refine lv_imul hx hb dX8_part_18 ?_
    refine lv_iload_n hx hb dX8_part_19 rfl (lv_at hl 2 rfl) ?_
    refine lv_iadd hx hb dX8_part_20 ?_
    refine lv_iload_n hx hb dX8_part_21 rfl (lv_at hl 2 rfl) ?_
    refine lv_if_ne (tgt := 29) hx hb dX8_part_22 (by decide) (fun h76 => ?_) (fun h76 => ?_)
    · rw [if_neg h76] at hf
      refine lv_iconst (v := 0) hx hb dX8_part_29 (by decide) ?_
      obtain ⟨h77, hf⟩ := gd_e hf
      refine m_iast F hP hS ⟨by decide, by decide⟩ rfl h77 dX8_part_30 (fun H locs hP hS => ?_)
      obtain ⟨σ78, eσ78, hf⟩ := vl_x hf
      rw [← eσ78] at hP
      refine lv_iinc (v := a2 + (1 : Int32)) (lv' := [(2, .int (a2 + (1 : Int32))), (0, .ref (mAd E 0)), (1, .int a1)]) hx hb dX8_part_31 hl (k := 2) rfl rfl (by decide) rfl (fun ls hl => ?_)
      obtain ⟨x79, ex79, hf⟩ := vl_x hf
      rw [← ex79] at hl
      refine lv_goto (tgt := 2) hx hb dX8_part_34 (by decide) ?_
      exact hK2 _ hf _ _ _ hP hS (lv_sub hl [1, 2, 0] rfl)
    · rw [if_pos h76] at hf
      refine lv_iconst (v := 1) hx hb dX8_part_25 (by decide) ?_
      refine lv_goto (tgt := 30) hx hb dX8_part_26 (by decide) ?_
      obtain ⟨h80, hf⟩ := gd_e hf
      refine m_iast F hP hS ⟨by decide, by decide⟩ rfl h80 dX8_part_30 (fun H locs hP hS => ?_)
      obtain ⟨σ81, eσ81, hf⟩ := vl_x hf
      rw [← eσ81] at hP
      refine lv_iinc (v := a2 + (1 : Int32)) (lv' := [(2, .int (a2 + (1 : Int32))), (0, .ref (mAd E 0)), (1, .int a1)]) hx hb dX8_part_31 hl (k := 2) rfl rfl (by decide) rfl (fun ls hl => ?_)
      obtain ⟨x82, ex82, hf⟩ := vl_x hf
      rw [← ex82] at hl
      refine lv_goto (tgt := 2) hx hb dX8_part_34 (by decide) ?_
      exact hK2 _ hf _ _ _ hP hS (lv_sub hl [1, 2, 0] rfl)
set_option maxHeartbeats 4000000 in
set_option maxRecDepth 100000 in
theorem w_X8_part_e {p : Program} {l : Launch} {e : Env} {s : State} {m : MethodId} {args : Array Value} {below : List Frame} {meth : Method} {c : Code} {E : mEv} {r : Int32} {σ' : St} (B : gBx p m meth c cX8_part 5 (some .int) s args RX8 (mG E)) (p1 : Int32) (σ : St) (hf : f_X8_part p1 σ = some (r, σ')) (H : Heap) (locs : List Loc) (ls : Array Slot) (hP : gW (mG E) σ H) (hS : va_S (gA (mG E)) s.heap H locs) (hl : lv_has ls 5 [(0, .ref (mAd E 0)), (1, .int p1)]) : W p l e rm_X8_part s m args below meth c H locs 0 0 (gQi below args s (mG E) r σ') (F0 m 0 ls []) := by
  unfold f_X8_part at hf
  obtain ⟨F, hr, hlk⟩ := id B
  have hx := F.1
  have hb := F.2.1
  have hml := F.2.2.1
  have hown := F.2.2.2.1
  have hts := F.2.2.2.2.1
  refine lv_iconst (v := 0) hx hb dX8_part_0 (by decide) ?_
  refine lv_istore_n (lv' := [(2, .int (0 : Int32)), (0, .ref (mAd E 0)), (1, .int p1)]) hx hb dX8_part_1 rfl hl (by decide) rfl (fun ls hl => ?_)
  exact lp_w (P := P_X8_part_2 p l e s m args below meth c E r σ') (fun K hK a ha => w_X8_part_2 B hK a.1 a.2.1 a.2.2 ha) FU _ hf _ _ _ hP hS (lv_sub hl [1, 2, 0] rfl)
theorem c_X8_part (l : Launch) {E : mEv} (hI : gIj (mG E)) {p1 : Int32} {σ σ' : St} {r : Int32} (hf : f_X8_part p1 σ = some (r, σ')) : gMi l yX8_part cX8_part 5 .int rm_X8_part [.ref (mAd E 0), .int p1] (mG E) σ r σ' :=
  g_entry (by decide) (Nat.le_of_ble_eq_true rfl) hI (fun p e s m args below meth c B hP hS ls hl => w_X8_part_e B _ σ hf _ _ ls hP hS hl)
section SE
variable {p : Program} {l : Launch} {e : Env} {R : Room} {s : State} {m : MethodId} {args : Array Value} {below : List Frame} {meth : Method} {c : Code} {H : Heap} {locs : List Loc} {cells slots : Nat} {Q : State → Prop}
variable {cc : ByteArray} {pc nL : Nat} {ls : Array Slot} {rest : List Value} {E : mEv} {σ : St}
theorem kc_X8_339 (F : gFx p m c cc nL s args RX8 (mG E)) (hP : gW (mG E) σ H) (hS : va_S (gA (mG E)) s.heap H locs) {p1 : Int32} {r : Int32} {σ' : St} (hf : f_X8_part p1 σ = some (r, σ')) (hR : rm_X8_part.frames + 1 ≤ R.frames ∧ 8 + (5 + 11) + rm_X8_part.locals ≤ R.locals) (hsz : ls.size = nL) (hrest : (rest.map fun v => v.category).sum ≤ 8) (hcs : cells ≤ R.cells ∧ slots ≤ R.slots) (hdg : decode cc pc = .ok (.invokevirtual 339, 3)) (kk : ∀ (H1 : Heap) (locs1 : List Loc), gW (mG E) σ' H1 → va_S (gA (mG E)) s.heap H1 locs1 → W p l e R s m args below meth c H1 locs1 cells slots Q (F0 m (pc + 3) ls (.int r :: rest))) : W p l e R s m args below meth c H locs cells slots Q (F0 m pc ls (.int p1 :: .ref (mAd E 0) :: rest)) :=
  g_callVi F hP hS (c_X8_part l F.2.2.2.2.2.2.2 hf) (g_cwV (n := 1) F tw_1114 tw_1116 ts_52 tw_14 tw_1117 (by decide +kernel) rfl rfl hR) (k := 0) min0 (me_0 E _) rfl (As := [.int p1]) rfl hsz rfl hrest hdg hcs kk
end SE
/-! PromisedSlotsModel.run(I)I -/
def b_X8_run_29 (K29 : (Int32 × Int32 × Int32 × Int32 × Int32 × St → Option (Int32 × St))) (K18 : (Int32 × Int32 × Int32 × St → Option (Int32 × St))) (a1 : Int32) (a2 : Int32) (a3 : Int32) (a4 : Int32) (a5 : Int32) (σ : St) : Option (Int32 × St) :=
  if (σ 0 24) ≤ a5 then
    cl (f_X8_part a4 σ) fun r8 σ7 =>
    vl (a2 + r8) fun x10 =>
    vl (a3 + (1 : Int32)) fun x11 =>
    K18 (a1, x10, x11, σ7)
  else
    gd (ix a5 4) <|
    gd (ix a4 4) <|
    if (σ 27 (nt a4)) ≤ (σ 27 (nt a5)) then
      vl (a5 + (1 : Int32)) fun x15 =>
      K29 (a1, a2, a3, a4, x15, σ)
    else
      vl (a5 + (1 : Int32)) fun x16 =>
      K29 (a1, a2, a3, a5, x16, σ)
def b_X8_run_18 (K18 : (Int32 × Int32 × Int32 × St → Option (Int32 × St))) (a1 : Int32) (a2 : Int32) (a3 : Int32) (σ : St) : Option (Int32 × St) :=
  if a1 ≤ a3 then
    some (a2, σ)
  else
    lp (fun K a => b_X8_run_29 K K18 a.1 a.2.1 a.2.2.1 a.2.2.2.1 a.2.2.2.2.1 a.2.2.2.2.2) FU (a1, a2, a3, (0 : Int32), (1 : Int32), σ)
def f_X8_run (p1 : Int32) (σ : St) : Option (Int32 × St) :=
  cl (f_X8_in (p1.toInt64) (1 : Int64) (20 : Int64) σ) fun r2 σ1 =>
  if r2 = 0 then
    some ((-1 : Int32), σ1)
  else
    lp (fun K a => b_X8_run_18 K a.1 a.2.1 a.2.2.1 a.2.2.2) FU (p1, (0 : Int32), (0 : Int32), σ1)
abbrev rm_X8_run : Room := { frames := 5, cells := 0, slots := 0, locals := 109 }
def P_X8_run_18 (p : Program) (l : Launch) (e : Env) (s : State) (m : MethodId) (args : Array Value) (below : List Frame) (meth : Method) (c : Code) (E : mEv) (r : Int32) (σ' : St) (a : Int32 × Int32 × Int32 × St) : Prop := ∀ (H : Heap) (locs : List Loc) (ls : Array Slot), gW (mG E) a.2.2.2 H → va_S (gA (mG E)) s.heap H locs → lv_has ls 6 [(0, .ref (mAd E 0)), (1, .int a.1), (2, .int a.2.1), (3, .int a.2.2.1)] → W p l e rm_X8_run s m args below meth c H locs 0 0 (gQi below args s (mG E) r σ') (F0 m 18 ls [])
def P_X8_run_29 (p : Program) (l : Launch) (e : Env) (s : State) (m : MethodId) (args : Array Value) (below : List Frame) (meth : Method) (c : Code) (E : mEv) (r : Int32) (σ' : St) (a : Int32 × Int32 × Int32 × Int32 × Int32 × St) : Prop := ∀ (H : Heap) (locs : List Loc) (ls : Array Slot), gW (mG E) a.2.2.2.2.2 H → va_S (gA (mG E)) s.heap H locs → lv_has ls 6 [(0, .ref (mAd E 0)), (1, .int a.1), (2, .int a.2.1), (3, .int a.2.2.1), (4, .int a.2.2.2.1), (5, .int a.2.2.2.2.1)] → W p l e rm_X8_run s m args below meth c H locs 0 0 (gQi below args s (mG E) r σ') (F0 m 29 ls [])
set_option maxHeartbeats 4000000 in
set_option maxRecDepth 100000 in
theorem w_X8_run_29 {p : Program} {l : Launch} {e : Env} {s : State} {m : MethodId} {args : Array Value} {below : List Frame} {meth : Method} {c : Code} {E : mEv} {r : Int32} {σ' : St} (B : gBx p m meth c cX8_run 6 (some .int) s args RX8 (mG E)) {K29 : (Int32 × Int32 × Int32 × Int32 × Int32 × St → Option (Int32 × St))} (hK29 : ∀ a, K29 a = some (r, σ') → P_X8_run_29 p l e s m args below meth c E r σ' a) {K18 : (Int32 × Int32 × Int32 × St → Option (Int32 × St))} (hK18 : ∀ a, K18 a = some (r, σ') → P_X8_run_18 p l e s m args below meth c E r σ' a) (a1 : Int32) (a2 : Int32) (a3 : Int32) (a4 : Int32) (a5 : Int32) (σ : St) (hf : b_X8_run_29 K29 K18 a1 a2 a3 a4 a5 σ = some (r, σ')) (H : Heap) (locs : List Loc) (ls : Array Slot) (hP : gW (mG E) σ H) (hS : va_S (gA (mG E)) s.heap H locs) (hl : lv_has ls 6 [(0, .ref (mAd E 0)), (1, .int a1), (2, .int a2), (3, .int a3), (4, .int a4), (5, .int a5)]) : W p l e rm_X8_run s m args below meth c H locs 0 0 (gQi below args s (mG E) r σ') (F0 m 29 ls []) := by
  unfold b_X8_run_29 at hf
  obtain ⟨F, hr, hlk⟩ := id B
  have hx := F.1
  have hb := F.2.1
  have hml := F.2.2.1
  have hown := F.2.2.2.1
  have hts := F.2.2.2.2.1
  refine lv_iload hx hb dX8_run_29 (lv_at hl 5 rfl) ?_
  refine lv_aload_n hx hb dX8_run_31 rfl (lv_at hl 0 rfl) ?_
  refine gf_X8_246 F hP dX8_run_32 ?_
  refine lv_icmp_ge (tgt := 70) hx hb dX8_run_35 (by decide) (fun h6 => ?_) (fun h6 => ?_)
  · rw [if_pos h6] at hf
    refine lv_iload_n hx hb dX8_run_70 rfl (lv_at hl 2 rfl) ?_
    refine lv_aload_n hx hb dX8_run_71 rfl (lv_at hl 0 rfl) ?_
    refine lv_iload hx hb dX8_run_72 (lv_at hl 4 rfl) ?_
    obtain ⟨r8, σ7, h9, hf⟩ := cl_e hf
    refine kc_X8_339 F hP hS h9 ⟨Nat.le_of_ble_eq_true rfl, Nat.le_of_ble_eq_true rfl⟩ hl.1 (Nat.le_of_ble_eq_true rfl) ⟨Nat.zero_le _, Nat.zero_le _⟩ dX8_run_74 (fun H locs hP hS => ?_)
    refine lv_iadd hx hb dX8_run_77 ?_
    obtain ⟨x10, ex10, hf⟩ := vl_x hf
    rw [← ex10]
    refine lv_istore_n (lv' := [(2, .int x10), (0, .ref (mAd E 0)), (1, .int a1), (3, .int a3), (4, .int a4), (5, .int a5)]) hx hb dX8_run_78 rfl hl (by decide) rfl (fun ls hl => ?_)
    refine lv_iinc (v := a3 + (1 : Int32)) (lv' := [(3, .int (a3 + (1 : Int32))), (2, .int x10), (0, .ref (mAd E 0)), (1, .int a1), (4, .int a4), (5, .int a5)]) hx hb dX8_run_79 hl (k := 3) rfl rfl (by decide) rfl (fun ls hl => ?_)
    obtain ⟨x11, ex11, hf⟩ := vl_x hf
    rw [← ex11] at hl
    refine lv_goto (tgt := 18) hx hb dX8_run_82 (by decide) ?_
    exact hK18 _ hf _ _ _ hP hS (lv_sub hl [2, 3, 1, 0] rfl)
  · rw [if_neg h6] at hf
    refine lv_aload_n hx hb dX8_run_38 rfl (lv_at hl 0 rfl) ?_
    refine gf_X8_37 F hP dX8_run_39 ?_
    refine lv_iload hx hb dX8_run_42 (lv_at hl 5 rfl) ?_
    obtain ⟨h12, hf⟩ := gd_e hf
    refine m_iald F hP ⟨by decide, by decide⟩ rfl h12 dX8_run_44 ?_
    refine lv_aload_n hx hb dX8_run_45 rfl (lv_at hl 0 rfl) ?_
    refine gf_X8_37 F hP dX8_run_46 ?_
    refine lv_iload hx hb dX8_run_49 (lv_at hl 4 rfl) ?_
    obtain ⟨h13, hf⟩ := gd_e hf
    refine m_iald F hP ⟨by decide, by decide⟩ rfl h13 dX8_run_51 ?_
    refine lv_icmp_ge (tgt := 60) hx hb dX8_run_52 (by decide) (fun h14 => ?_) (fun h14 => ?_)
    · rw [if_pos h14] at hf
      refine lv_iload hx hb dX8_run_60 (lv_at hl 4 rfl) ?_
      refine lv_istore (lv' := [(4, .int a4), (0, .ref (mAd E 0)), (1, .int a1), (2, .int a2), (3, .int a3), (5, .int a5)]) hx hb dX8_run_62 hl (by decide) rfl (fun ls hl => ?_)
      refine lv_iinc (v := a5 + (1 : Int32)) (lv' := [(5, .int (a5 + (1 : Int32))), (4, .int a4), (0, .ref (mAd E 0)), (1, .int a1), (2, .int a2), (3, .int a3)]) hx hb dX8_run_64 hl (k := 5) rfl rfl (by decide) rfl (fun ls hl => ?_)
      obtain ⟨x15, ex15, hf⟩ := vl_x hf
      rw [← ex15] at hl
      refine lv_goto (tgt := 29) hx hb dX8_run_67 (by decide) ?_
      exact hK29 _ hf _ _ _ hP hS (lv_sub hl [2, 3, 4, 5, 1, 0] rfl)
    · rw [if_neg h14] at hf
      refine lv_iload hx hb dX8_run_55 (lv_at hl 5 rfl) ?_
      refine lv_goto (tgt := 62) hx hb dX8_run_57 (by decide) ?_
      refine lv_istore (lv' := [(4, .int a5), (0, .ref (mAd E 0)), (1, .int a1), (2, .int a2), (3, .int a3), (5, .int a5)]) hx hb dX8_run_62 hl (by decide) rfl (fun ls hl => ?_)
      refine lv_iinc (v := a5 + (1 : Int32)) (lv' := [(5, .int (a5 + (1 : Int32))), (4, .int a5), (0, .ref (mAd E 0)), (1, .int a1), (2, .int a2), (3, .int a3)]) hx hb dX8_run_64 hl (k := 5) rfl rfl (by decide) rfl (fun ls hl => ?_)
      obtain ⟨x16, ex16, hf⟩ := vl_x hf
      rw [← ex16] at hl
      refine lv_goto (tgt := 29) hx hb dX8_run_67 (by decide) ?_
      exact hK29 _ hf _ _ _ hP hS (lv_sub hl [2, 3, 4, 5, 1, 0] rfl)
set_option maxHeartbeats 4000000 in
set_option maxRecDepth 100000 in
theorem w_X8_run_18 {p : Program} {l : Launch} {e : Env} {s : State} {m : MethodId} {args : Array Value} {below : List Frame} {meth : Method} {c : Code} {E : mEv} {r : Int32} {σ' : St} (B : gBx p m meth c cX8_run 6 (some .int) s args RX8 (mG E)) {K18 : (Int32 × Int32 × Int32 × St → Option (Int32 × St))} (hK18 : ∀ a, K18 a = some (r, σ') → P_X8_run_18 p l e s m args below meth c E r σ' a) (a1 : Int32) (a2 : Int32) (a3 : Int32) (σ : St) (hf : b_X8_run_18 K18 a1 a2 a3 σ = some (r, σ')) (H : Heap) (locs : List Loc) (ls : Array Slot) (hP : gW (mG E) σ H) (hS : va_S (gA (mG E)) s.heap H locs) (hl : lv_has ls 6 [(0, .ref (mAd E 0)), (1, .int a1), (2, .int a2), (3, .int a3)]) : W p l e rm_X8_run s m args below meth c H locs 0 0 (gQi below args s (mG E) r σ') (F0 m 18 ls []) := by
  unfold b_X8_run_18 at hf
  obtain ⟨F, hr, hlk⟩ := id B
  have hx := F.1
  have hb := F.2.1
  have hml := F.2.2.1
  have hown := F.2.2.2.1
  have hts := F.2.2.2.2.1
  refine lv_iload_n hx hb dX8_run_18 rfl (lv_at hl 3 rfl) ?_
  refine lv_iload_n hx hb dX8_run_19 rfl (lv_at hl 1 rfl) ?_
  refine lv_icmp_ge (tgt := 85) hx hb dX8_run_20 (by decide) (fun h5 => ?_) (fun h5 => ?_)
  · rw [if_pos h5] at hf
    refine lv_iload_n hx hb dX8_run_85 rfl (lv_at hl 2 rfl) ?_
    exact g_iret B hP hS hf dX8_run_86
  · rw [if_neg h5] at hf
    refine lv_iconst (v := 0) hx hb dX8_run_23 (by decide) ?_
    refine lv_istore (lv' := [(4, .int (0 : Int32)), (0, .ref (mAd E 0)), (1, .int a1), (2, .int a2), (3, .int a3)]) hx hb dX8_run_24 hl (by decide) rfl (fun ls hl => ?_)
    refine lv_iconst (v := 1) hx hb dX8_run_26 (by decide) ?_
    refine lv_istore (lv' := [(5, .int (1 : Int32)), (4, .int (0 : Int32)), (0, .ref (mAd E 0)), (1, .int a1), (2, .int a2), (3, .int a3)]) hx hb dX8_run_27 hl (by decide) rfl (fun ls hl => ?_)
    exact lp_w (P := P_X8_run_29 p l e s m args below meth c E r σ') (fun K hK a ha => w_X8_run_29 B hK hK18 a.1 a.2.1 a.2.2.1 a.2.2.2.1 a.2.2.2.2.1 a.2.2.2.2.2 ha) FU _ hf _ _ _ hP hS (lv_sub hl [2, 3, 4, 5, 1, 0] rfl)
set_option maxHeartbeats 4000000 in
set_option maxRecDepth 100000 in
theorem w_X8_run_e {p : Program} {l : Launch} {e : Env} {s : State} {m : MethodId} {args : Array Value} {below : List Frame} {meth : Method} {c : Code} {E : mEv} {r : Int32} {σ' : St} (B : gBx p m meth c cX8_run 6 (some .int) s args RX8 (mG E)) (p1 : Int32) (σ : St) (hf : f_X8_run p1 σ = some (r, σ')) (H : Heap) (locs : List Loc) (ls : Array Slot) (hP : gW (mG E) σ H) (hS : va_S (gA (mG E)) s.heap H locs) (hl : lv_has ls 6 [(0, .ref (mAd E 0)), (1, .int p1)]) : W p l e rm_X8_run s m args below meth c H locs 0 0 (gQi below args s (mG E) r σ') (F0 m 0 ls []) := by
  unfold f_X8_run at hf
  obtain ⟨F, hr, hlk⟩ := id B
  have hx := F.1
  have hb := F.2.1
  have hml := F.2.2.1
  have hown := F.2.2.2.1
  have hts := F.2.2.2.2.1
  refine lv_iload_n hx hb dX8_run_0 rfl (lv_at hl 1 rfl) ?_
  refine lv_i2l hx hb dX8_run_1 rfl ?_
  refine lv_lconst (v := 1) hx hb dX8_run_2 (by decide) ?_
  refine lv_ldc2 hx hb hown (hts _ tw_1113) dX8_run_3 ?_
  obtain ⟨r2, σ1, h3, hf⟩ := cl_e hf
  refine kc_X8_161 F hP hS h3 ⟨Nat.le_of_ble_eq_true rfl, Nat.le_of_ble_eq_true rfl⟩ hl.1 (Nat.le_of_ble_eq_true rfl) ⟨Nat.zero_le _, Nat.zero_le _⟩ dX8_run_6 (fun H locs hP hS => ?_)
  refine lv_if_ne (tgt := 14) hx hb dX8_run_9 (by decide) (fun h4 => ?_) (fun h4 => ?_)
  · rw [if_neg h4] at hf
    refine lv_iconst (v := 0) hx hb dX8_run_14 (by decide) ?_
    refine lv_istore_n (lv' := [(2, .int (0 : Int32)), (0, .ref (mAd E 0)), (1, .int p1)]) hx hb dX8_run_15 rfl hl (by decide) rfl (fun ls hl => ?_)
    refine lv_iconst (v := 0) hx hb dX8_run_16 (by decide) ?_
    refine lv_istore_n (lv' := [(3, .int (0 : Int32)), (2, .int (0 : Int32)), (0, .ref (mAd E 0)), (1, .int p1)]) hx hb dX8_run_17 rfl hl (by decide) rfl (fun ls hl => ?_)
    exact lp_w (P := P_X8_run_18 p l e s m args below meth c E r σ') (fun K hK a ha => w_X8_run_18 B hK a.1 a.2.1 a.2.2.1 a.2.2.2 ha) FU _ hf _ _ _ hP hS (lv_sub hl [2, 3, 1, 0] rfl)
  · rw [if_pos h4] at hf
    refine lv_iconst (v := (-1)) hx hb dX8_run_12 (by decide) ?_
    exact g_iret B hP hS hf dX8_run_13
theorem c_X8_run (l : Launch) {E : mEv} (hI : gIj (mG E)) {p1 : Int32} {σ σ' : St} {r : Int32} (hf : f_X8_run p1 σ = some (r, σ')) : gMi l yX8_run cX8_run 6 .int rm_X8_run [.ref (mAd E 0), .int p1] (mG E) σ r σ' :=
  g_entry (by decide) (Nat.le_of_ble_eq_true rfl) hI (fun p e s m args below meth c B hP hS ls hl => w_X8_run_e B _ σ hf _ _ ls hP hS hl)
/-! PromisedSlotsModel.air(II)I -/
def f_X8_air (p1 : Int32) (p2 : Int32) (σ : St) : Option (Int32 × St) :=
  cl (f_X8_isCoord p1 σ) fun r2 σ1 =>
  if r2 = 0 then
    some ((-1 : Int32), σ1)
  else
    cl (f_X8_in (p2.toInt64) (0 : Int64) ((((σ1 0 17) - (1 : Int32))).toInt64) σ1) fun r6 σ5 =>
    if r6 = 0 then
      some ((-1 : Int32), σ5)
    else
      gd (ix p1 4) <|
      if (σ5 28 (nt p1)) = 0 then
        some ((-4 : Int32), σ5)
      else
        gd (ix (((384 : Int32) * p1) + p2) 1536) <|
        some ((σ5 34 (nt (((384 : Int32) * p1) + p2))), σ5)
abbrev rm_X8_air : Room := { frames := 2, cells := 0, slots := 0, locals := 46 }
set_option maxHeartbeats 4000000 in
set_option maxRecDepth 100000 in
theorem w_X8_air_e {p : Program} {l : Launch} {e : Env} {s : State} {m : MethodId} {args : Array Value} {below : List Frame} {meth : Method} {c : Code} {E : mEv} {r : Int32} {σ' : St} (B : gBx p m meth c cX8_air 3 (some .int) s args RX8 (mG E)) (p1 : Int32) (p2 : Int32) (σ : St) (hf : f_X8_air p1 p2 σ = some (r, σ')) (H : Heap) (locs : List Loc) (ls : Array Slot) (hP : gW (mG E) σ H) (hS : va_S (gA (mG E)) s.heap H locs) (hl : lv_has ls 3 [(0, .ref (mAd E 0)), (1, .int p1), (2, .int p2)]) : W p l e rm_X8_air s m args below meth c H locs 0 0 (gQi below args s (mG E) r σ') (F0 m 0 ls []) := by
  unfold f_X8_air at hf
  obtain ⟨F, hr, hlk⟩ := id B
  have hx := F.1
  have hb := F.2.1
  have hml := F.2.2.1
  have hown := F.2.2.2.1
  have hts := F.2.2.2.2.1
  refine lv_aload_n hx hb dX8_air_0 rfl (lv_at hl 0 rfl) ?_
  refine lv_iload_n hx hb dX8_air_1 rfl (lv_at hl 1 rfl) ?_
  obtain ⟨r2, σ1, h3, hf⟩ := cl_e hf
  refine kc_X8_256 F hP hS h3 ⟨Nat.le_of_ble_eq_true rfl, Nat.le_of_ble_eq_true rfl⟩ hl.1 (Nat.le_of_ble_eq_true rfl) ⟨Nat.zero_le _, Nat.zero_le _⟩ dX8_air_2 (fun H locs hP hS => ?_)
  refine lv_if_eq (tgt := 24) hx hb dX8_air_5 (by decide) (fun h4 => ?_) (fun h4 => ?_)
  · rw [if_pos h4] at hf
    refine lv_iconst (v := (-1)) hx hb dX8_air_24 (by decide) ?_
    exact g_iret B hP hS hf dX8_air_25
  · rw [if_neg h4] at hf
    refine lv_iload_n hx hb dX8_air_8 rfl (lv_at hl 2 rfl) ?_
    refine lv_i2l hx hb dX8_air_9 rfl ?_
    refine lv_lconst (v := 0) hx hb dX8_air_10 (by decide) ?_
    refine lv_aload_n hx hb dX8_air_11 rfl (lv_at hl 0 rfl) ?_
    refine gf_X8_225 F hP dX8_air_12 ?_
    refine lv_iconst (v := 1) hx hb dX8_air_15 (by decide) ?_
    refine lv_isub hx hb dX8_air_16 ?_
    refine lv_i2l hx hb dX8_air_17 rfl ?_
    obtain ⟨r6, σ5, h7, hf⟩ := cl_e hf
    refine kc_X8_161 F hP hS h7 ⟨Nat.le_of_ble_eq_true rfl, Nat.le_of_ble_eq_true rfl⟩ hl.1 (Nat.le_of_ble_eq_true rfl) ⟨Nat.zero_le _, Nat.zero_le _⟩ dX8_air_18 (fun H locs hP hS => ?_)
    refine lv_if_ne (tgt := 26) hx hb dX8_air_21 (by decide) (fun h8 => ?_) (fun h8 => ?_)
    · rw [if_neg h8] at hf
      refine lv_aload_n hx hb dX8_air_26 rfl (lv_at hl 0 rfl) ?_
      refine gf_X8_40 F hP dX8_air_27 ?_
      refine lv_iload_n hx hb dX8_air_30 rfl (lv_at hl 1 rfl) ?_
      obtain ⟨h9, hf⟩ := gd_e hf
      refine m_iald F hP ⟨by decide, by decide⟩ rfl h9 dX8_air_31 ?_
      refine lv_if_ne (tgt := 40) hx hb dX8_air_32 (by decide) (fun h10 => ?_) (fun h10 => ?_)
      · rw [if_neg h10] at hf
        refine lv_aload_n hx hb dX8_air_40 rfl (lv_at hl 0 rfl) ?_
        refine gf_X8_58 F hP dX8_air_41 ?_
        refine lv_sipush (v := (384)) hx hb dX8_air_44 (by decide) ?_
        refine lv_iload_n hx hb dX8_air_47 rfl (lv_at hl 1 rfl) ?_
        refine lv_imul hx hb dX8_air_48 ?_
        refine lv_iload_n hx hb dX8_air_49 rfl (lv_at hl 2 rfl) ?_
        refine lv_iadd hx hb dX8_air_50 ?_
        obtain ⟨h11, hf⟩ := gd_e hf
        refine m_iald F hP ⟨by decide, by decide⟩ rfl h11 dX8_air_51 ?_
        exact g_iret B hP hS hf dX8_air_52
      · rw [if_pos h10] at hf
        refine lv_bipush (v := (-4)) hx hb dX8_air_35 (by decide) ?_
        refine lv_goto (tgt := 52) hx hb dX8_air_37 (by decide) ?_
        exact g_iret B hP hS hf dX8_air_52
    · rw [if_pos h8] at hf
      refine lv_iconst (v := (-1)) hx hb dX8_air_24 (by decide) ?_
      exact g_iret B hP hS hf dX8_air_25
theorem c_X8_air (l : Launch) {E : mEv} (hI : gIj (mG E)) {p1 : Int32} {p2 : Int32} {σ σ' : St} {r : Int32} (hf : f_X8_air p1 p2 σ = some (r, σ')) : gMi l yX8_air cX8_air 3 .int rm_X8_air [.ref (mAd E 0), .int p1, .int p2] (mG E) σ r σ' :=
  g_entry (by decide) (Nat.le_of_ble_eq_true rfl) hI (fun p e s m args below meth c B hP hS ls hl => w_X8_air_e B _ _ σ hf _ _ ls hP hS hl)
/-! PromisedSlotsModel.coordinator(II)I -/
def f_X8_coordinator (p1 : Int32) (p2 : Int32) (σ : St) : Option (Int32 × St) :=
  cl (f_X8_isCoord p1 σ) fun r2 σ1 =>
  if r2 = 0 then
    some ((-1 : Int32), σ1)
  else
    cl (f_X8_in (p2.toInt64) (0 : Int64) (5 : Int64) σ1) fun r6 σ5 =>
    if r6 = 0 then
      some ((-1 : Int32), σ5)
    else
      if p2 = (0 : Int32) then
        gd (ix p1 4) <|
        some ((σ5 26 (nt p1)), σ5)
      else if p2 = (1 : Int32) then
        gd (ix p1 4) <|
        some ((σ5 25 (nt p1)), σ5)
      else if p2 = (2 : Int32) then
        cl (f_X8_shared p1 σ5) fun r15 σ14 =>
        some (r15, σ14)
      else if p2 = (3 : Int32) then
        gd (ix p1 4) <|
        some ((σ5 29 (nt p1)), σ5)
      else if p2 = (4 : Int32) then
        gd (ix p1 4) <|
        some ((σ5 27 (nt p1)), σ5)
      else 
        gd (ix p1 4) <|
        some ((σ5 28 (nt p1)), σ5)
abbrev rm_X8_coordinator : Room := { frames := 2, cells := 0, slots := 0, locals := 46 }
set_option maxHeartbeats 4000000 in
set_option maxRecDepth 100000 in
theorem w_X8_coordinator_e {p : Program} {l : Launch} {e : Env} {s : State} {m : MethodId} {args : Array Value} {below : List Frame} {meth : Method} {c : Code} {E : mEv} {r : Int32} {σ' : St} (B : gBx p m meth c cX8_coordinator 3 (some .int) s args RX8 (mG E)) (p1 : Int32) (p2 : Int32) (σ : St) (hf : f_X8_coordinator p1 p2 σ = some (r, σ')) (H : Heap) (locs : List Loc) (ls : Array Slot) (hP : gW (mG E) σ H) (hS : va_S (gA (mG E)) s.heap H locs) (hl : lv_has ls 3 [(0, .ref (mAd E 0)), (1, .int p1), (2, .int p2)]) : W p l e rm_X8_coordinator s m args below meth c H locs 0 0 (gQi below args s (mG E) r σ') (F0 m 0 ls []) := by
  unfold f_X8_coordinator at hf
  obtain ⟨F, hr, hlk⟩ := id B
  have hx := F.1
  have hb := F.2.1
  have hml := F.2.2.1
  have hown := F.2.2.2.1
  have hts := F.2.2.2.2.1
  refine lv_aload_n hx hb dX8_coordinator_0 rfl (lv_at hl 0 rfl) ?_
  refine lv_iload_n hx hb dX8_coordinator_1 rfl (lv_at hl 1 rfl) ?_
  obtain ⟨r2, σ1, h3, hf⟩ := cl_e hf
  refine kc_X8_256 F hP hS h3 ⟨Nat.le_of_ble_eq_true rfl, Nat.le_of_ble_eq_true rfl⟩ hl.1 (Nat.le_of_ble_eq_true rfl) ⟨Nat.zero_le _, Nat.zero_le _⟩ dX8_coordinator_2 (fun H locs hP hS => ?_)
  refine lv_if_eq (tgt := 20) hx hb dX8_coordinator_5 (by decide) (fun h4 => ?_) (fun h4 => ?_)
  · rw [if_pos h4] at hf
    refine lv_iconst (v := (-1)) hx hb dX8_coordinator_20 (by decide) ?_
    exact g_iret B hP hS hf dX8_coordinator_21
  · rw [if_neg h4] at hf
    refine lv_iload_n hx hb dX8_coordinator_8 rfl (lv_at hl 2 rfl) ?_
    refine lv_i2l hx hb dX8_coordinator_9 rfl ?_
    refine lv_lconst (v := 0) hx hb dX8_coordinator_10 (by decide) ?_
    refine lv_ldc2 hx hb hown (hts _ tw_1175) dX8_coordinator_11 ?_
    obtain ⟨r6, σ5, h7, hf⟩ := cl_e hf
    refine kc_X8_161 F hP hS h7 ⟨Nat.le_of_ble_eq_true rfl, Nat.le_of_ble_eq_true rfl⟩ hl.1 (Nat.le_of_ble_eq_true rfl) ⟨Nat.zero_le _, Nat.zero_le _⟩ dX8_coordinator_14 (fun H locs hP hS => ?_)
    refine lv_if_ne (tgt := 22) hx hb dX8_coordinator_17 (by decide) (fun h8 => ?_) (fun h8 => ?_)
    · rw [if_neg h8] at hf
      refine lv_iload_n hx hb dX8_coordinator_22 rfl (lv_at hl 2 rfl) ?_
      by_cases h9 : p2 = (0 : Int32)
      · rw [if_pos h9] at hf
        refine lv_tableIn (tgt := 56) (off := 33) hx hb dX8_coordinator_23 (by rw [h9]; decide) (by rw [h9]; decide) (by rw [h9]; rfl) (by decide) ?_
        refine lv_aload_n hx hb dX8_coordinator_56 rfl (lv_at hl 0 rfl) ?_
        refine gf_X8_34 F hP dX8_coordinator_57 ?_
        refine lv_iload_n hx hb dX8_coordinator_60 rfl (lv_at hl 1 rfl) ?_
        obtain ⟨h10, hf⟩ := gd_e hf
        refine m_iald F hP ⟨by decide, by decide⟩ rfl h10 dX8_coordinator_61 ?_
        exact g_iret B hP hS hf dX8_coordinator_62
      rw [if_neg h9] at hf
      by_cases h11 : p2 = (1 : Int32)
      · rw [if_pos h11] at hf
        refine lv_tableIn (tgt := 63) (off := 40) hx hb dX8_coordinator_23 (by rw [h11]; decide) (by rw [h11]; decide) (by rw [h11]; rfl) (by decide) ?_
        refine lv_aload_n hx hb dX8_coordinator_63 rfl (lv_at hl 0 rfl) ?_
        refine gf_X8_31 F hP dX8_coordinator_64 ?_
        refine lv_iload_n hx hb dX8_coordinator_67 rfl (lv_at hl 1 rfl) ?_
        obtain ⟨h12, hf⟩ := gd_e hf
        refine m_iald F hP ⟨by decide, by decide⟩ rfl h12 dX8_coordinator_68 ?_
        exact g_iret B hP hS hf dX8_coordinator_69
      rw [if_neg h11] at hf
      by_cases h13 : p2 = (2 : Int32)
      · rw [if_pos h13] at hf
        refine lv_tableIn (tgt := 70) (off := 47) hx hb dX8_coordinator_23 (by rw [h13]; decide) (by rw [h13]; decide) (by rw [h13]; rfl) (by decide) ?_
        refine lv_aload_n hx hb dX8_coordinator_70 rfl (lv_at hl 0 rfl) ?_
        refine lv_iload_n hx hb dX8_coordinator_71 rfl (lv_at hl 1 rfl) ?_
        obtain ⟨r15, σ14, h16, hf⟩ := cl_e hf
        refine kc_X8_291 F hP hS h16 ⟨Nat.le_of_ble_eq_true rfl, Nat.le_of_ble_eq_true rfl⟩ hl.1 (Nat.le_of_ble_eq_true rfl) ⟨Nat.zero_le _, Nat.zero_le _⟩ dX8_coordinator_72 (fun H locs hP hS => ?_)
        exact g_iret B hP hS hf dX8_coordinator_75
      rw [if_neg h13] at hf
      by_cases h17 : p2 = (3 : Int32)
      · rw [if_pos h17] at hf
        refine lv_tableIn (tgt := 76) (off := 53) hx hb dX8_coordinator_23 (by rw [h17]; decide) (by rw [h17]; decide) (by rw [h17]; rfl) (by decide) ?_
        refine lv_aload_n hx hb dX8_coordinator_76 rfl (lv_at hl 0 rfl) ?_
        refine gf_X8_43 F hP dX8_coordinator_77 ?_
        refine lv_iload_n hx hb dX8_coordinator_80 rfl (lv_at hl 1 rfl) ?_
        obtain ⟨h18, hf⟩ := gd_e hf
        refine m_iald F hP ⟨by decide, by decide⟩ rfl h18 dX8_coordinator_81 ?_
        exact g_iret B hP hS hf dX8_coordinator_82
      rw [if_neg h17] at hf
      by_cases h19 : p2 = (4 : Int32)
      · rw [if_pos h19] at hf
        refine lv_tableIn (tgt := 83) (off := 60) hx hb dX8_coordinator_23 (by rw [h19]; decide) (by rw [h19]; decide) (by rw [h19]; rfl) (by decide) ?_
        refine lv_aload_n hx hb dX8_coordinator_83 rfl (lv_at hl 0 rfl) ?_
        refine gf_X8_37 F hP dX8_coordinator_84 ?_
        refine lv_iload_n hx hb dX8_coordinator_87 rfl (lv_at hl 1 rfl) ?_
        obtain ⟨h20, hf⟩ := gd_e hf
        refine m_iald F hP ⟨by decide, by decide⟩ rfl h20 dX8_coordinator_88 ?_
        exact g_iret B hP hS hf dX8_coordinator_89
      rw [if_neg h19] at hf
      have nh9 := lv_neT h9 (show ((0 : Int32)).toInt = 0 by decide)
      have nh11 := lv_neT h11 (show ((1 : Int32)).toInt = 1 by decide)
      have nh13 := lv_neT h13 (show ((2 : Int32)).toInt = 2 by decide)
      have nh17 := lv_neT h17 (show ((3 : Int32)).toInt = 3 by decide)
      have nh19 := lv_neT h19 (show ((4 : Int32)).toInt = 4 by decide)
      refine lv_tableOut (tgt := 90) hx hb dX8_coordinator_23 (by omega) (by decide) ?_
      refine lv_aload_n hx hb dX8_coordinator_90 rfl (lv_at hl 0 rfl) ?_
      refine gf_X8_40 F hP dX8_coordinator_91 ?_
      refine lv_iload_n hx hb dX8_coordinator_94 rfl (lv_at hl 1 rfl) ?_
      obtain ⟨h21, hf⟩ := gd_e hf
      refine m_iald F hP ⟨by decide, by decide⟩ rfl h21 dX8_coordinator_95 ?_
      exact g_iret B hP hS hf dX8_coordinator_96
    · rw [if_pos h8] at hf
      refine lv_iconst (v := (-1)) hx hb dX8_coordinator_20 (by decide) ?_
      exact g_iret B hP hS hf dX8_coordinator_21
theorem c_X8_coordinator (l : Launch) {E : mEv} (hI : gIj (mG E)) {p1 : Int32} {p2 : Int32} {σ σ' : St} {r : Int32} (hf : f_X8_coordinator p1 p2 σ = some (r, σ')) : gMi l yX8_coordinator cX8_coordinator 3 .int rm_X8_coordinator [.ref (mAd E 0), .int p1, .int p2] (mG E) σ r σ' :=
  g_entry (by decide) (Nat.le_of_ble_eq_true rfl) hI (fun p e s m args below meth c B hP hS ls hl => w_X8_coordinator_e B _ _ σ hf _ _ ls hP hS hl)
/-! PromisedSlotsModel.device(II)I -/
def f_X8_device (p1 : Int32) (p2 : Int32) (σ : St) : Option (Int32 × St) :=
  cl (f_X8_isDevice p1 σ) fun r2 σ1 =>
  if r2 = 0 then
    some ((-1 : Int32), σ1)
  else
    cl (f_X8_in (p2.toInt64) (0 : Int64) (13 : Int64) σ1) fun r6 σ5 =>
    if r6 = 0 then
      some ((-1 : Int32), σ5)
    else
      if p2 = (0 : Int32) then
        gd (ix p1 8) <|
        some ((σ5 36 (nt p1)), σ5)
      else if p2 = (1 : Int32) then
        gd (ix p1 8) <|
        some ((σ5 37 (nt p1)), σ5)
      else if p2 = (2 : Int32) then
        gd (ix p1 8) <|
        some ((σ5 38 (nt p1)), σ5)
      else if p2 = (3 : Int32) then
        gd (ix p1 8) <|
        some ((σ5 39 (nt p1)), σ5)
      else if p2 = (4 : Int32) then
        gd (ix p1 8) <|
        some ((σ5 40 (nt p1)), σ5)
      else if p2 = (5 : Int32) then
        gd (ix p1 8) <|
        some ((σ5 41 (nt p1)), σ5)
      else if p2 = (6 : Int32) then
        gd (ix p1 8) <|
        some ((σ5 42 (nt p1)), σ5)
      else if p2 = (7 : Int32) then
        gd (ix p1 8) <|
        some ((σ5 43 (nt p1)), σ5)
      else if p2 = (8 : Int32) then
        gd (ix p1 8) <|
        some ((σ5 44 (nt p1)), σ5)
      else if p2 = (9 : Int32) then
        gd (ix p1 8) <|
        some ((σ5 45 (nt p1)), σ5)
      else if p2 = (10 : Int32) then
        gd (ix p1 8) <|
        some ((σ5 46 (nt p1)), σ5)
      else if p2 = (11 : Int32) then
        gd (ix p1 8) <|
        some ((σ5 47 (nt p1)), σ5)
      else if p2 = (12 : Int32) then
        gd (ix p1 8) <|
        some ((σ5 48 (nt p1)), σ5)
      else 
        gd (ix p1 8) <|
        some ((σ5 49 (nt p1)), σ5)
abbrev rm_X8_device : Room := { frames := 2, cells := 0, slots := 0, locals := 46 }
set_option maxHeartbeats 4000000 in
set_option maxRecDepth 100000 in
theorem w_X8_device_e {p : Program} {l : Launch} {e : Env} {s : State} {m : MethodId} {args : Array Value} {below : List Frame} {meth : Method} {c : Code} {E : mEv} {r : Int32} {σ' : St} (B : gBx p m meth c cX8_device 3 (some .int) s args RX8 (mG E)) (p1 : Int32) (p2 : Int32) (σ : St) (hf : f_X8_device p1 p2 σ = some (r, σ')) (H : Heap) (locs : List Loc) (ls : Array Slot) (hP : gW (mG E) σ H) (hS : va_S (gA (mG E)) s.heap H locs) (hl : lv_has ls 3 [(0, .ref (mAd E 0)), (1, .int p1), (2, .int p2)]) : W p l e rm_X8_device s m args below meth c H locs 0 0 (gQi below args s (mG E) r σ') (F0 m 0 ls []) := by
  unfold f_X8_device at hf
  obtain ⟨F, hr, hlk⟩ := id B
  have hx := F.1
  have hb := F.2.1
  have hml := F.2.2.1
  have hown := F.2.2.2.1
  have hts := F.2.2.2.2.1
  refine lv_aload_n hx hb dX8_device_0 rfl (lv_at hl 0 rfl) ?_
  refine lv_iload_n hx hb dX8_device_1 rfl (lv_at hl 1 rfl) ?_
  obtain ⟨r2, σ1, h3, hf⟩ := cl_e hf
  refine kc_X8_272 F hP hS h3 ⟨Nat.le_of_ble_eq_true rfl, Nat.le_of_ble_eq_true rfl⟩ hl.1 (Nat.le_of_ble_eq_true rfl) ⟨Nat.zero_le _, Nat.zero_le _⟩ dX8_device_2 (fun H locs hP hS => ?_)
  refine lv_if_eq (tgt := 20) hx hb dX8_device_5 (by decide) (fun h4 => ?_) (fun h4 => ?_)
  · rw [if_pos h4] at hf
    refine lv_iconst (v := (-1)) hx hb dX8_device_20 (by decide) ?_
    exact g_iret B hP hS hf dX8_device_21
  · rw [if_neg h4] at hf
    refine lv_iload_n hx hb dX8_device_8 rfl (lv_at hl 2 rfl) ?_
    refine lv_i2l hx hb dX8_device_9 rfl ?_
    refine lv_lconst (v := 0) hx hb dX8_device_10 (by decide) ?_
    refine lv_ldc2 hx hb hown (hts _ tw_1180) dX8_device_11 ?_
    obtain ⟨r6, σ5, h7, hf⟩ := cl_e hf
    refine kc_X8_161 F hP hS h7 ⟨Nat.le_of_ble_eq_true rfl, Nat.le_of_ble_eq_true rfl⟩ hl.1 (Nat.le_of_ble_eq_true rfl) ⟨Nat.zero_le _, Nat.zero_le _⟩ dX8_device_14 (fun H locs hP hS => ?_)
    refine lv_if_ne (tgt := 22) hx hb dX8_device_17 (by decide) (fun h8 => ?_) (fun h8 => ?_)
    · rw [if_neg h8] at hf
      refine lv_iload_n hx hb dX8_device_22 rfl (lv_at hl 2 rfl) ?_
      by_cases h9 : p2 = (0 : Int32)
      · rw [if_pos h9] at hf
        refine lv_tableIn (tgt := 88) (off := 65) hx hb dX8_device_23 (by rw [h9]; decide) (by rw [h9]; decide) (by rw [h9]; rfl) (by decide) ?_
        refine lv_aload_n hx hb dX8_device_88 rfl (lv_at hl 0 rfl) ?_
        refine gf_X8_61 F hP dX8_device_89 ?_
        refine lv_iload_n hx hb dX8_device_92 rfl (lv_at hl 1 rfl) ?_
        obtain ⟨h10, hf⟩ := gd_e hf
        refine m_iald F hP ⟨by decide, by decide⟩ rfl h10 dX8_device_93 ?_
        exact g_iret B hP hS hf dX8_device_94
      rw [if_neg h9] at hf
      by_cases h11 : p2 = (1 : Int32)
      · rw [if_pos h11] at hf
        refine lv_tableIn (tgt := 95) (off := 72) hx hb dX8_device_23 (by rw [h11]; decide) (by rw [h11]; decide) (by rw [h11]; rfl) (by decide) ?_
        refine lv_aload_n hx hb dX8_device_95 rfl (lv_at hl 0 rfl) ?_
        refine gf_X8_64 F hP dX8_device_96 ?_
        refine lv_iload_n hx hb dX8_device_99 rfl (lv_at hl 1 rfl) ?_
        obtain ⟨h12, hf⟩ := gd_e hf
        refine m_iald F hP ⟨by decide, by decide⟩ rfl h12 dX8_device_100 ?_
        exact g_iret B hP hS hf dX8_device_101
      rw [if_neg h11] at hf
      by_cases h13 : p2 = (2 : Int32)
      · rw [if_pos h13] at hf
        refine lv_tableIn (tgt := 102) (off := 79) hx hb dX8_device_23 (by rw [h13]; decide) (by rw [h13]; decide) (by rw [h13]; rfl) (by decide) ?_
        refine lv_aload_n hx hb dX8_device_102 rfl (lv_at hl 0 rfl) ?_
        refine gf_X8_67 F hP dX8_device_103 ?_
        refine lv_iload_n hx hb dX8_device_106 rfl (lv_at hl 1 rfl) ?_
        obtain ⟨h14, hf⟩ := gd_e hf
        refine m_iald F hP ⟨by decide, by decide⟩ rfl h14 dX8_device_107 ?_
        exact g_iret B hP hS hf dX8_device_108
      rw [if_neg h13] at hf
      by_cases h15 : p2 = (3 : Int32)
      · rw [if_pos h15] at hf
        refine lv_tableIn (tgt := 109) (off := 86) hx hb dX8_device_23 (by rw [h15]; decide) (by rw [h15]; decide) (by rw [h15]; rfl) (by decide) ?_
        refine lv_aload_n hx hb dX8_device_109 rfl (lv_at hl 0 rfl) ?_
        refine gf_X8_70 F hP dX8_device_110 ?_
        refine lv_iload_n hx hb dX8_device_113 rfl (lv_at hl 1 rfl) ?_
        obtain ⟨h16, hf⟩ := gd_e hf
        refine m_iald F hP ⟨by decide, by decide⟩ rfl h16 dX8_device_114 ?_
        exact g_iret B hP hS hf dX8_device_115
      rw [if_neg h15] at hf
      by_cases h17 : p2 = (4 : Int32)
      · rw [if_pos h17] at hf
        refine lv_tableIn (tgt := 116) (off := 93) hx hb dX8_device_23 (by rw [h17]; decide) (by rw [h17]; decide) (by rw [h17]; rfl) (by decide) ?_
        refine lv_aload_n hx hb dX8_device_116 rfl (lv_at hl 0 rfl) ?_
        refine gf_X8_73 F hP dX8_device_117 ?_
        refine lv_iload_n hx hb dX8_device_120 rfl (lv_at hl 1 rfl) ?_
        obtain ⟨h18, hf⟩ := gd_e hf
        refine m_iald F hP ⟨by decide, by decide⟩ rfl h18 dX8_device_121 ?_
        exact g_iret B hP hS hf dX8_device_122
      rw [if_neg h17] at hf
      by_cases h19 : p2 = (5 : Int32)
      · rw [if_pos h19] at hf
        refine lv_tableIn (tgt := 123) (off := 100) hx hb dX8_device_23 (by rw [h19]; decide) (by rw [h19]; decide) (by rw [h19]; rfl) (by decide) ?_
        refine lv_aload_n hx hb dX8_device_123 rfl (lv_at hl 0 rfl) ?_
        refine gf_X8_76 F hP dX8_device_124 ?_
        refine lv_iload_n hx hb dX8_device_127 rfl (lv_at hl 1 rfl) ?_
        obtain ⟨h20, hf⟩ := gd_e hf
        refine m_iald F hP ⟨by decide, by decide⟩ rfl h20 dX8_device_128 ?_
        exact g_iret B hP hS hf dX8_device_129
      rw [if_neg h19] at hf
      by_cases h21 : p2 = (6 : Int32)
      · rw [if_pos h21] at hf
        refine lv_tableIn (tgt := 130) (off := 107) hx hb dX8_device_23 (by rw [h21]; decide) (by rw [h21]; decide) (by rw [h21]; rfl) (by decide) ?_
        refine lv_aload_n hx hb dX8_device_130 rfl (lv_at hl 0 rfl) ?_
        refine gf_X8_79 F hP dX8_device_131 ?_
        refine lv_iload_n hx hb dX8_device_134 rfl (lv_at hl 1 rfl) ?_
        obtain ⟨h22, hf⟩ := gd_e hf
        refine m_iald F hP ⟨by decide, by decide⟩ rfl h22 dX8_device_135 ?_
        exact g_iret B hP hS hf dX8_device_136
      rw [if_neg h21] at hf
      by_cases h23 : p2 = (7 : Int32)
      · rw [if_pos h23] at hf
        refine lv_tableIn (tgt := 137) (off := 114) hx hb dX8_device_23 (by rw [h23]; decide) (by rw [h23]; decide) (by rw [h23]; rfl) (by decide) ?_
        refine lv_aload_n hx hb dX8_device_137 rfl (lv_at hl 0 rfl) ?_
        refine gf_X8_82 F hP dX8_device_138 ?_
        refine lv_iload_n hx hb dX8_device_141 rfl (lv_at hl 1 rfl) ?_
        obtain ⟨h24, hf⟩ := gd_e hf
        refine m_iald F hP ⟨by decide, by decide⟩ rfl h24 dX8_device_142 ?_
        exact g_iret B hP hS hf dX8_device_143
      rw [if_neg h23] at hf
      by_cases h25 : p2 = (8 : Int32)
      · rw [if_pos h25] at hf
        refine lv_tableIn (tgt := 144) (off := 121) hx hb dX8_device_23 (by rw [h25]; decide) (by rw [h25]; decide) (by rw [h25]; rfl) (by decide) ?_
        refine lv_aload_n hx hb dX8_device_144 rfl (lv_at hl 0 rfl) ?_
        refine gf_X8_85 F hP dX8_device_145 ?_
        refine lv_iload_n hx hb dX8_device_148 rfl (lv_at hl 1 rfl) ?_
        obtain ⟨h26, hf⟩ := gd_e hf
        refine m_iald F hP ⟨by decide, by decide⟩ rfl h26 dX8_device_149 ?_
        exact g_iret B hP hS hf dX8_device_150
      rw [if_neg h25] at hf
      by_cases h27 : p2 = (9 : Int32)
      · rw [if_pos h27] at hf
        refine lv_tableIn (tgt := 151) (off := 128) hx hb dX8_device_23 (by rw [h27]; decide) (by rw [h27]; decide) (by rw [h27]; rfl) (by decide) ?_
        refine lv_aload_n hx hb dX8_device_151 rfl (lv_at hl 0 rfl) ?_
        refine gf_X8_88 F hP dX8_device_152 ?_
        refine lv_iload_n hx hb dX8_device_155 rfl (lv_at hl 1 rfl) ?_
        obtain ⟨h28, hf⟩ := gd_e hf
        refine m_iald F hP ⟨by decide, by decide⟩ rfl h28 dX8_device_156 ?_
        exact g_iret B hP hS hf dX8_device_157
      rw [if_neg h27] at hf
      by_cases h29 : p2 = (10 : Int32)
      · rw [if_pos h29] at hf
        refine lv_tableIn (tgt := 158) (off := 135) hx hb dX8_device_23 (by rw [h29]; decide) (by rw [h29]; decide) (by rw [h29]; rfl) (by decide) ?_
        refine lv_aload_n hx hb dX8_device_158 rfl (lv_at hl 0 rfl) ?_
        refine gf_X8_91 F hP dX8_device_159 ?_
        refine lv_iload_n hx hb dX8_device_162 rfl (lv_at hl 1 rfl) ?_
        obtain ⟨h30, hf⟩ := gd_e hf
        refine m_iald F hP ⟨by decide, by decide⟩ rfl h30 dX8_device_163 ?_
        exact g_iret B hP hS hf dX8_device_164
      rw [if_neg h29] at hf
      by_cases h31 : p2 = (11 : Int32)
      · rw [if_pos h31] at hf
        refine lv_tableIn (tgt := 165) (off := 142) hx hb dX8_device_23 (by rw [h31]; decide) (by rw [h31]; decide) (by rw [h31]; rfl) (by decide) ?_
        refine lv_aload_n hx hb dX8_device_165 rfl (lv_at hl 0 rfl) ?_
        refine gf_X8_94 F hP dX8_device_166 ?_
        refine lv_iload_n hx hb dX8_device_169 rfl (lv_at hl 1 rfl) ?_
        obtain ⟨h32, hf⟩ := gd_e hf
        refine m_iald F hP ⟨by decide, by decide⟩ rfl h32 dX8_device_170 ?_
        exact g_iret B hP hS hf dX8_device_171
      rw [if_neg h31] at hf
      by_cases h33 : p2 = (12 : Int32)
      · rw [if_pos h33] at hf
        refine lv_tableIn (tgt := 172) (off := 149) hx hb dX8_device_23 (by rw [h33]; decide) (by rw [h33]; decide) (by rw [h33]; rfl) (by decide) ?_
        refine lv_aload_n hx hb dX8_device_172 rfl (lv_at hl 0 rfl) ?_
        refine gf_X8_97 F hP dX8_device_173 ?_
        refine lv_iload_n hx hb dX8_device_176 rfl (lv_at hl 1 rfl) ?_
        obtain ⟨h34, hf⟩ := gd_e hf
        refine m_iald F hP ⟨by decide, by decide⟩ rfl h34 dX8_device_177 ?_
        exact g_iret B hP hS hf dX8_device_178
      rw [if_neg h33] at hf
      have nh9 := lv_neT h9 (show ((0 : Int32)).toInt = 0 by decide)
      have nh11 := lv_neT h11 (show ((1 : Int32)).toInt = 1 by decide)
      have nh13 := lv_neT h13 (show ((2 : Int32)).toInt = 2 by decide)
      have nh15 := lv_neT h15 (show ((3 : Int32)).toInt = 3 by decide)
      have nh17 := lv_neT h17 (show ((4 : Int32)).toInt = 4 by decide)
      have nh19 := lv_neT h19 (show ((5 : Int32)).toInt = 5 by decide)
      have nh21 := lv_neT h21 (show ((6 : Int32)).toInt = 6 by decide)
      have nh23 := lv_neT h23 (show ((7 : Int32)).toInt = 7 by decide)
      have nh25 := lv_neT h25 (show ((8 : Int32)).toInt = 8 by decide)
      have nh27 := lv_neT h27 (show ((9 : Int32)).toInt = 9 by decide)
      have nh29 := lv_neT h29 (show ((10 : Int32)).toInt = 10 by decide)
      have nh31 := lv_neT h31 (show ((11 : Int32)).toInt = 11 by decide)
      have nh33 := lv_neT h33 (show ((12 : Int32)).toInt = 12 by decide)
      refine lv_tableOut (tgt := 179) hx hb dX8_device_23 (by omega) (by decide) ?_
      refine lv_aload_n hx hb dX8_device_179 rfl (lv_at hl 0 rfl) ?_
      refine gf_X8_100 F hP dX8_device_180 ?_
      refine lv_iload_n hx hb dX8_device_183 rfl (lv_at hl 1 rfl) ?_
      obtain ⟨h35, hf⟩ := gd_e hf
      refine m_iald F hP ⟨by decide, by decide⟩ rfl h35 dX8_device_184 ?_
      exact g_iret B hP hS hf dX8_device_185
    · rw [if_pos h8] at hf
      refine lv_iconst (v := (-1)) hx hb dX8_device_20 (by decide) ?_
      exact g_iret B hP hS hf dX8_device_21
theorem c_X8_device (l : Launch) {E : mEv} (hI : gIj (mG E)) {p1 : Int32} {p2 : Int32} {σ σ' : St} {r : Int32} (hf : f_X8_device p1 p2 σ = some (r, σ')) : gMi l yX8_device cX8_device 3 .int rm_X8_device [.ref (mAd E 0), .int p1, .int p2] (mG E) σ r σ' :=
  g_entry (by decide) (Nat.le_of_ble_eq_true rfl) hI (fun p e s m args below meth c B hP hS ls hl => w_X8_device_e B _ _ σ hf _ _ ls hP hS hl)
/-! PromisedSlotsModel.orphans()I -/
def b_X8_orphans_4 (K4 : (Int32 × Int32 × St → Option (Int32 × St))) (a1 : Int32) (a2 : Int32) (σ : St) : Option (Int32 × St) :=
  if (σ 0 35) ≤ a2 then
    some (a1, σ)
  else
    gd (ix a2 8) <|
    if (σ 36 (nt a2)) = (-4 : Int32) then
      vl (a1 + (1 : Int32)) fun x6 =>
      vl (a2 + (1 : Int32)) fun x7 =>
      K4 (x6, x7, σ)
    else
      vl (a1 + (0 : Int32)) fun x4 =>
      vl (a2 + (1 : Int32)) fun x5 =>
      K4 (x4, x5, σ)
def f_X8_orphans (σ : St) : Option (Int32 × St) :=
  lp (fun K a => b_X8_orphans_4 K a.1 a.2.1 a.2.2) FU ((0 : Int32), (0 : Int32), σ)
abbrev rm_X8_orphans : Room := { frames := 0, cells := 0, slots := 0, locals := 0 }
def P_X8_orphans_4 (p : Program) (l : Launch) (e : Env) (s : State) (m : MethodId) (args : Array Value) (below : List Frame) (meth : Method) (c : Code) (E : mEv) (r : Int32) (σ' : St) (a : Int32 × Int32 × St) : Prop := ∀ (H : Heap) (locs : List Loc) (ls : Array Slot), gW (mG E) a.2.2 H → va_S (gA (mG E)) s.heap H locs → lv_has ls 3 [(0, .ref (mAd E 0)), (1, .int a.1), (2, .int a.2.1)] → W p l e rm_X8_orphans s m args below meth c H locs 0 0 (gQi below args s (mG E) r σ') (F0 m 4 ls [])
set_option maxHeartbeats 4000000 in
set_option maxRecDepth 100000 in
theorem w_X8_orphans_4 {p : Program} {l : Launch} {e : Env} {s : State} {m : MethodId} {args : Array Value} {below : List Frame} {meth : Method} {c : Code} {E : mEv} {r : Int32} {σ' : St} (B : gBx p m meth c cX8_orphans 3 (some .int) s args RX8 (mG E)) {K4 : (Int32 × Int32 × St → Option (Int32 × St))} (hK4 : ∀ a, K4 a = some (r, σ') → P_X8_orphans_4 p l e s m args below meth c E r σ' a) (a1 : Int32) (a2 : Int32) (σ : St) (hf : b_X8_orphans_4 K4 a1 a2 σ = some (r, σ')) (H : Heap) (locs : List Loc) (ls : Array Slot) (hP : gW (mG E) σ H) (hS : va_S (gA (mG E)) s.heap H locs) (hl : lv_has ls 3 [(0, .ref (mAd E 0)), (1, .int a1), (2, .int a2)]) : W p l e rm_X8_orphans s m args below meth c H locs 0 0 (gQi below args s (mG E) r σ') (F0 m 4 ls []) := by
  unfold b_X8_orphans_4 at hf
  obtain ⟨F, hr, hlk⟩ := id B
  have hx := F.1
  have hb := F.2.1
  have hml := F.2.2.1
  have hown := F.2.2.2.1
  have hts := F.2.2.2.2.1
  refine lv_iload_n hx hb dX8_orphans_4 rfl (lv_at hl 2 rfl) ?_
  refine lv_aload_n hx hb dX8_orphans_5 rfl (lv_at hl 0 rfl) ?_
  refine gf_X8_219 F hP dX8_orphans_6 ?_
  refine lv_icmp_ge (tgt := 37) hx hb dX8_orphans_9 (by decide) (fun h1 => ?_) (fun h1 => ?_)
  · rw [if_pos h1] at hf
    refine lv_iload_n hx hb dX8_orphans_37 rfl (lv_at hl 1 rfl) ?_
    exact g_iret B hP hS hf dX8_orphans_38
  · rw [if_neg h1] at hf
    refine lv_iload_n hx hb dX8_orphans_12 rfl (lv_at hl 1 rfl) ?_
    refine lv_aload_n hx hb dX8_orphans_13 rfl (lv_at hl 0 rfl) ?_
    refine gf_X8_61 F hP dX8_orphans_14 ?_
    refine lv_iload_n hx hb dX8_orphans_17 rfl (lv_at hl 2 rfl) ?_
    obtain ⟨h2, hf⟩ := gd_e hf
    refine m_iald F hP ⟨by decide, by decide⟩ rfl h2 dX8_orphans_18 ?_
    refine lv_bipush (v := (-4)) hx hb dX8_orphans_19 (by decide) ?_
    refine lv_icmp_ne (tgt := 28) hx hb dX8_orphans_21 (by decide) (fun h3 => ?_) (fun h3 => ?_)
    · rw [if_neg h3] at hf
      refine lv_iconst (v := 0) hx hb dX8_orphans_28 (by decide) ?_
      refine lv_iadd hx hb dX8_orphans_29 ?_
      obtain ⟨x4, ex4, hf⟩ := vl_x hf
      rw [← ex4]
      refine lv_istore_n (lv' := [(1, .int x4), (0, .ref (mAd E 0)), (2, .int a2)]) hx hb dX8_orphans_30 rfl hl (by decide) rfl (fun ls hl => ?_)
      refine lv_iinc (v := a2 + (1 : Int32)) (lv' := [(2, .int (a2 + (1 : Int32))), (1, .int x4), (0, .ref (mAd E 0))]) hx hb dX8_orphans_31 hl (k := 2) rfl rfl (by decide) rfl (fun ls hl => ?_)
      obtain ⟨x5, ex5, hf⟩ := vl_x hf
      rw [← ex5] at hl
      refine lv_goto (tgt := 4) hx hb dX8_orphans_34 (by decide) ?_
      exact hK4 _ hf _ _ _ hP hS (lv_sub hl [2, 1, 0] rfl)
    · rw [if_pos h3] at hf
      refine lv_iconst (v := 1) hx hb dX8_orphans_24 (by decide) ?_
      refine lv_goto (tgt := 29) hx hb dX8_orphans_25 (by decide) ?_
      refine lv_iadd hx hb dX8_orphans_29 ?_
      obtain ⟨x6, ex6, hf⟩ := vl_x hf
      rw [← ex6]
      refine lv_istore_n (lv' := [(1, .int x6), (0, .ref (mAd E 0)), (2, .int a2)]) hx hb dX8_orphans_30 rfl hl (by decide) rfl (fun ls hl => ?_)
      refine lv_iinc (v := a2 + (1 : Int32)) (lv' := [(2, .int (a2 + (1 : Int32))), (1, .int x6), (0, .ref (mAd E 0))]) hx hb dX8_orphans_31 hl (k := 2) rfl rfl (by decide) rfl (fun ls hl => ?_)
      obtain ⟨x7, ex7, hf⟩ := vl_x hf
      rw [← ex7] at hl
      refine lv_goto (tgt := 4) hx hb dX8_orphans_34 (by decide) ?_
      exact hK4 _ hf _ _ _ hP hS (lv_sub hl [2, 1, 0] rfl)
set_option maxHeartbeats 4000000 in
set_option maxRecDepth 100000 in
theorem w_X8_orphans_e {p : Program} {l : Launch} {e : Env} {s : State} {m : MethodId} {args : Array Value} {below : List Frame} {meth : Method} {c : Code} {E : mEv} {r : Int32} {σ' : St} (B : gBx p m meth c cX8_orphans 3 (some .int) s args RX8 (mG E)) (σ : St) (hf : f_X8_orphans σ = some (r, σ')) (H : Heap) (locs : List Loc) (ls : Array Slot) (hP : gW (mG E) σ H) (hS : va_S (gA (mG E)) s.heap H locs) (hl : lv_has ls 3 [(0, .ref (mAd E 0))]) : W p l e rm_X8_orphans s m args below meth c H locs 0 0 (gQi below args s (mG E) r σ') (F0 m 0 ls []) := by
  unfold f_X8_orphans at hf
  obtain ⟨F, hr, hlk⟩ := id B
  have hx := F.1
  have hb := F.2.1
  have hml := F.2.2.1
  have hown := F.2.2.2.1
  have hts := F.2.2.2.2.1
  refine lv_iconst (v := 0) hx hb dX8_orphans_0 (by decide) ?_
  refine lv_istore_n (lv' := [(1, .int (0 : Int32)), (0, .ref (mAd E 0))]) hx hb dX8_orphans_1 rfl hl (by decide) rfl (fun ls hl => ?_)
  refine lv_iconst (v := 0) hx hb dX8_orphans_2 (by decide) ?_
  refine lv_istore_n (lv' := [(2, .int (0 : Int32)), (1, .int (0 : Int32)), (0, .ref (mAd E 0))]) hx hb dX8_orphans_3 rfl hl (by decide) rfl (fun ls hl => ?_)
  exact lp_w (P := P_X8_orphans_4 p l e s m args below meth c E r σ') (fun K hK a ha => w_X8_orphans_4 B hK a.1 a.2.1 a.2.2 ha) FU _ hf _ _ _ hP hS (lv_sub hl [2, 1, 0] rfl)
theorem c_X8_orphans (l : Launch) {E : mEv} (hI : gIj (mG E)) {σ σ' : St} {r : Int32} (hf : f_X8_orphans σ = some (r, σ')) : gMi l yX8_orphans cX8_orphans 3 .int rm_X8_orphans [.ref (mAd E 0)] (mG E) σ r σ' :=
  g_entry (by decide) (Nat.le_of_ble_eq_true rfl) hI (fun p e s m args below meth c B hP hS ls hl => w_X8_orphans_e B σ hf _ _ ls hP hS hl)
section SE
variable {p : Program} {l : Launch} {e : Env} {R : Room} {s : State} {m : MethodId} {args : Array Value} {below : List Frame} {meth : Method} {c : Code} {H : Heap} {locs : List Loc} {cells slots : Nat} {Q : State → Prop}
variable {cc : ByteArray} {pc nL : Nat} {ls : Array Slot} {rest : List Value} {E : mEv} {σ : St}
theorem kc_X8_346 (F : gFx p m c cc nL s args RX8 (mG E)) (hP : gW (mG E) σ H) (hS : va_S (gA (mG E)) s.heap H locs) {r : Int32} {σ' : St} (hf : f_X8_orphans σ = some (r, σ')) (hR : rm_X8_orphans.frames + 1 ≤ R.frames ∧ 8 + (3 + 11) + rm_X8_orphans.locals ≤ R.locals) (hsz : ls.size = nL) (hrest : (rest.map fun v => v.category).sum ≤ 8) (hcs : cells ≤ R.cells ∧ slots ≤ R.slots) (hdg : decode cc pc = .ok (.invokevirtual 346, 3)) (kk : ∀ (H1 : Heap) (locs1 : List Loc), gW (mG E) σ' H1 → va_S (gA (mG E)) s.heap H1 locs1 → W p l e R s m args below meth c H1 locs1 cells slots Q (F0 m (pc + 3) ls (.int r :: rest))) : W p l e R s m args below meth c H locs cells slots Q (F0 m pc ls (.ref (mAd E 0) :: rest)) :=
  g_callVi F hP hS (c_X8_orphans l F.2.2.2.2.2.2.2 hf) (g_cwV (n := 0) F tw_1185 tw_1187 ts_65 tw_14 tw_1188 (by decide +kernel) rfl rfl hR) (k := 0) min0 (me_0 E _) rfl (As := []) rfl hsz rfl hrest hdg hcs kk
end SE
/-! PromisedSlotsModel.count(I)I -/
def f_X8_count (p1 : Int32) (σ : St) : Option (Int32 × St) :=
  if p1 = (0 : Int32) then
    some ((σ 0 24), σ)
  else if p1 = (1 : Int32) then
    some ((σ 0 35), σ)
  else if p1 = (2 : Int32) then
    some ((σ 0 21), σ)
  else if p1 = (3 : Int32) then
    some ((σ 0 16), σ)
  else if p1 = (4 : Int32) then
    some ((σ 0 17), σ)
  else if p1 = (5 : Int32) then
    some ((σ 0 18), σ)
  else if p1 = (6 : Int32) then
    some ((σ 0 19), σ)
  else if p1 = (7 : Int32) then
    some ((σ 0 20), σ)
  else if p1 = (8 : Int32) then
    some ((σ 0 22), σ)
  else if p1 = (9 : Int32) then
    some ((σ 0 3), σ)
  else if p1 = (10 : Int32) then
    some ((σ 0 0), σ)
  else if p1 = (11 : Int32) then
    cl (f_X8_orphans σ) fun r14 σ13 =>
    some (r14, σ13)
  else if p1 = (12 : Int32) then
    some ((σ 0 23), σ)
  else 
    some ((-1 : Int32), σ)
abbrev rm_X8_count : Room := { frames := 1, cells := 0, slots := 0, locals := 22 }
set_option maxHeartbeats 4000000 in
set_option maxRecDepth 100000 in
theorem w_X8_count_e {p : Program} {l : Launch} {e : Env} {s : State} {m : MethodId} {args : Array Value} {below : List Frame} {meth : Method} {c : Code} {E : mEv} {r : Int32} {σ' : St} (B : gBx p m meth c cX8_count 2 (some .int) s args RX8 (mG E)) (p1 : Int32) (σ : St) (hf : f_X8_count p1 σ = some (r, σ')) (H : Heap) (locs : List Loc) (ls : Array Slot) (hP : gW (mG E) σ H) (hS : va_S (gA (mG E)) s.heap H locs) (hl : lv_has ls 2 [(0, .ref (mAd E 0)), (1, .int p1)]) : W p l e rm_X8_count s m args below meth c H locs 0 0 (gQi below args s (mG E) r σ') (F0 m 0 ls []) := by
  unfold f_X8_count at hf
  obtain ⟨F, hr, hlk⟩ := id B
  have hx := F.1
  have hb := F.2.1
  have hml := F.2.2.1
  have hown := F.2.2.2.1
  have hts := F.2.2.2.2.1
  refine lv_iload_n hx hb dX8_count_0 rfl (lv_at hl 1 rfl) ?_
  by_cases h1 : p1 = (0 : Int32)
  · rw [if_pos h1] at hf
    refine lv_tableIn (tgt := 68) (off := 67) hx hb dX8_count_1 (by rw [h1]; decide) (by rw [h1]; decide) (by rw [h1]; rfl) (by decide) ?_
    refine lv_aload_n hx hb dX8_count_68 rfl (lv_at hl 0 rfl) ?_
    refine gf_X8_246 F hP dX8_count_69 ?_
    exact g_iret B hP hS hf dX8_count_72
  rw [if_neg h1] at hf
  by_cases h2 : p1 = (1 : Int32)
  · rw [if_pos h2] at hf
    refine lv_tableIn (tgt := 73) (off := 72) hx hb dX8_count_1 (by rw [h2]; decide) (by rw [h2]; decide) (by rw [h2]; rfl) (by decide) ?_
    refine lv_aload_n hx hb dX8_count_73 rfl (lv_at hl 0 rfl) ?_
    refine gf_X8_219 F hP dX8_count_74 ?_
    exact g_iret B hP hS hf dX8_count_77
  rw [if_neg h2] at hf
  by_cases h3 : p1 = (2 : Int32)
  · rw [if_pos h3] at hf
    refine lv_tableIn (tgt := 78) (off := 77) hx hb dX8_count_1 (by rw [h3]; decide) (by rw [h3]; decide) (by rw [h3]; rfl) (by decide) ?_
    refine lv_aload_n hx hb dX8_count_78 rfl (lv_at hl 0 rfl) ?_
    refine gf_X8_237 F hP dX8_count_79 ?_
    exact g_iret B hP hS hf dX8_count_82
  rw [if_neg h3] at hf
  by_cases h4 : p1 = (3 : Int32)
  · rw [if_pos h4] at hf
    refine lv_tableIn (tgt := 83) (off := 82) hx hb dX8_count_1 (by rw [h4]; decide) (by rw [h4]; decide) (by rw [h4]; rfl) (by decide) ?_
    refine lv_aload_n hx hb dX8_count_83 rfl (lv_at hl 0 rfl) ?_
    refine gf_X8_222 F hP dX8_count_84 ?_
    exact g_iret B hP hS hf dX8_count_87
  rw [if_neg h4] at hf
  by_cases h5 : p1 = (4 : Int32)
  · rw [if_pos h5] at hf
    refine lv_tableIn (tgt := 88) (off := 87) hx hb dX8_count_1 (by rw [h5]; decide) (by rw [h5]; decide) (by rw [h5]; rfl) (by decide) ?_
    refine lv_aload_n hx hb dX8_count_88 rfl (lv_at hl 0 rfl) ?_
    refine gf_X8_225 F hP dX8_count_89 ?_
    exact g_iret B hP hS hf dX8_count_92
  rw [if_neg h5] at hf
  by_cases h6 : p1 = (5 : Int32)
  · rw [if_pos h6] at hf
    refine lv_tableIn (tgt := 93) (off := 92) hx hb dX8_count_1 (by rw [h6]; decide) (by rw [h6]; decide) (by rw [h6]; rfl) (by decide) ?_
    refine lv_aload_n hx hb dX8_count_93 rfl (lv_at hl 0 rfl) ?_
    refine gf_X8_228 F hP dX8_count_94 ?_
    exact g_iret B hP hS hf dX8_count_97
  rw [if_neg h6] at hf
  by_cases h7 : p1 = (6 : Int32)
  · rw [if_pos h7] at hf
    refine lv_tableIn (tgt := 98) (off := 97) hx hb dX8_count_1 (by rw [h7]; decide) (by rw [h7]; decide) (by rw [h7]; rfl) (by decide) ?_
    refine lv_aload_n hx hb dX8_count_98 rfl (lv_at hl 0 rfl) ?_
    refine gf_X8_231 F hP dX8_count_99 ?_
    exact g_iret B hP hS hf dX8_count_102
  rw [if_neg h7] at hf
  by_cases h8 : p1 = (7 : Int32)
  · rw [if_pos h8] at hf
    refine lv_tableIn (tgt := 103) (off := 102) hx hb dX8_count_1 (by rw [h8]; decide) (by rw [h8]; decide) (by rw [h8]; rfl) (by decide) ?_
    refine lv_aload_n hx hb dX8_count_103 rfl (lv_at hl 0 rfl) ?_
    refine gf_X8_234 F hP dX8_count_104 ?_
    exact g_iret B hP hS hf dX8_count_107
  rw [if_neg h8] at hf
  by_cases h9 : p1 = (8 : Int32)
  · rw [if_pos h9] at hf
    refine lv_tableIn (tgt := 108) (off := 107) hx hb dX8_count_1 (by rw [h9]; decide) (by rw [h9]; decide) (by rw [h9]; rfl) (by decide) ?_
    refine lv_aload_n hx hb dX8_count_108 rfl (lv_at hl 0 rfl) ?_
    refine gf_X8_240 F hP dX8_count_109 ?_
    exact g_iret B hP hS hf dX8_count_112
  rw [if_neg h9] at hf
  by_cases h10 : p1 = (9 : Int32)
  · rw [if_pos h10] at hf
    refine lv_tableIn (tgt := 113) (off := 112) hx hb dX8_count_1 (by rw [h10]; decide) (by rw [h10]; decide) (by rw [h10]; rfl) (by decide) ?_
    refine lv_aload_n hx hb dX8_count_113 rfl (lv_at hl 0 rfl) ?_
    refine gf_X8_148 F hP dX8_count_114 ?_
    exact g_iret B hP hS hf dX8_count_117
  rw [if_neg h10] at hf
  by_cases h11 : p1 = (10 : Int32)
  · rw [if_pos h11] at hf
    refine lv_tableIn (tgt := 118) (off := 117) hx hb dX8_count_1 (by rw [h11]; decide) (by rw [h11]; decide) (by rw [h11]; rfl) (by decide) ?_
    refine lv_aload_n hx hb dX8_count_118 rfl (lv_at hl 0 rfl) ?_
    refine gf_X8_165 F hP dX8_count_119 ?_
    exact g_iret B hP hS hf dX8_count_122
  rw [if_neg h11] at hf
  by_cases h12 : p1 = (11 : Int32)
  · rw [if_pos h12] at hf
    refine lv_tableIn (tgt := 123) (off := 122) hx hb dX8_count_1 (by rw [h12]; decide) (by rw [h12]; decide) (by rw [h12]; rfl) (by decide) ?_
    refine lv_aload_n hx hb dX8_count_123 rfl (lv_at hl 0 rfl) ?_
    obtain ⟨r14, σ13, h15, hf⟩ := cl_e hf
    refine kc_X8_346 F hP hS h15 ⟨Nat.le_of_ble_eq_true rfl, Nat.le_of_ble_eq_true rfl⟩ hl.1 (Nat.le_of_ble_eq_true rfl) ⟨Nat.zero_le _, Nat.zero_le _⟩ dX8_count_124 (fun H locs hP hS => ?_)
    exact g_iret B hP hS hf dX8_count_127
  rw [if_neg h12] at hf
  by_cases h16 : p1 = (12 : Int32)
  · rw [if_pos h16] at hf
    refine lv_tableIn (tgt := 128) (off := 127) hx hb dX8_count_1 (by rw [h16]; decide) (by rw [h16]; decide) (by rw [h16]; rfl) (by decide) ?_
    refine lv_aload_n hx hb dX8_count_128 rfl (lv_at hl 0 rfl) ?_
    refine gf_X8_243 F hP dX8_count_129 ?_
    exact g_iret B hP hS hf dX8_count_132
  rw [if_neg h16] at hf
  have nh1 := lv_neT h1 (show ((0 : Int32)).toInt = 0 by decide)
  have nh2 := lv_neT h2 (show ((1 : Int32)).toInt = 1 by decide)
  have nh3 := lv_neT h3 (show ((2 : Int32)).toInt = 2 by decide)
  have nh4 := lv_neT h4 (show ((3 : Int32)).toInt = 3 by decide)
  have nh5 := lv_neT h5 (show ((4 : Int32)).toInt = 4 by decide)
  have nh6 := lv_neT h6 (show ((5 : Int32)).toInt = 5 by decide)
  have nh7 := lv_neT h7 (show ((6 : Int32)).toInt = 6 by decide)
  have nh8 := lv_neT h8 (show ((7 : Int32)).toInt = 7 by decide)
  have nh9 := lv_neT h9 (show ((8 : Int32)).toInt = 8 by decide)
  have nh10 := lv_neT h10 (show ((9 : Int32)).toInt = 9 by decide)
  have nh11 := lv_neT h11 (show ((10 : Int32)).toInt = 10 by decide)
  have nh12 := lv_neT h12 (show ((11 : Int32)).toInt = 11 by decide)
  have nh16 := lv_neT h16 (show ((12 : Int32)).toInt = 12 by decide)
  refine lv_tableOut (tgt := 133) hx hb dX8_count_1 (by omega) (by decide) ?_
  refine lv_iconst (v := (-1)) hx hb dX8_count_133 (by decide) ?_
  exact g_iret B hP hS hf dX8_count_134
theorem c_X8_count (l : Launch) {E : mEv} (hI : gIj (mG E)) {p1 : Int32} {σ σ' : St} {r : Int32} (hf : f_X8_count p1 σ = some (r, σ')) : gMi l yX8_count cX8_count 2 .int rm_X8_count [.ref (mAd E 0), .int p1] (mG E) σ r σ' :=
  g_entry (by decide) (Nat.le_of_ble_eq_true rfl) hI (fun p e s m args below meth c B hP hS ls hl => w_X8_count_e B _ σ hf _ _ ls hP hS hl)
