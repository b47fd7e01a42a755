theorem dfX8 : ∀ j, j < 58 → defaultValue (tyX8 j) = vp_V (f8 (fun _ => none)) j := fun j hj => match j, hj with
  | 0, _ => rfl
  | 1, _ => rfl
  | 2, _ => rfl
  | 3, _ => rfl
  | 4, _ => rfl
  | 5, _ => rfl
  | 6, _ => rfl
  | 7, _ => rfl
  | 8, _ => rfl
  | 9, _ => rfl
  | 10, _ => rfl
  | 11, _ => rfl
  | 12, _ => rfl
  | 13, _ => rfl
  | 14, _ => rfl
  | 15, _ => rfl
  | 16, _ => rfl
  | 17, _ => rfl
  | 18, _ => rfl
  | 19, _ => rfl
  | 20, _ => rfl
  | 21, _ => rfl
  | 22, _ => rfl
  | 23, _ => rfl
  | 24, _ => rfl
  | 25, _ => rfl
  | 26, _ => rfl
  | 27, _ => rfl
  | 28, _ => rfl
  | 29, _ => rfl
  | 30, _ => rfl
  | 31, _ => rfl
  | 32, _ => rfl
  | 33, _ => rfl
  | 34, _ => rfl
  | 35, _ => rfl
  | 36, _ => rfl
  | 37, _ => rfl
  | 38, _ => rfl
  | 39, _ => rfl
  | 40, _ => rfl
  | 41, _ => rfl
  | 42, _ => rfl
  | 43, _ => rfl
  | 44, _ => rfl
  | 45, _ => rfl
  | 46, _ => rfl
  | 47, _ => rfl
  | 48, _ => rfl
  | 49, _ => rfl
  | 50, _ => rfl
  | 51, _ => rfl
  | 52, _ => rfl
  | 53, _ => rfl
  | 54, _ => rfl
  | 55, _ => rfl
  | 56, _ => rfl
  | 57, _ => rfl
  | j + 58, h => absurd h (by omega)
theorem NW_tab {w : Cond} (h : w ∈ NW) : w.onTables = true := by
  have h2 := (List.mem_filter.mp h).2
  cases w <;> first | rfl | (simp [isNest] at h2)
theorem tl_71 : (Jvm.Cond.arrayOver (Jvm.ClassFile.FieldType.object "PromisedSlots$Device")) ∈ lw_tbl := List.mem_of_getElem? (i := 238) (by decide +kernel)
theorem tl_144 : (Jvm.Cond.arrayOver (Jvm.ClassFile.FieldType.object "PromisedSlots$Coordinator")) ∈ lw_tbl := List.mem_of_getElem? (i := 185) (by decide +kernel)
theorem tl_286 : (Jvm.Cond.laysStatic "java/lang/String" "COMPACT_STRINGS" "Z") ∈ lw_tbl := List.mem_of_getElem? (i := 349) (by decide +kernel)
theorem tl_302 : (Jvm.Cond.laysStatic "jdk/internal/util/Preconditions" "SIOOBE_FORMATTER" "Ljava/util/function/BiFunction;") ∈ lw_tbl := List.mem_of_getElem? (i := 365) (by decide +kernel)
theorem tl_str : (Jvm.Cond.stringRef "PromisedSlots" (63 : Nat) "o418;d023;d012;d031;c00192;d123;d112;c00400;d221;l3;") ∈ lw_tbl := by decide +kernel
theorem fl_ex : (Cond.exactly (Term.string "PromisedSlots" 63) "java/lang/String") ∈ flatC (Jvm.Cond.and given_1 narrow_1) := by decide +kernel
theorem fl_co : (Cond.eq (.field (Term.string "PromisedSlots" 63) "java/lang/String" "coder" "B") (.int 0)) ∈ flatC (Jvm.Cond.and given_1 narrow_1) := by decide +kernel
theorem fl_ar : (Cond.arrayOf (Term.field (Term.string "PromisedSlots" 63) "java/lang/String" "value" "[B") .byte) ∈ flatC (Jvm.Cond.and given_1 narrow_1) := by decide +kernel
theorem fl_le : (Cond.eq (.length (Term.field (Term.string "PromisedSlots" 63) "java/lang/String" "value" "[B")) (.int (Int32.ofNat 52))) ∈ flatC (Jvm.Cond.and given_1 narrow_1) := by decide +kernel
theorem fl_el : ∀ j, j < 52 → (Cond.eq (.elem (Term.field (Term.string "PromisedSlots" 63) "java/lang/String" "value" "[B") (.int (Int32.ofNat j))) (.int (ftB.getD j 0))) ∈ flatC (Jvm.Cond.and given_1 narrow_1) := by decide +kernel
theorem fl_cs : (Cond.eq (.static "java/lang/String" "COMPACT_STRINGS" "Z") (.int 1)) ∈ flatC (Jvm.Cond.and given_1 narrow_1) := by decide +kernel
theorem fl_si : (Cond.isRef (.static "jdk/internal/util/Preconditions" "SIOOBE_FORMATTER" "Ljava/util/function/BiFunction;")) ∈ flatC (Jvm.Cond.and given_1 narrow_1) := by decide +kernel
theorem k7_blind {av : List Value} {D : va_G} {cI cC cD : ClassId} {sz h0 aK aV : Nat} : FrameBlind (va_Pc av (k7Pre D cI cC cD sz h0 aK aV)) := fun a U g mk q => ⟨q.1, (k_blind (av := av) a U g mk ⟨q.1, q.2.1⟩).2, ⟨va_Z.moved (u := U) (U := U.calling g mk a) (Vm.Alike.refl U.vm) q.2.2.1.1, va_Zq.moved (u := U) (U := U.calling g mk a) (Vm.Alike.refl U.vm) q.2.2.1.2.1, vk_S.moved (u := U) (U := U.calling g mk a) (Vm.Alike.refl U.vm) q.2.2.1.2.2⟩, vk_R.same (u := U) (U := U.calling g mk a) rfl q.2.2.2⟩
/-- what the law's start knows: the classes, the array classes, the first text -/
theorem lw_know {p : Program} {s : State} {m : MethodId} {meth : Method} {c : Code} {b L : Nat} {xs : Nat → Int32} (C0 : lw_At p s m meth c b L xs) : ∃ (D : va_G) (cI cC cD : ClassId) (aK aV : Nat), va_K D classes [(cI, .int), (cC, .object "PromisedSlots$Coordinator"), (cD, .object "PromisedSlots$Device")] s ∧ va_AO "PromisedSlots$Coordinator" s ∧ va_AO "PromisedSlots$Device" s ∧ hasN s ∧ sEv (lwA s) aK aV s s.heap ∧ vk_R "PromisedSlots" 63 "o418;d023;d012;d031;c00192;d123;d112;c00400;d221;l3;" aK s := by
  obtain ⟨hx, hb, hr, hml, hown, hts, hX, hbl, hlocks, hgv⟩ := C0
  have hU : ∀ w ∈ U0, w.before #[Value.ref b] s = true := fun w hw => hts w (U0_tbl hw)
  have hN : hasN s := fun w hw => va_Nw.of (NW_tab hw) (hts w (NW_tbl hw))
  obtain ⟨c0, i0, k0⟩ := u_known (C := RX0) (T := TX0) (N := 4) (n := 4) hU inX0 (hU _ ti_X0)
  obtain ⟨c1, i1, k1⟩ := u_known (C := RX1) (T := TX1) (N := 7) (n := 7) hU inX1 (hU _ ti_X1)
  obtain ⟨c2, i2, k2⟩ := u_known (C := RX2) (T := TX2) (N := 20) (n := 20) hU inX2 (hU _ ti_X2)
  obtain ⟨c3, i3, k3⟩ := u_known (C := RX3) (T := TX3) (N := 12) (n := 12) hU inX3 (hU _ ti_X3)
  obtain ⟨c4, i4, k4⟩ := u_known (C := RX4) (T := TX4) (N := 4) (n := 4) hU inX4 (hU _ ti_X4)
  obtain ⟨c5, i5, k5⟩ := u_known (C := RX5) (T := TX5) (N := 4) (n := 4) hU inX5 (hU _ ti_X5)
  obtain ⟨c6, i6, k6⟩ := u_known (C := RX6) (T := TX6) (N := 2) (n := 2) hU inX6 (hU _ ti_X6)
  obtain ⟨c7, i7, k7⟩ := u_known (C := RX7) (T := TX7) (N := 10) (n := 10) hU inX7 (hU _ ti_X7)
  obtain ⟨c8, i8, k8⟩ := u_known (C := RX8) (T := TX8) (N := 58) (n := 58) hU inX8 (hU _ ti_X8)
  obtain ⟨dC, dI, hKc⟩ : ∃ (dC : Nat → ClassId) (dI : Nat → Nat → Nat), ∀ (k : Nat) (q : vw_C), classes[k]? = some q → u_Kn s q.1 q.2.1 q.2.2 (dC k) (dI k) := by
    refine ⟨fun k => if k = 0 then c0 else if k = 1 then c1 else if k = 2 then c2 else if k = 3 then c3 else if k = 4 then c4 else if k = 5 then c5 else if k = 6 then c6 else if k = 7 then c7 else c8, fun k => if k = 0 then i0 else if k = 1 then i1 else if k = 2 then i2 else if k = 3 then i3 else if k = 4 then i4 else if k = 5 then i5 else if k = 6 then i6 else if k = 7 then i7 else i8, ?_⟩
    intro k q hq
    match k, hq with
    | 0, hq => cases hq; exact k0
    | 1, hq => cases hq; exact k1
    | 2, hq => cases hq; exact k2
    | 3, hq => cases hq; exact k3
    | 4, hq => cases hq; exact k4
    | 5, hq => cases hq; exact k5
    | 6, hq => cases hq; exact k6
    | 7, hq => cases hq; exact k7
    | 8, hq => cases hq; exact k8
    | k + 9, hq => simp [classes] at hq
  obtain ⟨cI, kI, compI, hcI, hkI, hkindI⟩ := Cond.arrayClass_spec (hU _ tw_42)
  have hAC : va_AO "PromisedSlots$Coordinator" s := va_AO.of (hts _ tl_144)
  have hAD : va_AO "PromisedSlots$Device" s := va_AO.of (hts _ tl_71)
  obtain ⟨compC, cC, kC, f1, f2, f3, f4, f5⟩ := Cond.arrayOver_spec hAC
  obtain ⟨compD, cD, kD, g1, g2, g3, g4, g5⟩ := Cond.arrayOver_spec hAD
  have hs := flat_of_before _ hgv
  have hA' : ∀ a : Nat, a < s.heap.size → ¬ lwA s a := fun a h1 h2 => absurd h1 (Nat.not_lt.mpr h2)
  obtain ⟨adK, adV, hvS, hev⟩ := vk_Sof (args := #[Value.ref b]) (s := s) (N := 1) (tm := fun _ => (Term.string "PromisedSlots" 63)) (len := [52]) (byt := [ftB]) (A := lwA s)
    (fun i hi => by obtain rfl : i = 0 := by omega
                    decide)
    (fun i hi => hs _ fl_ex) (fun i hi => hs _ fl_co) (fun i hi => hs _ fl_ar)
    (fun i hi => by obtain rfl : i = 0 := by omega
                    exact hs _ fl_le)
    (fun i hi j hj => by obtain rfl : i = 0 := by omega
                         exact hs _ (fl_el j hj))
    (fun i j hi hj hne => by omega) hA'
  have hvS' : vk_S 1 [52] [ftB] (fun _ => adK 0) (fun _ => adV 0) (lwA s) s s.heap := by
    refine ⟨fun i hi => ?_, fun i j hi hj _ => by omega⟩
    obtain rfl : i = 0 := by omega
    exact hvS.1 0 (by decide)
  refine ⟨(dC, dI), cI, cC, cD, adK 0, adV 0, ⟨hKc, fun k q h => ?_⟩, hAC, hAD, hN, ⟨va_Zof (hts _ tl_286) (hU _ tw_10) (va_eqt (hs _ fl_cs)) hA', va_Zqof (hts _ tl_302) (hU _ tw_12) (hs _ fl_si) hA', hvS'⟩, vk_R.of (hts _ tl_str) (hev 0 (by decide))⟩
  match k, h with
  | 0, h => cases h; exact ⟨fun n z => ⟨fun k h => (by cases h), kI, hkI, compI, hkindI⟩, hcI⟩
  | 1, h => cases h; exact ⟨fun n z => ⟨fun k h => (by cases h), kC, f3, compC, f4⟩, kC, compC, f3, f4, f1, f5⟩
  | 2, h => cases h; exact ⟨fun n z => ⟨fun k h => (by cases h), kD, g3, compD, g4⟩, kD, compD, g3, g4, g1, g5⟩
  | k + 3, h => simp at h
set_option maxHeartbeats 4000000 in
set_option maxRecDepth 100000 in
/-- THE LAW, from its entry -/
theorem whole_start {p : Program} {e : Env} {s : State} {m : MethodId} {below : List Frame} {meth : Method} {c : Code} (l : Launch) (hflags : l.flags = flags0) {b L : Nat} {xs : Nat → Int32} (hL : L ≤ 2048) (C0 : lw_At p s m meth c b L xs) : W p l e room_1 s m #[Value.ref b] below meth c s.heap [] 0 0 (lw_Z below #[Value.ref b] s) (entryFrame m ([Value.ref b] : List Value).toArray 4) := by
  obtain ⟨u7, u8, σ0, τ0, hf7, hf8, hR0⟩ := rel_init
  obtain ⟨D, cI, cC, cD, aK, aV, hK, hAC, hAD, hN, hE, hR⟩ := lw_know C0
  obtain ⟨hx, hb, hr, hml, hown, hts, hX, hbl, hlocks, hgv⟩ := id C0
  have hU : ∀ w ∈ U0, w.before #[Value.ref b] s = true := fun w hw => hts w (U0_tbl hw)
  have hA : ∀ q : Nat, s.heap.size ≤ q → lwA s q := fun _ h => h
  have hS : va_S (lwA s) s.heap s.heap [] := va_S.rf
  have hP : va_P D classes [] s.heap := fun k q h => by simp at h
  have hD : va_D (lwA s) [] := ⟨fun i j p q h => by simp at h, fun k q h => by simp at h⟩
  have hl := lv_entry ([.ref b]) (n := 4) (Nat.le_of_ble_eq_true rfl)
  rw [lg_entry_eq]
  generalize (lg_sl ([.ref b]) ++ List.replicate (4 - (lg_sl ([.ref b])).length) Slot.unset).toArray = ls at hl ⊢
  have hl : lv_has ls 4 [(0, .ref b)] := hl
  refine va_new (ci := 7) (fs := dvX7) (C := RX7) (T := TX7) (N := 10) hx hb hU inX7 tyX7 tyX7_ok hown (hU _ tw_16) (hU _ ti_X7) (hU _ tw_1) hK hP hD hS hA rfl dfX7 (Nat.le_of_ble_eq_true rfl) (Nat.le_of_ble_eq_true rfl) dL_law_0 (fun q0 H hP hD hS => ?_)
  have hP : va_P D classes [(q0, .inr (7, dvX7))] H := hP
  have hD : va_D (lwA s) [(q0, .inr (7, dvX7))] := hD
  have hq0 : lwA s q0 := hD.2 0 _ rfl
  refine W.widen (k := 1) (n := 10) (Nat.le_refl _) (Nat.le_refl _) ?_
  refine lv_dup hx hb dL_law_3 rfl ?_
  have hFc := va_free (wc := [(q0, .inr (7, dvX7))]) hD hS hA [0] rfl
  have keep : ∀ q : Nat, q < s.heap.size → ¬ lwA s q → H[q]? = s.heap[q]? := hS.2.1
  refine va_callv (va_runI (As := []) (rest := [.ref q0]) ⟨hx, hb, hml, hown, hU⟩ (c_X7_init l D cI cC cD q0 H.size aK aV hf7) (cwI 0 hU (g_good1 tw_20) rfl rfl rfl (hU _ tw_1) (hU _ tw_18) (hU _ tw_19) rfl (by decide +kernel) ⟨Nat.le_of_ble_eq_true rfl, Nat.le_of_ble_eq_true rfl⟩) ⟨k7_blind, fun U hU' hW => ⟨rfl, ⟨by rw [hU'], by rw [hU']; exact hP, hD.weaken (fun _ _ _ _ => trivial), va_K.moved hW.alike hK, hasN.warm hW hN, hAC.moved hW.alike, hAD.moved hW.alike⟩, by
      rw [hU']
      have hn : ∀ q, q = q0 → lwA s q := fun q h => by rw [h]; exact hq0
      exact ⟨((hE.1.kept keep).moved hW.alike).narrow hn, ((hE.2.1.kept keep).moved hW.alike).narrow hn, ((hE.2.2.kept keep).moved hW.alike).narrow hn⟩, vk_R.warm hW hR⟩⟩ rfl rfl hl.1 rfl (lv_room (Nat.le_of_ble_eq_true rfl)) dL_law_4 ⟨Nat.le_of_ble_eq_true rfl, Nat.le_of_ble_eq_true rfl⟩) hS (fun q _ h => hFc q h) hFc (fun ad t H1 locs ht hvm hw hB hz1 hk1 hS => ?_)
  subst ht
  obtain ⟨hPc, hIc, hAc0⟩ := hB
  obtain ⟨E, hEe⟩ : ∃ E : cEv, E = (D, cI, cC, cD, ad) := ⟨_, rfl⟩
  have hE0 : cAd E 0 = q0 := by rw [hEe]; exact hw
  have hE1 : E.1 = D := by rw [hEe]
  have hKc : gK (cG E) s := by rw [hEe]; exact hK
  rw [← hEe] at hPc hIc hAc0
  have hAc : ∀ q, gA (cG E) q → lwA s q := fun q h => hFc q (hAc0 q h)
  generalize t.heap = H1 at hPc hS hz1 hk1 ⊢
  refine W.widen (k := 53) (n := 2149) (Nat.le_refl _) (Nat.le_refl _) ?_
  refine lv_astore_n (lv' := [(1, .ref q0), (0, .ref b)]) hx hb dL_law_7 rfl hl (by decide) rfl (fun ls hl => ?_)
  have hDc : va_D (lwA s) (gWS (cG E) σ0) := gW_DA hIc hAc σ0
  have hPd : va_P D classes (gWS (cG E) σ0) H1 := by
    have h : va_P E.1 classes (gWS (cG E) σ0) H1 := hPc
    rw [hE1] at h
    exact h
  refine va_new (ci := 8) (fs := f8 (fun _ => none)) (C := RX8) (T := TX8) (N := 58) hx hb hU inX8 tyX8 tyX8_ok hown (hU _ tw_751) (hU _ ti_X8) (hU _ tw_14) hK hPd hDc hS hA rfl dfX8 (Nat.le_of_ble_eq_true rfl) (Nat.le_of_ble_eq_true rfl) dL_law_8 (fun q1 H hP hD hS => ?_)
  refine W.widen (k := 54) (n := 2207) (Nat.le_refl _) (Nat.le_refl _) ?_
  refine lv_dup hx hb dL_law_11 rfl ?_
  have hlen : (gWS (cG E) σ0)[(gWS (cG E) σ0).length]? = none := List.getElem?_eq_none (Nat.le_refl _)
  have hlast : (gWS (cG E) σ0 ++ [(q1, .inr (8, f8 (fun _ => none)))])[(gWS (cG E) σ0).length]? = some (q1, .inr (8, f8 (fun _ => none))) := by
    rw [List.getElem?_append_right (Nat.le_refl _), Nat.sub_self]
    rfl
  have hPm : va_P D classes (w8 cI q1 (fun _ => none) []) H := by
    intro k q h
    match k, h with
    | 0, h => cases h; exact hP _ _ hlast
    | k + 1, h => cases h
  have hDm : va_D (fun _ => True) (w8 cI q1 (fun _ => none) []) := by
    refine ⟨fun i j x y hi hj _ => ?_, fun _ _ _ => trivial⟩
    match i, j, hi, hj with
    | 0, 0, _, _ => rfl
    | 0, j + 1, _, hj => cases hj
    | i + 1, _, hi, _ => cases hi
  have hPc : gW (cG E) σ0 H := by
    show va_P E.1 classes (gWS (cG E) σ0) H
    rw [hE1]
    intro k q h
    exact hP k q (by rw [List.getElem?_append_left (List.getElem?_eq_some_iff.mp h).1]; exact h)
  have hq1 : lwA s q1 := hD.2 _ _ hlast
  have hnc : ¬ gA (cG E) q1 := by
    rintro ⟨k, hk, he⟩
    obtain ⟨q, hq, -⟩ := gWs_at (ad := gAd (cG E)) (ce := (cG E).2.2.2.2) hIc.1 hk σ0
    have hq' : (gWS (cG E) σ0)[q]? = some (gAd (cG E) k, (cG E).2.2.2.2 k (σ0 k)) := hq
    have hlt := (List.getElem?_eq_some_iff.mp hq').1
    have := hD.1 q (gWS (cG E) σ0).length _ _ (by rw [List.getElem?_append_left hlt]; exact hq') hlast he.symm
    omega
  have hclt : ∀ q, gA (cG E) q → q < H.size := by
    rintro q ⟨k, hk, rfl⟩
    obtain ⟨i, hi, -⟩ := gWs_at (ad := gAd (cG E)) (ce := (cG E).2.2.2.2) hIc.1 hk σ0
    exact (hPc i _ hi).lt
  have hFm : ∀ q, va_A (w8 cI q1 (fun _ => none) []) H.size q → lwA s q := by
    intro q h
    rcases h with ⟨k, x, hx⟩ | h
    · match k, hx with
      | 0, hx => cases hx; exact hq1
      | k + 1, hx => cases hx
    · exact Nat.le_trans hS.1 h
  refine va_callv (va_runI (As := []) (rest := [.ref q1]) ⟨hx, hb, hml, hown, hU⟩ (c_X8_init l D cI cC cD q1 H.size hf8) (cwI 0 hU (g_good1 tw_755) rfl rfl rfl (hU _ tw_14) (hU _ tw_753) (hU _ tw_754) rfl (by decide +kernel) ⟨Nat.le_of_ble_eq_true rfl, Nat.le_of_ble_eq_true rfl⟩) ⟨k_blind, fun U hU' hW => ⟨rfl, by rw [hU'], by rw [hU']; exact hPm, hDm, va_K.moved hW.alike hK, hasN.warm hW hN, hAC.moved hW.alike, hAD.moved hW.alike⟩⟩ rfl rfl hl.1 rfl (lv_room (Nat.le_of_ble_eq_true rfl)) dL_law_12 ⟨Nat.le_of_ble_eq_true rfl, Nat.le_of_ble_eq_true rfl⟩) hS (fun q _ h => hFm q h) hFm (fun adm t H2 locs ht hvm hwm hB hz2 hk2 hS => ?_)
  subst ht
  obtain ⟨hMm, hIm, hAm0⟩ := hB
  obtain ⟨E', hEm⟩ : ∃ E' : mEv, E' = (D, cI, adm) := ⟨_, rfl⟩
  have hE0' : mAd E' 0 = q1 := by rw [hEm]; exact hwm
  have hKm : gK (mG E') s := by rw [hEm]; exact hK.sub (tys' := [(cI, .int)]) [0] rfl
  rw [← hEm] at hMm hIm hAm0
  have hAm : ∀ q, gA (mG E') q → lwA s q := fun q h => hFm q (hAm0 q h)
  have hdis : ∀ q, gA (cG E) q → ¬ gA (mG E') q := by
    intro q h1 h2
    rcases hAm0 q h2 with ⟨k, x, hx⟩ | h
    · match k, hx with
      | 0, hx => cases hx; exact hnc h1
      | k + 1, hx => cases hx
    · exact absurd (hclt q h1) (Nat.not_lt.mpr h)
  have hPc := gW.kept hPc (fun q hlt hg => hk2 q hlt (fun h => by
    rcases h with ⟨k, x, hx⟩ | h
    · match k, hx with
      | 0, hx => cases hx; exact hnc hg
      | k + 1, hx => cases hx
    · omega))
  generalize t.heap = H2 at hPc hMm hS ⊢
  refine W.widen (k := 91) (n := 4246) (Nat.le_refl _) (Nat.le_refl _) ?_
  refine lv_astore_n (lv' := [(2, .ref q1), (1, .ref q0), (0, .ref b)]) hx hb dL_law_15 rfl hl (by decide) rfl (fun ls hl => ?_)
  refine lv_iconst (v := 0) hx hb dL_law_16 (by decide) ?_
  refine lv_istore_n (lv' := [(3, .int 0), (2, .ref q1), (1, .ref q0), (0, .ref b)]) hx hb dL_law_17 rfl hl (by decide) rfl (fun ls hl => ?_)
  have hl := lv_sub hl [3, 2, 1, 0] rfl
  rw [← hE0, ← hE0'] at hl
  exact lw_loop hL C0 ⟨hx, hb, hml, hown, hU, hN, hKc, hIc⟩ ⟨hx, hb, hml, hown, hU, hN, hKm, hIm⟩ hAc hAm hdis 513 0 rfl σ0 τ0 hR0 _ _ _ hPc hMm hS hl
