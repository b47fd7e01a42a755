def RJ0 : String := "java/lang/String"
abbrev cJ0_length_8abf5 : ByteArray := prog_12_method_54_code
def yJ0_length_8abf5 : MethodName := ⟨RJ0, "length", "()I"⟩
abbrev cJ0_charAt_5068e : ByteArray := prog_12_method_56_code
def yJ0_charAt_5068e : MethodName := ⟨RJ0, "charAt", "(I)C"⟩
abbrev cJ0_coder_7d493 : ByteArray := prog_12_method_152_code
def yJ0_coder_7d493 : MethodName := ⟨RJ0, "coder", "()B"⟩
abbrev cJ0_isLatin1_aae02 : ByteArray := prog_12_method_154_code
def yJ0_isLatin1_aae02 : MethodName := ⟨RJ0, "isLatin1", "()Z"⟩
abbrev cJ0_checkIndex_df160 : ByteArray := prog_12_method_155_code
def yJ0_checkIndex_df160 : MethodName := ⟨RJ0, "checkIndex", "(II)V"⟩
def RJ1 : String := "java/lang/StringLatin1"
abbrev cJ1_charAt_3b067 : ByteArray := prog_13_method_2_code
def yJ1_charAt_3b067 : MethodName := ⟨RJ1, "charAt", "([BI)C"⟩
def RJ3 : String := "jdk/internal/util/Preconditions"
abbrev cJ3_checkIndex_8e157 : ByteArray := prog_16_method_11_code
def yJ3_checkIndex_8e157 : MethodName := ⟨RJ3, "checkIndex", "(IILjava/util/function/BiFunction;)I"⟩
theorem dJ0_length_8abf5_0 : decode cJ0_length_8abf5 0 = .ok (.aload_n 0, 1) := by decide +kernel
theorem dJ0_length_8abf5_1 : decode cJ0_length_8abf5 1 = .ok (.getfield 9, 3) := by decide +kernel
theorem dJ0_length_8abf5_4 : decode cJ0_length_8abf5 4 = .ok (.arraylength, 1) := by decide +kernel
theorem dJ0_length_8abf5_5 : decode cJ0_length_8abf5 5 = .ok (.aload_n 0, 1) := by decide +kernel
theorem dJ0_length_8abf5_6 : decode cJ0_length_8abf5 6 = .ok (.invokevirtual 335, 3) := by decide +kernel
theorem dJ0_length_8abf5_9 : decode cJ0_length_8abf5 9 = .ok (.ishr, 1) := by decide +kernel
theorem dJ0_length_8abf5_10 : decode cJ0_length_8abf5 10 = .ok (.ireturn, 1) := by decide +kernel
theorem dJ0_charAt_5068e_0 : decode cJ0_charAt_5068e 0 = .ok (.aload_n 0, 1) := by decide +kernel
theorem dJ0_charAt_5068e_1 : decode cJ0_charAt_5068e 1 = .ok (.invokevirtual 492, 3) := by decide +kernel
theorem dJ0_charAt_5068e_4 : decode cJ0_charAt_5068e 4 = .ok (.ifCond .eq 12, 3) := by decide +kernel
theorem dJ0_charAt_5068e_7 : decode cJ0_charAt_5068e 7 = .ok (.aload_n 0, 1) := by decide +kernel
theorem dJ0_charAt_5068e_8 : decode cJ0_charAt_5068e 8 = .ok (.getfield 9, 3) := by decide +kernel
theorem dJ0_charAt_5068e_11 : decode cJ0_charAt_5068e 11 = .ok (.iload_n 1, 1) := by decide +kernel
theorem dJ0_charAt_5068e_12 : decode cJ0_charAt_5068e 12 = .ok (.invokestatic 495, 3) := by decide +kernel
theorem dJ0_charAt_5068e_15 : decode cJ0_charAt_5068e 15 = .ok (.ireturn, 1) := by decide +kernel
theorem dJ0_charAt_5068e_16 : decode cJ0_charAt_5068e 16 = .ok (.aload_n 0, 1) := by decide +kernel
theorem dJ0_charAt_5068e_17 : decode cJ0_charAt_5068e 17 = .ok (.getfield 9, 3) := by decide +kernel
theorem dJ0_charAt_5068e_20 : decode cJ0_charAt_5068e 20 = .ok (.iload_n 1, 1) := by decide +kernel
theorem dJ0_charAt_5068e_21 : decode cJ0_charAt_5068e 21 = .ok (.invokestatic 498, 3) := by decide +kernel
theorem dJ0_charAt_5068e_24 : decode cJ0_charAt_5068e 24 = .ok (.ireturn, 1) := by decide +kernel
theorem dJ0_coder_7d493_0 : decode cJ0_coder_7d493 0 = .ok (.getstatic 38, 3) := by decide +kernel
theorem dJ0_coder_7d493_3 : decode cJ0_coder_7d493 3 = .ok (.ifCond .eq 10, 3) := by decide +kernel
theorem dJ0_coder_7d493_6 : decode cJ0_coder_7d493 6 = .ok (.aload_n 0, 1) := by decide +kernel
theorem dJ0_coder_7d493_7 : decode cJ0_coder_7d493 7 = .ok (.getfield 15, 3) := by decide +kernel
theorem dJ0_coder_7d493_10 : decode cJ0_coder_7d493 10 = .ok (.goto 4, 3) := by decide +kernel
theorem dJ0_coder_7d493_13 : decode cJ0_coder_7d493 13 = .ok (.iconst 1, 1) := by decide +kernel
theorem dJ0_coder_7d493_14 : decode cJ0_coder_7d493 14 = .ok (.ireturn, 1) := by decide +kernel
theorem dJ0_isLatin1_aae02_0 : decode cJ0_isLatin1_aae02 0 = .ok (.getstatic 38, 3) := by decide +kernel
theorem dJ0_isLatin1_aae02_3 : decode cJ0_isLatin1_aae02 3 = .ok (.ifCond .eq 14, 3) := by decide +kernel
theorem dJ0_isLatin1_aae02_6 : decode cJ0_isLatin1_aae02 6 = .ok (.aload_n 0, 1) := by decide +kernel
theorem dJ0_isLatin1_aae02_7 : decode cJ0_isLatin1_aae02 7 = .ok (.getfield 15, 3) := by decide +kernel
theorem dJ0_isLatin1_aae02_10 : decode cJ0_isLatin1_aae02 10 = .ok (.ifCond .ne 7, 3) := by decide +kernel
theorem dJ0_isLatin1_aae02_13 : decode cJ0_isLatin1_aae02 13 = .ok (.iconst 1, 1) := by decide +kernel
theorem dJ0_isLatin1_aae02_14 : decode cJ0_isLatin1_aae02 14 = .ok (.goto 4, 3) := by decide +kernel
theorem dJ0_isLatin1_aae02_17 : decode cJ0_isLatin1_aae02 17 = .ok (.iconst 0, 1) := by decide +kernel
theorem dJ0_isLatin1_aae02_18 : decode cJ0_isLatin1_aae02 18 = .ok (.ireturn, 1) := by decide +kernel
theorem dJ0_checkIndex_df160_0 : decode cJ0_checkIndex_df160 0 = .ok (.iload_n 0, 1) := by decide +kernel
theorem dJ0_checkIndex_df160_1 : decode cJ0_checkIndex_df160 1 = .ok (.iload_n 1, 1) := by decide +kernel
theorem dJ0_checkIndex_df160_2 : decode cJ0_checkIndex_df160 2 = .ok (.getstatic 1053, 3) := by decide +kernel
theorem dJ0_checkIndex_df160_5 : decode cJ0_checkIndex_df160 5 = .ok (.invokestatic 1059, 3) := by decide +kernel
theorem dJ0_checkIndex_df160_8 : decode cJ0_checkIndex_df160 8 = .ok (.pop, 1) := by decide +kernel
theorem dJ0_checkIndex_df160_9 : decode cJ0_checkIndex_df160 9 = .ok (.return_, 1) := by decide +kernel
theorem dJ1_charAt_3b067_0 : decode cJ1_charAt_3b067 0 = .ok (.iload_n 1, 1) := by decide +kernel
theorem dJ1_charAt_3b067_1 : decode cJ1_charAt_3b067 1 = .ok (.aload_n 0, 1) := by decide +kernel
theorem dJ1_charAt_3b067_2 : decode cJ1_charAt_3b067 2 = .ok (.arraylength, 1) := by decide +kernel
theorem dJ1_charAt_3b067_3 : decode cJ1_charAt_3b067 3 = .ok (.invokestatic 9, 3) := by decide +kernel
theorem dJ1_charAt_3b067_6 : decode cJ1_charAt_3b067 6 = .ok (.aload_n 0, 1) := by decide +kernel
theorem dJ1_charAt_3b067_7 : decode cJ1_charAt_3b067 7 = .ok (.iload_n 1, 1) := by decide +kernel
theorem dJ1_charAt_3b067_8 : decode cJ1_charAt_3b067 8 = .ok (.baload, 1) := by decide +kernel
theorem dJ1_charAt_3b067_9 : decode cJ1_charAt_3b067 9 = .ok (.sipush 255, 3) := by decide +kernel
theorem dJ1_charAt_3b067_12 : decode cJ1_charAt_3b067 12 = .ok (.iand, 1) := by decide +kernel
theorem dJ1_charAt_3b067_13 : decode cJ1_charAt_3b067 13 = .ok (.i2c, 1) := by decide +kernel
theorem dJ1_charAt_3b067_14 : decode cJ1_charAt_3b067 14 = .ok (.ireturn, 1) := by decide +kernel
theorem dJ3_checkIndex_8e157_0 : decode cJ3_checkIndex_8e157 0 = .ok (.iload_n 0, 1) := by decide +kernel
theorem dJ3_checkIndex_8e157_1 : decode cJ3_checkIndex_8e157 1 = .ok (.ifCond .lt 8, 3) := by decide +kernel
theorem dJ3_checkIndex_8e157_4 : decode cJ3_checkIndex_8e157 4 = .ok (.iload_n 0, 1) := by decide +kernel
theorem dJ3_checkIndex_8e157_5 : decode cJ3_checkIndex_8e157 5 = .ok (.iload_n 1, 1) := by decide +kernel
theorem dJ3_checkIndex_8e157_6 : decode cJ3_checkIndex_8e157 6 = .ok (.if_icmp .lt 10, 3) := by decide +kernel
theorem dJ3_checkIndex_8e157_9 : decode cJ3_checkIndex_8e157 9 = .ok (.aload_n 2, 1) := by decide +kernel
theorem dJ3_checkIndex_8e157_10 : decode cJ3_checkIndex_8e157 10 = .ok (.iload_n 0, 1) := by decide +kernel
theorem dJ3_checkIndex_8e157_11 : decode cJ3_checkIndex_8e157 11 = .ok (.iload_n 1, 1) := by decide +kernel
theorem dJ3_checkIndex_8e157_12 : decode cJ3_checkIndex_8e157 12 = .ok (.invokestatic 95, 3) := by decide +kernel
theorem dJ3_checkIndex_8e157_15 : decode cJ3_checkIndex_8e157 15 = .ok (.athrow, 1) := by decide +kernel
theorem dJ3_checkIndex_8e157_16 : decode cJ3_checkIndex_8e157 16 = .ok (.iload_n 0, 1) := by decide +kernel
theorem dJ3_checkIndex_8e157_17 : decode cJ3_checkIndex_8e157 17 = .ok (.ireturn, 1) := by decide +kernel
/-- the letters of the first text -/
abbrev ftB : List Int32 := [111, 52, 49, 56, 59, 100, 48, 50, 51, 59, 100, 48, 49, 50, 59, 100, 48, 51, 49, 59, 99, 48, 48, 49, 57, 50, 59, 100, 49, 50, 51, 59, 100, 49, 49, 50, 59, 99, 48, 48, 52, 48, 48, 59, 100, 50, 50, 49, 59, 108, 51, 59]
abbrev sF : Nat → Prop := fun _ => False
def sPre (aK aV : Nat) (U : State) : Prop := va_Z "java/lang/String" "COMPACT_STRINGS" "Z" (.int 1) sF U U.heap ∧ va_Zq "jdk/internal/util/Preconditions" "SIOOBE_FORMATTER" "Ljava/util/function/BiFunction;" sF U U.heap ∧ vk_S 1 [52] [ftB] (fun _ => aK) (fun _ => aV) sF U U.heap
theorem sPre.at {aK aV : Nat} {s U : State} {H : Heap} (h : sPre aK aV s) (hk : ∀ q : Nat, q < s.heap.size → ¬ sF q → H[q]? = s.heap[q]?) (hU : U.heap = H) (hW : s.vm.Alike U.vm) : sPre aK aV U := by
  subst hU
  exact ⟨(h.1.kept hk).moved hW, (h.2.1.kept hk).moved hW, (h.2.2.kept hk).moved hW⟩
theorem s_blind {av : List Value} {aK aV : Nat} : FrameBlind (va_Pc av (sPre aK aV)) := fun a U g mk q => ⟨q.1, va_Z.moved (u := U) (U := U.calling g mk a) (Vm.Alike.refl U.vm) q.2.1, va_Zq.moved (u := U) (U := U.calling g mk a) (Vm.Alike.refl U.vm) q.2.2.1, vk_S.moved (u := U) (U := U.calling g mk a) (Vm.Alike.refl U.vm) q.2.2.2⟩
abbrev sMi (l : Launch) (y : MethodName) (cc : ByteArray) (n : Nat) (rt : FieldType) (rm : Room) (av : List Value) (aK aV : Nat) (r : Int32) : Prop :=
  Met l y (.code y cc n (some rt) :: U0) rm (va_Pc av (sPre aK aV)) (va_Qi (fun (x : Int32) (_ : Unit) => x = r) (fun _ _ => True) sF) 0 0 sF
abbrev sMv (l : Launch) (y : MethodName) (cc : ByteArray) (n : Nat) (rm : Room) (av : List Value) (aK aV : Nat) : Prop :=
  Met l y (.code y cc n none :: U0) rm (va_Pc av (sPre aK aV)) (va_Qv (fun (_ : Unit) => True) (fun _ _ => True) sF) 0 0 sF
theorem s_entry {l : Launch} {y : MethodName} {cc : ByteArray} {n : Nat} {rt : Option FieldType} {rm : Room} {av : List Value} {aK aV : Nat} {Qc : Array Value → State → Outcome → State → Prop} (hy : plainName y.cls = true) (hn : (lg_sl av).length ≤ n)
    (body : ∀ (p : Program) (e : Env) (s : State) (m : MethodId) (args : Array Value) (below : List Frame) (meth : Method) (c : Code), p.tables.exec = Jvm.exec → c.code = cc → c.maxLocals = n → s.vm.findClass y.cls = some m.cls → (∀ w ∈ U0, w.before args s = true) → meth.sig.returnType = rt → meth.locks = false → sPre aK aV s → va_S sF s.heap s.heap [] → ∀ ls : Array Slot, lv_has ls n (lv_args 0 av) → W p l e rm s m args below meth c s.heap [] 0 0 (MQ below Qc args s 0 0 sF) (F0 m 0 ls [])) :
    Met l y (.code y cc n rt :: U0) rm (va_Pc av (sPre aK aV)) Qc 0 0 sF := by
  refine Met.ofW (cc := cc) (maxL := n) (ret := rt) hy rfl ?_
  intro p e s m args below meth c s₁ B hml hv
  obtain ⟨rfl, hP⟩ := hv
  have hts := atoms_spec (ws := .code y cc n rt :: U0) B.pre
  have hown : s.vm.findClass y.cls = some m.cls := findClass_of_methodNamed B.named
  have hl := lv_entry av (n := n) hn
  rw [lg_entry_eq]
  generalize (lg_sl av ++ List.replicate (n - (lg_sl av).length) Slot.unset).toArray = ls at hl ⊢
  exact body p e s m av.toArray below meth c B.exec B.bytes hml hown (fun w hw => hts w (List.mem_cons_of_mem _ hw)) B.returns B.notSynchronized hP va_S.rf ls hl
theorem c_coder (l : Launch) (aK aV : Nat) : sMi l yJ0_coder_7d493 cJ0_coder_7d493 1 .byte { frames := 0, cells := 0, slots := 0, locals := 0 } [.ref aK] aK aV 0 := by
  refine s_entry (by decide) (Nat.le_of_ble_eq_true rfl) ?_
  intro p e s m args below meth c hx hb hml hown hts hr hlk hE hS ls hl
  refine va_gets hx hb hE.1 hS hown (hts _ tw_282) (fun _ h => h) dJ0_coder_7d493_0 ?_
  refine lv_if_eq (tgt := 13) hx hb dJ0_coder_7d493_3 (by decide) (fun h => absurd h (by decide)) (fun _ => ?_)
  refine lv_aload_n hx hb dJ0_coder_7d493_6 rfl (lv_at hl 0 rfl) ?_
  refine vk_getf hx hb (hE.2.2.1 0 (by decide)).2.1 hS hown (hts _ tw_1190) (fun _ h => h) dJ0_coder_7d493_7 ?_
  refine lv_goto (tgt := 14) hx hb dJ0_coder_7d493_10 (by decide) ?_
  exact W.zret hx hb hr rfl (fun t ht _ => ⟨⟨0, (), rfl, rfl, trivial⟩, hS.F ht⟩) hS.2.2 dJ0_coder_7d493_14
theorem c_isLatin1 (l : Launch) (aK aV : Nat) : sMi l yJ0_isLatin1_aae02 cJ0_isLatin1_aae02 1 .boolean { frames := 0, cells := 0, slots := 0, locals := 0 } [.ref aK] aK aV 1 := by
  refine s_entry (by decide) (Nat.le_of_ble_eq_true rfl) ?_
  intro p e s m args below meth c hx hb hml hown hts hr hlk hE hS ls hl
  refine va_gets hx hb hE.1 hS hown (hts _ tw_282) (fun _ h => h) dJ0_isLatin1_aae02_0 ?_
  refine lv_if_eq (tgt := 17) hx hb dJ0_isLatin1_aae02_3 (by decide) (fun h => absurd h (by decide)) (fun _ => ?_)
  refine lv_aload_n hx hb dJ0_isLatin1_aae02_6 rfl (lv_at hl 0 rfl) ?_
  refine vk_getf hx hb (hE.2.2.1 0 (by decide)).2.1 hS hown (hts _ tw_1190) (fun _ h => h) dJ0_isLatin1_aae02_7 ?_
  refine lv_if_ne (tgt := 17) hx hb dJ0_isLatin1_aae02_10 (by decide) (fun h => absurd rfl h) (fun _ => ?_)
  refine lv_iconst (v := 1) hx hb dJ0_isLatin1_aae02_13 (by decide) ?_
  refine lv_goto (tgt := 18) hx hb dJ0_isLatin1_aae02_14 (by decide) ?_
  exact W.zret hx hb hr rfl (fun t ht _ => ⟨⟨1, (), rfl, rfl, trivial⟩, hS.F ht⟩) hS.2.2 dJ0_isLatin1_aae02_18
theorem c_length (l : Launch) (aK aV : Nat) : sMi l yJ0_length_8abf5 cJ0_length_8abf5 1 .int { frames := 1, cells := 0, slots := 0, locals := 20 } [.ref aK] aK aV 52 := by
  refine s_entry (by decide) (Nat.le_of_ble_eq_true rfl) ?_
  intro p e s m args below meth c hx hb hml hown hts hr hlk hE hS ls hl
  refine lv_aload_n hx hb dJ0_length_8abf5_0 rfl (lv_at hl 0 rfl) ?_
  refine vk_getf hx hb (hE.2.2.1 0 (by decide)).2.2.1 hS hown (hts _ tw_1189) (fun _ h => h) dJ0_length_8abf5_1 ?_
  refine va_tlen hx hb (hE.2.2.1 0 (by decide)).2.2.2 hS (v := 52) (by decide) dJ0_length_8abf5_4 ?_
  refine lv_aload_n hx hb dJ0_length_8abf5_5 rfl (lv_at hl 0 rfl) ?_
  refine va_calli (va_runV (As := []) (rest := [.int 52]) ⟨hx, hb, hml, hown, hts⟩ (c_coder l aK aV) (cwV 0 hts (g_good tw_278 tw_279 tw_280 tw_10 tw_281) rfl rfl rfl (by decide +kernel) ⟨Nat.le_of_ble_eq_true rfl, Nat.le_of_ble_eq_true rfl⟩) ⟨s_blind, vk_recv hE.2.2 (i := 0) (by decide) hS, fun U hU hW => ⟨rfl, hE.at hS.2.1 hU hW.alike⟩⟩ rfl rfl hl.1 rfl (lv_room (Nat.le_of_ble_eq_true rfl)) dJ0_length_8abf5_6 ⟨Nat.zero_le _, Nat.zero_le _⟩) hS (fun q _ h => h) (fun q h => h) (fun r u t H locs ht hvm hw hB hz hk hS => ?_)
  subst hw
  refine lv_ishr hx hb dJ0_length_8abf5_9 ?_
  rw [show ((52 : Int32) >>> ((0 : Int32) &&& 31)) = 52 by decide]
  exact W.iret hx hb hr (fun t ht _ => ⟨⟨52, (), rfl, rfl, trivial⟩, hS.F ht⟩) hS.2.2 dJ0_length_8abf5_10
theorem c_pcheck (l : Launch) (aK aV : Nat) (v : Value) (hv : v = .null ∨ ∃ t, v = .ref t) (i : Int32) (h0 : ¬ i < 0) (h1 : i < 52) : sMi l yJ3_checkIndex_8e157 cJ3_checkIndex_8e157 3 .int { frames := 0, cells := 0, slots := 0, locals := 0 } [.int i, .int 52, v] aK aV i := by
  have key : ∀ (p : Program) (e : Env) (s : State) (m : MethodId) (args : Array Value) (below : List Frame) (meth : Method) (c : Code), p.tables.exec = Jvm.exec → c.code = cJ3_checkIndex_8e157 → c.maxLocals = 3 → s.vm.findClass yJ3_checkIndex_8e157.cls = some m.cls → (∀ w ∈ U0, w.before args s = true) → meth.sig.returnType = some .int → meth.locks = false → sPre aK aV s → va_S sF s.heap s.heap [] → ∀ ls : Array Slot, lv_has ls 3 [(0, .int i), (1, .int 52)] → W p l e { frames := 0, cells := 0, slots := 0, locals := 0 } s m args below meth c s.heap [] 0 0 (MQ below (va_Qi (fun (x : Int32) (_ : Unit) => x = i) (fun _ _ => True) sF) args s 0 0 sF) (F0 m 0 ls []) := by
    intro p e s m args below meth c hx hb hml hown hts hr hlk hE hS ls hl
    refine lv_iload_n hx hb dJ3_checkIndex_8e157_0 rfl (lv_at hl 0 rfl) ?_
    refine lv_if_lt (tgt := 9) hx hb dJ3_checkIndex_8e157_1 (by decide) (fun h => absurd h h0) (fun _ => ?_)
    refine lv_iload_n hx hb dJ3_checkIndex_8e157_4 rfl (lv_at hl 0 rfl) ?_
    refine lv_iload_n hx hb dJ3_checkIndex_8e157_5 rfl (lv_at hl 1 rfl) ?_
    refine lv_icmp_lt (tgt := 16) hx hb dJ3_checkIndex_8e157_6 (by decide) (fun _ => ?_) (fun h => absurd h1 h)
    refine lv_iload_n hx hb dJ3_checkIndex_8e157_16 rfl (lv_at hl 0 rfl) ?_
    exact W.iret hx hb hr (fun t ht _ => ⟨⟨i, (), rfl, rfl, trivial⟩, hS.F ht⟩) hS.2.2 dJ3_checkIndex_8e157_17
  rcases hv with rfl | ⟨t, rfl⟩
  · exact s_entry (by decide) (Nat.le_of_ble_eq_true rfl) (fun p e s m args below meth c hx hb hml hown hts hr hlk hE hS ls hl => key p e s m args below meth c hx hb hml hown hts hr hlk hE hS ls (lv_sub hl [0, 1] rfl))
  · exact s_entry (by decide) (Nat.le_of_ble_eq_true rfl) (fun p e s m args below meth c hx hb hml hown hts hr hlk hE hS ls hl => key p e s m args below meth c hx hb hml hown hts hr hlk hE hS ls (lv_sub hl [0, 1] rfl))
theorem c_scheck (l : Launch) (aK aV : Nat) (i : Int32) (h0 : ¬ i < 0) (h1 : i < 52) : sMv l yJ0_checkIndex_df160 cJ0_checkIndex_df160 2 { frames := 1, cells := 0, slots := 0, locals := 22 } [.int i, .int 52] aK aV := by
  refine s_entry (by decide) (Nat.le_of_ble_eq_true rfl) ?_
  intro p e s m args below meth c hx hb hml hown hts hr hlk hE hS ls hl
  refine lv_iload_n hx hb dJ0_checkIndex_df160_0 rfl (lv_at hl 0 rfl) ?_
  refine lv_iload_n hx hb dJ0_checkIndex_df160_1 rfl (lv_at hl 1 rfl) ?_
  have go : ∀ v : Value, (v = .null ∨ ∃ t, v = .ref t) → W p l e { frames := 1, cells := 0, slots := 0, locals := 22 } s m args below meth c s.heap [] 0 0 (MQ below (va_Qv (fun (_ : Unit) => True) (fun _ _ => True) sF) args s 0 0 sF) (F0 m 5 ls [v, .int 52, .int i]) := by
    intro v hv
    refine va_calli (va_runS (As := [.int i, .int 52, v]) (rest := []) ⟨hx, hb, hml, hown, hts⟩ (c_pcheck l aK aV v hv i h0 h1) ⟨callB_of 3 hts (g_good1 tw_302) rfl rfl rfl (hts _ tw_12) (hts _ tw_300) (by decide +kernel) ⟨Nat.le_of_ble_eq_true rfl, Nat.le_of_ble_eq_true rfl⟩, hts _ tw_301⟩ ⟨s_blind, fun U hU hW => ⟨rfl, hE.at hS.2.1 hU hW.alike⟩⟩ rfl rfl hl.1 rfl (lv_room (Nat.le_of_ble_eq_true rfl)) dJ0_checkIndex_df160_5 ⟨Nat.zero_le _, Nat.zero_le _⟩) hS (fun q _ h => h) (fun q h => h) (fun r u t H locs ht hvm hw hB hz hk hS => ?_)
    refine lv_pop hx hb dJ0_checkIndex_df160_8 rfl ?_
    exact W.vret hx hb hr (fun t ht _ => ⟨⟨(), rfl, trivial, trivial⟩, hS.F ht⟩) hS.2.2 dJ0_checkIndex_df160_9
  rcases hE.2.1 with hz | ⟨t, hz⟩
  · exact va_gets hx hb hz hS hown (hts _ tw_298) (fun _ h => h) dJ0_checkIndex_df160_2 (go _ (Or.inl rfl))
  · exact va_gets hx hb hz hS hown (hts _ tw_298) (fun _ h => h) dJ0_checkIndex_df160_2 (go _ (Or.inr ⟨_, rfl⟩))
/-- the char at a place of the first text -/
def ftC (k : Nat) : Int32 := ftB.getD k 0
theorem ft_ok : ∀ k, k < 52 → (((ftB.getD k 0) &&& 255).toUInt32 % 65536).toInt32 = ftC k ∧ narrow .char (.int (ftC k)) = .int (ftC k) := by decide +kernel
theorem c_lcharAt (l : Launch) (aK aV : Nat) (k : Nat) (hk : k < 52) : sMi l yJ1_charAt_3b067 cJ1_charAt_3b067 2 .char { frames := 2, cells := 0, slots := 0, locals := 43 } [.ref aV, .int (nI k)] aK aV (ftC k) := by
  refine s_entry (by decide) (Nat.le_of_ble_eq_true rfl) ?_
  intro p e s m args below meth c hx hb hml hown hts hr hlk hE hS ls hl
  have h0 : ¬ nI k < 0 := nI_pos (by omega)
  have h1 : nI k < 52 := nI_lt hk (by decide)
  refine lv_iload_n hx hb dJ1_charAt_3b067_0 rfl (lv_at hl 1 rfl) ?_
  refine lv_aload_n hx hb dJ1_charAt_3b067_1 rfl (lv_at hl 0 rfl) ?_
  refine va_tlen hx hb (hE.2.2.1 0 (by decide)).2.2.2 hS (v := 52) (by decide) dJ1_charAt_3b067_2 ?_
  refine va_callv (va_runS (As := [.int (nI k), .int 52]) (rest := []) ⟨hx, hb, hml, hown, hts⟩ (c_scheck l aK aV (nI k) h0 h1) ⟨callB_of 2 hts (g_good1 tw_297) rfl rfl rfl (hts _ tw_10) (hts _ tw_295) (by decide +kernel) ⟨Nat.le_of_ble_eq_true rfl, Nat.le_of_ble_eq_true rfl⟩, hts _ tw_296⟩ ⟨s_blind, fun U hU hW => ⟨rfl, hE.at hS.2.1 hU hW.alike⟩⟩ rfl rfl hl.1 rfl (lv_room (Nat.le_of_ble_eq_true rfl)) dJ1_charAt_3b067_3 ⟨Nat.zero_le _, Nat.zero_le _⟩) hS (fun q _ h => h) (fun q h => h) (fun u t H locs ht hvm hw hB hz hk1 hS => ?_)
  refine lv_aload_n hx hb dJ1_charAt_3b067_6 rfl (lv_at hl 0 rfl) ?_
  refine lv_iload_n hx hb dJ1_charAt_3b067_7 rfl (lv_at hl 1 rfl) ?_
  refine va_tb hx hb (hE.2.2.1 0 (by decide)).2.2.2 hS (vp_in_nI (show k < 52 from hk) (by decide)) (v := .int (ftB.getD k 0)) (by rw [nI_clamp (by omega)]; rfl) dJ1_charAt_3b067_8 ?_
  refine lv_sipush (v := 255) hx hb dJ1_charAt_3b067_9 (by decide) ?_
  refine lv_iand hx hb dJ1_charAt_3b067_12 ?_
  refine lv_i2c (v := ftC k) hx hb dJ1_charAt_3b067_13 (ft_ok k hk).1 ?_
  exact W.zret hx hb hr (ft_ok k hk).2 (fun t ht _ => ⟨⟨ftC k, (), rfl, rfl, trivial⟩, hS.F ht⟩) hS.2.2 dJ1_charAt_3b067_14
theorem c_charAt (l : Launch) (aK aV : Nat) (k : Nat) (hk : k < 52) : sMi l yJ0_charAt_5068e cJ0_charAt_5068e 2 .char { frames := 3, cells := 0, slots := 0, locals := 64 } [.ref aK, .int (nI k)] aK aV (ftC k) := by
  refine s_entry (by decide) (Nat.le_of_ble_eq_true rfl) ?_
  intro p e s m args below meth c hx hb hml hown hts hr hlk hE hS ls hl
  refine lv_aload_n hx hb dJ0_charAt_5068e_0 rfl (lv_at hl 0 rfl) ?_
  refine va_calli (va_runV (As := []) (rest := []) ⟨hx, hb, hml, hown, hts⟩ (c_isLatin1 l aK aV) (cwV 0 hts (g_good tw_288 tw_289 tw_290 tw_10 tw_291) rfl rfl rfl (by decide +kernel) ⟨Nat.le_of_ble_eq_true rfl, Nat.le_of_ble_eq_true rfl⟩) ⟨s_blind, vk_recv hE.2.2 (i := 0) (by decide) hS, fun U hU hW => ⟨rfl, hE.at hS.2.1 hU hW.alike⟩⟩ rfl rfl hl.1 rfl (lv_room (Nat.le_of_ble_eq_true rfl)) dJ0_charAt_5068e_1 ⟨Nat.zero_le _, Nat.zero_le _⟩) hS (fun q _ h => h) (fun q h => h) (fun r u t H locs ht hvm hw hB hz hk hS => ?_)
  subst hw
  refine lv_if_eq (tgt := 16) hx hb dJ0_charAt_5068e_4 (by decide) (fun h => absurd h (by decide)) (fun _ => ?_)
  refine lv_aload_n hx hb dJ0_charAt_5068e_7 rfl (lv_at hl 0 rfl) ?_
  refine vk_getf hx hb (hE.2.2.1 0 (by decide)).2.2.1 hS hown (hts _ tw_1189) (fun _ h => h) dJ0_charAt_5068e_8 ?_
  refine lv_iload_n hx hb dJ0_charAt_5068e_11 rfl (lv_at hl 1 rfl) ?_
  refine va_calli (va_runS (As := [.ref aV, .int (nI k)]) (rest := []) ⟨hx, hb, hml, hown, hts⟩ (c_lcharAt l aK aV k ‹k < 52›) ⟨callB_of 2 hts (g_good1 tw_294) rfl rfl rfl (hts _ tw_11) (hts _ tw_292) (by decide +kernel) ⟨Nat.le_of_ble_eq_true rfl, Nat.le_of_ble_eq_true rfl⟩, hts _ tw_293⟩ ⟨s_blind, fun U hU hW => ⟨rfl, hE.at hS.2.1 hU hW.alike⟩⟩ rfl rfl hl.1 rfl (lv_room (Nat.le_of_ble_eq_true rfl)) dJ0_charAt_5068e_12 ⟨Nat.zero_le _, Nat.zero_le _⟩) hS (fun q _ h => h) (fun q h => h) (fun r u t H locs ht hvm hw hB hz hk hS => ?_)
  subst hw
  exact W.zret hx hb hr (ft_ok k ‹k < 52›).2 (fun t ht _ => ⟨⟨ftC k, (), rfl, rfl, trivial⟩, hS.F ht⟩) hS.2.2 dJ0_charAt_5068e_15
