/-! rows for callers whose own cells are more than the world's -/
theorem gW_DA {Γ : gEv} (hI : gIj Γ) {A : Nat → Prop} (hA : ∀ q, gA Γ q → A q) (σ : St) : va_D A (gWS Γ σ) := (gW_D hI σ).weaken (fun _ _ _ h => hA _ h)
/-- cells that aren't the world's keep it -/
theorem gW.kept {Γ : gEv} {σ : St} {H H1 : Heap} (h : gW Γ σ H) (hq : ∀ q : Nat, q < H.size → gA Γ q → H1[q]? = H[q]?) : gW Γ σ H1 := by
  refine va_P.kept h (fun k x hx => hq x.1 ((h k x hx).lt) ?_)
  simp only [gWs, List.getElem?_map, Option.map_eq_some_iff] at hx
  obtain ⟨a, ha, rfl⟩ := hx
  exact ⟨a, List.mem_of_getElem? ha, rfl⟩
section GXROWS
variable {p : Program} {l : Launch} {e : Env} {R : Room} {s : State} {m : MethodId} {args : Array Value} {below : List Frame} {meth : Method} {c : Code} {H : Heap} {locs : List Loc} {cells slots : Nat} {Q : State → Prop}
variable {cc : ByteArray} {pc nL : Nat} {ls : Array Slot} {rest st : List Value} {own : String} {Γ : gEv} {σ : St} {A : Nat → Prop}
theorem gx_put (F : gFx p m c cc nL s args own Γ) (hP : gW Γ σ H) (hA : ∀ q, gA Γ q → A q) (hS : va_S A s.heap H locs) {k : Nat} (hk : k ∈ Γ.2.2.1) {ci : Nat} {fs : List Value} (he : Γ.2.2.2.2 k (σ k) = .inr (ci, fs)) {C : String} {T : u_T} {N : Nat} (hc : classes[ci]? = some (C, T, N)) (hin : ∀ w ∈ u_ws C T N, w ∈ U0) (ty0 : Nat → FieldType) (hty : ∀ k, k < N → parseFieldDescriptor (T k).2.2.1 = some (ty0 k)) (hnm : ∀ a, a < N → ∀ b, b < N → a ≠ b → (T a).2.1 ≠ (T b).2.1) (j : Nat) (hj : j < N) {idx : Nat} {ref : String} (hlink : Cond.fieldLink own idx ref (T j).2.1 (T j).2.2.1 ∈ U0) (hsame : (T j).1 = ref) (hfin : (T j).2.2.2 = false) {v : Value} (hn : narrow (ty0 j) v = v) (hfit : fits (ty0 j) v = true) (hl : j < fs.length) {x : Int32} (hset : Γ.2.2.2.2 k (upd (σ k) j x) = .inr (ci, fs.set j v)) (hdg : decode cc pc = .ok (.putfield idx, 3))
    (kk : ∀ (H1 : Heap) (locs1 : List Loc), gW Γ (up2 σ k j x) H1 → va_S A s.heap H1 locs1 → W p l e R s m args below meth c H1 locs1 cells slots Q (F0 m (pc + 3) ls rest)) : W p l e R s m args below meth c H locs cells slots Q (F0 m pc ls (v :: .ref (gAd Γ k) :: rest)) := by
  obtain ⟨hx, hb, -, hown, hts, -, hK, hI⟩ := F
  obtain ⟨q, hq, hs⟩ := gWs_at (ad := gAd Γ) (ce := Γ.2.2.2.2) hI.1 hk σ
  refine va_put hx hb hts hin ty0 hty hnm hown hK hP (gW_DA hI hA σ) hS q (by rw [hq, he]) hc j hj (hts _ hlink) (fun x h => by rw [← hsame]; exact h) hfin (hty j hj) hn hfit hl hdg (fun H1 locs1 h1 _ h3 => kk H1 locs1 ?_ h3)
  rw [← hset, hs] at h1
  exact h1
variable {y : MethodName} {bytes : ByteArray} {maxL n idx k ci N : Nat} {rt : FieldType} {rm : Room} {As : List Value} {r : Int32} {σ' : St} {C : String} {T : u_T} {fs : List Value}
theorem gx_callVi (F : gFx p m c cc nL s args own Γ) (hP : gW Γ σ H) (hA : ∀ q, gA Γ q → A q) (hS : va_S A s.heap H locs) (hM : gMi l y bytes maxL rt rm (.ref (gAd Γ k) :: As) Γ σ r σ') (cw : CallW R s args own C idx y bytes maxL (some rt) (.code y bytes maxL (some rt) :: U0) rm 0 0 n) (hk : k ∈ Γ.2.2.1) (he : Γ.2.2.2.2 k (σ k) = .inr (ci, fs)) (hc : classes[ci]? = some (C, T, N))
    (hn : As.length = n) (hsz : ls.size = nL) (hst : st = As.reverse ++ .ref (gAd Γ k) :: rest) (hrest : (rest.map fun v => v.category).sum ≤ 8) (hdg : decode cc pc = .ok (.invokevirtual idx, 3)) (hcs : cells ≤ R.cells ∧ slots ≤ R.slots)
    (kk : ∀ (H1 : Heap) (locs1 : List Loc), gW Γ σ' H1 → H.size ≤ H1.size → (∀ q : Nat, q < H.size → ¬ gA Γ q → H1[q]? = H[q]?) → va_S A s.heap H1 locs1 → W p l e R s m args below meth c H1 locs1 cells slots Q (F0 m (pc + 3) ls (.int r :: rest))) : W p l e R s m args below meth c H locs cells slots Q (F0 m pc ls st) := by
  obtain ⟨hx, hb, hml, hown, hts, hN, hK, hI⟩ := F
  obtain ⟨q, hq, -⟩ := gWs_at (ad := gAd Γ) (ce := Γ.2.2.2.2) hI.1 hk σ
  rw [he] at hq
  refine va_calli (va_runV (As := As) (rest := rest) ⟨hx, hb, hml, hown, hts⟩ hM cw ⟨g_blind, va_recv hK hP hc hq, fun U hU hW => ⟨rfl, by rw [hU]; exact hP, va_K.moved hW.alike hK, hasN.warm hW hN⟩⟩ rfl hn hsz hst (lv_room hrest) hdg hcs) hS (fun q _ h => hA q h) (fun q h => hA q h) (fun r' u t H1 locs1 ht hvm hw hB hz hk1 hS1 => ?_)
  subst hw
  subst ht
  exact kk _ locs1 hB hz hk1 hS1
theorem gx_callVv (F : gFx p m c cc nL s args own Γ) (hP : gW Γ σ H) (hA : ∀ q, gA Γ q → A q) (hS : va_S A s.heap H locs) (hM : gMv l y bytes maxL rm (.ref (gAd Γ k) :: As) Γ σ σ') (cw : CallW R s args own C idx y bytes maxL none (.code y bytes maxL none :: U0) rm 0 0 n) (hk : k ∈ Γ.2.2.1) (he : Γ.2.2.2.2 k (σ k) = .inr (ci, fs)) (hc : classes[ci]? = some (C, T, N))
    (hn : As.length = n) (hsz : ls.size = nL) (hst : st = As.reverse ++ .ref (gAd Γ k) :: rest) (hrest : (rest.map fun v => v.category).sum ≤ 8) (hdg : decode cc pc = .ok (.invokevirtual idx, 3)) (hcs : cells ≤ R.cells ∧ slots ≤ R.slots)
    (kk : ∀ (H1 : Heap) (locs1 : List Loc), gW Γ σ' H1 → H.size ≤ H1.size → (∀ q : Nat, q < H.size → ¬ gA Γ q → H1[q]? = H[q]?) → va_S A s.heap H1 locs1 → W p l e R s m args below meth c H1 locs1 cells slots Q (F0 m (pc + 3) ls rest)) : W p l e R s m args below meth c H locs cells slots Q (F0 m pc ls st) := by
  obtain ⟨hx, hb, hml, hown, hts, hN, hK, hI⟩ := F
  obtain ⟨q, hq, -⟩ := gWs_at (ad := gAd Γ) (ce := Γ.2.2.2.2) hI.1 hk σ
  rw [he] at hq
  refine va_callv (va_runV (As := As) (rest := rest) ⟨hx, hb, hml, hown, hts⟩ hM cw ⟨g_blind, va_recv hK hP hc hq, fun U hU hW => ⟨rfl, by rw [hU]; exact hP, va_K.moved hW.alike hK, hasN.warm hW hN⟩⟩ rfl hn hsz hst (lv_room hrest) hdg hcs) hS (fun q _ h => hA q h) (fun q h => hA q h) (fun u t H1 locs1 ht hvm hw hB hz hk1 hS1 => ?_)
  subst ht
  exact kk _ locs1 hB hz hk1 hS1
/-! making arrays of ints, all of one class -/
theorem g_newa {D : va_G} {cI : ClassId} {tys : List (ClassId × FieldType)} {ws : va_W} {H0 : Heap} (hexec : p.tables.exec = Jvm.exec) (hb : c.code = cc) (harr : (Cond.arrayClass .int).before args s = true) (hK : va_K D classes ((cI, .int) :: tys) s) (hP : va_P D classes ws H) (hD : va_D A ws) (hS : va_S A H0 H locs) (hA : ∀ q, H0.size ≤ q → A q)
    {n : Int32} {N' : Nat} (hn : ¬ n < 0) (hN : n.toNatClampNeg = N') (hbytes : N' * 4 ≤ 536870912) (hcells : cells + 1 ≤ R.cells) (hslots : slots + N' ≤ R.slots) (hdg : decode cc pc = .ok (.newarray .int, 2))
    (kk : ∀ (q : Nat) (H1 : Heap), va_P D classes (ws ++ [(q, .inl (cI, N', .inl (fun _ => 0)))]) H1 → va_D A (ws ++ [(q, .inl (cI, N', .inl (fun _ => 0)))]) → va_S A H0 H1 locs →
      W p l e R s m args below meth c H1 locs (cells + 1) (slots + N') Q (F0 m (pc + 2) ls (.ref q :: rest))) : W p l e R s m args below meth c H locs cells slots Q (F0 m pc ls (.int n :: rest)) := by
  refine va_newa (atype := .int) hexec hb harr (ty := .int) rfl hK hP hD hS hA (a0 := (N', .inl (fun _ => 0))) (fun cA => rfl) hn hN hbytes hcells hslots hdg (fun q cA H1 hK1 hP1 hD1 hS1 => ?_)
  have h1 := (hK1.2 0 _ (List.getElem?_append_left (Nat.zero_lt_succ _))).2
  have h2 := (hK1.2 (tys.length + 1) (cA, .int) (by simp)).2
  have e : cI = cA := Option.some.inj (Eq.trans (Eq.symm h1) h2)
  subst e
  exact kk q H1 hP1 hD1 hS1
end GXROWS
