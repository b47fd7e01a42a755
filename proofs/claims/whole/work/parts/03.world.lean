/-! the pure state: rows of ints, one a cell -/
abbrev St : Type := Nat → Nat → Int32
def up2 (σ : St) (k j : Nat) (v : Int32) : St := fun a => if a = k then upd (σ k) j v else σ a
theorem up2_row (σ : St) (k j : Nat) (v : Int32) : up2 σ k j v k = upd (σ k) j v := by simp [up2]
theorem up2_ne {σ : St} {k j a : Nat} {v : Int32} (h : a ≠ k) : up2 σ k j v a = σ a := by simp [up2, h]
/-! a world: cells by their places in a list, each made of its row -/
def gWs (L : List Nat) (ad : Nat → Nat) (ce : Nat → (Nat → Int32) → va_E) (σ : St) : va_W := L.map (fun k => (ad k, ce k (σ k)))
theorem gWs_at {L : List Nat} {ad : Nat → Nat} {ce : Nat → (Nat → Int32) → va_E} (hn : L.Nodup) {k : Nat} (hk : k ∈ L) (σ : St) : ∃ q, (gWs L ad ce σ)[q]? = some (ad k, ce k (σ k)) ∧ ∀ (j : Nat) (v : Int32), (gWs L ad ce σ).set q (ad k, ce k (upd (σ k) j v)) = gWs L ad ce (up2 σ k j v) := by
  obtain ⟨q, hq⟩ := List.getElem?_of_mem hk
  have hql : q < L.length := (List.getElem?_eq_some_iff.mp hq).1
  refine ⟨q, by simp [gWs, hq], fun j v => ?_⟩
  apply List.ext_getElem?
  intro i
  by_cases hi : i = q
  · subst hi
    rw [List.getElem?_set_self (by simp [gWs]; exact hql)]
    simp [gWs, hq, up2_row]
  · rw [List.getElem?_set_ne (Ne.symm hi)]
    simp only [gWs, List.getElem?_map]
    cases h : L[i]? with
    | none => rfl
    | some k' =>
      have hne : k' ≠ k := by
        intro e
        subst e
        exact hi ((List.getElem?_inj (List.getElem?_eq_some_iff.mp h).1 hn).mp (h.trans hq.symm))
      simp [up2_ne hne]
theorem gWs_D {L : List Nat} {ad : Nat → Nat} {ce : Nat → (Nat → Int32) → va_E} (hn : L.Nodup) (hI : ∀ i ∈ L, ∀ j ∈ L, ad i = ad j → i = j) {A : Nat → Prop} (hA : ∀ k ∈ L, A (ad k)) (σ : St) : va_D A (gWs L ad ce σ) := by
  refine ⟨fun i j x y hx hy hxy => ?_, fun i x hx => ?_⟩
  · simp only [gWs, List.getElem?_map, Option.map_eq_some_iff] at hx hy
    obtain ⟨a, ha, rfl⟩ := hx
    obtain ⟨b, hb, rfl⟩ := hy
    have e := hI a (List.mem_of_getElem? ha) b (List.mem_of_getElem? hb) hxy
    subst e
    exact (List.getElem?_inj (List.getElem?_eq_some_iff.mp ha).1 hn).mp (ha.trans hb.symm)
  · simp only [gWs, List.getElem?_map, Option.map_eq_some_iff] at hx
    obtain ⟨a, ha, rfl⟩ := hx
    exact hA a (List.mem_of_getElem? ha)
/-! words of the pure texts -/
abbrev ix (i : Int32) (n : Nat) : Prop := ¬ (i < 0 ∨ n ≤ i.toNatClampNeg)
abbrev nt (i : Int32) : Nat := i.toNatClampNeg
def vl {α β : Type} (x : α) (k : α → β) : β := k x
theorem vl_e {α β : Type} {x : α} {k : α → β} {y : β} (h : vl x k = y) : k x = y := h
theorem vl_x {α β : Type} {x : α} {k : α → β} {y : β} (h : vl x k = y) : ∃ z, z = x ∧ k z = y := ⟨x, rfl, h⟩
def gd {α : Type} (c : Prop) [Decidable c] (x : Option α) : Option α := if c then x else none
theorem gd_e {α : Type} {c : Prop} [Decidable c] {x : Option α} {y : α} (h : gd c x = some y) : c ∧ x = some y := by
  unfold gd at h
  split at h
  · rename_i h1
    exact ⟨h1, h⟩
  · cases h
theorem gd_t {α : Type} {c : Prop} [Decidable c] {x : Option α} (h : c) : gd c x = x := if_pos h
def cl {α β : Type} (o : Option (α × St)) (k : α → St → Option β) : Option β := match o with
  | none => none
  | some u => k u.1 u.2
theorem cl_e {α β : Type} {o : Option (α × St)} {k : α → St → Option β} {y : β} (h : cl o k = some y) : ∃ r σ, o = some (r, σ) ∧ k r σ = some y := by
  cases o with
  | none => cases h
  | some u => exact ⟨u.1, u.2, rfl, h⟩
theorem cl_s {α β : Type} {o : Option (α × St)} {k : α → St → Option β} {r : α} {σ : St} (h : o = some (r, σ)) : cl o k = k r σ := by subst h; rfl
/-- an answer that may be null: both ways -/
def oc {β : Type} (o : Option Nat) (kn : Option β) (ks : Nat → Option β) : Option β := match o with
  | none => kn
  | some k => ks k
theorem oc_n {β : Type} {kn : Option β} {ks : Nat → Option β} {y : Option β} (h : oc none kn ks = y) : kn = y := h
theorem oc_s {β : Type} {k : Nat} {kn : Option β} {ks : Nat → Option β} {y : Option β} (h : oc (some k) kn ks = y) : ks k = y := h
/-- a loop: its body with what goes on at its head -/
def lp {α ρ : Type} (b : (α → Option ρ) → α → Option ρ) : Nat → α → Option ρ
  | 0, _ => none
  | n + 1, a => b (lp b n) a
theorem lp_w {α ρ : Type} {b : (α → Option ρ) → α → Option ρ} {res : ρ} {P : α → Prop} (h : ∀ K : α → Option ρ, (∀ a, K a = some res → P a) → ∀ a, b K a = some res → P a) : ∀ n a, lp b n a = some res → P a := by
  intro n
  induction n with
  | zero => intro a h; cases h
  | succ n ih => intro a ha; exact h (lp b n) ih a ha
def FU : Nat := 3000
/-! the classes of the worlds -/
abbrev classes : List vw_C := [(RX0, TX0, 4), (RX1, TX1, 7), (RX2, TX2, 20), (RX3, TX3, 12), (RX4, TX4, 4), (RX5, TX5, 4), (RX6, TX6, 2), (RX7, TX7, 10), (RX8, TX8, 58)]
/-! a world's make: classes, array classes, the cells' numbers, their addresses, what a cell is by its row -/
abbrev gEv : Type := va_G × List (ClassId × FieldType) × List Nat × (Nat → Nat) × (Nat → (Nat → Int32) → va_E)
abbrev gAd (Γ : gEv) : Nat → Nat := Γ.2.2.2.1
abbrev gWS (Γ : gEv) (σ : St) : va_W := gWs Γ.2.2.1 Γ.2.2.2.1 Γ.2.2.2.2 σ
def gW (Γ : gEv) (σ : St) (H : Heap) : Prop := va_P Γ.1 classes (gWS Γ σ) H
def gK (Γ : gEv) (U : State) : Prop := va_K Γ.1 classes Γ.2.1 U
def gIj (Γ : gEv) : Prop := Γ.2.2.1.Nodup ∧ ∀ i ∈ Γ.2.2.1, ∀ j ∈ Γ.2.2.1, gAd Γ i = gAd Γ j → i = j
def gA (Γ : gEv) : Nat → Prop := fun q => ∃ k, k ∈ Γ.2.2.1 ∧ q = gAd Γ k
theorem gW_D {Γ : gEv} (hI : gIj Γ) (σ : St) : va_D (gA Γ) (gWS Γ σ) := gWs_D hI.1 hI.2 (fun k hk => ⟨k, hk, rfl⟩) σ
/-- what a method stands on -/
def gFx (p : Program) (m : MethodId) (c : Code) (cc : ByteArray) (nL : Nat) (s : State) (args : Array Value) (own : String) (Γ : gEv) : Prop :=
  p.tables.exec = Jvm.exec ∧ c.code = cc ∧ c.maxLocals = nL ∧ s.vm.findClass own = some m.cls ∧ (∀ w ∈ U0, w.before args s = true) ∧ hasN s ∧ gK Γ s ∧ gIj Γ
def gBx (p : Program) (m : MethodId) (meth : Method) (c : Code) (cc : ByteArray) (nL : Nat) (rt : Option FieldType) (s : State) (args : Array Value) (own : String) (Γ : gEv) : Prop :=
  gFx p m c cc nL s args own Γ ∧ meth.sig.returnType = rt ∧ meth.locks = false
def gPre (Γ : gEv) (σ : St) (U : State) : Prop := gW Γ σ U.heap ∧ gK Γ U ∧ hasN U
abbrev gPi (Γ : gEv) (r : Int32) (σ' : St) : Array Value → State → Outcome → State → Prop := va_Qi (fun (x : Int32) (_ : Unit) => x = r) (fun _ t => gW Γ σ' t.heap) (gA Γ)
abbrev gPv (Γ : gEv) (σ' : St) : Array Value → State → Outcome → State → Prop := va_Qv (fun (_ : Unit) => True) (fun _ t => gW Γ σ' t.heap) (gA Γ)
abbrev gPq (Γ : gEv) (b : Nat) (r : Option Nat) (σ' : St) : Array Value → State → Outcome → State → Prop := va_Qq (fun (x : Option Nat) (_ : Unit) => x = r.map (fun d => gAd Γ (b + d))) (fun _ t => gW Γ σ' t.heap) (gA Γ)
abbrev gMi (l : Launch) (y : MethodName) (cc : ByteArray) (n : Nat) (rt : FieldType) (rm : Room) (av : List Value) (Γ : gEv) (σ : St) (r : Int32) (σ' : St) : Prop :=
  Met l y (.code y cc n (some rt) :: U0) rm (va_Pc av (gPre Γ σ)) (gPi Γ r σ') 0 0 (gA Γ)
abbrev gMv (l : Launch) (y : MethodName) (cc : ByteArray) (n : Nat) (rm : Room) (av : List Value) (Γ : gEv) (σ : St) (σ' : St) : Prop :=
  Met l y (.code y cc n none :: U0) rm (va_Pc av (gPre Γ σ)) (gPv Γ σ') 0 0 (gA Γ)
abbrev gMq (l : Launch) (y : MethodName) (cc : ByteArray) (n : Nat) (rt : FieldType) (rm : Room) (av : List Value) (Γ : gEv) (σ : St) (b : Nat) (r : Option Nat) (σ' : St) : Prop :=
  Met l y (.code y cc n (some rt) :: U0) rm (va_Pc av (gPre Γ σ)) (gPq Γ b r σ') 0 0 (gA Γ)
abbrev gQi (below : List Frame) (args : Array Value) (s : State) (Γ : gEv) (r : Int32) (σ' : St) : State → Prop := MQ below (gPi Γ r σ') args s 0 0 (gA Γ)
abbrev gQv (below : List Frame) (args : Array Value) (s : State) (Γ : gEv) (σ' : St) : State → Prop := MQ below (gPv Γ σ') args s 0 0 (gA Γ)
abbrev gQq (below : List Frame) (args : Array Value) (s : State) (Γ : gEv) (b : Nat) (r : Option Nat) (σ' : St) : State → Prop := MQ below (gPq Γ b r σ') args s 0 0 (gA Γ)
theorem nb_ok {x : Int32} (h : x = 0 ∨ x = 1) : narrow .boolean (.int x) = .int x := by rcases h with rfl | rfl <;> rfl
theorem nb_fit {x : Int32} (h : x = 0 ∨ x = 1) : fits .boolean (.int x) = true := by rcases h with rfl | rfl <;> rfl
theorem g_blind {av : List Value} {Γ : gEv} {σ : St} : FrameBlind (va_Pc av (gPre Γ σ)) := fun a U g mk q => ⟨q.1, q.2.1, va_K.moved (u := U) (U := U.calling g mk a) (Vm.Alike.refl U.vm) q.2.2.1, hasN.same (u := U) (U := U.calling g mk a) rfl q.2.2.2⟩
theorem g_good {own C : String} {idx : Nat} {y : MethodName} {bytes : ByteArray} {maxL : Nat} {rt : Option FieldType} (hl1 : Cond.methodLink own idx y ∈ U0) (hl2 : Cond.instanceMethod y ∈ U0) (hl3 : Cond.selects C y y ∈ U0) (hl4 : Cond.initialized C ∈ U0) (hl5 : Cond.code y bytes maxL rt ∈ U0) : GoodIn U0 (wsV own idx C y (.code y bytes maxL rt :: U0)) := by
  intro w hw
  have h : w ∈ U0 := by
    rcases List.mem_append.mp hw with h | h
    · simp only [List.mem_cons, List.not_mem_nil, or_false] at h
      rcases h with rfl | rfl | rfl | rfl <;> assumption
    · rcases List.mem_cons.mp h with rfl | h
      · exact hl5
      · exact h
  exact ⟨h, U0_good h⟩
theorem g_good1 {y : MethodName} {bytes : ByteArray} {maxL : Nat} {rt : Option FieldType} (hl5 : Cond.code y bytes maxL rt ∈ U0) : GoodIn U0 (.code y bytes maxL rt :: U0) := by
  intro w hw
  have h : w ∈ U0 := by
    rcases List.mem_cons.mp hw with rfl | h
    · exact hl5
    · exact h
  exact ⟨h, U0_good h⟩
section GROWS
variable {p : Program} {l : Launch} {e : Env} {R : Room} {s : State} {m : MethodId} {args : Array Value} {below : List Frame} {meth : Method} {c : Code} {H : Heap} {locs : List Loc} {cells slots : Nat} {Q : State → Prop}
variable {cc : ByteArray} {pc nL : Nat} {ls : Array Slot} {rest st : List Value} {own : String} {Γ : gEv} {σ : St}
theorem g_get (F : gFx p m c cc nL s args own Γ) (hP : gW Γ σ H) {k : Nat} (hk : k ∈ Γ.2.2.1) {ci : Nat} {fs : List Value} (he : Γ.2.2.2.2 k (σ k) = .inr (ci, fs)) {C : String} {T : u_T} {N : Nat} (hc : classes[ci]? = some (C, T, N)) (hin : ∀ w ∈ u_ws C T N, w ∈ U0) (j : Nat) (hj : j < N) {idx : Nat} {ref : String} (hlink : Cond.fieldLink own idx ref (T j).2.1 (T j).2.2.1 ∈ U0) (hsame : (T j).1 = ref) {v : Value} (hv : fs[j]? = some v) (hdg : decode cc pc = .ok (.getfield idx, 3))
    (kk : W p l e R s m args below meth c H locs cells slots Q (F0 m (pc + 3) ls (v :: rest))) : W p l e R s m args below meth c H locs cells slots Q (F0 m pc ls (.ref (gAd Γ k) :: rest)) := by
  obtain ⟨hx, hb, -, hown, hts, -, hK, hI⟩ := F
  obtain ⟨q, hq, -⟩ := gWs_at (ad := gAd Γ) (ce := Γ.2.2.2.2) hI.1 hk σ
  exact va_get hx hb hts hin hown hK hP q (by rw [hq, he]) hc j hj (hts _ hlink) (fun x h => by rw [← hsame]; exact h) hv hdg kk
theorem g_getN (F : gFx p m c cc nL s args own Γ) (hP : gW Γ σ H) {k : Nat} (hk : k ∈ Γ.2.2.1) {ci : Nat} {fs : List Value} (he : Γ.2.2.2.2 k (σ k) = .inr (ci, fs)) {C : String} {T : u_T} {N : Nat} (hc : classes[ci]? = some (C, T, N)) (hin : ∀ w ∈ u_ws C T N, w ∈ U0) (j : Nat) (hj : j < N) {idx : Nat} {ref host : String} (hlink : Cond.fieldLinkNest own idx ref (T j).2.1 (T j).2.2.1 host ∈ NW) (hsame : (T j).1 = ref) {v : Value} (hv : fs[j]? = some v) (hdg : decode cc pc = .ok (.getfield idx, 3))
    (kk : W p l e R s m args below meth c H locs cells slots Q (F0 m (pc + 3) ls (v :: rest))) : W p l e R s m args below meth c H locs cells slots Q (F0 m pc ls (.ref (gAd Γ k) :: rest)) := by
  obtain ⟨hx, hb, -, hown, hts, hN, hK, hI⟩ := F
  obtain ⟨q, hq, -⟩ := gWs_at (ad := gAd Γ) (ce := Γ.2.2.2.2) hI.1 hk σ
  exact va_getN hx hb hts hin hown hK hP q (by rw [hq, he]) hc j hj (va_Nw.use rfl (hN _ hlink)) (fun x h => by rw [← hsame]; exact h) hv hdg kk
theorem g_put (F : gFx p m c cc nL s args own Γ) (hP : gW Γ σ H) (hS : va_S (gA Γ) s.heap H locs) {k : Nat} (hk : k ∈ Γ.2.2.1) {ci : Nat} {fs : List Value} (he : Γ.2.2.2.2 k (σ k) = .inr (ci, fs)) {C : String} {T : u_T} {N : Nat} (hc : classes[ci]? = some (C, T, N)) (hin : ∀ w ∈ u_ws C T N, w ∈ U0) (ty0 : Nat → FieldType) (hty : ∀ k, k < N → parseFieldDescriptor (T k).2.2.1 = some (ty0 k)) (hnm : ∀ a, a < N → ∀ b, b < N → a ≠ b → (T a).2.1 ≠ (T b).2.1) (j : Nat) (hj : j < N) {idx : Nat} {ref : String} (hlink : Cond.fieldLink own idx ref (T j).2.1 (T j).2.2.1 ∈ U0) (hsame : (T j).1 = ref) (hfin : (T j).2.2.2 = false) {v : Value} (hn : narrow (ty0 j) v = v) (hfit : fits (ty0 j) v = true) (hl : j < fs.length) {x : Int32} {jj : Nat} (hset : Γ.2.2.2.2 k (upd (σ k) jj x) = .inr (ci, fs.set j v)) (hdg : decode cc pc = .ok (.putfield idx, 3))
    (kk : ∀ (H1 : Heap) (locs1 : List Loc), gW Γ (up2 σ k jj x) H1 → va_S (gA Γ) s.heap H1 locs1 → W p l e R s m args below meth c H1 locs1 cells slots Q (F0 m (pc + 3) ls rest)) : W p l e R s m args below meth c H locs cells slots Q (F0 m pc ls (v :: .ref (gAd Γ k) :: rest)) := by
  obtain ⟨hx, hb, -, hown, hts, -, hK, hI⟩ := F
  obtain ⟨q, hq, hs⟩ := gWs_at (ad := gAd Γ) (ce := Γ.2.2.2.2) hI.1 hk σ
  refine va_put hx hb hts hin ty0 hty hnm hown hK hP (gW_D hI σ) hS q (by rw [hq, he]) hc j hj (hts _ hlink) (fun x h => by rw [← hsame]; exact h) hfin (hty j hj) hn hfit hl hdg (fun H1 locs1 h1 _ h3 => kk H1 locs1 ?_ h3)
  rw [← hset, hs] at h1
  exact h1
theorem g_putN (F : gFx p m c cc nL s args own Γ) (hP : gW Γ σ H) (hS : va_S (gA Γ) s.heap H locs) {k : Nat} (hk : k ∈ Γ.2.2.1) {ci : Nat} {fs : List Value} (he : Γ.2.2.2.2 k (σ k) = .inr (ci, fs)) {C : String} {T : u_T} {N : Nat} (hc : classes[ci]? = some (C, T, N)) (hin : ∀ w ∈ u_ws C T N, w ∈ U0) (ty0 : Nat → FieldType) (hty : ∀ k, k < N → parseFieldDescriptor (T k).2.2.1 = some (ty0 k)) (hnm : ∀ a, a < N → ∀ b, b < N → a ≠ b → (T a).2.1 ≠ (T b).2.1) (j : Nat) (hj : j < N) {idx : Nat} {ref host : String} (hlink : Cond.fieldLinkNest own idx ref (T j).2.1 (T j).2.2.1 host ∈ NW) (hsame : (T j).1 = ref) (hfin : (T j).2.2.2 = false) {v : Value} (hn : narrow (ty0 j) v = v) (hfit : fits (ty0 j) v = true) (hl : j < fs.length) {x : Int32} {jj : Nat} (hset : Γ.2.2.2.2 k (upd (σ k) jj x) = .inr (ci, fs.set j v)) (hdg : decode cc pc = .ok (.putfield idx, 3))
    (kk : ∀ (H1 : Heap) (locs1 : List Loc), gW Γ (up2 σ k jj x) H1 → va_S (gA Γ) s.heap H1 locs1 → W p l e R s m args below meth c H1 locs1 cells slots Q (F0 m (pc + 3) ls rest)) : W p l e R s m args below meth c H locs cells slots Q (F0 m pc ls (v :: .ref (gAd Γ k) :: rest)) := by
  obtain ⟨hx, hb, -, hown, hts, hN, hK, hI⟩ := F
  obtain ⟨q, hq, hs⟩ := gWs_at (ad := gAd Γ) (ce := Γ.2.2.2.2) hI.1 hk σ
  refine va_putN hx hb hts hin ty0 hty hnm hown hK hP (gW_D hI σ) hS q (by rw [hq, he]) hc j hj (va_Nw.use rfl (hN _ hlink)) (fun x h => by rw [← hsame]; exact h) hfin (hty j hj) hn hfit hl hdg (fun H1 locs1 h1 _ h3 => kk H1 locs1 ?_ h3)
  rw [← hset, hs] at h1
  exact h1
theorem g_iald (F : gFx p m c cc nL s args own Γ) (hP : gW Γ σ H) {k : Nat} (hk : k ∈ Γ.2.2.1) {cA : ClassId} {n : Nat} (he : Γ.2.2.2.2 k (σ k) = .inl (cA, n, .inl (σ k))) (ht : Γ.2.1[0]? = some (cA, .int)) {i : Int32} (hi : ix i n) (hdg : decode cc pc = .ok (.iaload, 1))
    (kk : W p l e R s m args below meth c H locs cells slots Q (F0 m (pc + 1) ls (.int (σ k (nt i)) :: rest))) : W p l e R s m args below meth c H locs cells slots Q (F0 m pc ls (.int i :: .ref (gAd Γ k) :: rest)) := by
  obtain ⟨hx, hb, -, hown, hts, -, hK, hI⟩ := F
  obtain ⟨q, hq, -⟩ := gWs_at (ad := gAd Γ) (ce := Γ.2.2.2.2) hI.1 hk σ
  exact va_iald hx hb hK hP q 0 (f := σ k) (by rw [hq, he]) ht hi hdg kk
theorem g_iast (F : gFx p m c cc nL s args own Γ) (hP : gW Γ σ H) (hS : va_S (gA Γ) s.heap H locs) {k : Nat} (hk : k ∈ Γ.2.2.1) {cA : ClassId} {n : Nat} (he : ∀ r, Γ.2.2.2.2 k r = .inl (cA, n, .inl r)) (ht : Γ.2.1[0]? = some (cA, .int)) {i x : Int32} (hi : ix i n) (hdg : decode cc pc = .ok (.iastore, 1))
    (kk : ∀ (H1 : Heap) (locs1 : List Loc), gW Γ (up2 σ k (nt i) x) H1 → va_S (gA Γ) s.heap H1 locs1 → W p l e R s m args below meth c H1 locs1 cells slots Q (F0 m (pc + 1) ls rest)) : W p l e R s m args below meth c H locs cells slots Q (F0 m pc ls (.int x :: .int i :: .ref (gAd Γ k) :: rest)) := by
  obtain ⟨hx, hb, -, hown, hts, -, hK, hI⟩ := F
  obtain ⟨q, hq, hs⟩ := gWs_at (ad := gAd Γ) (ce := Γ.2.2.2.2) hI.1 hk σ
  refine va_iast hx hb hK hP (gW_D hI σ) hS q 0 (f := σ k) (by rw [hq, he]) ht hi hdg (fun H1 locs1 h1 _ h3 => kk H1 locs1 ?_ h3)
  rw [← he (upd (σ k) i.toNatClampNeg x), hs] at h1
  exact h1
theorem g_alen (F : gFx p m c cc nL s args own Γ) (hP : gW Γ σ H) {k : Nat} (hk : k ∈ Γ.2.2.1) {cA : ClassId} {x : vp_A} (he : Γ.2.2.2.2 k (σ k) = .inl (cA, x)) {t0 : Nat} {ty : FieldType} (ht : Γ.2.1[t0]? = some (cA, ty)) {v : Int32} (hv : Int32.ofNat x.1 = v) (hdg : decode cc pc = .ok (.arraylength, 1))
    (kk : W p l e R s m args below meth c H locs cells slots Q (F0 m (pc + 1) ls (.int v :: rest))) : W p l e R s m args below meth c H locs cells slots Q (F0 m pc ls (.ref (gAd Γ k) :: rest)) := by
  obtain ⟨hx, hb, -, hown, hts, -, hK, hI⟩ := F
  obtain ⟨q, hq, -⟩ := gWs_at (ad := gAd Γ) (ce := Γ.2.2.2.2) hI.1 hk σ
  exact va_alen hx hb hK hP q t0 (x := x) (by rw [hq, he]) ht hv hdg kk
theorem g_aldq (F : gFx p m c cc nL s args own Γ) (hP : gW Γ σ H) {k : Nat} (hk : k ∈ Γ.2.2.1) {cA : ClassId} {n : Nat} {f : Nat → Option Nat} (he : Γ.2.2.2.2 k (σ k) = .inl (cA, n, .inr (.inr (.inr (.inr f))))) {t0 : Nat} {C : String} (ht : Γ.2.1[t0]? = some (cA, .object C)) {i : Int32} (hi : ix i n) (hdg : decode cc pc = .ok (.aaload, 1))
    (kk : W p l e R s m args below meth c H locs cells slots Q (F0 m (pc + 1) ls (va_rf (f (nt i)) :: rest))) : W p l e R s m args below meth c H locs cells slots Q (F0 m pc ls (.int i :: .ref (gAd Γ k) :: rest)) := by
  obtain ⟨hx, hb, -, hown, hts, -, hK, hI⟩ := F
  obtain ⟨q, hq, -⟩ := gWs_at (ad := gAd Γ) (ce := Γ.2.2.2.2) hI.1 hk σ
  exact va_aldq hx hb hK hP q t0 (f := f) (by rw [hq, he]) ht hi hdg kk
/-! calls -/
theorem g_cwV (F : gFx p m c cc nL s args own Γ) {C : String} {idx : Nat} {y : MethodName} {bytes : ByteArray} {maxL n : Nat} {rt : Option FieldType} {rm : Room} (hl1 : Cond.methodLink own idx y ∈ U0) (hl2 : Cond.instanceMethod y ∈ U0) (hl3 : Cond.selects C y y ∈ U0) (hl4 : Cond.initialized C ∈ U0) (hl5 : Cond.code y bytes maxL rt ∈ U0)
    (hd : y.cls = C ∧ y.cls ≠ "java/lang/invoke/MethodHandle" ∧ y.cls ≠ "java/lang/invoke/VarHandle" ∧ (parseMethodDescriptor y.desc).map (fun d => d.parameters.length) = some n) (hrc : rm.cells = 0) (hrs : rm.slots = 0) (hR : rm.frames + 1 ≤ R.frames ∧ 8 + (maxL + 11) + rm.locals ≤ R.locals) :
    CallW R s args own C idx y bytes maxL rt (.code y bytes maxL rt :: U0) rm 0 0 n := cwV n F.2.2.2.2.1 (g_good hl1 hl2 hl3 hl4 hl5) rfl hrc hrs hd hR
theorem g_cwS (F : gFx p m c cc nL s args own Γ) {idx : Nat} {y : MethodName} {bytes : ByteArray} {maxL n : Nat} {rt : Option FieldType} {rm : Room} (hl1 : Cond.methodLink own idx y ∈ U0) (hl2 : Cond.static y ∈ U0) (hl4 : Cond.initialized y.cls ∈ U0) (hl5 : Cond.code y bytes maxL rt ∈ U0)
    (hd : y.cls ≠ "java/lang/invoke/MethodHandle" ∧ y.cls ≠ "java/lang/invoke/VarHandle" ∧ (parseMethodDescriptor y.desc).map (fun d => d.parameters.length) = some n) (hrc : rm.cells = 0) (hrs : rm.slots = 0) (hR : rm.frames + 1 ≤ R.frames ∧ 8 + (maxL + 11) + rm.locals ≤ R.locals) :
    CallB R s args own idx y bytes maxL rt (.code y bytes maxL rt :: U0) rm 0 0 n ∧ (Cond.static y).before args s = true := ⟨callB_of n F.2.2.2.2.1 (g_good1 hl5) rfl hrc hrs (F.2.2.2.2.1 _ hl4) (F.2.2.2.2.1 _ hl1) hd hR, F.2.2.2.2.1 _ hl2⟩
variable {y : MethodName} {bytes : ByteArray} {maxL n idx k ci N : Nat} {rt : FieldType} {rm : Room} {As : List Value} {r : Int32} {ro : Option Nat} {σ' : St} {C : String} {T : u_T} {fs : List Value}
theorem g_callVi (F : gFx p m c cc nL s args own Γ) (hP : gW Γ σ H) (hS : va_S (gA Γ) s.heap H locs) (hM : gMi l y bytes maxL rt rm (.ref (gAd Γ k) :: As) Γ σ r σ') (cw : CallW R s args own C idx y bytes maxL (some rt) (.code y bytes maxL (some rt) :: U0) rm 0 0 n) (hk : k ∈ Γ.2.2.1) (he : Γ.2.2.2.2 k (σ k) = .inr (ci, fs)) (hc : classes[ci]? = some (C, T, N))
    (hn : As.length = n) (hsz : ls.size = nL) (hst : st = As.reverse ++ .ref (gAd Γ k) :: rest) (hrest : (rest.map fun v => v.category).sum ≤ 8) (hdg : decode cc pc = .ok (.invokevirtual idx, 3)) (hcs : cells ≤ R.cells ∧ slots ≤ R.slots)
    (kk : ∀ (H1 : Heap) (locs1 : List Loc), gW Γ σ' H1 → va_S (gA Γ) s.heap H1 locs1 → W p l e R s m args below meth c H1 locs1 cells slots Q (F0 m (pc + 3) ls (.int r :: rest))) : W p l e R s m args below meth c H locs cells slots Q (F0 m pc ls st) := by
  obtain ⟨hx, hb, hml, hown, hts, hN, hK, hI⟩ := F
  obtain ⟨q, hq, -⟩ := gWs_at (ad := gAd Γ) (ce := Γ.2.2.2.2) hI.1 hk σ
  rw [he] at hq
  refine va_calli (va_runV (As := As) (rest := rest) ⟨hx, hb, hml, hown, hts⟩ hM cw ⟨g_blind, va_recv hK hP hc hq, fun U hU hW => ⟨rfl, by rw [hU]; exact hP, va_K.moved hW.alike hK, hasN.warm hW hN⟩⟩ rfl hn hsz hst (lv_room hrest) hdg hcs) hS (fun q _ h => h) (fun q h => h) (fun r' u t H1 locs1 ht hvm hw hB _ _ hS1 => ?_)
  subst hw
  subst ht
  exact kk _ locs1 hB hS1
theorem g_callVv (F : gFx p m c cc nL s args own Γ) (hP : gW Γ σ H) (hS : va_S (gA Γ) s.heap H locs) (hM : gMv l y bytes maxL rm (.ref (gAd Γ k) :: As) Γ σ σ') (cw : CallW R s args own C idx y bytes maxL none (.code y bytes maxL none :: U0) rm 0 0 n) (hk : k ∈ Γ.2.2.1) (he : Γ.2.2.2.2 k (σ k) = .inr (ci, fs)) (hc : classes[ci]? = some (C, T, N))
    (hn : As.length = n) (hsz : ls.size = nL) (hst : st = As.reverse ++ .ref (gAd Γ k) :: rest) (hrest : (rest.map fun v => v.category).sum ≤ 8) (hdg : decode cc pc = .ok (.invokevirtual idx, 3)) (hcs : cells ≤ R.cells ∧ slots ≤ R.slots)
    (kk : ∀ (H1 : Heap) (locs1 : List Loc), gW Γ σ' H1 → va_S (gA Γ) s.heap H1 locs1 → W p l e R s m args below meth c H1 locs1 cells slots Q (F0 m (pc + 3) ls rest)) : W p l e R s m args below meth c H locs cells slots Q (F0 m pc ls st) := by
  obtain ⟨hx, hb, hml, hown, hts, hN, hK, hI⟩ := F
  obtain ⟨q, hq, -⟩ := gWs_at (ad := gAd Γ) (ce := Γ.2.2.2.2) hI.1 hk σ
  rw [he] at hq
  refine va_callv (va_runV (As := As) (rest := rest) ⟨hx, hb, hml, hown, hts⟩ hM cw ⟨g_blind, va_recv hK hP hc hq, fun U hU hW => ⟨rfl, by rw [hU]; exact hP, va_K.moved hW.alike hK, hasN.warm hW hN⟩⟩ rfl hn hsz hst (lv_room hrest) hdg hcs) hS (fun q _ h => h) (fun q h => h) (fun u t H1 locs1 ht hvm hw hB _ _ hS1 => ?_)
  subst ht
  exact kk _ locs1 hB hS1
theorem g_callVq (F : gFx p m c cc nL s args own Γ) (hP : gW Γ σ H) (hS : va_S (gA Γ) s.heap H locs) {b : Nat} (hM : gMq l y bytes maxL rt rm (.ref (gAd Γ k) :: As) Γ σ b ro σ') (cw : CallW R s args own C idx y bytes maxL (some rt) (.code y bytes maxL (some rt) :: U0) rm 0 0 n) (hk : k ∈ Γ.2.2.1) (he : Γ.2.2.2.2 k (σ k) = .inr (ci, fs)) (hc : classes[ci]? = some (C, T, N))
    (hn : As.length = n) (hsz : ls.size = nL) (hst : st = As.reverse ++ .ref (gAd Γ k) :: rest) (hrest : (rest.map fun v => v.category).sum ≤ 8) (hdg : decode cc pc = .ok (.invokevirtual idx, 3)) (hcs : cells ≤ R.cells ∧ slots ≤ R.slots)
    (kn : ro = none → ∀ (H1 : Heap) (locs1 : List Loc), gW Γ σ' H1 → va_S (gA Γ) s.heap H1 locs1 → W p l e R s m args below meth c H1 locs1 cells slots Q (F0 m (pc + 3) ls (.null :: rest)))
    (ks : ∀ d, ro = some d → ∀ (H1 : Heap) (locs1 : List Loc), gW Γ σ' H1 → va_S (gA Γ) s.heap H1 locs1 → W p l e R s m args below meth c H1 locs1 cells slots Q (F0 m (pc + 3) ls (.ref (gAd Γ (b + d)) :: rest))) : W p l e R s m args below meth c H locs cells slots Q (F0 m pc ls st) := by
  obtain ⟨hx, hb, hml, hown, hts, hN, hK, hI⟩ := F
  obtain ⟨q, hq, -⟩ := gWs_at (ad := gAd Γ) (ce := Γ.2.2.2.2) hI.1 hk σ
  rw [he] at hq
  refine va_callq (va_runV (As := As) (rest := rest) ⟨hx, hb, hml, hown, hts⟩ hM cw ⟨g_blind, va_recv hK hP hc hq, fun U hU hW => ⟨rfl, by rw [hU]; exact hP, va_K.moved hW.alike hK, hasN.warm hW hN⟩⟩ rfl hn hsz hst (lv_room hrest) hdg hcs) hS (fun q _ h => h) (fun q h => h) (fun r' u t H1 locs1 ht hvm hw hB _ _ hS1 => ?_)
  subst hw
  subst ht
  cases ro with
  | none => exact kn rfl _ locs1 hB hS1
  | some d => exact ks d rfl _ locs1 hB hS1
theorem g_callSi (F : gFx p m c cc nL s args own Γ) (hP : gW Γ σ H) (hS : va_S (gA Γ) s.heap H locs) (hM : gMi l y bytes maxL rt rm As Γ σ r σ') (cw : CallB R s args own idx y bytes maxL (some rt) (.code y bytes maxL (some rt) :: U0) rm 0 0 n ∧ (Cond.static y).before args s = true)
    (hn : As.length = n) (hsz : ls.size = nL) (hst : st = As.reverse ++ rest) (hrest : (rest.map fun v => v.category).sum ≤ 8) (hdg : decode cc pc = .ok (.invokestatic idx, 3)) (hcs : cells ≤ R.cells ∧ slots ≤ R.slots)
    (kk : ∀ (H1 : Heap) (locs1 : List Loc), gW Γ σ' H1 → va_S (gA Γ) s.heap H1 locs1 → W p l e R s m args below meth c H1 locs1 cells slots Q (F0 m (pc + 3) ls (.int r :: rest))) : W p l e R s m args below meth c H locs cells slots Q (F0 m pc ls st) := by
  obtain ⟨hx, hb, hml, hown, hts, hN, hK, hI⟩ := F
  refine va_calli (va_runS (As := As) (rest := rest) ⟨hx, hb, hml, hown, hts⟩ hM cw ⟨g_blind, fun U hU hW => ⟨rfl, by rw [hU]; exact hP, va_K.moved hW.alike hK, hasN.warm hW hN⟩⟩ rfl hn hsz hst (lv_room hrest) hdg hcs) hS (fun q _ h => h) (fun q h => h) (fun r' u t H1 locs1 ht hvm hw hB _ _ hS1 => ?_)
  subst hw
  subst ht
  exact kk _ locs1 hB hS1
theorem g_callSv (F : gFx p m c cc nL s args own Γ) (hP : gW Γ σ H) (hS : va_S (gA Γ) s.heap H locs) (hM : gMv l y bytes maxL rm As Γ σ σ') (cw : CallB R s args own idx y bytes maxL none (.code y bytes maxL none :: U0) rm 0 0 n ∧ (Cond.static y).before args s = true)
    (hn : As.length = n) (hsz : ls.size = nL) (hst : st = As.reverse ++ rest) (hrest : (rest.map fun v => v.category).sum ≤ 8) (hdg : decode cc pc = .ok (.invokestatic idx, 3)) (hcs : cells ≤ R.cells ∧ slots ≤ R.slots)
    (kk : ∀ (H1 : Heap) (locs1 : List Loc), gW Γ σ' H1 → va_S (gA Γ) s.heap H1 locs1 → W p l e R s m args below meth c H1 locs1 cells slots Q (F0 m (pc + 3) ls rest)) : W p l e R s m args below meth c H locs cells slots Q (F0 m pc ls st) := by
  obtain ⟨hx, hb, hml, hown, hts, hN, hK, hI⟩ := F
  refine va_callv (va_runS (As := As) (rest := rest) ⟨hx, hb, hml, hown, hts⟩ hM cw ⟨g_blind, fun U hU hW => ⟨rfl, by rw [hU]; exact hP, va_K.moved hW.alike hK, hasN.warm hW hN⟩⟩ rfl hn hsz hst (lv_room hrest) hdg hcs) hS (fun q _ h => h) (fun q h => h) (fun u t H1 locs1 ht hvm hw hB _ _ hS1 => ?_)
  subst ht
  exact kk _ locs1 hB hS1
/-! ends -/
theorem g_iret {v : Int32} (B : gBx p m meth c cc nL (some .int) s args own Γ) (hP : gW Γ σ H) (hS : va_S (gA Γ) s.heap H locs) (hf : some (v, σ) = some (r, σ')) (hdg : decode cc pc = .ok (.ireturn, 1)) : W p l e R s m args below meth c H locs 0 0 (gQi below args s Γ r σ') (F0 m pc ls [.int v]) := by
  cases hf
  have hlocks := B.2.2
  exact W.iret B.1.1 B.1.2.1 B.2.1 (fun t ht _ => ⟨⟨_, (), rfl, rfl, by subst ht; exact hP⟩, hS.F ht⟩) hS.2.2 hdg
theorem g_zret {v : Int32} (B : gBx p m meth c cc nL (some .boolean) s args own Γ) (hP : gW Γ σ H) (hS : va_S (gA Γ) s.heap H locs) (hf : some (v, σ) = some (r, σ')) (hv : v = 0 ∨ v = 1) (hdg : decode cc pc = .ok (.ireturn, 1)) : W p l e R s m args below meth c H locs 0 0 (gQi below args s Γ r σ') (F0 m pc ls [.int v]) := by
  cases hf
  have hlocks := B.2.2
  exact W.zret B.1.1 B.1.2.1 B.2.1 (nb_ok hv) (fun t ht _ => ⟨⟨_, (), rfl, rfl, by subst ht; exact hP⟩, hS.F ht⟩) hS.2.2 hdg
theorem g_vret {u : Unit} (B : gBx p m meth c cc nL none s args own Γ) (hP : gW Γ σ H) (hS : va_S (gA Γ) s.heap H locs) (hf : some ((), σ) = some (u, σ')) (hdg : decode cc pc = .ok (.return_, 1)) : W p l e R s m args below meth c H locs 0 0 (gQv below args s Γ σ') (F0 m pc ls []) := by
  cases hf
  have hlocks := B.2.2
  exact W.vret B.1.1 B.1.2.1 B.2.1 (fun t ht _ => ⟨⟨(), rfl, trivial, by subst ht; exact hP⟩, hS.F ht⟩) hS.2.2 hdg
theorem g_aretN {nm : String} (B : gBx p m meth c cc nL (some (.object nm)) s args own Γ) (hP : gW Γ σ H) (hS : va_S (gA Γ) s.heap H locs) {b : Nat} (hf : some ((none : Option Nat), σ) = some (ro, σ')) (hdg : decode cc pc = .ok (.areturn, 1)) : W p l e R s m args below meth c H locs 0 0 (gQq below args s Γ b ro σ') (F0 m pc ls [.null]) := by
  cases hf
  have hlocks := B.2.2
  exact W.aret B.1.1 B.1.2.1 B.2.1 (Or.inl ⟨_, rfl⟩) (Or.inl rfl) (fun t ht _ => ⟨⟨none, (), rfl, rfl, by subst ht; exact hP⟩, hS.F ht⟩) hS.2.2 hdg
theorem g_aretS {nm : String} (B : gBx p m meth c cc nL (some (.object nm)) s args own Γ) (hP : gW Γ σ H) (hS : va_S (gA Γ) s.heap H locs) {b : Nat} (hf : some (some k, σ) = some (ro, σ')) (hdg : decode cc pc = .ok (.areturn, 1)) : W p l e R s m args below meth c H locs 0 0 (gQq below args s Γ b ro σ') (F0 m pc ls [.ref (gAd Γ (b + k))]) := by
  cases hf
  have hlocks := B.2.2
  exact W.aret B.1.1 B.1.2.1 B.2.1 (Or.inl ⟨_, rfl⟩) (Or.inr ⟨_, rfl⟩) (fun t ht _ => ⟨⟨some (gAd Γ (b + k)), (), rfl, rfl, by subst ht; exact hP⟩, hS.F ht⟩) hS.2.2 hdg
end GROWS
/-! a contract out of a walk from the entry -/
theorem g_entry {l : Launch} {y : MethodName} {cc : ByteArray} {n : Nat} {rt : Option FieldType} {rm : Room} {av : List Value} {Γ : gEv} {σ : St} {Qc : Array Value → State → Outcome → State → Prop} (hy : plainName y.cls = true) (hn : (lg_sl av).length ≤ n) (hI : gIj Γ)
    (body : ∀ (p : Program) (e : Env) (s : State) (m : MethodId) (args : Array Value) (below : List Frame) (meth : Method) (c : Code), gBx p m meth c cc n rt s args y.cls Γ → gW Γ σ s.heap → va_S (gA Γ) s.heap s.heap [] → ∀ ls : Array Slot, lv_has ls n (lv_args 0 av) → W p l e rm s m args below meth c s.heap [] 0 0 (MQ below Qc args s 0 0 (gA Γ)) (F0 m 0 ls [])) :
    Met l y (.code y cc n rt :: U0) rm (va_Pc av (gPre Γ σ)) Qc 0 0 (gA Γ) := by
  refine Met.ofW (cc := cc) (maxL := n) (ret := rt) hy rfl ?_
  intro p e s m args below meth c s₁ B hml hv
  obtain ⟨rfl, hP, hK, hN⟩ := hv
  have hts := atoms_spec (ws := .code y cc n rt :: U0) B.pre
  have hown : s.vm.findClass y.cls = some m.cls := findClass_of_methodNamed B.named
  have hl := lv_entry av (n := n) hn
  rw [lg_entry_eq]
  generalize (lg_sl av ++ List.replicate (n - (lg_sl av).length) Slot.unset).toArray = ls at hl ⊢
  exact body p e s m av.toArray below meth c ⟨⟨B.exec, B.bytes, hml, hown, fun w hw => hts w (List.mem_cons_of_mem _ hw), hN, hK, hI⟩, B.returns, B.notSynchronized⟩ hP va_S.rf ls hl
/-! the class's world: 53 cells, of the numbers below 54 but 7 -/
abbrev cEv : Type := va_G × ClassId × ClassId × ClassId × (Nat → Nat)
abbrev cAd (E : cEv) : Nat → Nat := E.2.2.2.2
def cn (k : Nat) : Nat := if k = 2 then 200 else if k = 5 then 3 else if k = 9 ∨ k = 10 ∨ k = 15 ∨ k = 16 then 4 else if k < 20 then 8 else if k < 42 then 7 else 384
def cArr (k : Nat) : Prop := k = 2 ∨ k = 5 ∨ (9 ≤ k ∧ k ≤ 13) ∨ (15 ≤ k ∧ k ≤ 19) ∨ (30 ≤ k ∧ k < 46)
/-- which layout a code names -/
def lay (x : Int32) : Nat := if x = 0 then 8 else 14
def layC (b : Nat) : Int32 := if b = 8 then 0 else 1
theorem lay_ok (x : Int32) : lay x = 8 ∨ lay x = 14 := by unfold lay; split <;> simp
theorem layC_ok {b : Nat} (h : b = 8 ∨ b = 14) : lay (layC b) = b := by rcases h with rfl | rfl <;> decide
abbrev fs0 (E : cEv) (r : Nat → Int32) : List Value := [.ref (cAd E 21), .int (r 2), .int (r 3), .int (r 4)]
abbrev fs1 (E : cEv) (c : Nat) (r : Nat → Int32) : List Value := [.int (r 0), .int (r 1), .int (r 2), .int (r 3), .int (r 4), .ref (cAd E (26 + c)), .ref (cAd E (42 + c))]
abbrev fs2 (r : Nat → Int32) : List Value := [.int (r 0), .int (r 1), .int (r 2), .int (r 3), .int (r 4), .int (r 5), .int (r 6), .int (r 7), .int (r 8), .int (r 9), .int (r 10), .int (r 11), .int (r 12), .int (r 13), .int (r 14), .int (r 15), .int (r 16), .int (r 17), .int (r 18), .int (r 19)]
abbrev fs3 (E : cEv) (k : Nat) (r : Nat → Int32) : List Value := [.int (r 0), .int (r 1), .int (r 2), .int (r 3), .int (r 4), .int (r 5), .int (r 6), .ref (cAd E (k + 1)), .ref (cAd E (k + 2)), .ref (cAd E (k + 3)), .ref (cAd E (k + 4)), .ref (cAd E (k + 5))]
abbrev fs4 (E : cEv) (c : Nat) (r : Nat → Int32) : List Value := [.ref (cAd E (30 + c)), .ref (cAd E (34 + c)), .ref (cAd E (38 + c)), .int (r 3)]
abbrev fs5 (E : cEv) (r : Nat → Int32) : List Value := [.ref (cAd E 1), .int (r 1), .int (r 2), .int (r 3)]
abbrev fs6 (E : cEv) (k : Nat) (r : Nat → Int32) : List Value := [.ref (cAd E (k + 1)), .int (r 1)]
abbrev fs7 (E : cEv) (r : Nat → Int32) : List Value := [.ref (cAd E 1), .ref (cAd E 3), .ref (cAd E 4), .ref (cAd E 20), .ref (cAd E 21), .ref (cAd E 6), .ref (cAd E (lay (r 6))), .ref (cAd E (lay (r 7))), .int (r 8), .int (r 9)]
abbrev dvF (E : cEv) : Nat → Option Nat := fun j => some (cAd E (46 + j))
abbrev coF (E : cEv) : Nat → Option Nat := fun j => some (cAd E (22 + j))
def cCe (E : cEv) (k : Nat) (r : Nat → Int32) : va_E :=
  if k = 0 then .inr (7, fs7 E r) else if k = 1 ∨ k = 4 then .inr (6, fs6 E k r) else if k = 3 then .inr (5, fs5 E r) else if k = 6 then .inr (0, fs0 E r)
  else if k = 8 ∨ k = 14 then .inr (3, fs3 E k r)
  else if k = 20 then .inl (E.2.2.1, 4, .inr (.inr (.inr (.inr (coF E))))) else if k = 21 then .inl (E.2.2.2.1, 8, .inr (.inr (.inr (.inr (dvF E)))))
  else if 22 ≤ k ∧ k < 26 then .inr (1, fs1 E (k - 22) r) else if 26 ≤ k ∧ k < 30 then .inr (4, fs4 E (k - 26) r) else if 46 ≤ k then .inr (2, fs2 r) else .inl (E.2.1, cn k, .inl r)
theorem ce_7 (E : cEv) (r : Nat → Int32) : cCe E 0 r = .inr (7, fs7 E r) := rfl
theorem ce_6 (E : cEv) (r : Nat → Int32) {k : Nat} (h : k = 1 ∨ k = 4) : cCe E k r = .inr (6, fs6 E k r) := by rcases h with rfl | rfl <;> rfl
theorem ce_5 (E : cEv) (r : Nat → Int32) : cCe E 3 r = .inr (5, fs5 E r) := rfl
theorem ce_0 (E : cEv) (r : Nat → Int32) : cCe E 6 r = .inr (0, fs0 E r) := rfl
theorem ce_3 (E : cEv) (r : Nat → Int32) {k : Nat} (h : k = 8 ∨ k = 14) : cCe E k r = .inr (3, fs3 E k r) := by rcases h with rfl | rfl <;> rfl
theorem ce_c (E : cEv) (r : Nat → Int32) : cCe E 20 r = .inl (E.2.2.1, 4, .inr (.inr (.inr (.inr (coF E))))) := rfl
theorem ce_d (E : cEv) (r : Nat → Int32) : cCe E 21 r = .inl (E.2.2.2.1, 8, .inr (.inr (.inr (.inr (dvF E))))) := rfl
theorem ce_1 (E : cEv) (r : Nat → Int32) {c : Nat} (h : c < 4) : cCe E (22 + c) r = .inr (1, fs1 E c r) := by
  unfold cCe; repeat (first | rw [if_neg (by omega)] | rw [if_pos (by omega)])
  rw [Nat.add_sub_cancel_left]
theorem ce_4 (E : cEv) (r : Nat → Int32) {c : Nat} (h : c < 4) : cCe E (26 + c) r = .inr (4, fs4 E c r) := by
  unfold cCe; repeat (first | rw [if_neg (by omega)] | rw [if_pos (by omega)])
  rw [Nat.add_sub_cancel_left]
theorem ce_2 (E : cEv) (r : Nat → Int32) {d : Nat} (h : d < 8) : cCe E (46 + d) r = .inr (2, fs2 r) := by
  unfold cCe; repeat (first | rw [if_neg (by omega)] | rw [if_pos (by omega)])
theorem ce_a (E : cEv) (r : Nat → Int32) {k : Nat} (h : cArr k) : cCe E k r = .inl (E.2.1, cn k, .inl r) := by
  unfold cArr at h
  unfold cCe; repeat rw [if_neg (by omega)]
theorem cn_2 : cn 2 = 200 := rfl
theorem cn_5 : cn 5 = 3 := rfl
theorem cn_l1 {b : Nat} (h : b = 8 ∨ b = 14) : cn (b + 1) = 4 := by rcases h with rfl | rfl <;> rfl
theorem cn_l2 {b : Nat} (h : b = 8 ∨ b = 14) : cn (b + 2) = 4 := by rcases h with rfl | rfl <;> rfl
theorem cn_l3 {b : Nat} (h : b = 8 ∨ b = 14) : cn (b + 3) = 8 := by rcases h with rfl | rfl <;> rfl
theorem cn_l4 {b : Nat} (h : b = 8 ∨ b = 14) : cn (b + 4) = 8 := by rcases h with rfl | rfl <;> rfl
theorem cn_l5 {b : Nat} (h : b = 8 ∨ b = 14) : cn (b + 5) = 8 := by rcases h with rfl | rfl <;> rfl
theorem cn_p {k : Nat} (h : 30 ≤ k ∧ k < 42) : cn k = 7 := by unfold cn; repeat (first | rw [if_neg (by omega)] | rw [if_pos (by omega)])
theorem cn_a {c : Nat} (_ : c < 4) : cn (42 + c) = 384 := by unfold cn; repeat (first | rw [if_neg (by omega)] | rw [if_pos (by omega)])
theorem ca_r {b : Nat} (h : b = 1 ∨ b = 4) : cArr (b + 1) := by unfold cArr; omega
theorem ca_l {b j : Nat} (h : b = 8 ∨ b = 14) (h1 : 1 ≤ j) (h2 : j ≤ 5) : cArr (b + j) := by unfold cArr; omega
theorem ca_p {k : Nat} (h : 30 ≤ k ∧ k < 46) : cArr k := by unfold cArr; omega
theorem cArr_lt {k : Nat} (h : cArr k) : k < 54 ∧ k ≠ 7 := by unfold cArr at h; omega
abbrev cL : List Nat := (List.range 54).filter (fun k => k ≠ 7)
abbrev cTys (E : cEv) : List (ClassId × FieldType) := [(E.2.1, .int), (E.2.2.1, .object "PromisedSlots$Coordinator"), (E.2.2.2.1, .object "PromisedSlots$Device")]
abbrev cG (E : cEv) : gEv := (E.1, cTys E, cL, cAd E, cCe E)
theorem cL_nd : cL.Nodup := List.nodup_range.filter _
theorem cin {k : Nat} (h : k < 54 ∧ k ≠ 7) : k ∈ cL := List.mem_filter.mpr ⟨List.mem_range.mpr h.1, decide_eq_true h.2⟩
theorem cout {k : Nat} (h : k ∈ cL) : k < 54 ∧ k ≠ 7 := ⟨List.mem_range.mp (List.mem_filter.mp h).1, of_decide_eq_true (List.mem_filter.mp h).2⟩
theorem ix_lt {i : Int32} {n : Nat} (h : ix i n) : nt i < n := Nat.not_le.mp fun q => h (Or.inr q)
section CROWS
variable {p : Program} {l : Launch} {e : Env} {R : Room} {s : State} {m : MethodId} {args : Array Value} {below : List Frame} {meth : Method} {c : Code} {H : Heap} {locs : List Loc} {cells slots : Nat} {Q : State → Prop}
variable {cc : ByteArray} {pc nL : Nat} {ls : Array Slot} {rest : List Value} {own : String} {E : cEv} {σ : St}
theorem c_iald (F : gFx p m c cc nL s args own (cG E)) (hP : gW (cG E) σ H) {k n : Nat} (hk : cArr k) (hn : cn k = n) {i : Int32} (hi : ix i n) (hdg : decode cc pc = .ok (.iaload, 1))
    (kk : W p l e R s m args below meth c H locs cells slots Q (F0 m (pc + 1) ls (.int (σ k (nt i)) :: rest))) : W p l e R s m args below meth c H locs cells slots Q (F0 m pc ls (.int i :: .ref (cAd E k) :: rest)) :=
  g_iald F hP (cin (cArr_lt hk)) (hn ▸ ce_a E _ hk) rfl hi hdg kk
theorem c_iast (F : gFx p m c cc nL s args own (cG E)) (hP : gW (cG E) σ H) (hS : va_S (gA (cG E)) s.heap H locs) {k n : Nat} (hk : cArr k) (hn : cn k = n) {i x : Int32} (hi : ix i n) (hdg : decode cc pc = .ok (.iastore, 1))
    (kk : ∀ (H1 : Heap) (locs1 : List Loc), gW (cG E) (up2 σ k (nt i) x) H1 → va_S (gA (cG E)) s.heap H1 locs1 → W p l e R s m args below meth c H1 locs1 cells slots Q (F0 m (pc + 1) ls rest)) : W p l e R s m args below meth c H locs cells slots Q (F0 m pc ls (.int x :: .int i :: .ref (cAd E k) :: rest)) :=
  g_iast F hP hS (cin (cArr_lt hk)) (fun r => hn ▸ ce_a E r hk) rfl hi hdg kk
theorem c_alen (F : gFx p m c cc nL s args own (cG E)) (hP : gW (cG E) σ H) {k n : Nat} (hk : cArr k) (hn : cn k = n) (hdg : decode cc pc = .ok (.arraylength, 1))
    (kk : W p l e R s m args below meth c H locs cells slots Q (F0 m (pc + 1) ls (.int (nI n) :: rest))) : W p l e R s m args below meth c H locs cells slots Q (F0 m pc ls (.ref (cAd E k) :: rest)) :=
  g_alen F hP (cin (cArr_lt hk)) (x := (n, .inl (σ k))) (hn ▸ ce_a E _ hk) (t0 := 0) rfl rfl hdg kk
theorem c_alenC (F : gFx p m c cc nL s args own (cG E)) (hP : gW (cG E) σ H) (hdg : decode cc pc = .ok (.arraylength, 1))
    (kk : W p l e R s m args below meth c H locs cells slots Q (F0 m (pc + 1) ls (.int 4 :: rest))) : W p l e R s m args below meth c H locs cells slots Q (F0 m pc ls (.ref (cAd E 20) :: rest)) :=
  g_alen F hP (cin (by decide)) (ce_c E (σ 20)) (t0 := 1) rfl (show Int32.ofNat 4 = 4 by decide) hdg kk
theorem c_alenD (F : gFx p m c cc nL s args own (cG E)) (hP : gW (cG E) σ H) (hdg : decode cc pc = .ok (.arraylength, 1))
    (kk : W p l e R s m args below meth c H locs cells slots Q (F0 m (pc + 1) ls (.int 8 :: rest))) : W p l e R s m args below meth c H locs cells slots Q (F0 m pc ls (.ref (cAd E 21) :: rest)) :=
  g_alen F hP (cin (by decide)) (ce_d E (σ 21)) (t0 := 2) rfl (show Int32.ofNat 8 = 8 by decide) hdg kk
theorem c_aldC (F : gFx p m c cc nL s args own (cG E)) (hP : gW (cG E) σ H) {i : Int32} (hi : ix i 4) (hdg : decode cc pc = .ok (.aaload, 1))
    (kk : W p l e R s m args below meth c H locs cells slots Q (F0 m (pc + 1) ls (.ref (cAd E (22 + nt i)) :: rest))) : W p l e R s m args below meth c H locs cells slots Q (F0 m pc ls (.int i :: .ref (cAd E 20) :: rest)) :=
  g_aldq F hP (cin (by decide)) (f := coF E) (ce_c E (σ 20)) (t0 := 1) rfl hi hdg kk
theorem c_aldD (F : gFx p m c cc nL s args own (cG E)) (hP : gW (cG E) σ H) {i : Int32} (hi : ix i 8) (hdg : decode cc pc = .ok (.aaload, 1))
    (kk : W p l e R s m args below meth c H locs cells slots Q (F0 m (pc + 1) ls (.ref (cAd E (46 + nt i)) :: rest))) : W p l e R s m args below meth c H locs cells slots Q (F0 m pc ls (.int i :: .ref (cAd E 21) :: rest)) :=
  g_aldq F hP (cin (by decide)) (f := dvF E) (ce_d E (σ 21)) (t0 := 2) rfl hi hdg kk
end CROWS
/-! the reference's world: the object is cell 0, the array of field j is cell j -/
abbrev mEv : Type := va_G × ClassId × (Nat → Nat)
abbrev mAd (E : mEv) : Nat → Nat := E.2.2
def mn (k : Nat) : Nat := if k = 1 then 200 else if k = 4 then 3 else if k = 34 then 1536 else if k = 31 ∨ k = 32 ∨ k = 33 then 28 else if k = 10 ∨ k = 11 ∨ k = 25 ∨ k = 26 ∨ k = 27 ∨ k = 28 ∨ k = 29 ∨ k = 30 then 4 else 8
abbrev fs8 (E : mEv) (r : Nat → Int32) : List Value := [.int (r 0), .ref (mAd E 1), .int (r 2), .int (r 3), .ref (mAd E 4), .int (r 5), .int (r 6), .int (r 7), .int (r 8), .int (r 9), .ref (mAd E 10), .ref (mAd E 11), .int (r 12), .ref (mAd E 13), .ref (mAd E 14), .ref (mAd E 15), .int (r 16), .int (r 17), .int (r 18), .int (r 19), .int (r 20), .int (r 21), .int (r 22), .int (r 23), .int (r 24), .ref (mAd E 25), .ref (mAd E 26), .ref (mAd E 27), .ref (mAd E 28), .ref (mAd E 29), .ref (mAd E 30), .ref (mAd E 31), .ref (mAd E 32), .ref (mAd E 33), .ref (mAd E 34), .int (r 35), .ref (mAd E 36), .ref (mAd E 37), .ref (mAd E 38), .ref (mAd E 39), .ref (mAd E 40), .ref (mAd E 41), .ref (mAd E 42), .ref (mAd E 43), .ref (mAd E 44), .ref (mAd E 45), .ref (mAd E 46), .ref (mAd E 47), .ref (mAd E 48), .ref (mAd E 49), .ref (mAd E 50), .ref (mAd E 51), .ref (mAd E 52), .ref (mAd E 53), .ref (mAd E 54), .ref (mAd E 55), .int (r 56), .int (r 57)]
def mCe (E : mEv) (k : Nat) (r : Nat → Int32) : va_E := if k = 0 then .inr (8, fs8 E r) else .inl (E.2.1, mn k, .inl r)
abbrev mL : List Nat := [0, 1, 4, 10, 11, 13, 14, 15, 25, 26, 27, 28, 29, 30, 31, 32, 33, 34, 36, 37, 38, 39, 40, 41, 42, 43, 44, 45, 46, 47, 48, 49, 50, 51, 52, 53, 54, 55]
abbrev mTys (E : mEv) : List (ClassId × FieldType) := [(E.2.1, .int)]
abbrev mG (E : mEv) : gEv := (E.1, mTys E, mL, mAd E, mCe E)
theorem mL_nd : mL.Nodup := by decide
theorem min0 : 0 ∈ mL := by decide
theorem me_0 (E : mEv) (r : Nat → Int32) : mCe E 0 r = .inr (8, fs8 E r) := rfl
def mArr (k : Nat) : Prop := k ∈ mL ∧ k ≠ 0
theorem me_a (E : mEv) (r : Nat → Int32) {k : Nat} (h : mArr k) : mCe E k r = .inl (E.2.1, mn k, .inl r) := if_neg h.2
section MROWS
variable {p : Program} {l : Launch} {e : Env} {R : Room} {s : State} {m : MethodId} {args : Array Value} {below : List Frame} {meth : Method} {c : Code} {H : Heap} {locs : List Loc} {cells slots : Nat} {Q : State → Prop}
variable {cc : ByteArray} {pc nL : Nat} {ls : Array Slot} {rest : List Value} {own : String} {E : mEv} {σ : St}
theorem m_iald (F : gFx p m c cc nL s args own (mG E)) (hP : gW (mG E) σ H) {k n : Nat} (hk : mArr k) (hn : mn k = n) {i : Int32} (hi : ix i n) (hdg : decode cc pc = .ok (.iaload, 1))
    (kk : W p l e R s m args below meth c H locs cells slots Q (F0 m (pc + 1) ls (.int (σ k (nt i)) :: rest))) : W p l e R s m args below meth c H locs cells slots Q (F0 m pc ls (.int i :: .ref (mAd E k) :: rest)) :=
  g_iald F hP hk.1 (hn ▸ me_a E _ hk) rfl hi hdg kk
theorem m_iast (F : gFx p m c cc nL s args own (mG E)) (hP : gW (mG E) σ H) (hS : va_S (gA (mG E)) s.heap H locs) {k n : Nat} (hk : mArr k) (hn : mn k = n) {i x : Int32} (hi : ix i n) (hdg : decode cc pc = .ok (.iastore, 1))
    (kk : ∀ (H1 : Heap) (locs1 : List Loc), gW (mG E) (up2 σ k (nt i) x) H1 → va_S (gA (mG E)) s.heap H1 locs1 → W p l e R s m args below meth c H1 locs1 cells slots Q (F0 m (pc + 1) ls rest)) : W p l e R s m args below meth c H locs cells slots Q (F0 m pc ls (.int x :: .int i :: .ref (mAd E k) :: rest)) :=
  g_iast F hP hS hk.1 (fun r => hn ▸ me_a E r hk) rfl hi hdg kk
end MROWS
