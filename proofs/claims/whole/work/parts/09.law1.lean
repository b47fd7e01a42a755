/-! THE CLAIM OUT OF ONE WALK OF THE LAW'S BODY. Your part is whole_start (and what it stands on); all else here is the same for every law, but numbers. -/
def R_law : String := "PromisedSlotsLaw"
def lw_P (b : Addr) (xs : List Int32) (args : Array Value) (s : State) : Prop := args = #[.ref b] ∧ s.IntsAt b xs ∧ xs.length ≤ 2048 ∧ (Jvm.Cond.and given_1 narrow_1).before args s = true
def lw_Q (_ : Array Value) (s : State) (o : Outcome) (t : State) : Prop := o = .returned (some (.int 1)) ∧ Framed s o t [] 600000 7302250
def lw_Z (below : List Frame) (a : Array Value) (s : State) : State → Prop := fun t => ∃ o, t.status = .running ∧ Ended t below o ∧ lw_Q a s o t
/-- the law's own end, with 1 on the stack, nothing written that was there before, its room as the claim has it -/
theorem lw_ret {p : Program} {l : Launch} {e : Env} {s : State} {m : MethodId} {below : List Frame} {meth : Method} {c : Code} {b : Nat} (hx : p.tables.exec = Jvm.exec) (hb : c.code = code) (hr : meth.sig.returnType = ret) (hlocks : meth.locks = false) {pc : Nat} {H : Heap} {ls : Array Slot} (hdg : decode code pc = .ok (.ireturn, 1)) : W p l e room_1 s m #[Value.ref b] below meth c H [] 600000 7302250 (lw_Z below #[Value.ref b] s) (F0 m pc ls [.int 1]) := by
  intro T hT X
  obtain ⟨fs, hret, hrun, hended, hW, hframe⟩ := X.leave (v := some (.int 1)) (hlocks := hlocks) (fun h => by rw [hr] at h; cases h)
  have hmeth' : T.vm.method? m = some meth := X.method'
  refine ⟨T.setFrames fs, ?_, .returned (some (.int 1)), hrun, hended, rfl, ⟨_, rfl⟩, hW, hframe⟩
  jvm_step X.here [X.here.top, hx, hb, hdg, hmeth', hr, ret, narrow_b1]
  (try refine ⟨rfl, ?_⟩); (try refine ⟨rfl, ?_⟩)
  first | (intro acts; rw [hret _ acts rfl rfl rfl]) | rw [hret _ _ rfl rfl rfl]
  exact Steps.refl _
/-- what holds at the law's entry: the machine, the code, the tables' words (any of lw_tbl by 'hts w (by decide +kernel)'), the script of L ints xs at the cell b, what the Statement gives of the start (any of its parts by flat_of_before) -/
def lw_At (p : Program) (s : State) (m : MethodId) (meth : Method) (c : Code) (b L : Nat) (xs : Nat → Int32) : Prop :=
  p.tables.exec = Jvm.exec ∧ c.code = code ∧ meth.sig.returnType = ret ∧ c.maxLocals = 4 ∧ s.vm.findClass R_law = some m.cls ∧ (∀ w ∈ lw_tbl, w.before #[Value.ref b] s = true) ∧ va_X b L xs s s.heap ∧ b < s.heap.size ∧ meth.locks = false ∧ (Jvm.Cond.and given_1 narrow_1).before #[Value.ref b] s = true
theorem nI_p2 (a : Nat) : nI a + 2 = nI (a + 2) := nI_add a 2
theorem nI_p3 (a : Nat) : nI a + 3 = nI (a + 3) := nI_add a 3
theorem nI_p4 (a : Nat) : nI a + 4 = nI (a + 4) := nI_add a 4
/-- the law's own cells: all that are new -/
abbrev lwA (s : State) : Nat → Prop := fun q => s.heap.size ≤ q
section LAW
variable {p : Program} {l : Launch} {e : Env} {s : State} {m : MethodId} {below : List Frame} {meth : Method} {c : Code} {b L : Nat} {xs : Nat → Int32} {H : Heap} {locs : List Loc} {ls : Array Slot} {E : cEv} {E' : mEv} {σ τ : St} {Q : State → Prop}
abbrev lwl (b : Nat) (E : cEv) (E' : mEv) (k : Nat) : List (Nat × Value) := [(0, .ref b), (1, .ref (cAd E 0)), (2, .ref (mAd E' 0)), (3, .int (nI (4 * k)))]
/-- script[i + j] onto the stack -/
theorem lw_arg (C0 : lw_At p s m meth c b L xs) {k : Nat} (hL : L ≤ 2048) (hS : va_S (lwA s) s.heap H locs) (hl : lv_has ls 4 (lwl b E E' k)) {pc j : Nat} {st : List Value} {v : Int32} (hj : 4 * k + j < L) (hv : Int32.ofInt (j : Int) = v) (hva : nI (4 * k) + v = nI (4 * k + j)) (d0 : decode code pc = .ok (.aload_n 0, 1)) (d1 : decode code (pc + 1) = .ok (.iload_n 3, 1)) (d2 : decode code (pc + 2) = .ok (.iconst (j : Int), 1)) (d3 : decode code (pc + 3) = .ok (.iadd, 1)) (d4 : decode code (pc + 4) = .ok (.iaload, 1))
    (kk : W p l e room_1 s m #[Value.ref b] below meth c H locs 91 4246 Q (F0 m (pc + 5) ls (.int (xs (4 * k + j)) :: st))) : W p l e room_1 s m #[Value.ref b] below meth c H locs 91 4246 Q (F0 m pc ls st) := by
  obtain ⟨hx, hb, hr, hml, hown, hts, hX, hbl, hlocks, hgv⟩ := C0
  refine lv_aload_n hx hb d0 rfl (lv_at hl 0 rfl) ?_
  refine lv_iload_n hx hb d1 rfl (lv_at hl 3 rfl) ?_
  refine lv_iconst (v := v) hx hb d2 hv ?_
  refine lv_iadd hx hb d3 ?_
  rw [hva]
  refine va_sld hx hb hX hbl (Nat.not_le.mpr hbl) hS (vp_in_nI hj (by omega)) d4 ?_
  rw [nI_clamp (by omega)]
  exact kk
set_option maxHeartbeats 2000000 in
theorem lw_b_write (hL : L ≤ 2048) (C0 : lw_At p s m meth c b L xs) (Fc : gFx p m c code 4 s #[Value.ref b] R_law (cG E)) (Fm : gFx p m c code 4 s #[Value.ref b] R_law (mG E')) (hAc : ∀ q, gA (cG E) q → lwA s q) (hAm : ∀ q, gA (mG E') q → lwA s q) (hdis : ∀ q, gA (cG E) q → ¬ gA (mG E') q) {k : Nat} (hk : 4 * k + 4 ≤ L) (hP : gW (cG E) σ H) (hM : gW (mG E') τ H) (hS : va_S (lwA s) s.heap H locs) (hl : lv_has ls 4 (lwl b E E' k))
    (h : ∃ r σ' τ', f_X7_write (xs (4 * k + 1)) σ = some (r, σ') ∧ f_X8_write (xs (4 * k + 1)) τ = some (r, τ') ∧ Rel (k + 1) σ' τ')
    (kk : ∀ (σ' τ' : St) (H : Heap) {locs : List Loc}, Rel (k + 1) σ' τ' → gW (cG E) σ' H → gW (mG E') τ' H → va_S (lwA s) s.heap H locs → W p l e room_1 s m #[Value.ref b] below meth c H locs 91 4246 Q (F0 m 668 ls [])) : W p l e room_1 s m #[Value.ref b] below meth c H locs 91 4246 Q (F0 m 128 ls []) := by
  obtain ⟨r, σ', τ', h1, h2, hR⟩ := h
  obtain ⟨hx, hb, hr, hml, hown, hts, hX, hbl, hlocks, hgv⟩ := id C0
  refine lv_aload_n hx hb dL_law_128 rfl (lv_at hl 1 rfl) ?_
  refine lw_arg C0 hL hS hl (j := 1) (v := 1) (by omega) (by decide) (nI_1 _) dL_law_129 dL_law_130 dL_law_131 dL_law_132 dL_law_133 ?_
  refine gx_callVi Fc hP hAc hS (c_X7_write l Fc.2.2.2.2.2.2.2 h1) (g_cwV (n := 1) Fc tw_474 tw_475 tw_476 tw_1 tw_477 (by decide +kernel) rfl rfl ⟨Nat.le_of_ble_eq_true rfl, Nat.le_of_ble_eq_true rfl⟩) (k := 0) (cin (by omega)) (ce_7 E _) rfl (As := [.int (xs (4 * k + 1))]) rfl hl.1 rfl (Nat.le_of_ble_eq_true rfl) dL_law_134 ⟨Nat.le_of_ble_eq_true rfl, Nat.le_of_ble_eq_true rfl⟩ (fun H1 locs hP hz hq hS => ?_)
  have hM := gW.kept hM (fun q hlt hg => hq q hlt (fun hc => hdis q hc hg))
  refine lv_aload_n hx hb dL_law_137 rfl (lv_at hl 2 rfl) ?_
  refine lw_arg C0 hL hS hl (j := 1) (v := 1) (by omega) (by decide) (nI_1 _) dL_law_138 dL_law_139 dL_law_140 dL_law_141 dL_law_142 ?_
  refine gx_callVi Fm hM hAm hS (c_X8_write l Fm.2.2.2.2.2.2.2 h2) (g_cwV (n := 1) Fm tw_963 tw_964 tw_965 tw_14 tw_966 (by decide +kernel) rfl rfl ⟨Nat.le_of_ble_eq_true rfl, Nat.le_of_ble_eq_true rfl⟩) (k := 0) min0 (me_0 E' _) rfl (As := [.int (xs (4 * k + 1))]) rfl hl.1 rfl (Nat.le_of_ble_eq_true rfl) dL_law_143 ⟨Nat.le_of_ble_eq_true rfl, Nat.le_of_ble_eq_true rfl⟩ (fun H2 locs hM hz hq hS => ?_)
  have hP := gW.kept hP (fun q hlt hg => hq q hlt (fun hc => hdis q hg hc))
  refine lv_icmp_eq (tgt := 668) hx hb dL_law_146 (by decide) (fun _ => ?_) (fun h => absurd rfl h)
  exact kk _ _ _ hR hP hM hS
set_option maxHeartbeats 2000000 in
theorem lw_b_wipe (hL : L ≤ 2048) (C0 : lw_At p s m meth c b L xs) (Fc : gFx p m c code 4 s #[Value.ref b] R_law (cG E)) (Fm : gFx p m c code 4 s #[Value.ref b] R_law (mG E')) (hAc : ∀ q, gA (cG E) q → lwA s q) (hAm : ∀ q, gA (mG E') q → lwA s q) (hdis : ∀ q, gA (cG E) q → ¬ gA (mG E') q) {k : Nat} (hk : 4 * k + 4 ≤ L) (hP : gW (cG E) σ H) (hM : gW (mG E') τ H) (hS : va_S (lwA s) s.heap H locs) (hl : lv_has ls 4 (lwl b E E' k))
    (h : ∃ r σ' τ', f_X7_wipe σ = some (r, σ') ∧ f_X8_wipe τ = some (r, τ') ∧ Rel (k + 1) σ' τ')
    (kk : ∀ (σ' τ' : St) (H : Heap) {locs : List Loc}, Rel (k + 1) σ' τ' → gW (cG E) σ' H → gW (mG E') τ' H → va_S (lwA s) s.heap H locs → W p l e room_1 s m #[Value.ref b] below meth c H locs 91 4246 Q (F0 m 668 ls [])) : W p l e room_1 s m #[Value.ref b] below meth c H locs 91 4246 Q (F0 m 151 ls []) := by
  obtain ⟨r, σ', τ', h1, h2, hR⟩ := h
  obtain ⟨hx, hb, hr, hml, hown, hts, hX, hbl, hlocks, hgv⟩ := id C0
  refine lv_aload_n hx hb dL_law_151 rfl (lv_at hl 1 rfl) ?_
  refine gx_callVi Fc hP hAc hS (c_X7_wipe l Fc.2.2.2.2.2.2.2 h1) (g_cwV (n := 0) Fc tw_478 tw_479 tw_480 tw_1 tw_481 (by decide +kernel) rfl rfl ⟨Nat.le_of_ble_eq_true rfl, Nat.le_of_ble_eq_true rfl⟩) (k := 0) (cin (by omega)) (ce_7 E _) rfl (As := []) rfl hl.1 rfl (Nat.le_of_ble_eq_true rfl) dL_law_152 ⟨Nat.le_of_ble_eq_true rfl, Nat.le_of_ble_eq_true rfl⟩ (fun H1 locs hP hz hq hS => ?_)
  have hM := gW.kept hM (fun q hlt hg => hq q hlt (fun hc => hdis q hc hg))
  refine lv_aload_n hx hb dL_law_155 rfl (lv_at hl 2 rfl) ?_
  refine gx_callVi Fm hM hAm hS (c_X8_wipe l Fm.2.2.2.2.2.2.2 h2) (g_cwV (n := 0) Fm tw_972 tw_973 tw_974 tw_14 tw_975 (by decide +kernel) rfl rfl ⟨Nat.le_of_ble_eq_true rfl, Nat.le_of_ble_eq_true rfl⟩) (k := 0) min0 (me_0 E' _) rfl (As := []) rfl hl.1 rfl (Nat.le_of_ble_eq_true rfl) dL_law_156 ⟨Nat.le_of_ble_eq_true rfl, Nat.le_of_ble_eq_true rfl⟩ (fun H2 locs hM hz hq hS => ?_)
  have hP := gW.kept hP (fun q hlt hg => hq q hlt (fun hc => hdis q hg hc))
  refine lv_icmp_eq (tgt := 668) hx hb dL_law_159 (by decide) (fun _ => ?_) (fun h => absurd rfl h)
  exact kk _ _ _ hR hP hM hS
set_option maxHeartbeats 2000000 in
theorem lw_b_fault (hL : L ≤ 2048) (C0 : lw_At p s m meth c b L xs) (Fc : gFx p m c code 4 s #[Value.ref b] R_law (cG E)) (Fm : gFx p m c code 4 s #[Value.ref b] R_law (mG E')) (hAc : ∀ q, gA (cG E) q → lwA s q) (hAm : ∀ q, gA (mG E') q → lwA s q) (hdis : ∀ q, gA (cG E) q → ¬ gA (mG E') q) {k : Nat} (hk : 4 * k + 4 ≤ L) (hP : gW (cG E) σ H) (hM : gW (mG E') τ H) (hS : va_S (lwA s) s.heap H locs) (hl : lv_has ls 4 (lwl b E E' k))
    (h : ∃ r σ' τ', f_X7_fault σ = some (r, σ') ∧ f_X8_fault τ = some (r, τ') ∧ Rel (k + 1) σ' τ')
    (kk : ∀ (σ' τ' : St) (H : Heap) {locs : List Loc}, Rel (k + 1) σ' τ' → gW (cG E) σ' H → gW (mG E') τ' H → va_S (lwA s) s.heap H locs → W p l e room_1 s m #[Value.ref b] below meth c H locs 91 4246 Q (F0 m 668 ls [])) : W p l e room_1 s m #[Value.ref b] below meth c H locs 91 4246 Q (F0 m 164 ls []) := by
  obtain ⟨r, σ', τ', h1, h2, hR⟩ := h
  obtain ⟨hx, hb, hr, hml, hown, hts, hX, hbl, hlocks, hgv⟩ := id C0
  refine lv_aload_n hx hb dL_law_164 rfl (lv_at hl 1 rfl) ?_
  refine gx_callVi Fc hP hAc hS (c_X7_fault l Fc.2.2.2.2.2.2.2 h1) (g_cwV (n := 0) Fc tw_482 tw_483 tw_484 tw_1 tw_485 (by decide +kernel) rfl rfl ⟨Nat.le_of_ble_eq_true rfl, Nat.le_of_ble_eq_true rfl⟩) (k := 0) (cin (by omega)) (ce_7 E _) rfl (As := []) rfl hl.1 rfl (Nat.le_of_ble_eq_true rfl) dL_law_165 ⟨Nat.le_of_ble_eq_true rfl, Nat.le_of_ble_eq_true rfl⟩ (fun H1 locs hP hz hq hS => ?_)
  have hM := gW.kept hM (fun q hlt hg => hq q hlt (fun hc => hdis q hc hg))
  refine lv_aload_n hx hb dL_law_168 rfl (lv_at hl 2 rfl) ?_
  refine gx_callVi Fm hM hAm hS (c_X8_fault l Fm.2.2.2.2.2.2.2 h2) (g_cwV (n := 0) Fm tw_976 tw_977 tw_978 tw_14 tw_979 (by decide +kernel) rfl rfl ⟨Nat.le_of_ble_eq_true rfl, Nat.le_of_ble_eq_true rfl⟩) (k := 0) min0 (me_0 E' _) rfl (As := []) rfl hl.1 rfl (Nat.le_of_ble_eq_true rfl) dL_law_169 ⟨Nat.le_of_ble_eq_true rfl, Nat.le_of_ble_eq_true rfl⟩ (fun H2 locs hM hz hq hS => ?_)
  have hP := gW.kept hP (fun q hlt hg => hq q hlt (fun hc => hdis q hg hc))
  refine lv_icmp_eq (tgt := 668) hx hb dL_law_172 (by decide) (fun _ => ?_) (fun h => absurd rfl h)
  exact kk _ _ _ hR hP hM hS
set_option maxHeartbeats 2000000 in
theorem lw_b_lay (hL : L ≤ 2048) (C0 : lw_At p s m meth c b L xs) (Fc : gFx p m c code 4 s #[Value.ref b] R_law (cG E)) (Fm : gFx p m c code 4 s #[Value.ref b] R_law (mG E')) (hAc : ∀ q, gA (cG E) q → lwA s q) (hAm : ∀ q, gA (mG E') q → lwA s q) (hdis : ∀ q, gA (cG E) q → ¬ gA (mG E') q) {k : Nat} (hk : 4 * k + 4 ≤ L) (hP : gW (cG E) σ H) (hM : gW (mG E') τ H) (hS : va_S (lwA s) s.heap H locs) (hl : lv_has ls 4 (lwl b E E' k))
    (h : ∃ r σ' τ', f_X7_lay σ = some (r, σ') ∧ f_X8_lay τ = some (r, τ') ∧ Rel (k + 1) σ' τ')
    (kk : ∀ (σ' τ' : St) (H : Heap) {locs : List Loc}, Rel (k + 1) σ' τ' → gW (cG E) σ' H → gW (mG E') τ' H → va_S (lwA s) s.heap H locs → W p l e room_1 s m #[Value.ref b] below meth c H locs 91 4246 Q (F0 m 668 ls [])) : W p l e room_1 s m #[Value.ref b] below meth c H locs 91 4246 Q (F0 m 177 ls []) := by
  obtain ⟨r, σ', τ', h1, h2, hR⟩ := h
  obtain ⟨hx, hb, hr, hml, hown, hts, hX, hbl, hlocks, hgv⟩ := id C0
  refine lv_aload_n hx hb dL_law_177 rfl (lv_at hl 1 rfl) ?_
  refine gx_callVi Fc hP hAc hS (c_X7_lay l Fc.2.2.2.2.2.2.2 h1) (g_cwV (n := 0) Fc tw_490 tw_491 tw_492 tw_1 tw_493 (by decide +kernel) rfl rfl ⟨Nat.le_of_ble_eq_true rfl, Nat.le_of_ble_eq_true rfl⟩) (k := 0) (cin (by omega)) (ce_7 E _) rfl (As := []) rfl hl.1 rfl (Nat.le_of_ble_eq_true rfl) dL_law_178 ⟨Nat.le_of_ble_eq_true rfl, Nat.le_of_ble_eq_true rfl⟩ (fun H1 locs hP hz hq hS => ?_)
  have hM := gW.kept hM (fun q hlt hg => hq q hlt (fun hc => hdis q hc hg))
  refine lv_aload_n hx hb dL_law_181 rfl (lv_at hl 2 rfl) ?_
  refine gx_callVi Fm hM hAm hS (c_X8_lay l Fm.2.2.2.2.2.2.2 h2) (g_cwV (n := 0) Fm tw_1017 tw_1018 tw_1019 tw_14 tw_1020 (by decide +kernel) rfl rfl ⟨Nat.le_of_ble_eq_true rfl, Nat.le_of_ble_eq_true rfl⟩) (k := 0) min0 (me_0 E' _) rfl (As := []) rfl hl.1 rfl (Nat.le_of_ble_eq_true rfl) dL_law_182 ⟨Nat.le_of_ble_eq_true rfl, Nat.le_of_ble_eq_true rfl⟩ (fun H2 locs hM hz hq hS => ?_)
  have hP := gW.kept hP (fun q hlt hg => hq q hlt (fun hc => hdis q hg hc))
  refine lv_icmp_eq (tgt := 668) hx hb dL_law_185 (by decide) (fun _ => ?_) (fun h => absurd rfl h)
  exact kk _ _ _ hR hP hM hS
set_option maxHeartbeats 2000000 in
theorem lw_b_cause (hL : L ≤ 2048) (C0 : lw_At p s m meth c b L xs) (Fc : gFx p m c code 4 s #[Value.ref b] R_law (cG E)) (Fm : gFx p m c code 4 s #[Value.ref b] R_law (mG E')) (hAc : ∀ q, gA (cG E) q → lwA s q) (hAm : ∀ q, gA (mG E') q → lwA s q) (hdis : ∀ q, gA (cG E) q → ¬ gA (mG E') q) {k : Nat} (hk : 4 * k + 4 ≤ L) (hP : gW (cG E) σ H) (hM : gW (mG E') τ H) (hS : va_S (lwA s) s.heap H locs) (hl : lv_has ls 4 (lwl b E E' k))
    (h : ∃ r σ' τ', f_X7_cause (xs (4 * k + 1)) σ = some (r, σ') ∧ f_X8_cause (xs (4 * k + 1)) τ = some (r, τ') ∧ Rel (k + 1) σ' τ')
    (kk : ∀ (σ' τ' : St) (H : Heap) {locs : List Loc}, Rel (k + 1) σ' τ' → gW (cG E) σ' H → gW (mG E') τ' H → va_S (lwA s) s.heap H locs → W p l e room_1 s m #[Value.ref b] below meth c H locs 91 4246 Q (F0 m 668 ls [])) : W p l e room_1 s m #[Value.ref b] below meth c H locs 91 4246 Q (F0 m 190 ls []) := by
  obtain ⟨r, σ', τ', h1, h2, hR⟩ := h
  obtain ⟨hx, hb, hr, hml, hown, hts, hX, hbl, hlocks, hgv⟩ := id C0
  refine lv_aload_n hx hb dL_law_190 rfl (lv_at hl 1 rfl) ?_
  refine lw_arg C0 hL hS hl (j := 1) (v := 1) (by omega) (by decide) (nI_1 _) dL_law_191 dL_law_192 dL_law_193 dL_law_194 dL_law_195 ?_
  refine gx_callVi Fc hP hAc hS (c_X7_cause l Fc.2.2.2.2.2.2.2 h1) (g_cwV (n := 1) Fc tw_494 tw_495 tw_496 tw_1 tw_497 (by decide +kernel) rfl rfl ⟨Nat.le_of_ble_eq_true rfl, Nat.le_of_ble_eq_true rfl⟩) (k := 0) (cin (by omega)) (ce_7 E _) rfl (As := [.int (xs (4 * k + 1))]) rfl hl.1 rfl (Nat.le_of_ble_eq_true rfl) dL_law_196 ⟨Nat.le_of_ble_eq_true rfl, Nat.le_of_ble_eq_true rfl⟩ (fun H1 locs hP hz hq hS => ?_)
  have hM := gW.kept hM (fun q hlt hg => hq q hlt (fun hc => hdis q hc hg))
  refine lv_aload_n hx hb dL_law_199 rfl (lv_at hl 2 rfl) ?_
  refine lw_arg C0 hL hS hl (j := 1) (v := 1) (by omega) (by decide) (nI_1 _) dL_law_200 dL_law_201 dL_law_202 dL_law_203 dL_law_204 ?_
  refine gx_callVi Fm hM hAm hS (c_X8_cause l Fm.2.2.2.2.2.2.2 h2) (g_cwV (n := 1) Fm tw_959 tw_960 tw_961 tw_14 tw_962 (by decide +kernel) rfl rfl ⟨Nat.le_of_ble_eq_true rfl, Nat.le_of_ble_eq_true rfl⟩) (k := 0) min0 (me_0 E' _) rfl (As := [.int (xs (4 * k + 1))]) rfl hl.1 rfl (Nat.le_of_ble_eq_true rfl) dL_law_205 ⟨Nat.le_of_ble_eq_true rfl, Nat.le_of_ble_eq_true rfl⟩ (fun H2 locs hM hz hq hS => ?_)
  have hP := gW.kept hP (fun q hlt hg => hq q hlt (fun hc => hdis q hg hc))
  refine lv_icmp_eq (tgt := 668) hx hb dL_law_208 (by decide) (fun _ => ?_) (fun h => absurd rfl h)
  exact kk _ _ _ hR hP hM hS
set_option maxHeartbeats 2000000 in
theorem lw_b_nest (hL : L ≤ 2048) (C0 : lw_At p s m meth c b L xs) (Fc : gFx p m c code 4 s #[Value.ref b] R_law (cG E)) (Fm : gFx p m c code 4 s #[Value.ref b] R_law (mG E')) (hAc : ∀ q, gA (cG E) q → lwA s q) (hAm : ∀ q, gA (mG E') q → lwA s q) (hdis : ∀ q, gA (cG E) q → ¬ gA (mG E') q) {k : Nat} (hk : 4 * k + 4 ≤ L) (hP : gW (cG E) σ H) (hM : gW (mG E') τ H) (hS : va_S (lwA s) s.heap H locs) (hl : lv_has ls 4 (lwl b E E' k))
    (h : ∃ r σ' τ', f_X7_nest (xs (4 * k + 1)) (xs (4 * k + 2)) σ = some (r, σ') ∧ f_X8_nest (xs (4 * k + 1)) (xs (4 * k + 2)) τ = some (r, τ') ∧ Rel (k + 1) σ' τ')
    (kk : ∀ (σ' τ' : St) (H : Heap) {locs : List Loc}, Rel (k + 1) σ' τ' → gW (cG E) σ' H → gW (mG E') τ' H → va_S (lwA s) s.heap H locs → W p l e room_1 s m #[Value.ref b] below meth c H locs 91 4246 Q (F0 m 668 ls [])) : W p l e room_1 s m #[Value.ref b] below meth c H locs 91 4246 Q (F0 m 213 ls []) := by
  obtain ⟨r, σ', τ', h1, h2, hR⟩ := h
  obtain ⟨hx, hb, hr, hml, hown, hts, hX, hbl, hlocks, hgv⟩ := id C0
  refine lv_aload_n hx hb dL_law_213 rfl (lv_at hl 1 rfl) ?_
  refine lw_arg C0 hL hS hl (j := 1) (v := 1) (by omega) (by decide) (nI_1 _) dL_law_214 dL_law_215 dL_law_216 dL_law_217 dL_law_218 ?_
  refine lw_arg C0 hL hS hl (j := 2) (v := 2) (by omega) (by decide) (nI_p2 _) dL_law_219 dL_law_220 dL_law_221 dL_law_222 dL_law_223 ?_
  refine gx_callVi Fc hP hAc hS (c_X7_nest l Fc.2.2.2.2.2.2.2 h1) (g_cwV (n := 2) Fc tw_499 tw_500 tw_501 tw_1 tw_502 (by decide +kernel) rfl rfl ⟨Nat.le_of_ble_eq_true rfl, Nat.le_of_ble_eq_true rfl⟩) (k := 0) (cin (by omega)) (ce_7 E _) rfl (As := [.int (xs (4 * k + 1)), .int (xs (4 * k + 2))]) rfl hl.1 rfl (Nat.le_of_ble_eq_true rfl) dL_law_224 ⟨Nat.le_of_ble_eq_true rfl, Nat.le_of_ble_eq_true rfl⟩ (fun H1 locs hP hz hq hS => ?_)
  have hM := gW.kept hM (fun q hlt hg => hq q hlt (fun hc => hdis q hc hg))
  refine lv_aload_n hx hb dL_law_227 rfl (lv_at hl 2 rfl) ?_
  refine lw_arg C0 hL hS hl (j := 1) (v := 1) (by omega) (by decide) (nI_1 _) dL_law_228 dL_law_229 dL_law_230 dL_law_231 dL_law_232 ?_
  refine lw_arg C0 hL hS hl (j := 2) (v := 2) (by omega) (by decide) (nI_p2 _) dL_law_233 dL_law_234 dL_law_235 dL_law_236 dL_law_237 ?_
  refine gx_callVi Fm hM hAm hS (c_X8_nest l Fm.2.2.2.2.2.2.2 h2) (g_cwV (n := 2) Fm tw_1025 tw_1026 tw_1027 tw_14 tw_1028 (by decide +kernel) rfl rfl ⟨Nat.le_of_ble_eq_true rfl, Nat.le_of_ble_eq_true rfl⟩) (k := 0) min0 (me_0 E' _) rfl (As := [.int (xs (4 * k + 1)), .int (xs (4 * k + 2))]) rfl hl.1 rfl (Nat.le_of_ble_eq_true rfl) dL_law_238 ⟨Nat.le_of_ble_eq_true rfl, Nat.le_of_ble_eq_true rfl⟩ (fun H2 locs hM hz hq hS => ?_)
  have hP := gW.kept hP (fun q hlt hg => hq q hlt (fun hc => hdis q hg hc))
  refine lv_icmp_eq (tgt := 668) hx hb dL_law_241 (by decide) (fun _ => ?_) (fun h => absurd rfl h)
  exact kk _ _ _ hR hP hM hS
set_option maxHeartbeats 2000000 in
theorem lw_b_seed (hL : L ≤ 2048) (C0 : lw_At p s m meth c b L xs) (Fc : gFx p m c code 4 s #[Value.ref b] R_law (cG E)) (Fm : gFx p m c code 4 s #[Value.ref b] R_law (mG E')) (hAc : ∀ q, gA (cG E) q → lwA s q) (hAm : ∀ q, gA (mG E') q → lwA s q) (hdis : ∀ q, gA (cG E) q → ¬ gA (mG E') q) {k : Nat} (hk : 4 * k + 4 ≤ L) (hP : gW (cG E) σ H) (hM : gW (mG E') τ H) (hS : va_S (lwA s) s.heap H locs) (hl : lv_has ls 4 (lwl b E E' k))
    (h : ∃ r σ' τ', f_X7_seed (xs (4 * k + 1)) σ = some (r, σ') ∧ f_X8_seed (xs (4 * k + 1)) τ = some (r, τ') ∧ Rel (k + 1) σ' τ')
    (kk : ∀ (σ' τ' : St) (H : Heap) {locs : List Loc}, Rel (k + 1) σ' τ' → gW (cG E) σ' H → gW (mG E') τ' H → va_S (lwA s) s.heap H locs → W p l e room_1 s m #[Value.ref b] below meth c H locs 91 4246 Q (F0 m 668 ls [])) : W p l e room_1 s m #[Value.ref b] below meth c H locs 91 4246 Q (F0 m 246 ls []) := by
  obtain ⟨r, σ', τ', h1, h2, hR⟩ := h
  obtain ⟨hx, hb, hr, hml, hown, hts, hX, hbl, hlocks, hgv⟩ := id C0
  refine lv_aload_n hx hb dL_law_246 rfl (lv_at hl 1 rfl) ?_
  refine lw_arg C0 hL hS hl (j := 1) (v := 1) (by omega) (by decide) (nI_1 _) dL_law_247 dL_law_248 dL_law_249 dL_law_250 dL_law_251 ?_
  refine gx_callVi Fc hP hAc hS (c_X7_seed l Fc.2.2.2.2.2.2.2 h1) (g_cwV (n := 1) Fc tw_511 tw_512 tw_513 tw_1 tw_514 (by decide +kernel) rfl rfl ⟨Nat.le_of_ble_eq_true rfl, Nat.le_of_ble_eq_true rfl⟩) (k := 0) (cin (by omega)) (ce_7 E _) rfl (As := [.int (xs (4 * k + 1))]) rfl hl.1 rfl (Nat.le_of_ble_eq_true rfl) dL_law_252 ⟨Nat.le_of_ble_eq_true rfl, Nat.le_of_ble_eq_true rfl⟩ (fun H1 locs hP hz hq hS => ?_)
  have hM := gW.kept hM (fun q hlt hg => hq q hlt (fun hc => hdis q hc hg))
  refine lv_aload_n hx hb dL_law_255 rfl (lv_at hl 2 rfl) ?_
  refine lw_arg C0 hL hS hl (j := 1) (v := 1) (by omega) (by decide) (nI_1 _) dL_law_256 dL_law_257 dL_law_258 dL_law_259 dL_law_260 ?_
  refine gx_callVi Fm hM hAm hS (c_X8_seed l Fm.2.2.2.2.2.2.2 h2) (g_cwV (n := 1) Fm tw_1033 tw_1034 tw_1035 tw_14 tw_1036 (by decide +kernel) rfl rfl ⟨Nat.le_of_ble_eq_true rfl, Nat.le_of_ble_eq_true rfl⟩) (k := 0) min0 (me_0 E' _) rfl (As := [.int (xs (4 * k + 1))]) rfl hl.1 rfl (Nat.le_of_ble_eq_true rfl) dL_law_261 ⟨Nat.le_of_ble_eq_true rfl, Nat.le_of_ble_eq_true rfl⟩ (fun H2 locs hM hz hq hS => ?_)
  have hP := gW.kept hP (fun q hlt hg => hq q hlt (fun hc => hdis q hg hc))
  refine lv_icmp_eq (tgt := 668) hx hb dL_law_264 (by decide) (fun _ => ?_) (fun h => absurd rfl h)
  exact kk _ _ _ hR hP hM hS
set_option maxHeartbeats 2000000 in
theorem lw_b_join (hL : L ≤ 2048) (C0 : lw_At p s m meth c b L xs) (Fc : gFx p m c code 4 s #[Value.ref b] R_law (cG E)) (Fm : gFx p m c code 4 s #[Value.ref b] R_law (mG E')) (hAc : ∀ q, gA (cG E) q → lwA s q) (hAm : ∀ q, gA (mG E') q → lwA s q) (hdis : ∀ q, gA (cG E) q → ¬ gA (mG E') q) {k : Nat} (hk : 4 * k + 4 ≤ L) (hP : gW (cG E) σ H) (hM : gW (mG E') τ H) (hS : va_S (lwA s) s.heap H locs) (hl : lv_has ls 4 (lwl b E E' k))
    (h : ∃ r σ' τ', f_X7_join (xs (4 * k + 1)) (xs (4 * k + 2)) σ = some (r, σ') ∧ f_X8_join (xs (4 * k + 1)) (xs (4 * k + 2)) τ = some (r, τ') ∧ Rel (k + 1) σ' τ')
    (kk : ∀ (σ' τ' : St) (H : Heap) {locs : List Loc}, Rel (k + 1) σ' τ' → gW (cG E) σ' H → gW (mG E') τ' H → va_S (lwA s) s.heap H locs → W p l e room_1 s m #[Value.ref b] below meth c H locs 91 4246 Q (F0 m 668 ls [])) : W p l e room_1 s m #[Value.ref b] below meth c H locs 91 4246 Q (F0 m 269 ls []) := by
  obtain ⟨r, σ', τ', h1, h2, hR⟩ := h
  obtain ⟨hx, hb, hr, hml, hown, hts, hX, hbl, hlocks, hgv⟩ := id C0
  refine lv_aload_n hx hb dL_law_269 rfl (lv_at hl 1 rfl) ?_
  refine lw_arg C0 hL hS hl (j := 1) (v := 1) (by omega) (by decide) (nI_1 _) dL_law_270 dL_law_271 dL_law_272 dL_law_273 dL_law_274 ?_
  refine lw_arg C0 hL hS hl (j := 2) (v := 2) (by omega) (by decide) (nI_p2 _) dL_law_275 dL_law_276 dL_law_277 dL_law_278 dL_law_279 ?_
  refine gx_callVi Fc hP hAc hS (c_X7_join l Fc.2.2.2.2.2.2.2 h1) (g_cwV (n := 2) Fc tw_516 tw_517 tw_518 tw_1 tw_519 (by decide +kernel) rfl rfl ⟨Nat.le_of_ble_eq_true rfl, Nat.le_of_ble_eq_true rfl⟩) (k := 0) (cin (by omega)) (ce_7 E _) rfl (As := [.int (xs (4 * k + 1)), .int (xs (4 * k + 2))]) rfl hl.1 rfl (Nat.le_of_ble_eq_true rfl) dL_law_280 ⟨Nat.le_of_ble_eq_true rfl, Nat.le_of_ble_eq_true rfl⟩ (fun H1 locs hP hz hq hS => ?_)
  have hM := gW.kept hM (fun q hlt hg => hq q hlt (fun hc => hdis q hc hg))
  refine lv_aload_n hx hb dL_law_283 rfl (lv_at hl 2 rfl) ?_
  refine lw_arg C0 hL hS hl (j := 1) (v := 1) (by omega) (by decide) (nI_1 _) dL_law_284 dL_law_285 dL_law_286 dL_law_287 dL_law_288 ?_
  refine lw_arg C0 hL hS hl (j := 2) (v := 2) (by omega) (by decide) (nI_p2 _) dL_law_289 dL_law_290 dL_law_291 dL_law_292 dL_law_293 ?_
  refine gx_callVi Fm hM hAm hS (c_X8_join l Fm.2.2.2.2.2.2.2 h2) (g_cwV (n := 2) Fm tw_1038 tw_1039 tw_1040 tw_14 tw_1041 (by decide +kernel) rfl rfl ⟨Nat.le_of_ble_eq_true rfl, Nat.le_of_ble_eq_true rfl⟩) (k := 0) min0 (me_0 E' _) rfl (As := [.int (xs (4 * k + 1)), .int (xs (4 * k + 2))]) rfl hl.1 rfl (Nat.le_of_ble_eq_true rfl) dL_law_294 ⟨Nat.le_of_ble_eq_true rfl, Nat.le_of_ble_eq_true rfl⟩ (fun H2 locs hM hz hq hS => ?_)
  have hP := gW.kept hP (fun q hlt hg => hq q hlt (fun hc => hdis q hg hc))
  refine lv_icmp_eq (tgt := 668) hx hb dL_law_297 (by decide) (fun _ => ?_) (fun h => absurd rfl h)
  exact kk _ _ _ hR hP hM hS
set_option maxHeartbeats 2000000 in
theorem lw_b_drop (hL : L ≤ 2048) (C0 : lw_At p s m meth c b L xs) (Fc : gFx p m c code 4 s #[Value.ref b] R_law (cG E)) (Fm : gFx p m c code 4 s #[Value.ref b] R_law (mG E')) (hAc : ∀ q, gA (cG E) q → lwA s q) (hAm : ∀ q, gA (mG E') q → lwA s q) (hdis : ∀ q, gA (cG E) q → ¬ gA (mG E') q) {k : Nat} (hk : 4 * k + 4 ≤ L) (hP : gW (cG E) σ H) (hM : gW (mG E') τ H) (hS : va_S (lwA s) s.heap H locs) (hl : lv_has ls 4 (lwl b E E' k))
    (h : ∃ r σ' τ', f_X7_drop (xs (4 * k + 1)) σ = some (r, σ') ∧ f_X8_drop (xs (4 * k + 1)) τ = some (r, τ') ∧ Rel (k + 1) σ' τ')
    (kk : ∀ (σ' τ' : St) (H : Heap) {locs : List Loc}, Rel (k + 1) σ' τ' → gW (cG E) σ' H → gW (mG E') τ' H → va_S (lwA s) s.heap H locs → W p l e room_1 s m #[Value.ref b] below meth c H locs 91 4246 Q (F0 m 668 ls [])) : W p l e room_1 s m #[Value.ref b] below meth c H locs 91 4246 Q (F0 m 302 ls []) := by
  obtain ⟨r, σ', τ', h1, h2, hR⟩ := h
  obtain ⟨hx, hb, hr, hml, hown, hts, hX, hbl, hlocks, hgv⟩ := id C0
  refine lv_aload_n hx hb dL_law_302 rfl (lv_at hl 1 rfl) ?_
  refine lw_arg C0 hL hS hl (j := 1) (v := 1) (by omega) (by decide) (nI_1 _) dL_law_303 dL_law_304 dL_law_305 dL_law_306 dL_law_307 ?_
  refine gx_callVi Fc hP hAc hS (c_X7_drop l Fc.2.2.2.2.2.2.2 h1) (g_cwV (n := 1) Fc tw_556 tw_557 tw_558 tw_1 tw_559 (by decide +kernel) rfl rfl ⟨Nat.le_of_ble_eq_true rfl, Nat.le_of_ble_eq_true rfl⟩) (k := 0) (cin (by omega)) (ce_7 E _) rfl (As := [.int (xs (4 * k + 1))]) rfl hl.1 rfl (Nat.le_of_ble_eq_true rfl) dL_law_308 ⟨Nat.le_of_ble_eq_true rfl, Nat.le_of_ble_eq_true rfl⟩ (fun H1 locs hP hz hq hS => ?_)
  have hM := gW.kept hM (fun q hlt hg => hq q hlt (fun hc => hdis q hc hg))
  refine lv_aload_n hx hb dL_law_311 rfl (lv_at hl 2 rfl) ?_
  refine lw_arg C0 hL hS hl (j := 1) (v := 1) (by omega) (by decide) (nI_1 _) dL_law_312 dL_law_313 dL_law_314 dL_law_315 dL_law_316 ?_
  refine gx_callVi Fm hM hAm hS (c_X8_drop l Fm.2.2.2.2.2.2.2 h2) (g_cwV (n := 1) Fm tw_1061 tw_1062 tw_1063 tw_14 tw_1064 (by decide +kernel) rfl rfl ⟨Nat.le_of_ble_eq_true rfl, Nat.le_of_ble_eq_true rfl⟩) (k := 0) min0 (me_0 E' _) rfl (As := [.int (xs (4 * k + 1))]) rfl hl.1 rfl (Nat.le_of_ble_eq_true rfl) dL_law_317 ⟨Nat.le_of_ble_eq_true rfl, Nat.le_of_ble_eq_true rfl⟩ (fun H2 locs hM hz hq hS => ?_)
  have hP := gW.kept hP (fun q hlt hg => hq q hlt (fun hc => hdis q hg hc))
  refine lv_icmp_eq (tgt := 668) hx hb dL_law_320 (by decide) (fun _ => ?_) (fun h => absurd rfl h)
  exact kk _ _ _ hR hP hM hS
set_option maxHeartbeats 2000000 in
theorem lw_b_load (hL : L ≤ 2048) (C0 : lw_At p s m meth c b L xs) (Fc : gFx p m c code 4 s #[Value.ref b] R_law (cG E)) (Fm : gFx p m c code 4 s #[Value.ref b] R_law (mG E')) (hAc : ∀ q, gA (cG E) q → lwA s q) (hAm : ∀ q, gA (mG E') q → lwA s q) (hdis : ∀ q, gA (cG E) q → ¬ gA (mG E') q) {k : Nat} (hk : 4 * k + 4 ≤ L) (hP : gW (cG E) σ H) (hM : gW (mG E') τ H) (hS : va_S (lwA s) s.heap H locs) (hl : lv_has ls 4 (lwl b E E' k))
    (h : ∃ r σ' τ', f_X7_load (xs (4 * k + 1)) (xs (4 * k + 2)) (xs (4 * k + 3)) σ = some (r, σ') ∧ f_X8_load (xs (4 * k + 1)) (xs (4 * k + 2)) (xs (4 * k + 3)) τ = some (r, τ') ∧ Rel (k + 1) σ' τ')
    (kk : ∀ (σ' τ' : St) (H : Heap) {locs : List Loc}, Rel (k + 1) σ' τ' → gW (cG E) σ' H → gW (mG E') τ' H → va_S (lwA s) s.heap H locs → W p l e room_1 s m #[Value.ref b] below meth c H locs 91 4246 Q (F0 m 668 ls [])) : W p l e room_1 s m #[Value.ref b] below meth c H locs 91 4246 Q (F0 m 325 ls []) := by
  obtain ⟨r, σ', τ', h1, h2, hR⟩ := h
  obtain ⟨hx, hb, hr, hml, hown, hts, hX, hbl, hlocks, hgv⟩ := id C0
  refine lv_aload_n hx hb dL_law_325 rfl (lv_at hl 1 rfl) ?_
  refine lw_arg C0 hL hS hl (j := 1) (v := 1) (by omega) (by decide) (nI_1 _) dL_law_326 dL_law_327 dL_law_328 dL_law_329 dL_law_330 ?_
  refine lw_arg C0 hL hS hl (j := 2) (v := 2) (by omega) (by decide) (nI_p2 _) dL_law_331 dL_law_332 dL_law_333 dL_law_334 dL_law_335 ?_
  refine lw_arg C0 hL hS hl (j := 3) (v := 3) (by omega) (by decide) (nI_p3 _) dL_law_336 dL_law_337 dL_law_338 dL_law_339 dL_law_340 ?_
  refine gx_callVi Fc hP hAc hS (c_X7_load l Fc.2.2.2.2.2.2.2 h1) (g_cwV (n := 3) Fc tw_560 tw_561 tw_562 tw_1 tw_563 (by decide +kernel) rfl rfl ⟨Nat.le_of_ble_eq_true rfl, Nat.le_of_ble_eq_true rfl⟩) (k := 0) (cin (by omega)) (ce_7 E _) rfl (As := [.int (xs (4 * k + 1)), .int (xs (4 * k + 2)), .int (xs (4 * k + 3))]) rfl hl.1 rfl (Nat.le_of_ble_eq_true rfl) dL_law_341 ⟨Nat.le_of_ble_eq_true rfl, Nat.le_of_ble_eq_true rfl⟩ (fun H1 locs hP hz hq hS => ?_)
  have hM := gW.kept hM (fun q hlt hg => hq q hlt (fun hc => hdis q hc hg))
  refine lv_aload_n hx hb dL_law_344 rfl (lv_at hl 2 rfl) ?_
  refine lw_arg C0 hL hS hl (j := 1) (v := 1) (by omega) (by decide) (nI_1 _) dL_law_345 dL_law_346 dL_law_347 dL_law_348 dL_law_349 ?_
  refine lw_arg C0 hL hS hl (j := 2) (v := 2) (by omega) (by decide) (nI_p2 _) dL_law_350 dL_law_351 dL_law_352 dL_law_353 dL_law_354 ?_
  refine lw_arg C0 hL hS hl (j := 3) (v := 3) (by omega) (by decide) (nI_p3 _) dL_law_355 dL_law_356 dL_law_357 dL_law_358 dL_law_359 ?_
  refine gx_callVi Fm hM hAm hS (c_X8_load l Fm.2.2.2.2.2.2.2 h2) (g_cwV (n := 3) Fm tw_1065 tw_1066 tw_1067 tw_14 tw_1068 (by decide +kernel) rfl rfl ⟨Nat.le_of_ble_eq_true rfl, Nat.le_of_ble_eq_true rfl⟩) (k := 0) min0 (me_0 E' _) rfl (As := [.int (xs (4 * k + 1)), .int (xs (4 * k + 2)), .int (xs (4 * k + 3))]) rfl hl.1 rfl (Nat.le_of_ble_eq_true rfl) dL_law_360 ⟨Nat.le_of_ble_eq_true rfl, Nat.le_of_ble_eq_true rfl⟩ (fun H2 locs hM hz hq hS => ?_)
  have hP := gW.kept hP (fun q hlt hg => hq q hlt (fun hc => hdis q hg hc))
  refine lv_icmp_eq (tgt := 668) hx hb dL_law_363 (by decide) (fun _ => ?_) (fun h => absurd rfl h)
  exact kk _ _ _ hR hP hM hS
set_option maxHeartbeats 2000000 in
theorem lw_b_deafen (hL : L ≤ 2048) (C0 : lw_At p s m meth c b L xs) (Fc : gFx p m c code 4 s #[Value.ref b] R_law (cG E)) (Fm : gFx p m c code 4 s #[Value.ref b] R_law (mG E')) (hAc : ∀ q, gA (cG E) q → lwA s q) (hAm : ∀ q, gA (mG E') q → lwA s q) (hdis : ∀ q, gA (cG E) q → ¬ gA (mG E') q) {k : Nat} (hk : 4 * k + 4 ≤ L) (hP : gW (cG E) σ H) (hM : gW (mG E') τ H) (hS : va_S (lwA s) s.heap H locs) (hl : lv_has ls 4 (lwl b E E' k))
    (h : ∃ r σ' τ', f_X7_deafen (xs (4 * k + 1)) (xs (4 * k + 2)) σ = some (r, σ') ∧ f_X8_deafen (xs (4 * k + 1)) (xs (4 * k + 2)) τ = some (r, τ') ∧ Rel (k + 1) σ' τ')
    (kk : ∀ (σ' τ' : St) (H : Heap) {locs : List Loc}, Rel (k + 1) σ' τ' → gW (cG E) σ' H → gW (mG E') τ' H → va_S (lwA s) s.heap H locs → W p l e room_1 s m #[Value.ref b] below meth c H locs 91 4246 Q (F0 m 668 ls [])) : W p l e room_1 s m #[Value.ref b] below meth c H locs 91 4246 Q (F0 m 368 ls []) := by
  obtain ⟨r, σ', τ', h1, h2, hR⟩ := h
  obtain ⟨hx, hb, hr, hml, hown, hts, hX, hbl, hlocks, hgv⟩ := id C0
  refine lv_aload_n hx hb dL_law_368 rfl (lv_at hl 1 rfl) ?_
  refine lw_arg C0 hL hS hl (j := 1) (v := 1) (by omega) (by decide) (nI_1 _) dL_law_369 dL_law_370 dL_law_371 dL_law_372 dL_law_373 ?_
  refine lw_arg C0 hL hS hl (j := 2) (v := 2) (by omega) (by decide) (nI_p2 _) dL_law_374 dL_law_375 dL_law_376 dL_law_377 dL_law_378 ?_
  refine gx_callVi Fc hP hAc hS (c_X7_deafen l Fc.2.2.2.2.2.2.2 h1) (g_cwV (n := 2) Fc tw_564 tw_565 tw_566 tw_1 tw_567 (by decide +kernel) rfl rfl ⟨Nat.le_of_ble_eq_true rfl, Nat.le_of_ble_eq_true rfl⟩) (k := 0) (cin (by omega)) (ce_7 E _) rfl (As := [.int (xs (4 * k + 1)), .int (xs (4 * k + 2))]) rfl hl.1 rfl (Nat.le_of_ble_eq_true rfl) dL_law_379 ⟨Nat.le_of_ble_eq_true rfl, Nat.le_of_ble_eq_true rfl⟩ (fun H1 locs hP hz hq hS => ?_)
  have hM := gW.kept hM (fun q hlt hg => hq q hlt (fun hc => hdis q hc hg))
  refine lv_aload_n hx hb dL_law_382 rfl (lv_at hl 2 rfl) ?_
  refine lw_arg C0 hL hS hl (j := 1) (v := 1) (by omega) (by decide) (nI_1 _) dL_law_383 dL_law_384 dL_law_385 dL_law_386 dL_law_387 ?_
  refine lw_arg C0 hL hS hl (j := 2) (v := 2) (by omega) (by decide) (nI_p2 _) dL_law_388 dL_law_389 dL_law_390 dL_law_391 dL_law_392 ?_
  refine gx_callVi Fm hM hAm hS (c_X8_deafen l Fm.2.2.2.2.2.2.2 h2) (g_cwV (n := 2) Fm tw_1070 tw_1071 tw_1072 tw_14 tw_1073 (by decide +kernel) rfl rfl ⟨Nat.le_of_ble_eq_true rfl, Nat.le_of_ble_eq_true rfl⟩) (k := 0) min0 (me_0 E' _) rfl (As := [.int (xs (4 * k + 1)), .int (xs (4 * k + 2))]) rfl hl.1 rfl (Nat.le_of_ble_eq_true rfl) dL_law_393 ⟨Nat.le_of_ble_eq_true rfl, Nat.le_of_ble_eq_true rfl⟩ (fun H2 locs hM hz hq hS => ?_)
  have hP := gW.kept hP (fun q hlt hg => hq q hlt (fun hc => hdis q hg hc))
  refine lv_icmp_eq (tgt := 668) hx hb dL_law_396 (by decide) (fun _ => ?_) (fun h => absurd rfl h)
  exact kk _ _ _ hR hP hM hS
set_option maxHeartbeats 2000000 in
theorem lw_b_scan (hL : L ≤ 2048) (C0 : lw_At p s m meth c b L xs) (Fc : gFx p m c code 4 s #[Value.ref b] R_law (cG E)) (Fm : gFx p m c code 4 s #[Value.ref b] R_law (mG E')) (hAc : ∀ q, gA (cG E) q → lwA s q) (hAm : ∀ q, gA (mG E') q → lwA s q) (hdis : ∀ q, gA (cG E) q → ¬ gA (mG E') q) {k : Nat} (hk : 4 * k + 4 ≤ L) (hP : gW (cG E) σ H) (hM : gW (mG E') τ H) (hS : va_S (lwA s) s.heap H locs) (hl : lv_has ls 4 (lwl b E E' k))
    (h : ∃ r σ' τ', f_X7_scan (xs (4 * k + 1)) σ = some (r, σ') ∧ f_X8_scan (xs (4 * k + 1)) τ = some (r, τ') ∧ Rel (k + 1) σ' τ')
    (kk : ∀ (σ' τ' : St) (H : Heap) {locs : List Loc}, Rel (k + 1) σ' τ' → gW (cG E) σ' H → gW (mG E') τ' H → va_S (lwA s) s.heap H locs → W p l e room_1 s m #[Value.ref b] below meth c H locs 91 4246 Q (F0 m 668 ls [])) : W p l e room_1 s m #[Value.ref b] below meth c H locs 91 4246 Q (F0 m 401 ls []) := by
  obtain ⟨r, σ', τ', h1, h2, hR⟩ := h
  obtain ⟨hx, hb, hr, hml, hown, hts, hX, hbl, hlocks, hgv⟩ := id C0
  refine lv_aload_n hx hb dL_law_401 rfl (lv_at hl 1 rfl) ?_
  refine lw_arg C0 hL hS hl (j := 1) (v := 1) (by omega) (by decide) (nI_1 _) dL_law_402 dL_law_403 dL_law_404 dL_law_405 dL_law_406 ?_
  refine gx_callVi Fc hP hAc hS (c_X7_scan l Fc.2.2.2.2.2.2.2 h1) (g_cwV (n := 1) Fc tw_568 tw_569 tw_570 tw_1 tw_571 (by decide +kernel) rfl rfl ⟨Nat.le_of_ble_eq_true rfl, Nat.le_of_ble_eq_true rfl⟩) (k := 0) (cin (by omega)) (ce_7 E _) rfl (As := [.int (xs (4 * k + 1))]) rfl hl.1 rfl (Nat.le_of_ble_eq_true rfl) dL_law_407 ⟨Nat.le_of_ble_eq_true rfl, Nat.le_of_ble_eq_true rfl⟩ (fun H1 locs hP hz hq hS => ?_)
  have hM := gW.kept hM (fun q hlt hg => hq q hlt (fun hc => hdis q hc hg))
  refine lv_aload_n hx hb dL_law_410 rfl (lv_at hl 2 rfl) ?_
  refine lw_arg C0 hL hS hl (j := 1) (v := 1) (by omega) (by decide) (nI_1 _) dL_law_411 dL_law_412 dL_law_413 dL_law_414 dL_law_415 ?_
  refine gx_callVi Fm hM hAm hS (c_X8_scan l Fm.2.2.2.2.2.2.2 h2) (g_cwV (n := 1) Fm tw_1075 tw_1076 tw_1077 tw_14 tw_1078 (by decide +kernel) rfl rfl ⟨Nat.le_of_ble_eq_true rfl, Nat.le_of_ble_eq_true rfl⟩) (k := 0) min0 (me_0 E' _) rfl (As := [.int (xs (4 * k + 1))]) rfl hl.1 rfl (Nat.le_of_ble_eq_true rfl) dL_law_416 ⟨Nat.le_of_ble_eq_true rfl, Nat.le_of_ble_eq_true rfl⟩ (fun H2 locs hM hz hq hS => ?_)
  have hP := gW.kept hP (fun q hlt hg => hq q hlt (fun hc => hdis q hg hc))
  refine lv_icmp_eq (tgt := 668) hx hb dL_law_419 (by decide) (fun _ => ?_) (fun h => absurd rfl h)
  exact kk _ _ _ hR hP hM hS
set_option maxHeartbeats 2000000 in
theorem lw_b_ask (hL : L ≤ 2048) (C0 : lw_At p s m meth c b L xs) (Fc : gFx p m c code 4 s #[Value.ref b] R_law (cG E)) (Fm : gFx p m c code 4 s #[Value.ref b] R_law (mG E')) (hAc : ∀ q, gA (cG E) q → lwA s q) (hAm : ∀ q, gA (mG E') q → lwA s q) (hdis : ∀ q, gA (cG E) q → ¬ gA (mG E') q) {k : Nat} (hk : 4 * k + 4 ≤ L) (hP : gW (cG E) σ H) (hM : gW (mG E') τ H) (hS : va_S (lwA s) s.heap H locs) (hl : lv_has ls 4 (lwl b E E' k))
    (h : ∃ r σ' τ', f_X7_ask (xs (4 * k + 1)) (xs (4 * k + 2)) σ = some (r, σ') ∧ f_X8_ask (xs (4 * k + 1)) (xs (4 * k + 2)) τ = some (r, τ') ∧ Rel (k + 1) σ' τ')
    (kk : ∀ (σ' τ' : St) (H : Heap) {locs : List Loc}, Rel (k + 1) σ' τ' → gW (cG E) σ' H → gW (mG E') τ' H → va_S (lwA s) s.heap H locs → W p l e room_1 s m #[Value.ref b] below meth c H locs 91 4246 Q (F0 m 668 ls [])) : W p l e room_1 s m #[Value.ref b] below meth c H locs 91 4246 Q (F0 m 424 ls []) := by
  obtain ⟨r, σ', τ', h1, h2, hR⟩ := h
  obtain ⟨hx, hb, hr, hml, hown, hts, hX, hbl, hlocks, hgv⟩ := id C0
  refine lv_aload_n hx hb dL_law_424 rfl (lv_at hl 1 rfl) ?_
  refine lw_arg C0 hL hS hl (j := 1) (v := 1) (by omega) (by decide) (nI_1 _) dL_law_425 dL_law_426 dL_law_427 dL_law_428 dL_law_429 ?_
  refine lw_arg C0 hL hS hl (j := 2) (v := 2) (by omega) (by decide) (nI_p2 _) dL_law_430 dL_law_431 dL_law_432 dL_law_433 dL_law_434 ?_
  refine gx_callVi Fc hP hAc hS (c_X7_ask l Fc.2.2.2.2.2.2.2 h1) (g_cwV (n := 2) Fc tw_576 tw_577 tw_578 tw_1 tw_579 (by decide +kernel) rfl rfl ⟨Nat.le_of_ble_eq_true rfl, Nat.le_of_ble_eq_true rfl⟩) (k := 0) (cin (by omega)) (ce_7 E _) rfl (As := [.int (xs (4 * k + 1)), .int (xs (4 * k + 2))]) rfl hl.1 rfl (Nat.le_of_ble_eq_true rfl) dL_law_435 ⟨Nat.le_of_ble_eq_true rfl, Nat.le_of_ble_eq_true rfl⟩ (fun H1 locs hP hz hq hS => ?_)
  have hM := gW.kept hM (fun q hlt hg => hq q hlt (fun hc => hdis q hc hg))
  refine lv_aload_n hx hb dL_law_438 rfl (lv_at hl 2 rfl) ?_
  refine lw_arg C0 hL hS hl (j := 1) (v := 1) (by omega) (by decide) (nI_1 _) dL_law_439 dL_law_440 dL_law_441 dL_law_442 dL_law_443 ?_
  refine lw_arg C0 hL hS hl (j := 2) (v := 2) (by omega) (by decide) (nI_p2 _) dL_law_444 dL_law_445 dL_law_446 dL_law_447 dL_law_448 ?_
  refine gx_callVi Fm hM hAm hS (c_X8_ask l Fm.2.2.2.2.2.2.2 h2) (g_cwV (n := 2) Fm tw_1079 tw_1080 tw_1081 tw_14 tw_1082 (by decide +kernel) rfl rfl ⟨Nat.le_of_ble_eq_true rfl, Nat.le_of_ble_eq_true rfl⟩) (k := 0) min0 (me_0 E' _) rfl (As := [.int (xs (4 * k + 1)), .int (xs (4 * k + 2))]) rfl hl.1 rfl (Nat.le_of_ble_eq_true rfl) dL_law_449 ⟨Nat.le_of_ble_eq_true rfl, Nat.le_of_ble_eq_true rfl⟩ (fun H2 locs hM hz hq hS => ?_)
  have hP := gW.kept hP (fun q hlt hg => hq q hlt (fun hc => hdis q hg hc))
  refine lv_icmp_eq (tgt := 668) hx hb dL_law_452 (by decide) (fun _ => ?_) (fun h => absurd rfl h)
  exact kk _ _ _ hR hP hM hS
set_option maxHeartbeats 2000000 in
theorem lw_b_release (hL : L ≤ 2048) (C0 : lw_At p s m meth c b L xs) (Fc : gFx p m c code 4 s #[Value.ref b] R_law (cG E)) (Fm : gFx p m c code 4 s #[Value.ref b] R_law (mG E')) (hAc : ∀ q, gA (cG E) q → lwA s q) (hAm : ∀ q, gA (mG E') q → lwA s q) (hdis : ∀ q, gA (cG E) q → ¬ gA (mG E') q) {k : Nat} (hk : 4 * k + 4 ≤ L) (hP : gW (cG E) σ H) (hM : gW (mG E') τ H) (hS : va_S (lwA s) s.heap H locs) (hl : lv_has ls 4 (lwl b E E' k))
    (h : ∃ r σ' τ', f_X7_release (xs (4 * k + 1)) σ = some (r, σ') ∧ f_X8_release (xs (4 * k + 1)) τ = some (r, τ') ∧ Rel (k + 1) σ' τ')
    (kk : ∀ (σ' τ' : St) (H : Heap) {locs : List Loc}, Rel (k + 1) σ' τ' → gW (cG E) σ' H → gW (mG E') τ' H → va_S (lwA s) s.heap H locs → W p l e room_1 s m #[Value.ref b] below meth c H locs 91 4246 Q (F0 m 668 ls [])) : W p l e room_1 s m #[Value.ref b] below meth c H locs 91 4246 Q (F0 m 457 ls []) := by
  obtain ⟨r, σ', τ', h1, h2, hR⟩ := h
  obtain ⟨hx, hb, hr, hml, hown, hts, hX, hbl, hlocks, hgv⟩ := id C0
  refine lv_aload_n hx hb dL_law_457 rfl (lv_at hl 1 rfl) ?_
  refine lw_arg C0 hL hS hl (j := 1) (v := 1) (by omega) (by decide) (nI_1 _) dL_law_458 dL_law_459 dL_law_460 dL_law_461 dL_law_462 ?_
  refine gx_callVi Fc hP hAc hS (c_X7_release l Fc.2.2.2.2.2.2.2 h1) (g_cwV (n := 1) Fc tw_594 tw_595 tw_596 tw_1 tw_597 (by decide +kernel) rfl rfl ⟨Nat.le_of_ble_eq_true rfl, Nat.le_of_ble_eq_true rfl⟩) (k := 0) (cin (by omega)) (ce_7 E _) rfl (As := [.int (xs (4 * k + 1))]) rfl hl.1 rfl (Nat.le_of_ble_eq_true rfl) dL_law_463 ⟨Nat.le_of_ble_eq_true rfl, Nat.le_of_ble_eq_true rfl⟩ (fun H1 locs hP hz hq hS => ?_)
  have hM := gW.kept hM (fun q hlt hg => hq q hlt (fun hc => hdis q hc hg))
  refine lv_aload_n hx hb dL_law_466 rfl (lv_at hl 2 rfl) ?_
  refine lw_arg C0 hL hS hl (j := 1) (v := 1) (by omega) (by decide) (nI_1 _) dL_law_467 dL_law_468 dL_law_469 dL_law_470 dL_law_471 ?_
  refine gx_callVi Fm hM hAm hS (c_X8_release l Fm.2.2.2.2.2.2.2 h2) (g_cwV (n := 1) Fm tw_1100 tw_1101 tw_1102 tw_14 tw_1103 (by decide +kernel) rfl rfl ⟨Nat.le_of_ble_eq_true rfl, Nat.le_of_ble_eq_true rfl⟩) (k := 0) min0 (me_0 E' _) rfl (As := [.int (xs (4 * k + 1))]) rfl hl.1 rfl (Nat.le_of_ble_eq_true rfl) dL_law_472 ⟨Nat.le_of_ble_eq_true rfl, Nat.le_of_ble_eq_true rfl⟩ (fun H2 locs hM hz hq hS => ?_)
  have hP := gW.kept hP (fun q hlt hg => hq q hlt (fun hc => hdis q hg hc))
  refine lv_icmp_eq (tgt := 668) hx hb dL_law_475 (by decide) (fun _ => ?_) (fun h => absurd rfl h)
  exact kk _ _ _ hR hP hM hS
set_option maxHeartbeats 2000000 in
theorem lw_b_promise (hL : L ≤ 2048) (C0 : lw_At p s m meth c b L xs) (Fc : gFx p m c code 4 s #[Value.ref b] R_law (cG E)) (Fm : gFx p m c code 4 s #[Value.ref b] R_law (mG E')) (hAc : ∀ q, gA (cG E) q → lwA s q) (hAm : ∀ q, gA (mG E') q → lwA s q) (hdis : ∀ q, gA (cG E) q → ¬ gA (mG E') q) {k : Nat} (hk : 4 * k + 4 ≤ L) (hP : gW (cG E) σ H) (hM : gW (mG E') τ H) (hS : va_S (lwA s) s.heap H locs) (hl : lv_has ls 4 (lwl b E E' k))
    (h : ∃ r σ' τ', f_X7_promise (xs (4 * k + 1)) (xs (4 * k + 2)) (xs (4 * k + 3)) σ = some (r, σ') ∧ f_X8_promise (xs (4 * k + 1)) (xs (4 * k + 2)) (xs (4 * k + 3)) τ = some (r, τ') ∧ Rel (k + 1) σ' τ')
    (kk : ∀ (σ' τ' : St) (H : Heap) {locs : List Loc}, Rel (k + 1) σ' τ' → gW (cG E) σ' H → gW (mG E') τ' H → va_S (lwA s) s.heap H locs → W p l e room_1 s m #[Value.ref b] below meth c H locs 91 4246 Q (F0 m 668 ls [])) : W p l e room_1 s m #[Value.ref b] below meth c H locs 91 4246 Q (F0 m 480 ls []) := by
  obtain ⟨r, σ', τ', h1, h2, hR⟩ := h
  obtain ⟨hx, hb, hr, hml, hown, hts, hX, hbl, hlocks, hgv⟩ := id C0
  refine lv_aload_n hx hb dL_law_480 rfl (lv_at hl 1 rfl) ?_
  refine lw_arg C0 hL hS hl (j := 1) (v := 1) (by omega) (by decide) (nI_1 _) dL_law_481 dL_law_482 dL_law_483 dL_law_484 dL_law_485 ?_
  refine lw_arg C0 hL hS hl (j := 2) (v := 2) (by omega) (by decide) (nI_p2 _) dL_law_486 dL_law_487 dL_law_488 dL_law_489 dL_law_490 ?_
  refine lw_arg C0 hL hS hl (j := 3) (v := 3) (by omega) (by decide) (nI_p3 _) dL_law_491 dL_law_492 dL_law_493 dL_law_494 dL_law_495 ?_
  refine gx_callVi Fc hP hAc hS (c_X7_promise l Fc.2.2.2.2.2.2.2 h1) (g_cwV (n := 3) Fc tw_599 tw_600 tw_601 tw_1 tw_602 (by decide +kernel) rfl rfl ⟨Nat.le_of_ble_eq_true rfl, Nat.le_of_ble_eq_true rfl⟩) (k := 0) (cin (by omega)) (ce_7 E _) rfl (As := [.int (xs (4 * k + 1)), .int (xs (4 * k + 2)), .int (xs (4 * k + 3))]) rfl hl.1 rfl (Nat.le_of_ble_eq_true rfl) dL_law_496 ⟨Nat.le_of_ble_eq_true rfl, Nat.le_of_ble_eq_true rfl⟩ (fun H1 locs hP hz hq hS => ?_)
  have hM := gW.kept hM (fun q hlt hg => hq q hlt (fun hc => hdis q hc hg))
  refine lv_aload_n hx hb dL_law_499 rfl (lv_at hl 2 rfl) ?_
  refine lw_arg C0 hL hS hl (j := 1) (v := 1) (by omega) (by decide) (nI_1 _) dL_law_500 dL_law_501 dL_law_502 dL_law_503 dL_law_504 ?_
  refine lw_arg C0 hL hS hl (j := 2) (v := 2) (by omega) (by decide) (nI_p2 _) dL_law_505 dL_law_506 dL_law_507 dL_law_508 dL_law_509 ?_
  refine lw_arg C0 hL hS hl (j := 3) (v := 3) (by omega) (by decide) (nI_p3 _) dL_law_510 dL_law_511 dL_law_512 dL_law_513 dL_law_514 ?_
  refine gx_callVi Fm hM hAm hS (c_X8_promise l Fm.2.2.2.2.2.2.2 h2) (g_cwV (n := 3) Fm tw_1104 tw_1105 tw_1106 tw_14 tw_1107 (by decide +kernel) rfl rfl ⟨Nat.le_of_ble_eq_true rfl, Nat.le_of_ble_eq_true rfl⟩) (k := 0) min0 (me_0 E' _) rfl (As := [.int (xs (4 * k + 1)), .int (xs (4 * k + 2)), .int (xs (4 * k + 3))]) rfl hl.1 rfl (Nat.le_of_ble_eq_true rfl) dL_law_515 ⟨Nat.le_of_ble_eq_true rfl, Nat.le_of_ble_eq_true rfl⟩ (fun H2 locs hM hz hq hS => ?_)
  have hP := gW.kept hP (fun q hlt hg => hq q hlt (fun hc => hdis q hg hc))
  refine lv_icmp_eq (tgt := 668) hx hb dL_law_518 (by decide) (fun _ => ?_) (fun h => absurd rfl h)
  exact kk _ _ _ hR hP hM hS
set_option maxHeartbeats 2000000 in
theorem lw_b_run (hL : L ≤ 2048) (C0 : lw_At p s m meth c b L xs) (Fc : gFx p m c code 4 s #[Value.ref b] R_law (cG E)) (Fm : gFx p m c code 4 s #[Value.ref b] R_law (mG E')) (hAc : ∀ q, gA (cG E) q → lwA s q) (hAm : ∀ q, gA (mG E') q → lwA s q) (hdis : ∀ q, gA (cG E) q → ¬ gA (mG E') q) {k : Nat} (hk : 4 * k + 4 ≤ L) (hP : gW (cG E) σ H) (hM : gW (mG E') τ H) (hS : va_S (lwA s) s.heap H locs) (hl : lv_has ls 4 (lwl b E E' k))
    (h : ∃ r σ' τ', f_X7_run (xs (4 * k + 1)) σ = some (r, σ') ∧ f_X8_run (xs (4 * k + 1)) τ = some (r, τ') ∧ Rel (k + 1) σ' τ')
    (kk : ∀ (σ' τ' : St) (H : Heap) {locs : List Loc}, Rel (k + 1) σ' τ' → gW (cG E) σ' H → gW (mG E') τ' H → va_S (lwA s) s.heap H locs → W p l e room_1 s m #[Value.ref b] below meth c H locs 91 4246 Q (F0 m 668 ls [])) : W p l e room_1 s m #[Value.ref b] below meth c H locs 91 4246 Q (F0 m 523 ls []) := by
  obtain ⟨r, σ', τ', h1, h2, hR⟩ := h
  obtain ⟨hx, hb, hr, hml, hown, hts, hX, hbl, hlocks, hgv⟩ := id C0
  refine lv_aload_n hx hb dL_law_523 rfl (lv_at hl 1 rfl) ?_
  refine lw_arg C0 hL hS hl (j := 1) (v := 1) (by omega) (by decide) (nI_1 _) dL_law_524 dL_law_525 dL_law_526 dL_law_527 dL_law_528 ?_
  refine gx_callVi Fc hP hAc hS (c_X7_run l Fc.2.2.2.2.2.2.2 h1) (g_cwV (n := 1) Fc tw_604 tw_605 tw_606 tw_1 tw_607 (by decide +kernel) rfl rfl ⟨Nat.le_of_ble_eq_true rfl, Nat.le_of_ble_eq_true rfl⟩) (k := 0) (cin (by omega)) (ce_7 E _) rfl (As := [.int (xs (4 * k + 1))]) rfl hl.1 rfl (Nat.le_of_ble_eq_true rfl) dL_law_529 ⟨Nat.le_of_ble_eq_true rfl, Nat.le_of_ble_eq_true rfl⟩ (fun H1 locs hP hz hq hS => ?_)
  have hM := gW.kept hM (fun q hlt hg => hq q hlt (fun hc => hdis q hc hg))
  refine lv_aload_n hx hb dL_law_532 rfl (lv_at hl 2 rfl) ?_
  refine lw_arg C0 hL hS hl (j := 1) (v := 1) (by omega) (by decide) (nI_1 _) dL_law_533 dL_law_534 dL_law_535 dL_law_536 dL_law_537 ?_
  refine gx_callVi Fm hM hAm hS (c_X8_run l Fm.2.2.2.2.2.2.2 h2) (g_cwV (n := 1) Fm tw_1109 tw_1110 tw_1111 tw_14 tw_1112 (by decide +kernel) rfl rfl ⟨Nat.le_of_ble_eq_true rfl, Nat.le_of_ble_eq_true rfl⟩) (k := 0) min0 (me_0 E' _) rfl (As := [.int (xs (4 * k + 1))]) rfl hl.1 rfl (Nat.le_of_ble_eq_true rfl) dL_law_538 ⟨Nat.le_of_ble_eq_true rfl, Nat.le_of_ble_eq_true rfl⟩ (fun H2 locs hM hz hq hS => ?_)
  have hP := gW.kept hP (fun q hlt hg => hq q hlt (fun hc => hdis q hg hc))
  refine lv_icmp_eq (tgt := 668) hx hb dL_law_541 (by decide) (fun _ => ?_) (fun h => absurd rfl h)
  exact kk _ _ _ hR hP hM hS
set_option maxHeartbeats 2000000 in
theorem lw_b_air (hL : L ≤ 2048) (C0 : lw_At p s m meth c b L xs) (Fc : gFx p m c code 4 s #[Value.ref b] R_law (cG E)) (Fm : gFx p m c code 4 s #[Value.ref b] R_law (mG E')) (hAc : ∀ q, gA (cG E) q → lwA s q) (hAm : ∀ q, gA (mG E') q → lwA s q) (hdis : ∀ q, gA (cG E) q → ¬ gA (mG E') q) {k : Nat} (hk : 4 * k + 4 ≤ L) (hP : gW (cG E) σ H) (hM : gW (mG E') τ H) (hS : va_S (lwA s) s.heap H locs) (hl : lv_has ls 4 (lwl b E E' k))
    (h : ∃ r σ' τ', f_X7_air (xs (4 * k + 1)) (xs (4 * k + 2)) σ = some (r, σ') ∧ f_X8_air (xs (4 * k + 1)) (xs (4 * k + 2)) τ = some (r, τ') ∧ Rel (k + 1) σ' τ')
    (kk : ∀ (σ' τ' : St) (H : Heap) {locs : List Loc}, Rel (k + 1) σ' τ' → gW (cG E) σ' H → gW (mG E') τ' H → va_S (lwA s) s.heap H locs → W p l e room_1 s m #[Value.ref b] below meth c H locs 91 4246 Q (F0 m 668 ls [])) : W p l e room_1 s m #[Value.ref b] below meth c H locs 91 4246 Q (F0 m 546 ls []) := by
  obtain ⟨r, σ', τ', h1, h2, hR⟩ := h
  obtain ⟨hx, hb, hr, hml, hown, hts, hX, hbl, hlocks, hgv⟩ := id C0
  refine lv_aload_n hx hb dL_law_546 rfl (lv_at hl 1 rfl) ?_
  refine lw_arg C0 hL hS hl (j := 1) (v := 1) (by omega) (by decide) (nI_1 _) dL_law_547 dL_law_548 dL_law_549 dL_law_550 dL_law_551 ?_
  refine lw_arg C0 hL hS hl (j := 2) (v := 2) (by omega) (by decide) (nI_p2 _) dL_law_552 dL_law_553 dL_law_554 dL_law_555 dL_law_556 ?_
  refine gx_callVi Fc hP hAc hS (c_X7_air l Fc.2.2.2.2.2.2.2 h1) (g_cwV (n := 2) Fc tw_722 tw_723 tw_724 tw_1 tw_725 (by decide +kernel) rfl rfl ⟨Nat.le_of_ble_eq_true rfl, Nat.le_of_ble_eq_true rfl⟩) (k := 0) (cin (by omega)) (ce_7 E _) rfl (As := [.int (xs (4 * k + 1)), .int (xs (4 * k + 2))]) rfl hl.1 rfl (Nat.le_of_ble_eq_true rfl) dL_law_557 ⟨Nat.le_of_ble_eq_true rfl, Nat.le_of_ble_eq_true rfl⟩ (fun H1 locs hP hz hq hS => ?_)
  have hM := gW.kept hM (fun q hlt hg => hq q hlt (fun hc => hdis q hc hg))
  refine lv_aload_n hx hb dL_law_560 rfl (lv_at hl 2 rfl) ?_
  refine lw_arg C0 hL hS hl (j := 1) (v := 1) (by omega) (by decide) (nI_1 _) dL_law_561 dL_law_562 dL_law_563 dL_law_564 dL_law_565 ?_
  refine lw_arg C0 hL hS hl (j := 2) (v := 2) (by omega) (by decide) (nI_p2 _) dL_law_566 dL_law_567 dL_law_568 dL_law_569 dL_law_570 ?_
  refine gx_callVi Fm hM hAm hS (c_X8_air l Fm.2.2.2.2.2.2.2 h2) (g_cwV (n := 2) Fm tw_1167 tw_1168 tw_1169 tw_14 tw_1170 (by decide +kernel) rfl rfl ⟨Nat.le_of_ble_eq_true rfl, Nat.le_of_ble_eq_true rfl⟩) (k := 0) min0 (me_0 E' _) rfl (As := [.int (xs (4 * k + 1)), .int (xs (4 * k + 2))]) rfl hl.1 rfl (Nat.le_of_ble_eq_true rfl) dL_law_571 ⟨Nat.le_of_ble_eq_true rfl, Nat.le_of_ble_eq_true rfl⟩ (fun H2 locs hM hz hq hS => ?_)
  have hP := gW.kept hP (fun q hlt hg => hq q hlt (fun hc => hdis q hg hc))
  refine lv_icmp_eq (tgt := 668) hx hb dL_law_574 (by decide) (fun _ => ?_) (fun h => absurd rfl h)
  exact kk _ _ _ hR hP hM hS
set_option maxHeartbeats 2000000 in
theorem lw_b_coordinator (hL : L ≤ 2048) (C0 : lw_At p s m meth c b L xs) (Fc : gFx p m c code 4 s #[Value.ref b] R_law (cG E)) (Fm : gFx p m c code 4 s #[Value.ref b] R_law (mG E')) (hAc : ∀ q, gA (cG E) q → lwA s q) (hAm : ∀ q, gA (mG E') q → lwA s q) (hdis : ∀ q, gA (cG E) q → ¬ gA (mG E') q) {k : Nat} (hk : 4 * k + 4 ≤ L) (hP : gW (cG E) σ H) (hM : gW (mG E') τ H) (hS : va_S (lwA s) s.heap H locs) (hl : lv_has ls 4 (lwl b E E' k))
    (h : ∃ r σ' τ', f_X7_coordinator (xs (4 * k + 1)) (xs (4 * k + 2)) σ = some (r, σ') ∧ f_X8_coordinator (xs (4 * k + 1)) (xs (4 * k + 2)) τ = some (r, τ') ∧ Rel (k + 1) σ' τ')
    (kk : ∀ (σ' τ' : St) (H : Heap) {locs : List Loc}, Rel (k + 1) σ' τ' → gW (cG E) σ' H → gW (mG E') τ' H → va_S (lwA s) s.heap H locs → W p l e room_1 s m #[Value.ref b] below meth c H locs 91 4246 Q (F0 m 668 ls [])) : W p l e room_1 s m #[Value.ref b] below meth c H locs 91 4246 Q (F0 m 579 ls []) := by
  obtain ⟨r, σ', τ', h1, h2, hR⟩ := h
  obtain ⟨hx, hb, hr, hml, hown, hts, hX, hbl, hlocks, hgv⟩ := id C0
  refine lv_aload_n hx hb dL_law_579 rfl (lv_at hl 1 rfl) ?_
  refine lw_arg C0 hL hS hl (j := 1) (v := 1) (by omega) (by decide) (nI_1 _) dL_law_580 dL_law_581 dL_law_582 dL_law_583 dL_law_584 ?_
  refine lw_arg C0 hL hS hl (j := 2) (v := 2) (by omega) (by decide) (nI_p2 _) dL_law_585 dL_law_586 dL_law_587 dL_law_588 dL_law_589 ?_
  refine gx_callVi Fc hP hAc hS (c_X7_coordinator l Fc.2.2.2.2.2.2.2 h1) (g_cwV (n := 2) Fc tw_726 tw_727 tw_728 tw_1 tw_729 (by decide +kernel) rfl rfl ⟨Nat.le_of_ble_eq_true rfl, Nat.le_of_ble_eq_true rfl⟩) (k := 0) (cin (by omega)) (ce_7 E _) rfl (As := [.int (xs (4 * k + 1)), .int (xs (4 * k + 2))]) rfl hl.1 rfl (Nat.le_of_ble_eq_true rfl) dL_law_590 ⟨Nat.le_of_ble_eq_true rfl, Nat.le_of_ble_eq_true rfl⟩ (fun H1 locs hP hz hq hS => ?_)
  have hM := gW.kept hM (fun q hlt hg => hq q hlt (fun hc => hdis q hc hg))
  refine lv_aload_n hx hb dL_law_593 rfl (lv_at hl 2 rfl) ?_
  refine lw_arg C0 hL hS hl (j := 1) (v := 1) (by omega) (by decide) (nI_1 _) dL_law_594 dL_law_595 dL_law_596 dL_law_597 dL_law_598 ?_
  refine lw_arg C0 hL hS hl (j := 2) (v := 2) (by omega) (by decide) (nI_p2 _) dL_law_599 dL_law_600 dL_law_601 dL_law_602 dL_law_603 ?_
  refine gx_callVi Fm hM hAm hS (c_X8_coordinator l Fm.2.2.2.2.2.2.2 h2) (g_cwV (n := 2) Fm tw_1171 tw_1172 tw_1173 tw_14 tw_1174 (by decide +kernel) rfl rfl ⟨Nat.le_of_ble_eq_true rfl, Nat.le_of_ble_eq_true rfl⟩) (k := 0) min0 (me_0 E' _) rfl (As := [.int (xs (4 * k + 1)), .int (xs (4 * k + 2))]) rfl hl.1 rfl (Nat.le_of_ble_eq_true rfl) dL_law_604 ⟨Nat.le_of_ble_eq_true rfl, Nat.le_of_ble_eq_true rfl⟩ (fun H2 locs hM hz hq hS => ?_)
  have hP := gW.kept hP (fun q hlt hg => hq q hlt (fun hc => hdis q hg hc))
  refine lv_icmp_eq (tgt := 668) hx hb dL_law_607 (by decide) (fun _ => ?_) (fun h => absurd rfl h)
  exact kk _ _ _ hR hP hM hS
set_option maxHeartbeats 2000000 in
theorem lw_b_device (hL : L ≤ 2048) (C0 : lw_At p s m meth c b L xs) (Fc : gFx p m c code 4 s #[Value.ref b] R_law (cG E)) (Fm : gFx p m c code 4 s #[Value.ref b] R_law (mG E')) (hAc : ∀ q, gA (cG E) q → lwA s q) (hAm : ∀ q, gA (mG E') q → lwA s q) (hdis : ∀ q, gA (cG E) q → ¬ gA (mG E') q) {k : Nat} (hk : 4 * k + 4 ≤ L) (hP : gW (cG E) σ H) (hM : gW (mG E') τ H) (hS : va_S (lwA s) s.heap H locs) (hl : lv_has ls 4 (lwl b E E' k))
    (h : ∃ r σ' τ', f_X7_device (xs (4 * k + 1)) (xs (4 * k + 2)) σ = some (r, σ') ∧ f_X8_device (xs (4 * k + 1)) (xs (4 * k + 2)) τ = some (r, τ') ∧ Rel (k + 1) σ' τ')
    (kk : ∀ (σ' τ' : St) (H : Heap) {locs : List Loc}, Rel (k + 1) σ' τ' → gW (cG E) σ' H → gW (mG E') τ' H → va_S (lwA s) s.heap H locs → W p l e room_1 s m #[Value.ref b] below meth c H locs 91 4246 Q (F0 m 668 ls [])) : W p l e room_1 s m #[Value.ref b] below meth c H locs 91 4246 Q (F0 m 612 ls []) := by
  obtain ⟨r, σ', τ', h1, h2, hR⟩ := h
  obtain ⟨hx, hb, hr, hml, hown, hts, hX, hbl, hlocks, hgv⟩ := id C0
  refine lv_aload_n hx hb dL_law_612 rfl (lv_at hl 1 rfl) ?_
  refine lw_arg C0 hL hS hl (j := 1) (v := 1) (by omega) (by decide) (nI_1 _) dL_law_613 dL_law_614 dL_law_615 dL_law_616 dL_law_617 ?_
  refine lw_arg C0 hL hS hl (j := 2) (v := 2) (by omega) (by decide) (nI_p2 _) dL_law_618 dL_law_619 dL_law_620 dL_law_621 dL_law_622 ?_
  refine gx_callVi Fc hP hAc hS (c_X7_device l Fc.2.2.2.2.2.2.2 h1) (g_cwV (n := 2) Fc tw_735 tw_736 tw_737 tw_1 tw_738 (by decide +kernel) rfl rfl ⟨Nat.le_of_ble_eq_true rfl, Nat.le_of_ble_eq_true rfl⟩) (k := 0) (cin (by omega)) (ce_7 E _) rfl (As := [.int (xs (4 * k + 1)), .int (xs (4 * k + 2))]) rfl hl.1 rfl (Nat.le_of_ble_eq_true rfl) dL_law_623 ⟨Nat.le_of_ble_eq_true rfl, Nat.le_of_ble_eq_true rfl⟩ (fun H1 locs hP hz hq hS => ?_)
  have hM := gW.kept hM (fun q hlt hg => hq q hlt (fun hc => hdis q hc hg))
  refine lv_aload_n hx hb dL_law_626 rfl (lv_at hl 2 rfl) ?_
  refine lw_arg C0 hL hS hl (j := 1) (v := 1) (by omega) (by decide) (nI_1 _) dL_law_627 dL_law_628 dL_law_629 dL_law_630 dL_law_631 ?_
  refine lw_arg C0 hL hS hl (j := 2) (v := 2) (by omega) (by decide) (nI_p2 _) dL_law_632 dL_law_633 dL_law_634 dL_law_635 dL_law_636 ?_
  refine gx_callVi Fm hM hAm hS (c_X8_device l Fm.2.2.2.2.2.2.2 h2) (g_cwV (n := 2) Fm tw_1176 tw_1177 tw_1178 tw_14 tw_1179 (by decide +kernel) rfl rfl ⟨Nat.le_of_ble_eq_true rfl, Nat.le_of_ble_eq_true rfl⟩) (k := 0) min0 (me_0 E' _) rfl (As := [.int (xs (4 * k + 1)), .int (xs (4 * k + 2))]) rfl hl.1 rfl (Nat.le_of_ble_eq_true rfl) dL_law_637 ⟨Nat.le_of_ble_eq_true rfl, Nat.le_of_ble_eq_true rfl⟩ (fun H2 locs hM hz hq hS => ?_)
  have hP := gW.kept hP (fun q hlt hg => hq q hlt (fun hc => hdis q hg hc))
  refine lv_icmp_eq (tgt := 668) hx hb dL_law_640 (by decide) (fun _ => ?_) (fun h => absurd rfl h)
  exact kk _ _ _ hR hP hM hS
set_option maxHeartbeats 2000000 in
theorem lw_b_count (hL : L ≤ 2048) (C0 : lw_At p s m meth c b L xs) (Fc : gFx p m c code 4 s #[Value.ref b] R_law (cG E)) (Fm : gFx p m c code 4 s #[Value.ref b] R_law (mG E')) (hAc : ∀ q, gA (cG E) q → lwA s q) (hAm : ∀ q, gA (mG E') q → lwA s q) (hdis : ∀ q, gA (cG E) q → ¬ gA (mG E') q) {k : Nat} (hk : 4 * k + 4 ≤ L) (hP : gW (cG E) σ H) (hM : gW (mG E') τ H) (hS : va_S (lwA s) s.heap H locs) (hl : lv_has ls 4 (lwl b E E' k))
    (h : ∃ r σ' τ', f_X7_count (xs (4 * k + 1)) σ = some (r, σ') ∧ f_X8_count (xs (4 * k + 1)) τ = some (r, τ') ∧ Rel (k + 1) σ' τ')
    (kk : ∀ (σ' τ' : St) (H : Heap) {locs : List Loc}, Rel (k + 1) σ' τ' → gW (cG E) σ' H → gW (mG E') τ' H → va_S (lwA s) s.heap H locs → W p l e room_1 s m #[Value.ref b] below meth c H locs 91 4246 Q (F0 m 668 ls [])) : W p l e room_1 s m #[Value.ref b] below meth c H locs 91 4246 Q (F0 m 645 ls []) := by
  obtain ⟨r, σ', τ', h1, h2, hR⟩ := h
  obtain ⟨hx, hb, hr, hml, hown, hts, hX, hbl, hlocks, hgv⟩ := id C0
  refine lv_aload_n hx hb dL_law_645 rfl (lv_at hl 1 rfl) ?_
  refine lw_arg C0 hL hS hl (j := 1) (v := 1) (by omega) (by decide) (nI_1 _) dL_law_646 dL_law_647 dL_law_648 dL_law_649 dL_law_650 ?_
  refine gx_callVi Fc hP hAc hS (c_X7_count l Fc.2.2.2.2.2.2.2 h1) (g_cwV (n := 1) Fc tw_743 tw_744 tw_745 tw_1 tw_746 (by decide +kernel) rfl rfl ⟨Nat.le_of_ble_eq_true rfl, Nat.le_of_ble_eq_true rfl⟩) (k := 0) (cin (by omega)) (ce_7 E _) rfl (As := [.int (xs (4 * k + 1))]) rfl hl.1 rfl (Nat.le_of_ble_eq_true rfl) dL_law_651 ⟨Nat.le_of_ble_eq_true rfl, Nat.le_of_ble_eq_true rfl⟩ (fun H1 locs hP hz hq hS => ?_)
  have hM := gW.kept hM (fun q hlt hg => hq q hlt (fun hc => hdis q hc hg))
  refine lv_aload_n hx hb dL_law_654 rfl (lv_at hl 2 rfl) ?_
  refine lw_arg C0 hL hS hl (j := 1) (v := 1) (by omega) (by decide) (nI_1 _) dL_law_655 dL_law_656 dL_law_657 dL_law_658 dL_law_659 ?_
  refine gx_callVi Fm hM hAm hS (c_X8_count l Fm.2.2.2.2.2.2.2 h2) (g_cwV (n := 1) Fm tw_1181 tw_1182 tw_1183 tw_14 tw_1184 (by decide +kernel) rfl rfl ⟨Nat.le_of_ble_eq_true rfl, Nat.le_of_ble_eq_true rfl⟩) (k := 0) min0 (me_0 E' _) rfl (As := [.int (xs (4 * k + 1))]) rfl hl.1 rfl (Nat.le_of_ble_eq_true rfl) dL_law_660 ⟨Nat.le_of_ble_eq_true rfl, Nat.le_of_ble_eq_true rfl⟩ (fun H2 locs hM hz hq hS => ?_)
  have hP := gW.kept hP (fun q hlt hg => hq q hlt (fun hc => hdis q hg hc))
  refine lv_icmp_eq (tgt := 668) hx hb dL_law_663 (by decide) (fun _ => ?_) (fun h => absurd rfl h)
  exact kk _ _ _ hR hP hM hS
set_option maxHeartbeats 4000000 in
theorem lw_loop (hL : L ≤ 2048) (C0 : lw_At p s m meth c b L xs) (Fc : gFx p m c code 4 s #[Value.ref b] R_law (cG E)) (Fm : gFx p m c code 4 s #[Value.ref b] R_law (mG E')) (hAc : ∀ q, gA (cG E) q → lwA s q) (hAm : ∀ q, gA (mG E') q → lwA s q) (hdis : ∀ q, gA (cG E) q → ¬ gA (mG E') q) :
    ∀ (n k : Nat), k + n = 513 → ∀ (σ τ : St), Rel k σ τ → ∀ (H : Heap) (locs : List Loc) (ls : Array Slot), gW (cG E) σ H → gW (mG E') τ H → va_S (lwA s) s.heap H locs → lv_has ls 4 (lwl b E E' k) → W p l e room_1 s m #[Value.ref b] below meth c H locs 91 4246 (lw_Z below #[Value.ref b] s) (F0 m 18 ls []) := by
  obtain ⟨hx, hb, hr, hml, hown, hts, hX, hbl, hlocks, hgv⟩ := id C0
  have hbA : ¬ lwA s b := Nat.not_le.mpr hbl
  intro n
  induction n with
  | zero =>
    intro k hk σ τ hR H locs ls hP hM hS hl
    refine lv_iload_n hx hb dL_law_18 rfl (lv_at hl 3 rfl) ?_
    refine lv_aload_n hx hb dL_law_19 rfl (lv_at hl 0 rfl) ?_
    refine va_slen hx hb hX hbl hbA hS dL_law_20 ?_
    refine lv_iconst (v := 4) hx hb dL_law_21 (by decide) ?_
    refine lv_isub hx hb dL_law_22 ?_
    have e1 : (nI (4 * k)).toInt = (4 * k : Nat) := nI_toInt (by omega)
    have e2 : (Int32.ofNat L - 4).toInt = (L : Int) - 4 := pk_sub_toInt (a := L) (b := 4) (by omega) (by decide)
    refine lv_icmp_gt (tgt := 674) hx hb dL_law_23 (by decide) (fun _ => ?_) (fun h => absurd (Int32.lt_iff_toInt_lt.mpr (by rw [e1, e2]; omega)) h)
    refine lv_iconst (v := 1) hx hb dL_law_674 (by decide) ?_
    refine va_forget (fun q hq => hS.2.2 q hq) ?_
    refine W.widen (k := 600000) (n := 7302250) (by decide) (by decide) ?_
    exact lw_ret hx hb hr hlocks dL_law_675
  | succ n ih =>
    intro k hk σ τ hR H locs ls hP hM hS hl
    refine lv_iload_n hx hb dL_law_18 rfl (lv_at hl 3 rfl) ?_
    refine lv_aload_n hx hb dL_law_19 rfl (lv_at hl 0 rfl) ?_
    refine va_slen hx hb hX hbl hbA hS dL_law_20 ?_
    refine lv_iconst (v := 4) hx hb dL_law_21 (by decide) ?_
    refine lv_isub hx hb dL_law_22 ?_
    have e1 : (nI (4 * k)).toInt = (4 * k : Nat) := nI_toInt (by omega)
    have e2 : (Int32.ofNat L - 4).toInt = (L : Int) - 4 := pk_sub_toInt (a := L) (b := 4) (by omega) (by decide)
    refine lv_icmp_gt (tgt := 674) hx hb dL_law_23 (by decide) (fun _ => ?_) (fun h => ?_)
    · refine lv_iconst (v := 1) hx hb dL_law_674 (by decide) ?_
      refine va_forget (fun q hq => hS.2.2 q hq) ?_
      refine W.widen (k := 600000) (n := 7302250) (by decide) (by decide) ?_
      exact lw_ret hx hb hr hlocks dL_law_675
    have hk4 : 4 * k + 4 ≤ L := by
      rcases Nat.lt_or_ge L (4 * k + 4) with q | q
      · exact absurd (Int32.lt_iff_toInt_lt.mpr (by rw [e1, e2]; omega)) h
      · exact q
    have hk5 : k < 512 := by omega
    have next : ∀ (σ' τ' : St) (H : Heap) {locs : List Loc}, Rel (k + 1) σ' τ' → gW (cG E) σ' H → gW (mG E') τ' H → va_S (lwA s) s.heap H locs → W p l e room_1 s m #[Value.ref b] below meth c H locs 91 4246 (lw_Z below #[Value.ref b] s) (F0 m 668 ls []) := by
      intro σ' τ' H locs hR hP hM hS
      refine lv_iinc (v := nI (4 * (k + 1))) (lv' := [(3, .int (nI (4 * (k + 1)))), (0, .ref b), (1, .ref (cAd E 0)), (2, .ref (mAd E' 0))]) hx hb dL_law_668 hl (k := 3) rfl (nI_p4 (4 * k)) (by decide) rfl (fun ls hl => ?_)
      refine lv_goto (tgt := 18) hx hb dL_law_671 (by decide) ?_
      exact ih (k + 1) (by omega) σ' τ' hR H locs ls hP hM hS (lv_sub hl [1, 2, 3, 0] rfl)
    refine lv_aload_n hx hb dL_law_26 rfl (lv_at hl 0 rfl) ?_
    refine lv_iload_n hx hb dL_law_27 rfl (lv_at hl 3 rfl) ?_
    refine va_sld hx hb hX hbl hbA hS (vp_in_nI (show 4 * k < L by omega) (by omega)) dL_law_28 ?_
    refine lv_bipush (v := 31) hx hb dL_law_29 (by decide) ?_
    refine lv_iand hx hb dL_law_31 ?_
    obtain ⟨j, hj, ej⟩ := pk_andE (xs (nI (4 * k)).toNatClampNeg) (m := 31) 5 (by decide)
    rw [ej]
    rcases (show j = 0 ∨ j = 1 ∨ j = 2 ∨ j = 3 ∨ j = 4 ∨ j = 5 ∨ j = 6 ∨ j = 7 ∨ j = 8 ∨ j = 9 ∨ j = 10 ∨ j = 11 ∨ j = 12 ∨ j = 13 ∨ j = 14 ∨ j = 15 ∨ j = 16 ∨ j = 17 ∨ j = 18 ∨ j = 19 ∨ 20 ≤ j by omega) with rfl | rfl | rfl | rfl | rfl | rfl | rfl | rfl | rfl | rfl | rfl | rfl | rfl | rfl | rfl | rfl | rfl | rfl | rfl | rfl | h20
    · refine lv_tableIn (tgt := 128) (off := 96) hx hb dL_law_32 (by decide) (by decide) rfl (by decide) ?_
      exact lw_b_write hL C0 Fc Fm hAc hAm hdis hk4 hP hM hS hl (st_write hR hk5 (xs (4 * k + 1))) next
    · refine lv_tableIn (tgt := 151) (off := 119) hx hb dL_law_32 (by decide) (by decide) rfl (by decide) ?_
      exact lw_b_wipe hL C0 Fc Fm hAc hAm hdis hk4 hP hM hS hl (st_wipe hR hk5) next
    · refine lv_tableIn (tgt := 164) (off := 132) hx hb dL_law_32 (by decide) (by decide) rfl (by decide) ?_
      exact lw_b_fault hL C0 Fc Fm hAc hAm hdis hk4 hP hM hS hl (st_fault hR hk5) next
    · refine lv_tableIn (tgt := 177) (off := 145) hx hb dL_law_32 (by decide) (by decide) rfl (by decide) ?_
      exact lw_b_lay hL C0 Fc Fm hAc hAm hdis hk4 hP hM hS hl (st_lay hR hk5) next
    · refine lv_tableIn (tgt := 190) (off := 158) hx hb dL_law_32 (by decide) (by decide) rfl (by decide) ?_
      exact lw_b_cause hL C0 Fc Fm hAc hAm hdis hk4 hP hM hS hl (st_cause hR hk5 (xs (4 * k + 1))) next
    · refine lv_tableIn (tgt := 213) (off := 181) hx hb dL_law_32 (by decide) (by decide) rfl (by decide) ?_
      exact lw_b_nest hL C0 Fc Fm hAc hAm hdis hk4 hP hM hS hl (st_nest hR hk5 (xs (4 * k + 1)) (xs (4 * k + 2))) next
    · refine lv_tableIn (tgt := 246) (off := 214) hx hb dL_law_32 (by decide) (by decide) rfl (by decide) ?_
      exact lw_b_seed hL C0 Fc Fm hAc hAm hdis hk4 hP hM hS hl (st_seed hR hk5 (xs (4 * k + 1))) next
    · refine lv_tableIn (tgt := 269) (off := 237) hx hb dL_law_32 (by decide) (by decide) rfl (by decide) ?_
      exact lw_b_join hL C0 Fc Fm hAc hAm hdis hk4 hP hM hS hl (st_join hR hk5 (xs (4 * k + 1)) (xs (4 * k + 2))) next
    · refine lv_tableIn (tgt := 302) (off := 270) hx hb dL_law_32 (by decide) (by decide) rfl (by decide) ?_
      exact lw_b_drop hL C0 Fc Fm hAc hAm hdis hk4 hP hM hS hl (st_drop hR hk5 (xs (4 * k + 1))) next
    · refine lv_tableIn (tgt := 325) (off := 293) hx hb dL_law_32 (by decide) (by decide) rfl (by decide) ?_
      exact lw_b_load hL C0 Fc Fm hAc hAm hdis hk4 hP hM hS hl (st_load hR hk5 (xs (4 * k + 1)) (xs (4 * k + 2)) (xs (4 * k + 3))) next
    · refine lv_tableIn (tgt := 368) (off := 336) hx hb dL_law_32 (by decide) (by decide) rfl (by decide) ?_
      exact lw_b_deafen hL C0 Fc Fm hAc hAm hdis hk4 hP hM hS hl (st_deafen hR hk5 (xs (4 * k + 1)) (xs (4 * k + 2))) next
    · refine lv_tableIn (tgt := 401) (off := 369) hx hb dL_law_32 (by decide) (by decide) rfl (by decide) ?_
      exact lw_b_scan hL C0 Fc Fm hAc hAm hdis hk4 hP hM hS hl (st_scan hR hk5 (xs (4 * k + 1))) next
    · refine lv_tableIn (tgt := 424) (off := 392) hx hb dL_law_32 (by decide) (by decide) rfl (by decide) ?_
      exact lw_b_ask hL C0 Fc Fm hAc hAm hdis hk4 hP hM hS hl (st_ask hR hk5 (xs (4 * k + 1)) (xs (4 * k + 2))) next
    · refine lv_tableIn (tgt := 457) (off := 425) hx hb dL_law_32 (by decide) (by decide) rfl (by decide) ?_
      exact lw_b_release hL C0 Fc Fm hAc hAm hdis hk4 hP hM hS hl (st_release hR hk5 (xs (4 * k + 1))) next
    · refine lv_tableIn (tgt := 480) (off := 448) hx hb dL_law_32 (by decide) (by decide) rfl (by decide) ?_
      exact lw_b_promise hL C0 Fc Fm hAc hAm hdis hk4 hP hM hS hl (st_promise hR hk5 (xs (4 * k + 1)) (xs (4 * k + 2)) (xs (4 * k + 3))) next
    · refine lv_tableIn (tgt := 523) (off := 491) hx hb dL_law_32 (by decide) (by decide) rfl (by decide) ?_
      exact lw_b_run hL C0 Fc Fm hAc hAm hdis hk4 hP hM hS hl (st_run hR hk5 (xs (4 * k + 1))) next
    · refine lv_tableIn (tgt := 546) (off := 514) hx hb dL_law_32 (by decide) (by decide) rfl (by decide) ?_
      exact lw_b_air hL C0 Fc Fm hAc hAm hdis hk4 hP hM hS hl (st_air hR hk5 (xs (4 * k + 1)) (xs (4 * k + 2))) next
    · refine lv_tableIn (tgt := 579) (off := 547) hx hb dL_law_32 (by decide) (by decide) rfl (by decide) ?_
      exact lw_b_coordinator hL C0 Fc Fm hAc hAm hdis hk4 hP hM hS hl (st_coordinator hR hk5 (xs (4 * k + 1)) (xs (4 * k + 2))) next
    · refine lv_tableIn (tgt := 612) (off := 580) hx hb dL_law_32 (by decide) (by decide) rfl (by decide) ?_
      exact lw_b_device hL C0 Fc Fm hAc hAm hdis hk4 hP hM hS hl (st_device hR hk5 (xs (4 * k + 1)) (xs (4 * k + 2))) next
    · refine lv_tableIn (tgt := 645) (off := 613) hx hb dL_law_32 (by decide) (by decide) rfl (by decide) ?_
      exact lw_b_count hL C0 Fc Fm hAc hAm hdis hk4 hP hM hS hl (st_count hR hk5 (xs (4 * k + 1))) next
    · refine lv_tableOut (tgt := 668) hx hb dL_law_32 (Or.inr (by rw [nI_toInt (by omega)]; omega)) (by decide) ?_
      exact next σ τ H (rel_mono hR) hP hM hS
end LAW
