/-! the relation between the class's rows and the reference's -/
def BT (n : Nat) : Nat := 32000 * (n + 1)
abbrev LA (σ : St) : Nat := lay (σ 0 6)
def rN (nc nd B S le li : Nat) : Prop := 1 ≤ nc ∧ nc ≤ 4 ∧ 1 ≤ nd ∧ nd ≤ 8 ∧ B ≤ 5 ∧ S ≤ 3 ∧ S ≤ B ∧ 1 ≤ le ∧ le ≤ 9 ∧ 1 ≤ li ∧ li ≤ 9
def rL (nc nd B S le li : Nat) (r : Nat → Int32) : Prop := r 0 = nI (48 * 2 ^ B) ∧ r 1 = nI (48 * 2 ^ S) ∧ r 2 = nI (3 * 2 ^ S) ∧ r 3 = nI le ∧ r 4 = nI li ∧ r 5 = nI nc ∧ r 6 = nI nd
def rM (nc nd B S le li : Nat) (τ : St) : Prop := τ 0 16 = nI (48 * 2 ^ B) ∧ τ 0 17 = nI (48 * 2 ^ S) ∧ τ 0 18 = nI (3 * 2 ^ S) ∧ τ 0 19 = nI le ∧ τ 0 20 = nI li ∧ τ 0 24 = nI nc ∧ τ 0 35 = nI nd
def rG (n nc nd B S le li : Nat) (σ τ : St) : Prop :=
  rN nc nd B S le li ∧ ((σ 0 6 = 0 ∧ σ 0 7 = 1) ∨ (σ 0 6 = 1 ∧ σ 0 7 = 0)) ∧ rL nc nd B S le li (σ (LA σ)) ∧ rM nc nd B S le li τ ∧
  (∃ N, N ≤ BT n ∧ σ 0 8 = nI N ∧ τ 0 21 = nI N) ∧ σ 0 9 = τ 0 23 ∧ ∃ sd, sd ≤ 65520 ∧ σ 6 2 = nI sd ∧ τ 0 22 = nI sd
def rS (nc B : Nat) (σ τ : St) : Prop := ∀ c, c < nc → ∃ s, s < 48 * 2 ^ B ∧ σ (LA σ + 2) c = nI s ∧ σ (22 + c) 1 = nI s ∧ τ 26 c = nI s
def rT (σ τ : St) : Prop := ∃ len, len ≤ 200 ∧ σ 1 1 = nI len ∧ τ 0 0 = nI len ∧ ∀ j, j < len → σ 2 j = τ 1 j
def rCa (σ τ : St) : Prop := ∃ cm, cm ≤ 3 ∧ σ 4 1 = nI cm ∧ τ 0 3 = nI cm ∧ ∀ j, j < cm → σ 5 j = τ 4 j
def rCo (n nc : Nat) (σ τ : St) : Prop := ∀ c, c < nc → σ (22 + c) 0 = τ 25 c ∧ (∃ m, m < 256 ∧ σ (22 + c) 2 = nI m ∧ τ 29 c = nI m) ∧ (∃ x, x ≤ BT n ∧ σ (22 + c) 3 = nI x ∧ τ 27 c = nI x) ∧ σ (22 + c) 4 = τ 28 c
def rZ (nc : Nat) (σ : St) : Prop := ∀ c, nc ≤ c → c < 4 → σ (22 + c) 2 = 0 ∧ σ (26 + c) 3 = 0
abbrev Pr : Type := Nat × Nat × Int32
def pC (l : List Pr) (c : Nat) (σ : St) : Prop := σ (26 + c) 3 = nI l.length ∧ ∀ (i : Nat) (q : Pr), l[i]? = some q → σ (30 + c) i = nI q.1 ∧ σ (34 + c) i = nI q.2.1 ∧ σ (38 + c) i = q.2.2
def pM (l : List Pr) (c : Nat) (τ : St) : Prop := τ 30 c = nI l.length ∧ ∀ (i : Nat) (q : Pr), l[i]? = some q → τ 31 (7 * c + i) = nI q.1 ∧ τ 32 (7 * c + i) = nI q.2.1 ∧ τ 33 (7 * c + i) = q.2.2
def pS (l : List Pr) : Nat := (l.map (fun q => q.2.1)).sum
def pI (nd le : Nat) (l : List Pr) : Prop := l.length ≤ 7 ∧ (∀ q ∈ l, q.1 < nd ∧ 1 ≤ q.2.1 ∧ q.2.1 ≤ 15) ∧ pS l + le ≤ 16
def pU (nc : Nat) (ps : Nat → List Pr) : Prop := (∀ c, c < nc → ((ps c).map (fun q => q.1)).Nodup) ∧ ∀ c c', c < nc → c' < nc → c ≠ c' → ∀ q ∈ ps c, ∀ q' ∈ ps c', q.1 ≠ q'.1
def rP (nc nd le : Nat) (ps : Nat → List Pr) (σ τ : St) : Prop := (∀ c, c < nc → pC (ps c) c σ ∧ pM (ps c) c τ ∧ pI nd le (ps c)) ∧ pU nc ps
def rA (nc S : Nat) (σ τ : St) : Prop := ∀ c, c < nc → τ 28 c ≠ 0 → ∀ t, t < 48 * 2 ^ S → σ (42 + c) t = τ 34 (384 * c + t)
/-- what a device's numbers are between calls -/
def dI (nc : Nat) (r : Nat → Int32) : Prop :=
  (r 1 = -4 ∨ ∃ c, c < nc ∧ r 1 = nI c) ∧ (∃ x, 1 ≤ x ∧ x ≤ 8 ∧ r 2 = nI x) ∧ (∃ x, x ≤ 3 ∧ r 3 = nI x) ∧ (∃ x, x ≤ 99 ∧ r 5 = nI x) ∧ (∃ x, x ≤ 4 ∧ r 8 = nI x ∧ (r 1 ≠ -4 → x ≤ 3)) ∧ (∃ x, x ≤ 9 ∧ r 9 = nI x) ∧
  (r 10 = 0 ∨ r 10 = 3) ∧ (∃ x, x ≤ 5 ∧ r 11 = nI x) ∧ (∃ x, x ≤ 5 ∧ r 12 = nI x ∧ (r 10 = 3 → x ≤ 4)) ∧ ∃ x, x ≤ 3 ∧ r 13 = nI x
abbrev mD (τ : St) (d : Nat) : Nat → Int32 := fun j => τ (35 + j) d
def rE (nd : Nat) (σ τ : St) : Prop := (∀ d, d < nd → ∀ j, 1 ≤ j → j ≤ 14 → σ (46 + d) j = τ (35 + j) d) ∧ (∀ d, d < 8 → ∀ j, 16 ≤ j → j ≤ 19 → σ (46 + d) j = τ (35 + j) d) ∧ (∀ d, d < 8 → σ (46 + d) 0 = nI d) ∧ ∀ d, nd ≤ d → d < 8 → σ (46 + d) 1 = -4 ∧ σ (46 + d) 10 = 0
def rD (nc nd : Nat) (σ τ : St) : Prop := rE nd σ τ ∧ ∀ d, d < nd → dI nc (mD τ d)
def Rel (n : Nat) (σ τ : St) : Prop := ∃ (nc nd B S le li : Nat) (ps : Nat → List Pr), rG n nc nd B S le li σ τ ∧ rS nc B σ τ ∧ rT σ τ ∧ rCa σ τ ∧ rCo n nc σ τ ∧ rZ nc σ ∧ rP nc nd le ps σ τ ∧ rA nc S σ τ ∧ rD nc nd σ τ
theorem BT_mono (n : Nat) : BT n ≤ BT (n + 1) := by unfold BT; omega
theorem rG.mono {n n' nc nd B S le li : Nat} {σ τ : St} (hn : BT n ≤ BT n') (h : rG n nc nd B S le li σ τ) : rG n' nc nd B S le li σ τ := by
  obtain ⟨h1, h2, h3, h4, ⟨N, hN, h5⟩, h6⟩ := h
  exact ⟨h1, h2, h3, h4, ⟨N, Nat.le_trans hN hn, h5⟩, h6⟩
theorem rCo.mono {n n' nc : Nat} {σ τ : St} (hn : BT n ≤ BT n') (h : rCo n nc σ τ) : rCo n' nc σ τ := by
  intro c hc
  obtain ⟨h1, h2, ⟨x, hx, h3⟩, h4⟩ := h c hc
  exact ⟨h1, h2, ⟨x, Nat.le_trans hx hn, h3⟩, h4⟩
theorem rel_mono {n : Nat} {σ τ : St} (h : Rel n σ τ) : Rel (n + 1) σ τ := by
  obtain ⟨nc, nd, B, S, le, li, ps, h1, h2, h3, h4, h5, h6, h7, h8, h9⟩ := h
  exact ⟨nc, nd, B, S, le, li, ps, h1.mono (BT_mono n), h2, h3, h4, h5.mono (BT_mono n), h6, h7, h8, h9⟩
/-! rows that a sub-relation doesn't read may change -/
theorem rG.cg {n nc nd B S le li : Nat} {σ τ σ' τ' : St} (h : rG n nc nd B S le li σ τ) (e0 : σ' 0 = σ 0) (e6 : σ' 6 2 = σ 6 2) (eL : σ' (LA σ) = σ (LA σ)) (t0 : ∀ j, 16 ≤ j → j ≤ 35 → τ' 0 j = τ 0 j) : rG n nc nd B S le li σ' τ' := by
  obtain ⟨h1, h2, h3, h4, h5, h6, h7⟩ := h
  have e : LA σ' = LA σ := by unfold LA; rw [e0]
  refine ⟨h1, by rw [e0]; exact h2, by rw [e, eL]; exact h3, ?_, ?_, ?_, ?_⟩
  · unfold rM at h4 ⊢
    rw [t0 16 (by decide) (by decide), t0 17 (by decide) (by decide), t0 18 (by decide) (by decide), t0 19 (by decide) (by decide), t0 20 (by decide) (by decide), t0 24 (by decide) (by decide), t0 35 (by decide) (by decide)]
    exact h4
  · rw [e0, t0 21 (by decide) (by decide)]; exact h5
  · rw [e0, t0 23 (by decide) (by decide)]; exact h6
  · rw [e6, t0 22 (by decide) (by decide)]; exact h7
theorem rS.cg {nc B : Nat} {σ τ σ' τ' : St} (hnc : nc ≤ 4) (h : rS nc B σ τ) (e0 : σ' 0 = σ 0) (eL : σ' (LA σ + 2) = σ (LA σ + 2)) (ec : ∀ c, c < 4 → σ' (22 + c) 1 = σ (22 + c) 1) (t : τ' 26 = τ 26) : rS nc B σ' τ' := by
  intro c hc
  have e : LA σ' = LA σ := by unfold LA; rw [e0]
  rw [e, eL, ec c (by omega), t]
  exact h c hc
theorem rT.cg {σ τ σ' τ' : St} (h : rT σ τ) (e1 : σ' 1 = σ 1) (e2 : σ' 2 = σ 2) (t0 : τ' 0 0 = τ 0 0) (t1 : τ' 1 = τ 1) : rT σ' τ' := by
  unfold rT
  rw [e1, e2, t0, t1]
  exact h
theorem rCa.cg {σ τ σ' τ' : St} (h : rCa σ τ) (e1 : σ' 4 = σ 4) (e2 : σ' 5 = σ 5) (t0 : τ' 0 3 = τ 0 3) (t1 : τ' 4 = τ 4) : rCa σ' τ' := by
  unfold rCa
  rw [e1, e2, t0, t1]
  exact h
theorem rCo.cg {n nc : Nat} {σ τ σ' τ' : St} (hnc : nc ≤ 4) (h : rCo n nc σ τ) (ec : ∀ c, c < 4 → σ' (22 + c) = σ (22 + c)) (t25 : τ' 25 = τ 25) (t27 : τ' 27 = τ 27) (t28 : τ' 28 = τ 28) (t29 : τ' 29 = τ 29) : rCo n nc σ' τ' := by
  intro c hc
  rw [ec c (by omega), t25, t27, t28, t29]
  exact h c hc
theorem rZ.cg {nc : Nat} {σ σ' : St} (h : rZ nc σ) (ec : ∀ c, c < 4 → σ' (22 + c) 2 = σ (22 + c) 2) (ep : ∀ c, c < 4 → σ' (26 + c) 3 = σ (26 + c) 3) : rZ nc σ' := by
  intro c h1 h2
  rw [ec c h2, ep c h2]
  exact h c h1 h2
theorem pC.cg {l : List Pr} {c : Nat} {σ σ' : St} (h : pC l c σ) (e1 : σ' (26 + c) 3 = σ (26 + c) 3) (e2 : σ' (30 + c) = σ (30 + c)) (e3 : σ' (34 + c) = σ (34 + c)) (e4 : σ' (38 + c) = σ (38 + c)) : pC l c σ' := by
  unfold pC
  rw [e1, e2, e3, e4]
  exact h
theorem pM.cg {l : List Pr} {c : Nat} {τ τ' : St} (h : pM l c τ) (e1 : τ' 30 = τ 30) (e2 : τ' 31 = τ 31) (e3 : τ' 32 = τ 32) (e4 : τ' 33 = τ 33) : pM l c τ' := by
  unfold pM
  rw [e1, e2, e3, e4]
  exact h
theorem rP.cg {nc nd le : Nat} {ps : Nat → List Pr} {σ τ σ' τ' : St} (hnc : nc ≤ 4) (h : rP nc nd le ps σ τ) (ep : ∀ k, 26 ≤ k → k < 42 → σ' k = σ k) (tp : ∀ k, 30 ≤ k → k ≤ 33 → τ' k = τ k) : rP nc nd le ps σ' τ' := by
  refine ⟨fun c hc => ?_, h.2⟩
  obtain ⟨h1, h2, h3⟩ := h.1 c hc
  exact ⟨h1.cg (by rw [ep _ (by omega) (by omega)]) (ep _ (by omega) (by omega)) (ep _ (by omega) (by omega)) (ep _ (by omega) (by omega)), h2.cg (tp 30 (by omega) (by omega)) (tp 31 (by omega) (by omega)) (tp 32 (by omega) (by omega)) (tp 33 (by omega) (by omega)), h3⟩
theorem rA.cg {nc S : Nat} {σ τ σ' τ' : St} (hnc : nc ≤ 4) (h : rA nc S σ τ) (ea : ∀ c, c < 4 → σ' (42 + c) = σ (42 + c)) (t28 : τ' 28 = τ 28) (t34 : τ' 34 = τ 34) : rA nc S σ' τ' := by
  intro c hc
  rw [ea c (by omega), t28, t34]
  exact h c hc
theorem rE.cg {nd : Nat} {σ τ σ' τ' : St} (h : rE nd σ τ) (hnd : nd ≤ 8) (e : ∀ d, d < 8 → σ' (46 + d) = σ (46 + d)) (t : ∀ k, 36 ≤ k → k ≤ 54 → τ' k = τ k) : rE nd σ' τ' := by
  refine ⟨fun d hd j h1 h2 => ?_, fun d hd j h1 h2 => ?_, fun d hd => ?_, fun d h1 h2 => ?_⟩
  · rw [e d (by omega), t (35 + j) (by omega) (by omega)]; exact h.1 d hd j h1 h2
  · rw [e d hd, t (35 + j) (by omega) (by omega)]; exact h.2.1 d hd j h1 h2
  · rw [e d hd]; exact h.2.2.1 d hd
  · rw [e d h2]; exact h.2.2.2 d h1 h2
theorem dI.cg {nc : Nat} {r r' : Nat → Int32} (h : dI nc r) (e : ∀ j, 1 ≤ j → j ≤ 13 → r' j = r j) : dI nc r' := by
  unfold dI
  rw [e 1 (by decide) (by decide), e 2 (by decide) (by decide), e 3 (by decide) (by decide), e 5 (by decide) (by decide), e 8 (by decide) (by decide), e 9 (by decide) (by decide), e 10 (by decide) (by decide), e 11 (by decide) (by decide), e 12 (by decide) (by decide), e 13 (by decide) (by decide)]
  exact h
theorem rD.cg {nc nd : Nat} {σ τ σ' τ' : St} (hnd : nd ≤ 8) (h : rD nc nd σ τ) (e : ∀ d, d < 8 → σ' (46 + d) = σ (46 + d)) (t : ∀ k, 36 ≤ k → k ≤ 54 → τ' k = τ k) : rD nc nd σ' τ' :=
  ⟨h.1.cg hnd e t, fun d hd => (h.2 d hd).cg (fun j h1 h2 => by show τ' (35 + j) d = τ (35 + j) d; rw [t (35 + j) (by omega) (by omega)])⟩
theorem LA_ok (σ : St) : LA σ = 8 ∨ LA σ = 14 := lay_ok _
/-! who a number names -/
theorem dev_c {nd : Nat} {σ : St} (hnd : nd ≤ 8) (h : σ (LA σ) 6 = nI nd) {d : Nat} (hd : d < nd) : f_X7_deviceAt (nI d) σ = some (some d, σ) := by
  unfold f_X7_deviceAt
  rw [h, if_neg (nI_pos (by omega)), if_neg (by rw [nI_leI (by omega) (by omega)]; omega), if_neg (by rw [i_le, t_lit 8 (by decide), t_nI d (by omega)]; omega), gd_t (ix_nI (by omega) (by decide)), vl_d, nt_nI (by omega)]
theorem dev_cn {nd : Nat} {σ : St} (hnd : nd ≤ 8) (h : σ (LA σ) 6 = nI nd) {p : Int32} (hp : ¬ (0 ≤ p.toInt ∧ p.toInt < nd)) : f_X7_deviceAt p σ = some (none, σ) := by
  unfold f_X7_deviceAt
  by_cases h0 : p < 0
  · rw [if_pos h0]
  · have h0' : ¬ p.toInt < 0 := by rw [i_lt] at h0; exact h0
    rw [if_neg h0, h, if_pos (by rw [i_le, t_nI nd (by omega)]; omega)]
theorem co_c {nc : Nat} {σ : St} (hnc : nc ≤ 4) (h : σ (LA σ) 5 = nI nc) {c : Nat} (hc : c < nc) : f_X7_coordinatorAt (nI c) σ = some (some c, σ) := by
  unfold f_X7_coordinatorAt
  rw [h, if_neg (nI_pos (by omega)), if_neg (by rw [nI_leI (by omega) (by omega)]; omega), if_neg (by rw [i_le, t_lit 4 (by decide), t_nI c (by omega)]; omega), gd_t (ix_nI (by omega) (by decide)), vl_d, nt_nI (by omega)]
theorem co_cn {nc : Nat} {σ : St} (hnc : nc ≤ 4) (h : σ (LA σ) 5 = nI nc) {p : Int32} (hp : ¬ (0 ≤ p.toInt ∧ p.toInt < nc)) : f_X7_coordinatorAt p σ = some (none, σ) := by
  unfold f_X7_coordinatorAt
  by_cases h0 : p < 0
  · rw [if_pos h0]
  · have h0' : ¬ p.toInt < 0 := by rw [i_lt] at h0; exact h0
    rw [if_neg h0, h, if_pos (by rw [i_le, t_nI nc (by omega)]; omega)]
theorem sub1 {n : Nat} (h1 : 1 ≤ n) (h2 : n < 2147483648) : (nI n - 1).toInt64.toInt = (n : Int) - 1 := by
  rw [w64, show nI n - 1 = nI (n - 1) from by rw [show (1 : Int32) = nI 1 from rfl, pk_sub h1], t_nI _ (by omega)]
  omega
theorem dev_m {nd : Nat} {τ : St} (h1 : 1 ≤ nd) (hnd : nd ≤ 8) (h : τ 0 35 = nI nd) {d : Nat} (hd : d < nd) : f_X8_isDevice (nI d) τ = some (1, τ) := by
  unfold f_X8_isDevice
  rw [in_t (by rw [t_nI d (by omega)]; show (0 : Int64).toInt ≤ _; rw [t64 0 (by decide)]; omega) (by rw [h, sub1 h1 (by omega), t_nI d (by omega)]; omega)]
  rw [cl_some, gd_t (Or.inr rfl)]
theorem dev_mn {nd : Nat} {τ : St} (h1 : 1 ≤ nd) (hnd : nd ≤ 8) (h : τ 0 35 = nI nd) {p : Int32} (hp : ¬ (0 ≤ p.toInt ∧ p.toInt < nd)) : f_X8_isDevice p τ = some (0, τ) := by
  unfold f_X8_isDevice
  rw [in_f (by rw [h, sub1 h1 (by omega), t64 0 (by decide)]; omega)]
  rw [cl_some, gd_t (Or.inl rfl)]
theorem co_m {nc : Nat} {τ : St} (h1 : 1 ≤ nc) (hnc : nc ≤ 4) (h : τ 0 24 = nI nc) {c : Nat} (hc : c < nc) : f_X8_isCoord (nI c) τ = some (1, τ) := by
  unfold f_X8_isCoord
  rw [in_t (by rw [t_nI c (by omega)]; show (0 : Int64).toInt ≤ _; rw [t64 0 (by decide)]; omega) (by rw [h, sub1 h1 (by omega), t_nI c (by omega)]; omega)]
  rw [cl_some, gd_t (Or.inr rfl)]
theorem co_mn {nc : Nat} {τ : St} (h1 : 1 ≤ nc) (hnc : nc ≤ 4) (h : τ 0 24 = nI nc) {p : Int32} (hp : ¬ (0 ≤ p.toInt ∧ p.toInt < nc)) : f_X8_isCoord p τ = some (0, τ) := by
  unfold f_X8_isCoord
  rw [in_f (by rw [h, sub1 h1 (by omega), t64 0 (by decide)]; omega)]
  rw [cl_some, gd_t (Or.inl rfl)]
theorem who {p : Int32} {n : Nat} (h : 0 ≤ p.toInt ∧ p.toInt < n) : ∃ d, d < n ∧ p = nI d := ⟨p.toInt.toNat, by omega, nI_of_toInt (by omega)⟩
