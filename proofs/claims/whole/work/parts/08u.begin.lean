/-! a new layout begins -/
def dv (h x e : Int32) (j : Nat) : Int32 := if j = 1 then h else if j = 2 then x else if j = 3 ∨ j = 11 then e else 0
theorem c_layD {d : Nat} {h x e : Int32} {σ : St} : ∃ σ', f_X2_layAt d h x e σ = some ((), σ') ∧ (∀ a, a ≠ 46 + d → σ' a = σ a) ∧ (∀ j, (j = 0 ∨ 15 ≤ j) → σ' (46 + d) j = σ (46 + d) j) ∧ ∀ j, 1 ≤ j → j ≤ 14 → σ' (46 + d) j = dv h x e j := by
  unfold f_X2_layAt
  simp only [vl_d]
  refine ⟨_, rfl, fun a ha => ?_, fun j hj => ?_, fun j h1 h2 => ?_⟩
  · rw [up2_ne ha, up2_ne ha, up2_ne ha, up2_ne ha, up2_ne ha, up2_ne ha, up2_ne ha, up2_ne ha, up2_ne ha, up2_ne ha, up2_ne ha, up2_ne ha, up2_ne ha, up2_ne ha]
  · rw [up2_c (by omega), up2_c (by omega), up2_c (by omega), up2_c (by omega), up2_c (by omega), up2_c (by omega), up2_c (by omega), up2_c (by omega), up2_c (by omega), up2_c (by omega), up2_c (by omega), up2_c (by omega), up2_c (by omega), up2_c (by omega)]
  · have : j = 1 ∨ j = 2 ∨ j = 3 ∨ j = 4 ∨ j = 5 ∨ j = 6 ∨ j = 7 ∨ j = 8 ∨ j = 9 ∨ j = 10 ∨ j = 11 ∨ j = 12 ∨ j = 13 ∨ j = 14 := by omega
    rcases this with rfl | rfl | rfl | rfl | rfl | rfl | rfl | rfl | rfl | rfl | rfl | rfl | rfl | rfl <;> simp [up2_g, dv]
theorem m_devB {d : Nat} {τ : St} (hd : d < 8) : ∃ τ', f_X8_deviceBegins (nI d) τ = some ((), τ') ∧ (∀ a, (a < 36 ∨ 49 < a) → τ' a = τ a) ∧ (∀ a b, b ≠ d → τ' a b = τ a b) ∧ ∀ j, 1 ≤ j → j ≤ 14 → τ' (35 + j) d = dv (τ 13 d) (τ 14 d) (τ 15 d) j := by
  have g8 : ix (nI d) 8 := ix_nI hd (by decide)
  unfold f_X8_deviceBegins
  simp only [vl_d, gd_t g8, nt_nI (show d < 2147483648 by omega)]
  refine ⟨_, rfl, fun a ha => ?_, fun a b hb => ?_, fun j h1 h2 => ?_⟩
  · rw [up2_ne (by omega), up2_ne (by omega), up2_ne (by omega), up2_ne (by omega), up2_ne (by omega), up2_ne (by omega), up2_ne (by omega), up2_ne (by omega), up2_ne (by omega), up2_ne (by omega), up2_ne (by omega), up2_ne (by omega), up2_ne (by omega), up2_ne (by omega)]
  · simp [up2_g, hb]
  · have : j = 1 ∨ j = 2 ∨ j = 3 ∨ j = 4 ∨ j = 5 ∨ j = 6 ∨ j = 7 ∨ j = 8 ∨ j = 9 ∨ j = 10 ∨ j = 11 ∨ j = 12 ∨ j = 13 ∨ j = 14 := by omega
    rcases this with rfl | rfl | rfl | rfl | rfl | rfl | rfl | rfl | rfl | rfl | rfl | rfl | rfl | rfl <;> simp [up2_g, dv]
def lsF (hm : Nat → Nat) (c : Nat) : Nat → Int32
  | 0 => 0
  | k + 1 => if hm k = c then lsF hm c k ||| bB k else lsF hm c k
theorem lsF_ok (hm : Nat → Nat) (c : Nat) : ∀ k, k ≤ 8 → ∃ m, m < 256 ∧ lsF hm c k = nI m := by
  intro k
  induction k with
  | zero => exact fun _ => ⟨0, by decide, rfl⟩
  | succ k ih =>
    intro hk
    obtain ⟨m, hm', e⟩ := ih (by omega)
    show ∃ m, m < 256 ∧ (if hm k = c then lsF hm c k ||| bB k else lsF hm c k) = nI m
    by_cases h : hm k = c
    · rw [if_pos h, e]
      exact ⟨_, (bt4 m hm' k (by omega)).2, (bt4 m hm' k (by omega)).1⟩
    · rw [if_neg h]
      exact ⟨m, hm', e⟩
theorem lsF_0 (hm : Nat → Nat) (c : Nat) : ∀ k, (∀ d, d < k → hm d ≠ c) → lsF hm c k = 0 := by
  intro k
  induction k with
  | zero => exact fun _ => rfl
  | succ k ih =>
    intro h
    show (if hm k = c then lsF hm c k ||| bB k else lsF hm c k) = 0
    rw [if_neg (h k (by omega))]
    exact ih (fun d hd => h d (by omega))
/-- what the class has laid: coordinators -/
def LC (o nc : Nat) (σ : St) (k : Nat) (σk : St) : Prop :=
  (∀ a, (a < 22 ∨ 30 ≤ a) → σk a = σ a) ∧ ∀ c, c < k → σk (22 + c) 0 = (if c < nc then σ (o + 1) c else -4) ∧ σk (22 + c) 1 = (if c < nc then σ (o + 2) c else 0) ∧ σk (22 + c) 2 = 0 ∧ σk (22 + c) 3 = (if c < nc then σ (o + 2) c else 0) ∧ σk (22 + c) 4 = 0 ∧ σk (26 + c) 3 = 0
theorem c_stA {o nc k : Nat} {σ : St} (h : σ o 5 = nI nc) (hnc : nc ≤ 4) (hk : k < 4) : f_X3_startAt o (nI k) σ = some ((if k < nc then σ (o + 2) k else 0), σ) ∧ f_X3_parentAt o (nI k) σ = some ((if k < nc then σ (o + 1) k else -4), σ) := by
  unfold f_X3_startAt f_X3_parentAt
  rw [h, if_neg (nI_pos (by omega)), if_neg (nI_pos (by omega))]
  by_cases e : k < nc
  · have n1 : ¬ nI nc ≤ nI k := by rw [nI_leI (by omega) (by omega)]; omega
    have n2 : ¬ nI 4 ≤ nI k := by rw [nI_leI (by omega) (by omega)]; omega
    rw [if_neg n1, if_neg n1, if_neg n2, if_neg n2, gd_t (ix_nI hk (by decide)), gd_t (ix_nI hk (by decide)), nt_nI (by omega), if_pos e, if_pos e]
    exact ⟨rfl, rfl⟩
  · have n1 : nI nc ≤ nI k := nI_le (by omega) (by omega)
    rw [if_pos n1, if_pos n1, if_neg e, if_neg e]
    exact ⟨rfl, rfl⟩
theorem c_dvA {o nd k : Nat} {σ : St} (h : σ o 6 = nI nd) (hnd : nd ≤ 8) (hk : k < 8) : f_X3_homeAt o (nI k) σ = some ((if k < nd then σ (o + 3) k else -4), σ) ∧ f_X3_lengthAt o (nI k) σ = some ((if k < nd then σ (o + 4) k else 1), σ) ∧ f_X3_exponentAt o (nI k) σ = some ((if k < nd then σ (o + 5) k else 0), σ) := by
  unfold f_X3_homeAt f_X3_lengthAt f_X3_exponentAt
  rw [h, if_neg (nI_pos (by omega)), if_neg (nI_pos (by omega)), if_neg (nI_pos (by omega))]
  by_cases e : k < nd
  · have n1 : ¬ nI nd ≤ nI k := by rw [nI_leI (by omega) (by omega)]; omega
    have n2 : ¬ nI 8 ≤ nI k := by rw [nI_leI (by omega) (by omega)]; omega
    rw [if_neg n1, if_neg n1, if_neg n1, if_neg n2, if_neg n2, if_neg n2, gd_t (ix_nI hk (by decide)), gd_t (ix_nI hk (by decide)), gd_t (ix_nI hk (by decide)), nt_nI (by omega), if_pos e, if_pos e, if_pos e]
    exact ⟨rfl, rfl, rfl⟩
  · have n1 : nI nd ≤ nI k := nI_le (by omega) (by omega)
    rw [if_pos n1, if_pos n1, if_pos n1, if_neg e, if_neg e, if_neg e]
    exact ⟨rfl, rfl, rfl⟩
/-- what the class has laid: devices -/
def LD (o nd : Nat) (hm : Nat → Nat) (σ : St) (k : Nat) (σk : St) : Prop :=
  (∀ a, (a < 22 ∨ (26 ≤ a ∧ a < 46) ∨ 54 ≤ a) → σk a = σ a) ∧ (∀ c, c < 4 → ∀ j, j ≠ 2 → σk (22 + c) j = σ (22 + c) j) ∧ (∀ c, c < 4 → σk (22 + c) 2 = lsF hm c (min k nd)) ∧
  (∀ d, d < 8 → ∀ j, (j = 0 ∨ 15 ≤ j) → σk (46 + d) j = σ (46 + d) j) ∧ (∀ d, d < k → d < nd → ∀ j, 1 ≤ j → j ≤ 14 → σk (46 + d) j = dv (σ (o + 3) d) (σ (o + 4) d) (σ (o + 5) d) j) ∧ ∀ d, d < k → nd ≤ d → σk (46 + d) 1 = -4 ∧ σk (46 + d) 10 = 0
theorem LD_step {o nc nd k : Nat} {hm : Nat → Nat} {σ σk : St} (ho : o = 8 ∨ o = 14) (hnc : nc ≤ 4) (hnd : nd ≤ 8) (hk : k < 8) (hLA : LA σ = o) (h5 : σ o 5 = nI nc) (h6 : σ o 6 = nI nd) (hh : ∀ d, d < nd → hm d < nc ∧ σ (o + 3) d = nI (hm d)) (h : LD o nd hm σ k σk) : ∃ σ', (∀ K, b_X7_takeLayout_65 K (nI k) σk = K (nI (k + 1), σ')) ∧ LD o nd hm σ (k + 1) σ' := by
  obtain ⟨l1, l2, l3, l4, l5, l6⟩ := h
  have eLA : LA σk = o := by rw [← hLA]; unfold LA; rw [l1 0 (by decide)]
  have e6 : σk o 6 = nI nd := by rw [l1 o (by omega)]; exact h6
  obtain ⟨a1, a2, a3⟩ := c_dvA (σ := σk) e6 hnd hk
  obtain ⟨σ1, b1, b2, b3, b4⟩ := c_layD (d := k) (h := if k < nd then σk (o + 3) k else -4) (x := if k < nd then σk (o + 4) k else 1) (e := if k < nd then σk (o + 5) k else 0) (σ := σk)
  have eLA1 : LA σ1 = o := by rw [← eLA]; unfold LA; rw [b2 0 (by omega)]
  have e51 : σ1 (LA σ1) 5 = nI nc := by rw [eLA1, b2 o (by omega), l1 o (by omega)]; exact h5
  have e1 : σ1 (46 + k) 1 = if k < nd then σk (o + 3) k else -4 := b4 1 (by decide) (by decide)
  have g8 : ix (nI k) 8 := ix_nI hk (by decide)
  have hgo : ∀ K, b_X7_takeLayout_65 K (nI k) σk = cl (f_X7_coordinatorAt (σ1 (46 + k) 1) σ1) fun r27 σ26 => oc r27 (vl (nI k + (1 : Int32)) fun x31 => K (x31, σ26)) (fun d30 => gd (d30 < 4) <| cl (f_X1_enlist d30 (nI k) σ26) fun r34 σ33 => vl (nI k + (1 : Int32)) fun x36 => K (x36, σ33)) := by
    intro K
    unfold b_X7_takeLayout_65
    rw [if_neg (by rw [i_le, t_lit 8 (by decide), t_nI k (by omega)]; omega), gd_t g8, vl_d, nt_nI (by omega)]
    rw [show lay (σk 0 6) = o from eLA, a1, cl_some, show lay (σk 0 6) = o from eLA, a2, cl_some, show lay (σk 0 6) = o from eLA, a3, cl_some, b1, cl_some, gd_t g8, vl_d]
  by_cases hkn : k < nd
  · obtain ⟨hc, eh⟩ := hh k hkn
    rw [if_pos hkn, l1 (o + 3) (by omega), eh] at e1
    have hc4 : hm k < 4 := by omega
    refine ⟨up2 σ1 (22 + hm k) 2 (σ1 (22 + hm k) 2 ||| bB k), fun K => ?_, ?_, ?_, ?_, ?_, ?_, ?_⟩
    · rw [hgo, e1, co_c hnc e51 hc, cl_some, oc_some, gd_t hc4]
      unfold f_X1_enlist
      rw [vl_d, cl_some, vl_d, nI_1]
    · intro a ha
      rw [up2_ne (by omega), b2 a (by omega)]
      exact l1 a ha
    · intro c hc' j hj
      rw [up2_g, if_neg (fun q => hj q.2), b2 _ (by omega)]
      exact l2 c hc' j hj
    · intro c hc'
      rw [show min (k + 1) nd = k + 1 by omega]
      show _ = if hm k = c then lsF hm c k ||| bB k else lsF hm c k
      have e3 := l3 c hc'
      rw [show min k nd = k by omega] at e3
      by_cases e : hm k = c
      · subst e
        rw [if_pos rfl, up2_at, b2 _ (by omega), e3]
      · rw [if_neg e, up2_ne (by omega), b2 _ (by omega), e3]
    · intro d hd j hj
      rw [up2_ne (by omega)]
      by_cases e : d = k
      · subst e
        rw [b3 j hj]
        exact l4 d hd j hj
      · rw [b2 _ (by omega)]
        exact l4 d hd j hj
    · intro d hd hdn j j1 j2
      rw [up2_ne (by omega)]
      by_cases e : d = k
      · subst e
        rw [b4 j j1 j2, if_pos hkn, if_pos hkn, if_pos hkn, l1 (o + 3) (by omega), l1 (o + 4) (by omega), l1 (o + 5) (by omega)]
      · rw [b2 _ (by omega)]
        exact l5 d (by omega) hdn j j1 j2
    · intro d hd hdn
      rw [up2_ne (by omega), b2 _ (by omega)]
      exact l6 d (by omega) hdn
  · rw [if_neg hkn] at e1
    refine ⟨σ1, fun K => ?_, ?_, ?_, ?_, ?_, ?_, ?_⟩
    · rw [hgo, e1, co_cn hnc e51 (by rw [t_m4]; omega), cl_some, oc_none, vl_d, nI_1]
    · intro a ha
      rw [b2 a (by omega)]
      exact l1 a ha
    · intro c hc' j hj
      rw [b2 _ (by omega)]
      exact l2 c hc' j hj
    · intro c hc'
      rw [b2 _ (by omega), l3 c hc', show min (k + 1) nd = nd by omega, show min k nd = nd by omega]
    · intro d hd j hj
      by_cases e : d = k
      · subst e
        rw [b3 j hj]
        exact l4 d hd j hj
      · rw [b2 _ (by omega)]
        exact l4 d hd j hj
    · intro d hd hdn j j1 j2
      rw [b2 _ (by omega)]
      exact l5 d (by omega) hdn j j1 j2
    · intro d hd hdn
      by_cases e : d = k
      · subst e
        exact ⟨e1, b4 10 (by decide) (by decide)⟩
      · rw [b2 _ (by omega)]
        exact l6 d (by omega) hdn
theorem LC_step {o nc k : Nat} {σ σk : St} (ho : o = 8 ∨ o = 14) (hnc : nc ≤ 4) (hk : k < 4) (hLA : LA σ = o) (h5 : σ o 5 = nI nc) (h : LC o nc σ k σk) : ∃ σ', (∀ K, b_X7_takeLayout_20 K (nI k) σk = K (nI (k + 1), σ')) ∧ LC o nc σ (k + 1) σ' := by
  obtain ⟨l1, l2⟩ := h
  have eLA : LA σk = o := by rw [← hLA]; unfold LA; rw [l1 0 (by decide)]
  have e5 : σk o 5 = nI nc := by rw [l1 o (by omega)]; exact h5
  obtain ⟨a1, a2⟩ := c_stA (σ := σk) e5 hnc hk
  refine ⟨up2 (up2 (up2 (up2 (up2 (up2 σk (22 + k) 0 (if k < nc then σk (o + 1) k else -4)) (22 + k) 1 (if k < nc then σk (o + 2) k else 0)) (22 + k) 3 (if k < nc then σk (o + 2) k else 0)) (22 + k) 2 0) (22 + k) 4 0) (26 + k) 3 0, fun K => ?_, fun a ha => ?_, fun c hc => ?_⟩
  · unfold b_X7_takeLayout_20
    rw [if_neg (by rw [i_le, t_lit 4 (by decide), t_nI k (by omega)]; omega), show lay (σk 0 6) = o from eLA, a1, cl_some, gd_t (ix_nI hk (by decide)), vl_d, nt_nI (by omega), show lay (σk 0 6) = o from eLA, a2, cl_some]
    unfold f_X1_layAt f_X4_clear
    rw [vl_d, vl_d, vl_d, vl_d, vl_d, vl_d, cl_some, cl_some, vl_d, nI_1]
  · rw [up2_ne (by omega), up2_ne (by omega), up2_ne (by omega), up2_ne (by omega), up2_ne (by omega), up2_ne (by omega)]
    exact l1 a ha
  · by_cases e : c = k
    · subst e
      rw [up2_r (show 22 + c ≠ 26 + c by omega), up2_r (show 22 + c ≠ 26 + c by omega), up2_r (show 22 + c ≠ 26 + c by omega), up2_r (show 22 + c ≠ 26 + c by omega), up2_r (show 22 + c ≠ 26 + c by omega), ← l1 (o + 1) (by omega), ← l1 (o + 2) (by omega)]
      refine ⟨?_, ?_, ?_, ?_, ?_, up2_at _ _ _ _⟩
      · rw [up2_c (by decide), up2_c (by decide), up2_c (by decide), up2_c (by decide), up2_at]
      · rw [up2_c (by decide), up2_c (by decide), up2_c (by decide), up2_at]
      · rw [up2_c (by decide), up2_at]
      · rw [up2_c (by decide), up2_c (by decide), up2_at]
      · rw [up2_at]
    · have r1 : ∀ v0 v1 v3 : Int32, up2 (up2 (up2 (up2 (up2 (up2 σk (22 + k) 0 v0) (22 + k) 1 v1) (22 + k) 3 v3) (22 + k) 2 0) (22 + k) 4 0) (26 + k) 3 0 (22 + c) = σk (22 + c) := fun v0 v1 v3 => by rw [up2_ne (by omega), up2_ne (by omega), up2_ne (by omega), up2_ne (by omega), up2_ne (by omega), up2_ne (by omega)]
      have r2 : ∀ v0 v1 v3 : Int32, up2 (up2 (up2 (up2 (up2 (up2 σk (22 + k) 0 v0) (22 + k) 1 v1) (22 + k) 3 v3) (22 + k) 2 0) (22 + k) 4 0) (26 + k) 3 0 (26 + c) = σk (26 + c) := fun v0 v1 v3 => by rw [up2_ne (by omega), up2_ne (by omega), up2_ne (by omega), up2_ne (by omega), up2_ne (by omega), up2_ne (by omega)]
      rw [r1, r2]
      exact l2 c (by omega)
theorem c_take {o nc nd : Nat} {hm : Nat → Nat} {σ : St} (eo : o = lay (σ 0 7)) (hnc : nc ≤ 4) (hnd : nd ≤ 8) (h5 : σ o 5 = nI nc) (h6 : σ o 6 = nI nd) (hh : ∀ d, d < nd → hm d < nc ∧ σ (o + 3) d = nI (hm d)) : ∃ σ2 σc σd, σ2 = up2 (up2 σ 0 6 (layC o)) 0 7 (layC (LA σ)) ∧ LC o nc σ2 4 σc ∧ LD o nd hm σc 8 σd ∧ f_X7_takeLayout σ = some ((), up2 (up2 (up2 σd 6 2 1) 0 8 0) 0 9 0) := by
  have ho : o = 8 ∨ o = 14 := by rw [eo]; exact lay_ok _
  obtain ⟨σ2, e2⟩ : ∃ σ2, σ2 = up2 (up2 σ 0 6 (layC o)) 0 7 (layC (LA σ)) := ⟨_, rfl⟩
  have hLA : LA σ2 = o := by unfold LA; rw [e2, up2_c (by decide), up2_at]; exact layC_ok ho
  have r2 : ∀ a, a ≠ 0 → σ2 a = σ a := fun a ha => by rw [e2, up2_ne ha, up2_ne ha]
  obtain ⟨r, hr, σc, σd, q1, q2, rfl⟩ := lp_FU (b := fun K a => b_X7_takeLayout_20 K a.1 a.2) (fun k a => ∃ σk, a = (nI k, σk) ∧ LC o nc σ2 k σk) (fun r => ∃ σc σd, LC o nc σ2 4 σc ∧ LD o nd hm σc 8 σd ∧ r = ((), up2 (up2 (up2 σd 6 2 1) 0 8 0) 0 9 0)) 4 (by decide)
    (fun k a hk ha => by
      obtain ⟨σk, rfl, hI⟩ := ha
      obtain ⟨σ', s1, s2⟩ := LC_step ho hnc hk hLA (by rw [r2 o (by omega)]; exact h5) hI
      exact Or.inl ⟨(nI (k + 1), σ'), ⟨σ', rfl, s2⟩, s1⟩)
    (fun a ha => by
      obtain ⟨σc, rfl, hI⟩ := ha
      have hLAc : LA σc = o := by rw [← hLA]; unfold LA; rw [hI.1 0 (by decide)]
      have rc : ∀ a, a ≠ 0 → (a < 22 ∨ 30 ≤ a) → σc a = σ a := fun a h1 h2 => (hI.1 a h2).trans (r2 a h1)
      obtain ⟨r, hr, σd, q1, rfl⟩ := lp_FU (b := fun K a => b_X7_takeLayout_65 K a.1 a.2) (fun k a => ∃ σk, a = (nI k, σk) ∧ LD o nd hm σc k σk) (fun r => ∃ σd, LD o nd hm σc 8 σd ∧ r = ((), up2 (up2 (up2 σd 6 2 1) 0 8 0) 0 9 0)) 8 (by decide)
        (fun k a hk ha => by
          obtain ⟨σk, rfl, hI'⟩ := ha
          obtain ⟨σ', s1, s2⟩ := LD_step ho hnc hnd hk hLAc (by rw [rc o (by omega) (by omega)]; exact h5) (by rw [rc o (by omega) (by omega)]; exact h6) (fun d hd => by rw [rc (o + 3) (by omega) (by omega)]; exact hh d hd) hI'
          exact Or.inl ⟨(nI (k + 1), σ'), ⟨σ', rfl, s2⟩, s1⟩)
        (fun a ha => by
          obtain ⟨σd, rfl, hI'⟩ := ha
          refine ⟨_, ⟨σd, hI', rfl⟩, fun K => ?_⟩
          show b_X7_takeLayout_65 K (nI 8) σd = _
          unfold b_X7_takeLayout_65
          rw [if_pos (by decide), vl_d, vl_d, vl_d])
        (a := (0, σc)) ⟨σc, rfl, fun _ _ => rfl, fun _ _ _ _ => rfl, fun c hc => by rw [(hI.2 c hc).2.2.1, Nat.zero_min]; rfl, fun _ _ _ _ => rfl, fun d hd => by omega, fun d hd => by omega⟩
      refine ⟨_, ⟨σc, σd, hI, q1, rfl⟩, fun K => ?_⟩
      show b_X7_takeLayout_20 K (nI 4) σc = _
      unfold b_X7_takeLayout_20
      rw [if_pos (by decide)]
      exact hr)
    (a := (0, σ2)) ⟨σ2, rfl, fun _ _ => rfl, fun c hc => by omega⟩
  refine ⟨σ2, σc, σd, e2, q1, q2, ?_⟩
  unfold f_X7_takeLayout
  rw [vl_d, vl_d, ← eo, ← e2]
  exact hr
