/-! bits of the lists -/
abbrev bB (d : Nat) : Int32 := (1 : Int32) <<< (nI d &&& 31)
abbrev bOff (m d : Nat) : Int32 := nI m &&& (bB d ^^^ (-1 : Int32))
abbrev bOn (m d : Nat) : Int32 := nI m ||| bB d
theorem bt1 : ∀ m, m < 256 → ∀ d, d < 8 → (nI m &&& bB d = 0 ↔ ((nI m >>> (nI d &&& 31)) &&& 1) = 0) := by decide +kernel
theorem bt2 : ∀ m, m < 256 → ∀ d, d < 8 → (((nI m >>> (nI d &&& 31)) &&& 1) = 0 ∨ ((nI m >>> (nI d &&& 31)) &&& 1) = 1) := by decide +kernel
theorem bt3 : ∀ m, m < 256 → ∀ d, d < 8 → bOff m d = nI (nt (bOff m d)) ∧ nt (bOff m d) < 256 := by decide +kernel
theorem bt4 : ∀ m, m < 256 → ∀ d, d < 8 → bOn m d = nI (nt (bOn m d)) ∧ nt (bOn m d) < 256 := by decide +kernel
theorem bt5 : ∀ m, m < 256 → ∀ d, d < 8 → bOff m d ||| bB d = bOn m d := by decide +kernel
theorem bt6 : ∀ d, d < 8 → bOff 0 d = 0 := by decide +kernel
theorem bt7 : ∀ d, d < 8 → nI 0 &&& bB d = 0 := by decide +kernel
/-! erasing keeps what is told of the promises -/
theorem pR_mem {l : List Pr} {d : Nat} {q : Pr} (h : q ∈ pR l d) : q ∈ l := by
  unfold pR at h
  cases hf : l.findIdx? (fun q => q.1 == d) with
  | none => rw [hf] at h; exact h
  | some i => rw [hf] at h; exact List.mem_of_mem_eraseIdx h
theorem pR_sub (l : List Pr) (d : Nat) : List.Sublist (pR l d) l := by
  unfold pR
  cases hf : l.findIdx? (fun q => q.1 == d) with
  | none => exact List.Sublist.refl _
  | some i => exact List.eraseIdx_sublist _ _
theorem pS_sub {l l' : List Pr} (h : List.Sublist l l') : pS l ≤ pS l' := by
  unfold pS
  induction h with
  | slnil => exact Nat.le_refl _
  | cons a _ ih => simp only [List.map_cons, List.sum_cons]; omega
  | cons_cons a _ ih => simp only [List.map_cons, List.sum_cons]; omega
theorem pI.sub {nd le : Nat} {l l' : List Pr} (h : pI nd le l') (hs : List.Sublist l l') : pI nd le l :=
  ⟨Nat.le_trans hs.length_le h.1, fun q hq => h.2.1 q (hs.mem hq), by have := pS_sub hs; have := h.2.2; omega⟩
theorem pU.sub {nc : Nat} {ps ps' : Nat → List Pr} (h : pU nc ps) (hs : ∀ c, c < nc → List.Sublist (ps' c) (ps c)) : pU nc ps' :=
  ⟨fun c hc => List.Nodup.sublist ((hs c hc).map _) (h.1 c hc), fun c c' hc hc' hne q hq q' hq' => h.2 c c' hc hc' hne q ((hs c hc).mem hq) q' ((hs c' hc').mem hq')⟩
theorem pM.fr {l : List Pr} {c i : Nat} {τ τ' : St} (h : pM l i τ) (hl : l.length ≤ 7) (hf : frM c τ τ') (hne : i ≠ c) : pM l i τ' := by
  refine ⟨by rw [hf 30 i (fun _ => hne) (fun h => absurd h (by decide))]; exact h.1, fun k q hq => ?_⟩
  have hk := (List.getElem?_eq_some_iff.mp hq).1
  rw [hf 31 _ (fun h => absurd h (by decide)) (fun _ _ => by omega), hf 32 _ (fun h => absurd h (by decide)) (fun _ _ => by omega), hf 33 _ (fun h => absurd h (by decide)) (fun _ _ => by omega)]
  exact h.2 k q hq
theorem pC.fr {l : List Pr} {c i : Nat} {σ σ' : St} (h : pC l i σ) (hi : i < 4) (hc : c < 4) (hf : frC c σ σ') (hne : i ≠ c) : pC l i σ' := by
  refine h.cg (by rw [hf _ (by omega) (by omega) (by omega) (by omega)]) (hf _ (by omega) (by omega) (by omega) (by omega)) (hf _ (by omega) (by omega) (by omega) (by omega)) (hf _ (by omega) (by omega) (by omega) (by omega))
/-- the class's promises at all four coordinators -/
theorem qs_of {nc nd le : Nat} {ps : Nat → List Pr} {σ τ : St} (hnc : nc ≤ 4) (hnd : nd ≤ 8) (h : rP nc nd le ps σ τ) (hz : rZ nc σ) : ∃ qs : Nat → List Pr, (∀ c, c < nc → qs c = ps c) ∧ (∀ c, nc ≤ c → qs c = []) ∧ ∀ c, c < 4 → pC (qs c) c σ ∧ (qs c).length ≤ 7 ∧ ∀ q ∈ qs c, q.1 < 8 := by
  refine ⟨fun c => if c < nc then ps c else [], fun c hc => if_pos hc, fun c hc => if_neg (by omega), fun c hc => ?_⟩
  show pC (if c < nc then ps c else []) c σ ∧ (if c < nc then ps c else []).length ≤ 7 ∧ ∀ q ∈ (if c < nc then ps c else []), q.1 < 8
  by_cases h1 : c < nc
  · rw [if_pos h1]
    obtain ⟨a, b, d⟩ := h.1 c h1
    exact ⟨a, d.1, fun q hq => Nat.lt_of_lt_of_le (d.2.1 q hq).1 hnd⟩
  · rw [if_neg h1]
    exact ⟨⟨(hz c (by omega) hc).2, fun i q hq => by simp at hq⟩, by simp, fun q hq => by simp at hq⟩
/-! promise -/
theorem c_tell {l : List Pr} {c : Nat} {σ : St} (h : pC l c σ) (hl : l.length ≤ 7) (hs : pS l ≤ 16) {i : Nat} {q : Pr} (hq : l[i]? = some q) (w : Int32) : f_X4_tell c (nI i) w σ = some (if w = 0 then nI q.1 else if w = 1 then nI (16 - pS (l.take (i + 1))) else if w = 2 then nI q.2.1 else if w = 3 then q.2.2 else -1, σ) := by
  have hi := (List.getElem?_eq_some_iff.mp hq).1
  unfold f_X4_tell
  rw [if_neg (nI_pos (by omega)), h.1, if_neg (by rw [nI_leI (by omega) (by omega)]; omega), if_pos (nI_lt (by omega) (by decide)), gd_t (ix_nI (by omega) (by decide)), nt_nI (by omega), (h.2 i q hq).1]
  by_cases h0 : w = 0
  · rw [if_pos h0, if_pos h0]
  · rw [if_neg h0, if_neg h0]
    by_cases h1 : w = 1
    · rw [if_pos h1, if_pos h1, c_first h hl hs hi, cl_some]
    · rw [if_neg h1, if_neg h1]
      by_cases h2 : w = 2
      · rw [if_pos h2, if_pos h2, gd_t (ix_nI (by omega) (by decide)), (h.2 i q hq).2.1]
      · rw [if_neg h2, if_neg h2]
        by_cases h3 : w = 3
        · rw [if_pos h3, if_pos h3, gd_t (ix_nI (by omega) (by decide)), (h.2 i q hq).2.2]
        · rw [if_neg h3, if_neg h3]
theorem st_promise {n : Nat} {σ τ : St} (h : Rel n σ τ) (hn : n < 512) (a0 a1 a2 : Int32) : ∃ r σ' τ', f_X7_promise a0 a1 a2 σ = some (r, σ') ∧ f_X8_promise a0 a1 a2 τ = some (r, τ') ∧ Rel (n + 1) σ' τ' := by
  obtain ⟨nc, nd, B, S, le, li, ps, h1, h2, h3, h4, h5, h6, h7, h8, h9⟩ := id h
  obtain ⟨hN, hl, hL, hM, hrest⟩ := id h1
  have hnc := hN.2.1
  by_cases hq : 0 ≤ a0.toInt ∧ a0.toInt < nc
  · obtain ⟨c, hc, rfl⟩ := who hq
    have ec := co_c hnc hL.2.2.2.2.2.1 hc
    have em := co_m hN.1 hnc hM.2.2.2.2.2.1 hc
    obtain ⟨pc, pm, pi⟩ := h7.1 c hc
    have hlen := pi.1
    have hs : pS (ps c) ≤ 16 := by have := pi.2.2; omega
    by_cases hm1 : a1 < -1
    · refine ⟨-1, σ, τ, ?_, ?_, rel_mono h⟩
      · unfold f_X7_promise
        rw [ec, cl_some, oc_some, gd_t (by omega), if_pos hm1]
      · unfold f_X8_promise
        rw [em, cl_some, if_neg (by decide), if_pos hm1]
    · by_cases hv : 0 ≤ a2.toInt ∧ a2.toInt ≤ 3
      · have m1 : f_X8_in a2.toInt64 0 3 τ = some (1, τ) := in_t (by rw [t64 0 (by decide)]; omega) (by rw [t64 3 (by decide)]; omega)
        have n1 : ¬ a2 < 0 := by rw [i_lt, t_lit 0 (by decide)]; omega
        have n2 : a2 ≤ 3 := by rw [i_le, t_lit 3 (by decide)]; omega
        by_cases hneg : a1 = -1
        · refine ⟨nI (ps c).length, σ, τ, ?_, ?_, rel_mono h⟩
          · unfold f_X7_promise
            rw [ec, cl_some, oc_some, gd_t (by omega), if_neg hm1, if_neg n1, if_pos n2, if_pos hneg, pc.1]
          · unfold f_X8_promise
            rw [em, cl_some, if_neg (by decide), if_neg hm1, m1, cl_some, if_neg (by decide), if_pos (by rw [hneg]; decide), if_neg (by rw [hneg]; decide), gd_t (ix_nI (by omega) (by decide)), nt_nI (by omega), pm.1]
        · have n3 : ¬ a1 < 0 := by
            rw [i_lt, t_lit 0 (by decide)]
            rw [i_lt, t_m1] at hm1
            rw [i_eq, t_m1] at hneg
            omega
          have n4 : (0 : Int32) ≤ a1 := by rw [i_lt, t_lit 0 (by decide)] at n3; rw [i_le, t_lit 0 (by decide)]; omega
          by_cases hlt : a1.toInt < ((ps c).length : Int)
          · obtain ⟨i, hi, rfl⟩ := who (p := a1) (n := (ps c).length) ⟨by rw [i_le, t_lit 0 (by decide)] at n4; omega, hlt⟩
            obtain ⟨q, hq⟩ := get_lt hi
            have ep := pm.2 i q hq
            refine ⟨if a2 = 0 then nI q.1 else if a2 = 1 then nI (16 - pS ((ps c).take (i + 1))) else if a2 = 2 then nI q.2.1 else if a2 = 3 then q.2.2 else -1, σ, τ, ?_, ?_, rel_mono h⟩
            · unfold f_X7_promise
              rw [ec, cl_some, oc_some, gd_t (by omega), if_neg hm1, if_neg n1, if_pos n2, if_neg hneg, c_tell pc hlen hs hq, cl_some]
            · unfold f_X8_promise
              rw [em, cl_some, if_neg (by decide), if_neg hm1, m1, cl_some, if_neg (by decide), if_neg n3, gd_t (ix_nI (by omega) (by decide)), nt_nI (show c < 2147483648 by omega), pm.1, if_pos (nI_lt hi (by omega)), m7, gd_t (ix_nI (show 7 * c + i < 28 by omega) (by decide)), nt_nI (by omega), ep.1, ep.2.1, ep.2.2, m_first pm (by omega) hlen hs hi, cl_some, gd_t (ix_nI (show 7 * c + i < 28 by omega) (by decide)), gd_t (ix_nI (show 7 * c + i < 28 by omega) (by decide))]
              by_cases w0 : a2 = 0
              · rw [if_pos w0, if_pos w0]
              · rw [if_neg w0, if_neg w0]
                by_cases w1 : a2 = 1
                · rw [if_pos w1, if_pos w1]
                · rw [if_neg w1, if_neg w1]
                  by_cases w2 : a2 = 2
                  · rw [if_pos w2, if_pos w2]
                  · rw [if_neg w2, if_neg w2, if_pos (by rw [i_eq, t_lit 0 (by decide)] at w0; rw [i_eq, t_lit 1 (by decide)] at w1; rw [i_eq, t_lit 2 (by decide)] at w2; rw [i_eq, t_lit 3 (by decide)]; omega)]
          · have hle : nI (ps c).length ≤ a1 := by rw [i_le, t_nI _ (by omega)]; omega
            refine ⟨-4, σ, τ, ?_, ?_, rel_mono h⟩
            · unfold f_X7_promise f_X4_tell
              rw [ec, cl_some, oc_some, gd_t (by omega), if_neg hm1, if_neg n1, if_pos n2, if_neg hneg, if_neg n3, pc.1, if_pos hle, cl_some]
            · unfold f_X8_promise
              rw [em, cl_some, if_neg (by decide), if_neg hm1, m1, cl_some, if_neg (by decide), if_neg n3, gd_t (ix_nI (by omega) (by decide)), nt_nI (by omega), pm.1, if_neg (by rw [i_lt, t_nI _ (by omega)]; omega), if_pos n4]
      · refine ⟨-1, σ, τ, ?_, ?_, rel_mono h⟩
        · unfold f_X7_promise
          rw [ec, cl_some, oc_some, gd_t (by omega), if_neg hm1]
          by_cases h0 : a2 < 0
          · rw [if_pos h0]
          · rw [if_neg h0, if_neg (by rw [i_lt, t_lit 0 (by decide)] at h0; rw [i_le, t_lit 3 (by decide)]; omega)]
        · unfold f_X8_promise
          rw [em, cl_some, if_neg (by decide), if_neg hm1, in_f (by rw [t64 0 (by decide), t64 3 (by decide)]; omega), cl_some, if_pos rfl]
  · refine ⟨-1, σ, τ, ?_, ?_, rel_mono h⟩
    · unfold f_X7_promise
      rw [co_cn hnc hL.2.2.2.2.2.1 hq, cl_some, oc_none]
    · unfold f_X8_promise
      rw [co_mn hN.1 hnc hM.2.2.2.2.2.1 hq, cl_some, if_pos rfl]
