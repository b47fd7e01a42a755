/-! what the pure part owes -/
def Rel (n : Nat) (σ τ : St) : Prop := sorry
theorem rel_mono {n : Nat} {σ τ : St} (h : Rel n σ τ) : Rel (n + 1) σ τ := sorry
theorem rel_init : ∃ (u v : Unit) (σ τ : St), f_X7_init = some (u, σ) ∧ f_X8_init = some (v, τ) ∧ Rel 0 σ τ := sorry
theorem st_write {n : Nat} {σ τ : St} (h : Rel n σ τ) (hn : n < 512) (a0 : Int32) : ∃ r σ' τ', f_X7_write a0 σ = some (r, σ') ∧ f_X8_write a0 τ = some (r, τ') ∧ Rel (n + 1) σ' τ' := sorry
theorem st_wipe {n : Nat} {σ τ : St} (h : Rel n σ τ) (hn : n < 512) : ∃ r σ' τ', f_X7_wipe σ = some (r, σ') ∧ f_X8_wipe τ = some (r, τ') ∧ Rel (n + 1) σ' τ' := sorry
theorem st_fault {n : Nat} {σ τ : St} (h : Rel n σ τ) (hn : n < 512) : ∃ r σ' τ', f_X7_fault σ = some (r, σ') ∧ f_X8_fault τ = some (r, τ') ∧ Rel (n + 1) σ' τ' := sorry
theorem st_lay {n : Nat} {σ τ : St} (h : Rel n σ τ) (hn : n < 512) : ∃ r σ' τ', f_X7_lay σ = some (r, σ') ∧ f_X8_lay τ = some (r, τ') ∧ Rel (n + 1) σ' τ' := sorry
theorem st_cause {n : Nat} {σ τ : St} (h : Rel n σ τ) (hn : n < 512) (a0 : Int32) : ∃ r σ' τ', f_X7_cause a0 σ = some (r, σ') ∧ f_X8_cause a0 τ = some (r, τ') ∧ Rel (n + 1) σ' τ' := sorry
theorem st_nest {n : Nat} {σ τ : St} (h : Rel n σ τ) (hn : n < 512) (a0 : Int32) (a1 : Int32) : ∃ r σ' τ', f_X7_nest a0 a1 σ = some (r, σ') ∧ f_X8_nest a0 a1 τ = some (r, τ') ∧ Rel (n + 1) σ' τ' := sorry
theorem st_seed {n : Nat} {σ τ : St} (h : Rel n σ τ) (hn : n < 512) (a0 : Int32) : ∃ r σ' τ', f_X7_seed a0 σ = some (r, σ') ∧ f_X8_seed a0 τ = some (r, τ') ∧ Rel (n + 1) σ' τ' := sorry
theorem st_join {n : Nat} {σ τ : St} (h : Rel n σ τ) (hn : n < 512) (a0 : Int32) (a1 : Int32) : ∃ r σ' τ', f_X7_join a0 a1 σ = some (r, σ') ∧ f_X8_join a0 a1 τ = some (r, τ') ∧ Rel (n + 1) σ' τ' := sorry
theorem st_drop {n : Nat} {σ τ : St} (h : Rel n σ τ) (hn : n < 512) (a0 : Int32) : ∃ r σ' τ', f_X7_drop a0 σ = some (r, σ') ∧ f_X8_drop a0 τ = some (r, τ') ∧ Rel (n + 1) σ' τ' := sorry
theorem st_load {n : Nat} {σ τ : St} (h : Rel n σ τ) (hn : n < 512) (a0 : Int32) (a1 : Int32) (a2 : Int32) : ∃ r σ' τ', f_X7_load a0 a1 a2 σ = some (r, σ') ∧ f_X8_load a0 a1 a2 τ = some (r, τ') ∧ Rel (n + 1) σ' τ' := sorry
theorem st_deafen {n : Nat} {σ τ : St} (h : Rel n σ τ) (hn : n < 512) (a0 : Int32) (a1 : Int32) : ∃ r σ' τ', f_X7_deafen a0 a1 σ = some (r, σ') ∧ f_X8_deafen a0 a1 τ = some (r, τ') ∧ Rel (n + 1) σ' τ' := sorry
theorem st_scan {n : Nat} {σ τ : St} (h : Rel n σ τ) (hn : n < 512) (a0 : Int32) : ∃ r σ' τ', f_X7_scan a0 σ = some (r, σ') ∧ f_X8_scan a0 τ = some (r, τ') ∧ Rel (n + 1) σ' τ' := sorry
theorem st_ask {n : Nat} {σ τ : St} (h : Rel n σ τ) (hn : n < 512) (a0 : Int32) (a1 : Int32) : ∃ r σ' τ', f_X7_ask a0 a1 σ = some (r, σ') ∧ f_X8_ask a0 a1 τ = some (r, τ') ∧ Rel (n + 1) σ' τ' := sorry
theorem st_release {n : Nat} {σ τ : St} (h : Rel n σ τ) (hn : n < 512) (a0 : Int32) : ∃ r σ' τ', f_X7_release a0 σ = some (r, σ') ∧ f_X8_release a0 τ = some (r, τ') ∧ Rel (n + 1) σ' τ' := sorry
theorem st_promise {n : Nat} {σ τ : St} (h : Rel n σ τ) (hn : n < 512) (a0 : Int32) (a1 : Int32) (a2 : Int32) : ∃ r σ' τ', f_X7_promise a0 a1 a2 σ = some (r, σ') ∧ f_X8_promise a0 a1 a2 τ = some (r, τ') ∧ Rel (n + 1) σ' τ' := sorry
theorem st_run {n : Nat} {σ τ : St} (h : Rel n σ τ) (hn : n < 512) (a0 : Int32) : ∃ r σ' τ', f_X7_run a0 σ = some (r, σ') ∧ f_X8_run a0 τ = some (r, τ') ∧ Rel (n + 1) σ' τ' := sorry
theorem st_air {n : Nat} {σ τ : St} (h : Rel n σ τ) (hn : n < 512) (a0 : Int32) (a1 : Int32) : ∃ r σ' τ', f_X7_air a0 a1 σ = some (r, σ') ∧ f_X8_air a0 a1 τ = some (r, τ') ∧ Rel (n + 1) σ' τ' := sorry
theorem st_coordinator {n : Nat} {σ τ : St} (h : Rel n σ τ) (hn : n < 512) (a0 : Int32) (a1 : Int32) : ∃ r σ' τ', f_X7_coordinator a0 a1 σ = some (r, σ') ∧ f_X8_coordinator a0 a1 τ = some (r, τ') ∧ Rel (n + 1) σ' τ' := sorry
theorem st_device {n : Nat} {σ τ : St} (h : Rel n σ τ) (hn : n < 512) (a0 : Int32) (a1 : Int32) : ∃ r σ' τ', f_X7_device a0 a1 σ = some (r, σ') ∧ f_X8_device a0 a1 τ = some (r, τ') ∧ Rel (n + 1) σ' τ' := sorry
theorem st_count {n : Nat} {σ τ : St} (h : Rel n σ τ) (hn : n < 512) (a0 : Int32) : ∃ r σ' τ', f_X7_count a0 σ = some (r, σ') ∧ f_X8_count a0 τ = some (r, τ') ∧ Rel (n + 1) σ' τ' := sorry
