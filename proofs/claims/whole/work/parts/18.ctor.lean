/-! The two objects, made. -/
def pm_X0 : Nat × (Nat → Int32) := (0, fun _ => 0)
def pm_M0 : pm_M := (0, fun _ => (99, 0), fun _ _ => 0, fun _ _ => none)
def pm_Ra : Option (Option Value × pm_M) := pm_run pm_X0 800 40 (0, pm_ent [.ref 0] 2, [], pm_new pm_M0 17 0, 0, 0)
def pm_Ma : pm_M := (pm_Ra.getD (none, pm_M0)).2
def pm_Rb : Option (Option Value × pm_M) := pm_run pm_X0 800 103 (0, pm_ent [.ref 129] 1, [], pm_new pm_Ma 18 0, 0, 0)
def pm_Mb : pm_M := (pm_Rb.getD (none, pm_M0)).2
def pm_shl : List (Nat × Nat) := [(17, 0), (2, 6), (3, 4), (4, 2), (16, 0), (0, 160), (5, 4), (0, 4), (0, 4), (0, 4), (0, 4), (0, 4), (0, 4), (0, 4), (12, 0), (0, 20), (0, 20), (0, 20), (15, 0), (0, 20), (0, 20), (0, 20), (0, 20), (14, 0), (0, 6), (0, 6), (0, 24), (1, 24), (0, 24), (11, 0), (0, 8), (0, 8), (13, 0), (0, 40), (0, 40), (0, 40), (0, 40), (0, 40), (0, 8), (5, 4), (0, 6), (0, 6), (0, 6), (0, 6), (5, 4), (0, 6), (0, 6), (0, 6), (0, 6), (0, 6), (0, 64), (10, 0), (0, 40), (0, 40), (0, 40), (0, 40), (0, 40), (0, 40), (0, 40), (10, 0), (0, 40), (0, 40), (0, 40), (0, 40), (0, 40), (0, 40), (0, 40), (10, 0), (0, 40), (0, 40), (0, 40), (0, 40), (0, 40), (0, 40), (0, 40), (10, 0), (0, 40), (0, 40), (0, 40), (0, 40), (0, 40), (0, 40), (0, 40), (10, 0), (0, 40), (0, 40), (0, 40), (0, 40), (0, 40), (0, 40), (0, 40), (10, 0), (0, 40), (0, 40), (0, 40), (0, 40), (0, 40), (0, 40), (0, 40), (14, 0), (0, 6), (0, 6), (0, 24), (1, 24), (0, 24), (14, 0), (0, 6), (0, 6), (0, 24), (1, 24), (0, 24), (14, 0), (0, 6), (0, 6), (0, 24), (1, 24), (0, 24), (14, 0), (0, 6), (0, 6), (0, 24), (1, 24), (0, 24), (11, 0), (0, 8), (0, 8), (11, 0), (0, 8), (0, 8), (18, 0), (0, 6), (0, 6), (0, 6), (0, 240), (0, 240), (0, 240), (0, 240), (0, 240), (0, 16), (0, 4), (0, 160), (0, 5), (0, 30), (0, 30), (0, 120), (0, 120), (0, 120), (0, 3), (0, 24), (0, 24), (0, 20), (0, 20), (0, 20), (0, 4), (0, 4), (0, 6), (0, 20), (0, 20), (0, 20), (0, 20), (0, 40), (0, 40), (0, 40), (0, 16), (0, 4), (0, 6)]
set_option maxRecDepth 100000 in
theorem pm_ct1 : (match pm_Ra with
  | some (none, _) => true
  | _ => false) = true := by decide +kernel
set_option maxRecDepth 100000 in
theorem pm_ct2 : (match pm_Rb with
  | some (none, _) => true
  | _ => false) = true := by decide +kernel
set_option maxRecDepth 100000 in
theorem pm_ct3 : pm_Mb.1 = 166 ∧ pm_Ma.1 = 129 := by decide +kernel
set_option maxRecDepth 100000 in
theorem pm_ct4 : (List.range 166).map pm_Mb.2.1 = pm_shl := by decide +kernel
theorem pm_mem : ∃ M : pm_M, pm_Rb = some (none, M) := by
  have h := pm_ct2
  split at h
  · rename_i M hM
    exact ⟨M, hM⟩
  · cases h
/-- the memory behind both, by its property alone -/
noncomputable def pm_MB : pm_M := Classical.choose pm_mem
theorem pm_MB_run : pm_Rb = some (none, pm_MB) := Classical.choose_spec pm_mem
theorem pm_MB_eq : pm_MB = pm_Mb := by
  unfold pm_Mb
  rw [pm_MB_run]
  rfl
theorem pm_MB_sh {a : Nat} (h : a < 166) : pm_MB.2.1 a = pm_shl.getD a (99, 0) := by
  rw [pm_MB_eq, ← pm_ct4, List.getD_eq_getElem?_getD, List.getElem?_map, List.getElem?_range h]
  rfl
