-- needs:
/-! What lies outside the two objects: strings, tables, the script. -/
def exl : List Nat := [1000000, 1000001, 1000002, 1000003, 1000004, 1000005, 1000006, 1000007, 1000008, 1000009, 1000010, 1000011, 1000012, 1000013, 1000014, 1000015, 1000016, 1000017, 1000100, 1000101, 1000102, 1000103, 1000104, 1000105, 1000106, 1000107, 1000108, 1000109, 1000110, 1000111, 1000112, 1000113, 1000114, 1000115, 1000116, 1000117, 1000200, 1000201, 1000202, 1000300]
set_option maxRecDepth 100000 in
theorem pm_ct5 : exl.all (fun a => (pm_Mb.2.1 a).1 == 99) = true := by decide +kernel
theorem kd_x {a : Nat} (h : a ∈ exl) : kd a = 99 := by
  have := List.all_eq_true.mp pm_ct5 a h
  unfold kd
  rw [pm_MB_eq]
  exact beq_iff_eq.mp this
theorem kdE : kd 1000200 = 99 ∧ kd 1000201 = 99 ∧ kd 1000202 = 99 ∧ kd 1000300 = 99 := ⟨kd_x (by decide), kd_x (by decide), kd_x (by decide), kd_x (by decide)⟩
theorem kdS : kd 1000000 = 99 ∧ kd 1000001 = 99 ∧ kd 1000002 = 99 ∧ kd 1000003 = 99 ∧ kd 1000004 = 99 ∧ kd 1000005 = 99 ∧ kd 1000006 = 99 ∧ kd 1000007 = 99 ∧ kd 1000008 = 99 ∧ kd 1000009 = 99 ∧ kd 1000010 = 99 ∧ kd 1000011 = 99 ∧ kd 1000012 = 99 ∧ kd 1000013 = 99 ∧ kd 1000014 = 99 ∧ kd 1000015 = 99 ∧ kd 1000016 = 99 ∧ kd 1000017 = 99 :=
  ⟨kd_x (by decide), kd_x (by decide), kd_x (by decide), kd_x (by decide), kd_x (by decide), kd_x (by decide), kd_x (by decide), kd_x (by decide), kd_x (by decide), kd_x (by decide), kd_x (by decide), kd_x (by decide), kd_x (by decide), kd_x (by decide), kd_x (by decide), kd_x (by decide), kd_x (by decide), kd_x (by decide)⟩
theorem kdB : kd 1000100 = 99 ∧ kd 1000101 = 99 ∧ kd 1000102 = 99 ∧ kd 1000103 = 99 ∧ kd 1000104 = 99 ∧ kd 1000105 = 99 ∧ kd 1000106 = 99 ∧ kd 1000107 = 99 ∧ kd 1000108 = 99 ∧ kd 1000109 = 99 ∧ kd 1000110 = 99 ∧ kd 1000111 = 99 ∧ kd 1000112 = 99 ∧ kd 1000113 = 99 ∧ kd 1000114 = 99 ∧ kd 1000115 = 99 ∧ kd 1000116 = 99 ∧ kd 1000117 = 99 :=
  ⟨kd_x (by decide), kd_x (by decide), kd_x (by decide), kd_x (by decide), kd_x (by decide), kd_x (by decide), kd_x (by decide), kd_x (by decide), kd_x (by decide), kd_x (by decide), kd_x (by decide), kd_x (by decide), kd_x (by decide), kd_x (by decide), kd_x (by decide), kd_x (by decide), kd_x (by decide), kd_x (by decide)⟩
theorem tabL : (pm_tabs.getD 1 []).getD 0 0 = nI 0 ∧ (pm_tabs.getD 1 []).getD 1 0 = nI 20 ∧ (pm_tabs.getD 1 []).getD 2 0 = nI 0 ∧ (pm_tabs.getD 1 []).getD 3 0 = nI 0 ∧ (pm_tabs.getD 2 []).getD 0 0 = nI 9999 ∧ (pm_tabs.getD 2 []).getD 1 0 = nI 999 ∧ (pm_tabs.getD 2 []).getD 2 0 = nI 99999 ∧ (pm_tabs.getD 2 []).getD 3 0 = nI 100 := by decide
