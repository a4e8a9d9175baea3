def tt_M0 : pm_M := (0, fun _ => (99, 0), fun _ _ => 0, fun _ _ => none)
set_option maxRecDepth 100000 in
theorem tt_1 : (pm_run (0, fun _ => 0) 300 0 (0, [.ref 1000300, pm_u, pm_u, pm_u], [], tt_M0, 0, 0)).isSome = true := by decide +kernel
