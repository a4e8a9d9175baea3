/-! THE PURE CLAIM -/
theorem pm_whole (L : Nat) (xs : Nat → Int32) (hL : L ≤ 3584) : ∃ (f : Nat) (M' : pm_M), pm_run (L, xs) f 0 (0, pm_ent [.ref 1000300] 4, [], (0, fun _ => (99, 0), fun _ _ => 0, fun _ _ => none), 0, 0) = some (some (.int 1), M') := by
  sorry
