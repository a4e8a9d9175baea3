/-! Bounds, both sides. -/
section M1
variable {im : IM} {rm : RM}
theorem c75 (n l : Int32) : ev 75 0 [.int n, .int l] [] im rm = some (some (.int (bB (decide (nI 0 ≤ n ∧ n < l)))), im, rm) := by
  simp only [s75_0, s75_1, s75_4, s75_5, s75_6, s75_9, s75_10, s75_13, s75_14, z01_0, z01_1]
  by_cases h1 : n < nI 0
  · have h2 : ¬ nI 0 ≤ n := Int32.not_le.mpr h1
    simp [h1, h2, bB]
  · have h2 : nI 0 ≤ n := Int32.not_lt.mp h1
    by_cases h3 : l ≤ n
    · have h4 : ¬ n < l := Int32.not_lt.mpr h3
      simp [h1, h2, h3, h4, bB]
    · have h4 : n < l := Int32.not_le.mp h3
      simp [h1, h2, h3, h4, bB]
end M1
