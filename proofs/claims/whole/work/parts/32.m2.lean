/-! drive, both sides. -/
theorem b75_6 {im : IM} {rm : RM} (x : Int32) : ev 75 0 [.int x, .int (nI 6)] [] im rm = some (some (.int (bB (pm_in x 6))), im, rm) := c75 x (by decide)
theorem b75_4 {im : IM} {rm : RM} (x : Int32) : ev 75 0 [.int x, .int (nI 4)] [] im rm = some (some (.int (bB (pm_in x 4))), im, rm) := c75 x (by decide)
theorem b75_2 {im : IM} {rm : RM} (x : Int32) : ev 75 0 [.int x, .int (nI 2)] [] im rm = some (some (.int (bB (pm_in x 2))), im, rm) := c75 x (by decide)
theorem b75_3 {im : IM} {rm : RM} (x : Int32) : ev 75 0 [.int x, .int (nI 3)] [] im rm = some (some (.int (bB (pm_in x 3))), im, rm) := c75 x (by decide)
theorem b75_8 {im : IM} {rm : RM} (x : Int32) : ev 75 0 [.int x, .int (nI 8)] [] im rm = some (some (.int (bB (pm_in x 8))), im, rm) := c75 x (by decide)
theorem b75_16 {im : IM} {rm : RM} (x : Int32) : ev 75 0 [.int x, .int (nI 16)] [] im rm = some (some (.int (bB (pm_in x 16))), im, rm) := c75 x (by decide)
section M2
variable {im : IM} {rm : RM} {pp ll : Nat → Nat}
theorem c2 (a : Nat) (ha : kd a = 10) (x y : Int32) : ev 2 0 [.ref a, .int x, .int y] [] im rm = some (none, pm_w2 (pm_w2 (pm_w2 im a 0 x) a 1 y) a 2 (nI 0), rm) := by
  simp only [s2_0, s2_1, s2_2, s2_5, s2_6, s2_7, s2_10, s2_11, s2_12, s2_15, ha]
theorem c41 (hr : rmX rm pp ll) (d x y : Int32) : ev 41 0 [.ref 0, .int d, .int x, .int y] [] im rm =
    if pm_in d 6 = true ∧ pm_in y 4 = true then (if pm_in x 2 = true then some (some (.int (nI 1)), pm_w2 (pm_w2 (pm_w2 im (dr d.toNatClampNeg) 0 x) (dr d.toNatClampNeg) 1 y) (dr d.toNatClampNeg) 2 (nI 0), rm) else some (some (.int (-3)), im, rm)) else some (some (.int (-2)), im, rm) := by
  by_cases h1 : pm_in d 6 = true
  · obtain ⟨j, hj, rfl⟩ := pm_in_ex h1 (by decide)
    have hc : (nI j).toNatClampNeg = j := nI_clamp (by omega)
    by_cases h2 : pm_in y 4 = true <;> by_cases h3 : pm_in x 2 = true <;> simp only [s41_0, s41_1, s41_3, s41_6, s41_9, s41_10, s41_11, s41_14, s41_17, s41_19, s41_20, s41_21, s41_22, s41_25, s41_28, s41_30, s41_31, s41_32, s41_35, s41_36, s41_37, s41_38, s41_39, s41_42, s41_43, ↓reduceIte, Option.bind_some, Option.toList, List.cons_append, List.nil_append, bB_0, bB_z, z01_0, z01_1, n01, n00, pm_ro_some, reduceCtorEq, if_true, if_false, and_self, and_true, true_and, not_true, not_false_eq_true, Nat.reduceLeDiff, Nat.reduceAdd, kdX, b75_6, b75_4, b75_2, h1, h2, h3, hr, hc, hj, kd_dr hj, c2, and_false]
  · simp only [s41_0, s41_1, s41_3, s41_6, s41_9, s41_10, s41_11, s41_14, s41_17, s41_19, s41_20, s41_21, s41_22, s41_25, s41_28, s41_30, s41_31, s41_32, s41_35, s41_36, s41_37, s41_38, s41_39, s41_42, s41_43, ↓reduceIte, Option.bind_some, Option.toList, List.cons_append, List.nil_append, bB_0, bB_z, z01_0, z01_1, n01, n00, pm_ro_some, reduceCtorEq, if_true, if_false, and_self, and_true, true_and, not_true, not_false_eq_true, Nat.reduceLeDiff, Nat.reduceAdd, kdX, b75_6, h1, false_and]
theorem c109 (hr : rmM rm) (d x y : Int32) : ev 109 0 [.ref 129, .int d, .int x, .int y] [] im rm =
    if pm_in d 6 = true ∧ pm_in y 4 = true then (if pm_in x 2 = true then some (some (.int (nI 1)), pm_w2 (pm_w2 (pm_w2 im 130 d.toNatClampNeg x) 131 d.toNatClampNeg y) 132 d.toNatClampNeg (nI 0), rm) else some (some (.int (-3)), im, rm)) else some (some (.int (-2)), im, rm) := by
  by_cases h1 : pm_in d 6 = true <;> by_cases h2 : pm_in y 4 = true <;> by_cases h3 : pm_in x 2 = true <;> simp only [s109_0, s109_1, s109_4, s109_7, s109_8, s109_11, s109_14, s109_16, s109_17, s109_18, s109_19, s109_20, s109_21, s109_24, s109_27, s109_29, s109_30, s109_31, s109_34, s109_35, s109_36, s109_37, s109_38, s109_41, s109_42, s109_43, s109_44, s109_45, s109_48, s109_49, s109_50, s109_51, s109_52, ↓reduceIte, Option.bind_some, Option.toList, List.cons_append, List.nil_append, bB_0, bB_z, z01_0, z01_1, n01, n00, pm_ro_some, reduceCtorEq, if_true, if_false, and_self, and_true, true_and, not_true, not_false_eq_true, Nat.reduceLeDiff, Nat.reduceAdd, kdM, c105, c106, c104, inL x 1 (by decide), h1, h2, h3, hr, and_false, false_and]
end M2
