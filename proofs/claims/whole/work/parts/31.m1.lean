/-! Bounds, both sides; references; loops. -/
section M1
variable {im : IM} {rm : RM}
theorem c75' (n l : Int32) : ev 75 0 [.int n, .int l] [] im rm = some (some (.int (bB (decide (nI 0 ≤ n ∧ n < l)))), im, rm) := by
  simp only [s75_0, s75_1, s75_4, s75_5, s75_6, s75_9, s75_10, s75_13, s75_14, z01_0, z01_1]
  by_cases h1 : n < nI 0
  · have h2 : ¬ nI 0 ≤ n := Int32.not_le.mpr h1
    simp [h1, h2, bB]
  · have h2 : nI 0 ≤ n := Int32.not_lt.mp h1
    by_cases h3 : l ≤ n
    · have h4 : ¬ n < l := Int32.not_lt.mpr h3
      simp [h1, h2, h3, h4, bB]
    · have h4 : n < l := Int32.not_le.mp h3
      simp [h1, h2, h3, h4, bB]
theorem c76' (n l : Int32) : ev 76 0 [.int n, .int l] [] im rm = some (some (.int (bB (decide (nI 0 ≤ n ∧ n ≤ l)))), im, rm) := by
  simp only [s76_0, s76_1, s76_4, s76_5, s76_6, s76_9, s76_10, s76_13, s76_14, z01_0, z01_1]
  by_cases h1 : n < nI 0
  · have h2 : ¬ nI 0 ≤ n := Int32.not_le.mpr h1
    simp [h1, h2, bB]
  · have h2 : nI 0 ≤ n := Int32.not_lt.mp h1
    by_cases h3 : l < n
    · have h4 : ¬ n ≤ l := Int32.not_le.mpr h3
      simp [h1, h2, h3, h4, bB]
    · have h4 : n ≤ l := Int32.not_lt.mp h3
      simp [h1, h2, h3, h4, bB]
theorem in_lt (x : Int32) {n : Nat} (hn : n < 2 ^ 31) : decide (nI 0 ≤ x ∧ x < nI n) = pm_in x n := by
  apply Bool.eq_iff_iff.mpr
  rw [pm_in_eq, decide_eq_true_eq, i32_le, i32_lt, nI_toInt (by decide : 0 < 2 ^ 31), nI_toInt hn]
  simp
theorem in_le (x : Int32) {n : Nat} (hn : n + 1 < 2 ^ 31) : decide (nI 0 ≤ x ∧ x ≤ nI n) = pm_in x (n + 1) := by
  apply Bool.eq_iff_iff.mpr
  rw [pm_in_eq, decide_eq_true_eq, i32_le, i32_le, nI_toInt (by decide : 0 < 2 ^ 31), nI_toInt (by omega : n < 2 ^ 31)]
  omega
theorem c75 (x : Int32) {n : Nat} (hn : n < 2 ^ 31) : ev 75 0 [.int x, .int (nI n)] [] im rm = some (some (.int (bB (pm_in x n))), im, rm) := by rw [c75', in_lt x hn]
theorem c76 (x : Int32) {n : Nat} (hn : n + 1 < 2 ^ 31) : ev 76 0 [.int x, .int (nI n)] [] im rm = some (some (.int (bB (pm_in x (n + 1)))), im, rm) := by rw [c76', in_le x hn]
/-- in(v, least, most) of longs -/
theorem c104 (v a b : Int64) : ev 104 0 [.long v, pm_u, .long a, pm_u, .long b, pm_u] [] im rm = some (some (.int (bB (decide (a ≤ v ∧ v ≤ b)))), im, rm) := by
  simp only [s104_0, s104_1, s104_2, s104_3, s104_6, s104_7, s104_9, s104_10, s104_13, s104_14, s104_17, s104_18, z01_0, z01_1]
  have e1 : (lg_cmp v a < nI 0) ↔ ¬ a ≤ v := by
    rw [← lg_cmp_ge v a]
    exact Int32.not_le.symm
  have e2 : (nI 0 < lg_cmp v b) ↔ ¬ v ≤ b := by
    unfold lg_cmp
    rw [i64_le]
    by_cases h : v > b
    · have h2 := i64_lt b v |>.mp h
      simp [h, nI]
      omega
    · have h2 : ¬ b.toInt < v.toInt := fun q => h ((i64_lt b v).mpr q)
      by_cases h3 : v = b
      · subst h3
        simp [nI]
      · simp [h, h3, nI]
        omega
  by_cases h1 : a ≤ v <;> by_cases h2 : v ≤ b <;> simp [e1, e2, h1, h2, bB]
theorem inL (x : Int32) (n : Nat) (hn : n + 1 < 2 ^ 31) : decide (lN 0 ≤ x.toInt64 ∧ x.toInt64 ≤ lN n) = pm_in x (n + 1) := by
  apply Bool.eq_iff_iff.mpr
  rw [pm_in_eq, decide_eq_true_eq, i64_le, i64_le, lN_toInt (by decide : 0 < 2 ^ 31), lN_toInt (by omega : n < 2 ^ 31), Int32.toInt_toInt64]
  omega
theorem c105 (x : Int32) : ev 105 0 [.int x] [] im rm = some (some (.int (bB (pm_in x 6))), im, rm) := by
  simp only [s105_0, s105_1, s105_2, s105_3, s105_6, s105_9, c104, Option.bind_some, Option.toList, List.cons_append, List.nil_append, bB_z, inL x 5 (by decide)]
theorem c106 (x : Int32) : ev 106 0 [.int x] [] im rm = some (some (.int (bB (pm_in x 4))), im, rm) := by
  simp only [s106_0, s106_1, s106_2, s106_3, s106_6, s106_9, c104, Option.bind_some, Option.toList, List.cons_append, List.nil_append, bB_z, inL x 3 (by decide)]
theorem c107 (x : Int32) : ev 107 0 [.int x] [] im rm = some (some (.int (bB (pm_in x 2))), im, rm) := by
  simp only [s107_0, s107_1, s107_2, s107_3, s107_4, s107_7, c104, Option.bind_some, Option.toList, List.cons_append, List.nil_append, bB_z, inL x 1 (by decide)]
end M1
/-- the references of the two objects: programs at pp 0 .. pp 3, the draft at pp 4; laws at ll 0, ll 1, the draft at ll 2 -/
abbrev rmX (rm : RM) (pp ll : Nat → Nat) : Prop :=
  (rm 0 0 = some 1 ∧ rm 0 1 = some 2 ∧ rm 0 2 = some 3 ∧ rm 0 3 = some 4 ∧ rm 0 4 = some 6 ∧ rm 0 5 = some 11 ∧ rm 0 6 = some 12 ∧ rm 0 7 = some 13 ∧ rm 0 8 = some 14 ∧ rm 0 9 = some 18 ∧ rm 0 11 = some (pp 4) ∧ rm 0 12 = some (ll 2) ∧ rm 0 13 = some 32 ∧ rm 0 14 = some 38 ∧ rm 0 15 = some 39 ∧ rm 0 16 = some 44 ∧ rm 0 17 = some 49 ∧ rm 0 18 = some 50) ∧
  (rm 4 1 = some 5 ∧ rm 14 1 = some 15 ∧ rm 14 2 = some 16 ∧ rm 14 3 = some 17 ∧ rm 18 1 = some 19 ∧ rm 18 2 = some 20 ∧ rm 18 3 = some 21 ∧ rm 18 4 = some 22 ∧ rm 32 0 = some 33 ∧ rm 32 1 = some 34 ∧ rm 32 2 = some 35 ∧ rm 32 3 = some 36 ∧ rm 32 4 = some 37) ∧
  (∀ d, d < 6 → rm 1 d = some (dr d)) ∧ (∀ v, v < 4 → rm 2 v = some (pp v)) ∧ (∀ l, l < 2 → rm 3 l = some (ll l)) ∧ (∀ m, m < 4 → rm 6 m = some (7 + m)) ∧ (∀ m, m < 4 → rm 39 m = some (40 + m)) ∧ (∀ m, m < 4 → rm 44 m = some (45 + m)) ∧
  (∀ d, d < 6 → rm (dr d) 4 = some (dr d + 1) ∧ rm (dr d) 5 = some (dr d + 2) ∧ rm (dr d) 6 = some (dr d + 3) ∧ rm (dr d) 7 = some (dr d + 4) ∧ rm (dr d) 8 = some (dr d + 5) ∧ rm (dr d) 9 = some (dr d + 6) ∧ rm (dr d) 10 = some (dr d + 7)) ∧
  (∀ v, v < 5 → rm (pp v) 1 = some (pp v + 1) ∧ rm (pp v) 2 = some (pp v + 2) ∧ rm (pp v) 3 = some (pp v + 3) ∧ rm (pp v) 4 = some (pp v + 4) ∧ rm (pp v) 5 = some (pp v + 5)) ∧
  (∀ l, l < 3 → rm (ll l) 1 = some (ll l + 1) ∧ rm (ll l) 2 = some (ll l + 2))
abbrev rmM (rm : RM) : Prop := rm 129 0 = some 130 ∧ rm 129 1 = some 131 ∧ rm 129 2 = some 132 ∧ rm 129 3 = some 133 ∧ rm 129 4 = some 134 ∧ rm 129 5 = some 135 ∧ rm 129 6 = some 136 ∧ rm 129 7 = some 137 ∧ rm 129 8 = some 138 ∧ rm 129 9 = some 139 ∧ rm 129 10 = some 140 ∧ rm 129 12 = some 141 ∧ rm 129 13 = some 142 ∧ rm 129 14 = some 143 ∧ rm 129 15 = some 144 ∧ rm 129 16 = some 145 ∧ rm 129 17 = some 146 ∧ rm 129 18 = some 147 ∧ rm 129 19 = some 148 ∧ rm 129 20 = some 149 ∧ rm 129 21 = some 150 ∧ rm 129 22 = some 151 ∧ rm 129 23 = some 152 ∧ rm 129 25 = some 153 ∧ rm 129 26 = some 154 ∧ rm 129 27 = some 155 ∧ rm 129 29 = some 156 ∧ rm 129 30 = some 157 ∧ rm 129 31 = some 158 ∧ rm 129 32 = some 159 ∧ rm 129 38 = some 160 ∧ rm 129 39 = some 161 ∧ rm 129 40 = some 162 ∧ rm 129 45 = some 163 ∧ rm 129 46 = some 164 ∧ rm 129 48 = some 165
