-- needs: 67
/-! The law's loop. -/
theorem and63 (x : Int32) : ∃ r, r < 64 ∧ x &&& nI 63 = nI r := by
  refine ⟨x.toBitVec.toNat &&& 63, ?_, ?_⟩
  · have := Nat.and_le_right (n := x.toBitVec.toNat) (m := 63)
    omega
  · apply Int32.toBitVec_inj.mp
    apply BitVec.eq_of_toNat_eq
    have h63 : x.toBitVec.toNat &&& 63 < 2 ^ 32 := by
      have := Nat.and_le_right (n := x.toBitVec.toNat) (m := 63)
      omega
    rw [Int32.toBitVec_and, BitVec.toNat_and, nI_bv, nI_bv, BitVec.toNat_ofNat, BitVec.toNat_ofNat, Nat.mod_eq_of_lt h63]
theorem lt7 {L i : Nat} (hL : L ≤ 3584) (hi : i ≤ 4000) : (nI L - nI 7 < nI i) = (L < i + 7) := by
  by_cases h : 7 ≤ L
  · rw [nI_sbn h, nIlt (by omega) (by omega)]
    apply propext
    omega
  · have e : (nI L - nI 7 < nI i) := by
      rw [i32_lt, nI_toInt (show i < 2 ^ 31 by omega)]
      have k : ∀ L, L < 7 → (nI L - nI 7).toInt < 0 := by decide
      have := k L (by omega)
      omega
    rw [eq_true e, eq_true (show L < i + 7 by omega)]
theorem q_all {X : Nat × (Nat → Int32)} {i : Nat} {im : IM} {rm : RM} {pp ll : Nat → Nat} (hL : X.1 ≤ 3584) (h : i + 7 ≤ X.1) (hI : INV im rm pp ll) {r : Nat} (hr : r < 64) : ∃ im2 rm2 pp2 ll2, evL X 33 [.ref 1000300, .ref 0, .ref 129, .int (nI i)] [.int (nI r)] im rm = evL X 1349 [.ref 1000300, .ref 0, .ref 129, .int (nI i)] [] im2 rm2 ∧ INV im2 rm2 pp2 ll2 := by
  by_cases c0 : r = 0
  · rw [c0, s0_33_0]; exact q_0 hL h hI
  by_cases c1 : r = 1
  · rw [c1, s0_33_1]; exact q_1 hL h hI
  by_cases c2 : r = 2
  · rw [c2, s0_33_2]; exact q_2 hL h hI
  by_cases c3 : r = 3
  · rw [c3, s0_33_3]; exact q_3 hL h hI
  by_cases c4 : r = 4
  · rw [c4, s0_33_4]; exact q_4 hL h hI
  by_cases c5 : r = 5
  · rw [c5, s0_33_5]; exact q_5 hL h hI
  by_cases c6 : r = 6
  · rw [c6, s0_33_6]; exact q_6 hL h hI
  by_cases c7 : r = 7
  · rw [c7, s0_33_7]; exact q_7 hL h hI
  by_cases c8 : r = 8
  · rw [c8, s0_33_8]; exact q_8 hL h hI
  by_cases c9 : r = 9
  · rw [c9, s0_33_9]; exact q_9 hL h hI
  by_cases c10 : r = 10
  · rw [c10, s0_33_10]; exact q_10 hL h hI
  by_cases c11 : r = 11
  · rw [c11, s0_33_11]; exact q_11 hL h hI
  by_cases c12 : r = 12
  · rw [c12, s0_33_12]; exact q_12 hL h hI
  by_cases c13 : r = 13
  · rw [c13, s0_33_13]; exact q_13 hL h hI
  by_cases c14 : r = 14
  · rw [c14, s0_33_14]; exact q_14 hL h hI
  by_cases c15 : r = 15
  · rw [c15, s0_33_15]; exact q_15 hL h hI
  by_cases c16 : r = 16
  · rw [c16, s0_33_16]; exact q_16 hL h hI
  by_cases c17 : r = 17
  · rw [c17, s0_33_17]; exact q_17 hL h hI
  by_cases c18 : r = 18
  · rw [c18, s0_33_18]; exact q_18 hL h hI
  by_cases c19 : r = 19
  · rw [c19, s0_33_19]; exact q_19 hL h hI
  by_cases c20 : r = 20
  · rw [c20, s0_33_20]; exact q_20 hL h hI
  by_cases c21 : r = 21
  · rw [c21, s0_33_21]; exact q_21 hL h hI
  by_cases c22 : r = 22
  · rw [c22, s0_33_22]; exact q_22 hL h hI
  by_cases c23 : r = 23
  · rw [c23, s0_33_23]; exact q_23 hL h hI
  by_cases c24 : r = 24
  · rw [c24, s0_33_24]; exact q_24 hL h hI
  by_cases c25 : r = 25
  · rw [c25, s0_33_25]; exact q_25 hL h hI
  by_cases c26 : r = 26
  · rw [c26, s0_33_26]; exact q_26 hL h hI
  by_cases c27 : r = 27
  · rw [c27, s0_33_27]; exact q_27 hL h hI
  by_cases c28 : r = 28
  · rw [c28, s0_33_28]; exact q_28 hL h hI
  by_cases c29 : r = 29
  · rw [c29, s0_33_29]; exact q_29 hL h hI
  by_cases c30 : r = 30
  · rw [c30, s0_33_30]; exact q_30 hL h hI
  by_cases c31 : r = 31
  · rw [c31, s0_33_31]; exact q_31 hL h hI
  by_cases c32 : r = 32
  · rw [c32, s0_33_32]; exact q_32 hL h hI
  by_cases c33 : r = 33
  · rw [c33, s0_33_33]; exact q_33 hL h hI
  refine ⟨im, rm, pp, ll, ?_, hI⟩
  rw [s0_33_o (by right; rw [nI_toInt (by omega)]; omega)]
theorem lp_all {X : Nat × (Nat → Int32)} (hL : X.1 ≤ 3584) : ∀ (n i : Nat), i ≤ 3591 → X.1 < i + 7 * n + 7 → ∀ (im : IM) (rm : RM) (pp ll : Nat → Nat), INV im rm pp ll → ∃ im' rm', evL X 18 [.ref 1000300, .ref 0, .ref 129, .int (nI i)] [] im rm = some (some (.int (nI 1)), im', rm') := by
  have ex : ∀ (i : Nat) (im : IM) (rm : RM), i ≤ 3591 → X.1 < i + 7 → evL X 18 [.ref 1000300, .ref 0, .ref 129, .int (nI i)] [] im rm = some (some (.int (nI 1)), im, rm) := by
    intro i im rm hi h
    simp only [s0_18, s0_19, s0_20, s0_21, s0_23, s0_24, s0_1355, s0_1356, ↓reduceIte, Option.bind_some, Option.toList, List.cons_append, List.nil_append, bB_0, bB_z, z01_0, z01_1, n01, n00, pm_ro_some, reduceCtorEq, if_true, if_false, and_self, and_true, true_and, not_true, not_false_eq_true, Nat.reduceLeDiff, Nat.reduceAdd, kdE, lt7 hL (show i ≤ 4000 by omega), h]
  intro n
  induction n with
  | zero =>
    intro i hi h im rm pp ll hI
    exact ⟨im, rm, ex i im rm hi (by omega)⟩
  | succ n ih =>
    intro i hi h im rm pp ll hI
    by_cases g : X.1 < i + 7
    · exact ⟨im, rm, ex i im rm hi g⟩
    · obtain ⟨r, hr, er⟩ := and63 (X.2 i)
      obtain ⟨im2, rm2, pp2, ll2, e, hI2⟩ := q_all hL (show i + 7 ≤ X.1 by omega) hI hr
      obtain ⟨im', rm', e'⟩ := ih (i + 7) (by omega) (by omega) im2 rm2 pp2 ll2 hI2
      refine ⟨im', rm', ?_⟩
      have s1 : evL X 18 [.ref 1000300, .ref 0, .ref 129, .int (nI i)] [] im rm = evL X 33 [.ref 1000300, .ref 0, .ref 129, .int (nI i)] [.int (nI r)] im rm := by
        simp only [s0_18, s0_19, s0_20, s0_21, s0_23, s0_24, s0_27, s0_28, s0_29, s0_30, s0_32, ↓reduceIte, Option.bind_some, Option.toList, List.cons_append, List.nil_append, bB_0, bB_z, z01_0, z01_1, n01, n00, pm_ro_some, reduceCtorEq, if_true, if_false, and_self, and_true, true_and, not_true, not_false_eq_true, Nat.reduceLeDiff, Nat.reduceAdd, kdE, lt7 hL (show i ≤ 4000 by omega), g, ix (show i < X.1 by omega) (show X.1 < 2 ^ 31 by omega), er]
      rw [s1, e, ← e', s0_1349, s0_1352, nI_add]
