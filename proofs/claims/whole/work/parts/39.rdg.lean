-- needs: 35
/-! readings, both sides. -/
def tkk (σ : IM) (d t : Int32) : Bool := pm_in d 6 && pm_in t (tk σ d.toNatClampNeg)
theorem inM (x : Int32) {n : Nat} (hn : n ≤ 160) : decide (lN 0 ≤ x.toInt64 ∧ x.toInt64 ≤ (nI n - nI 1).toInt64) = pm_in x n := by
  apply Bool.eq_iff_iff.mpr
  have e : (nI n - nI 1).toInt = (n : Int) - 1 := by
    rw [Int32.toInt_sub, nI_toInt (by omega), nI_toInt (by decide)]
    apply Int.bmod_eq_of_le <;> omega
  rw [pm_in_eq, decide_eq_true_eq, i64_le, i64_le, lN_toInt (by decide : 0 < 2 ^ 31), Int32.toInt_toInt64, Int32.toInt_toInt64, e]
  omega
section RDG
variable {im σ : IM} {rm : RM} {pp ll : Nat → Nat}
theorem c77 (hI : INV σ rm pp ll) (hs : SS σ im) (d t : Int32) : ev 77 0 [.ref 0, .int d, .int t] [] im rm = some (some (.int (bB (tkk σ d t))), im, rm) := by
  have hx := hI.x
  unfold tkk
  by_cases g0 : pm_in d 6 = true
  rotate_left
  · simp only [s77_0, s77_1, s77_3, s77_6, s77_9, s77_10, s77_11, s77_14, s77_15, s77_16, s77_19, s77_22, s77_25, s77_26, s77_29, s77_30, ↓reduceIte, Option.bind_some, Option.toList, List.cons_append, List.nil_append, bB_0, bB_z, z01_0, z01_1, n01, n00, pm_ro_some, reduceCtorEq, if_true, if_false, and_self, and_true, true_and, not_true, not_false_eq_true, Nat.reduceLeDiff, Nat.reduceAdd, kdX, b75_6, hx, g0, Bool.false_and, bf g0]
    rfl
  obtain ⟨j, hj, rfl⟩ := pm_in_ex g0 (by decide)
  have D := hI.d j hj
  have dm := hI.dm hj
  have hc := ix hj
  have q := fun x => c75 (im := im) (rm := rm) x (show tk σ j < 2 ^ 31 by have := D.n40; omega)
  by_cases g1 : pm_in t (tk σ j) = true
  · simp only [s77_0, s77_1, s77_3, s77_6, s77_9, s77_10, s77_11, s77_14, s77_15, s77_16, s77_19, s77_22, s77_25, s77_26, s77_29, s77_30, ↓reduceIte, Option.bind_some, Option.toList, List.cons_append, List.nil_append, bB_0, bB_z, z01_0, z01_1, n01, n00, pm_ro_some, reduceCtorEq, if_true, if_false, and_self, and_true, true_and, not_true, not_false_eq_true, Nat.reduceLeDiff, Nat.reduceAdd, kdX, b75_6, hx, g0, dm, hc, hs.d0 hj, D.le, q, g1]
    rfl
  · simp only [s77_0, s77_1, s77_3, s77_6, s77_9, s77_10, s77_11, s77_14, s77_15, s77_16, s77_19, s77_22, s77_25, s77_26, s77_29, s77_30, ↓reduceIte, Option.bind_some, Option.toList, List.cons_append, List.nil_append, bB_0, bB_z, z01_0, z01_1, n01, n00, pm_ro_some, reduceCtorEq, if_true, if_false, and_self, and_true, true_and, not_true, not_false_eq_true, Nat.reduceLeDiff, Nat.reduceAdd, kdX, b75_6, hx, g0, dm, hc, hs.d0 hj, D.le, q, g1]
    rfl
theorem c108 (hI : INV σ rm pp ll) (hs : SS σ im) (d t : Int32) : ev 108 0 [.ref 129, .int d, .int t] [] im rm = some (some (.int (bB (tkk σ d t))), im, rm) := by
  have hm := hI.m
  unfold tkk
  by_cases g0 : pm_in d 6 = true
  rotate_left
  · simp only [s108_0, s108_1, s108_4, s108_7, s108_8, s108_9, s108_10, s108_11, s108_14, s108_15, s108_16, s108_17, s108_18, s108_19, s108_22, s108_25, s108_26, s108_29, s108_30, ↓reduceIte, Option.bind_some, Option.toList, List.cons_append, List.nil_append, bB_0, bB_z, z01_0, z01_1, n01, n00, pm_ro_some, reduceCtorEq, if_true, if_false, and_self, and_true, true_and, not_true, not_false_eq_true, Nat.reduceLeDiff, Nat.reduceAdd, kdM, c105, hm, g0, Bool.false_and, bf g0]
    rfl
  obtain ⟨j, hj, rfl⟩ := pm_in_ex g0 (by decide)
  have D := hI.d j hj
  have hc := ix hj
  have n40 := D.n40
  by_cases g1 : pm_in t (tk σ j) = true
  · simp only [s108_0, s108_1, s108_4, s108_7, s108_8, s108_9, s108_10, s108_11, s108_14, s108_15, s108_16, s108_17, s108_18, s108_19, s108_22, s108_25, s108_26, s108_29, s108_30, ↓reduceIte, Option.bind_some, Option.toList, List.cons_append, List.nil_append, bB_0, bB_z, z01_0, z01_1, n01, n00, pm_ro_some, reduceCtorEq, if_true, if_false, and_self, and_true, true_and, not_true, not_false_eq_true, Nat.reduceLeDiff, Nat.reduceAdd, kdM, c105, hm, g0, hc, hs.m, D.mn, c104, inM t (show tk σ j ≤ 160 by omega), g1]
    rfl
  · simp only [s108_0, s108_1, s108_4, s108_7, s108_8, s108_9, s108_10, s108_11, s108_14, s108_15, s108_16, s108_17, s108_18, s108_19, s108_22, s108_25, s108_26, s108_29, s108_30, ↓reduceIte, Option.bind_some, Option.toList, List.cons_append, List.nil_append, bB_0, bB_z, z01_0, z01_1, n01, n00, pm_ro_some, reduceCtorEq, if_true, if_false, and_self, and_true, true_and, not_true, not_false_eq_true, Nat.reduceLeDiff, Nat.reduceAdd, kdM, c105, hm, g0, hc, hs.m, D.mn, c104, inM t (show tk σ j ≤ 160 by omega), g1]
    rfl
/-- the readings of tick t of drive d, laid into the row of readings -/
theorem c6 (hI : INV σ rm pp ll) (hs : SS σ im) {d t : Nat} (hd : d < 6) (ht : t < tk σ d) : ∃ im', ev 6 0 [.ref (dr d), .int (nI t), .ref 38] [] im rm = some (none, im', rm) ∧ SS σ im' ∧ (∀ r, r < 8 → im' 38 r = rdg σ d t r) ∧ (∀ b i, b ≠ 38 → im' b i = im b i) := by
  have D := hI.d d hd
  have dm := hI.dm hd
  have hx := hI.x
  have R := D.row t ht
  have n40 := D.n40
  have hdr : dr d = 51 + 8 * d := rfl
  have rd : ∀ j, j ≤ 7 → im (dr d + j) t = σ (dr d + j) t := fun j hj => hs.d hd j hj t
  have rw1 := rd 1 (by omega)
  have rw2 := rd 2 (by omega)
  have rw3 := rd 3 (by omega)
  have rw4 := rd 4 (by omega)
  have rw5 := rd 5 (by omega)
  have rw6 := rd 6 (by omega)
  have rw7 := rd 7 (by omega)
  rw [R.1] at rw1
  rw [R.2.1] at rw2
  rw [R.2.2.1] at rw3
  rw [R.2.2.2.1] at rw4
  rw [R.2.2.2.2.1] at rw5
  rw [R.2.2.2.2.2.1] at rw6
  rw [R.2.2.2.2.2.2] at rw7
  have ww : ∀ (f : IM) (k : Nat) (v : Int32) (j i : Nat), pm_w2 f 38 k v (dr d + j) i = f (dr d + j) i := fun f k v j i => w2_a (by omega)
  refine ⟨pm_w2 (pm_w2 (pm_w2 (pm_w2 (pm_w2 (pm_w2 (pm_w2 (pm_w2 im 38 0 (nI t)) 38 1 (iab (σ 135 (40 * d + t)))) 38 2 (trs σ d (t + 1))) 38 3 (σ 136 (40 * d + t))) 38 4 (σ 137 (40 * d + t))) 38 5 (σ 133 (40 * d + t))) 38 6 (σ 134 (40 * d + t))) 38 7 (sot σ d t), ?_, ?_, ?_, ?_⟩
  · simp only [s6_0, s6_1, s6_2, s6_3, s6_4, s6_5, s6_6, s6_7, s6_10, s6_11, s6_12, s6_15, s6_16, s6_17, s6_18, s6_19, s6_22, s6_23, s6_24, s6_25, s6_26, s6_27, s6_28, s6_31, s6_32, s6_33, s6_34, s6_35, s6_36, s6_37, s6_40, s6_41, s6_42, s6_43, s6_44, s6_45, s6_46, s6_49, s6_50, s6_51, s6_52, s6_53, s6_55, s6_56, s6_59, s6_60, s6_61, s6_62, s6_63, s6_65, s6_66, s6_69, s6_70, s6_71, s6_72, ↓reduceIte, Option.bind_some, Option.toList, List.cons_append, List.nil_append, bB_0, bB_z, z01_0, z01_1, n01, n00, pm_ro_some, reduceCtorEq, if_true, if_false, and_self, and_true, true_and, not_true, not_false_eq_true, Nat.reduceLeDiff, Nat.reduceAdd, kdX, dm, ix (show t < 40 by omega), ww, rw1, rw2, rw3, rw4, rw5, rw6, rw7, c174, ix (show 0 < 8 by omega), ix (show 1 < 8 by omega), ix (show 2 < 8 by omega), ix (show 3 < 8 by omega), ix (show 4 < 8 by omega), ix (show 5 < 8 by omega), ix (show 6 < 8 by omega), ix (show 7 < 8 by omega)]
  · exact (((((((hs.w (by omega)).w (by omega)).w (by omega)).w (by omega)).w (by omega)).w (by omega)).w (by omega)).w (by omega)
  · intro r hr
    rcases (show r = 0 ∨ r = 1 ∨ r = 2 ∨ r = 3 ∨ r = 4 ∨ r = 5 ∨ r = 6 ∨ r = 7 by omega) with rfl | rfl | rfl | rfl | rfl | rfl | rfl | rfl <;> simp (disch := omega) only [w2_n, w2_s, rdg, whl]
  · intro b i hb
    simp (disch := omega) only [w2_n]
theorem c114 (hr : rmM rm) (hs : SS σ im) {d t : Nat} (hd : d < 6) (ht : t ≤ 40) : ev 114 0 [.ref 129, .int (nI d), .int (nI t), pm_u, pm_u] [] im rm = some (some (.int (sot σ d t)), im, rm) := by
  have key : ∀ i, i ≤ t → ev 114 5 [.ref 129, .int (nI d), .int (nI t), .int (sot σ d i), .int (nI i)] [] im rm = some (some (.int (sot σ d t)), im, rm) := by
    refine dn ?_ ?_
    · simp only [s114_0, s114_1, s114_2, s114_3, s114_5, s114_7, s114_8, s114_11, s114_12, s114_13, s114_16, s114_18, s114_19, s114_20, s114_22, s114_23, s114_24, s114_26, s114_27, s114_28, s114_29, s114_30, s114_31, s114_34, s114_35, s114_36, s114_39, s114_40, s114_43, s114_44, s114_45, s114_48, s114_51, s114_52, ↓reduceIte, Option.bind_some, Option.toList, List.cons_append, List.nil_append, bB_0, bB_z, z01_0, z01_1, n01, n00, pm_ro_some, reduceCtorEq, if_true, if_false, and_self, and_true, true_and, not_true, not_false_eq_true, Nat.reduceLeDiff, Nat.reduceAdd, kdM, lpT]
    · intro i hi ih
      rw [← ih, s114_5]
      have e : sot σ d (i + 1) = if σ 139 1 < sot σ d i + σ 134 (40 * d + i) / nI 8 then nI 0 else sot σ d i + σ 134 (40 * d + i) / nI 8 := rfl
      rw [e]
      by_cases h : σ 139 1 < sot σ d i + σ 134 (40 * d + i) / nI 8
      · simp only [s114_0, s114_1, s114_2, s114_3, s114_7, s114_8, s114_11, s114_12, s114_13, s114_16, s114_18, s114_19, s114_20, s114_22, s114_23, s114_24, s114_26, s114_27, s114_28, s114_29, s114_30, s114_31, s114_34, s114_35, s114_36, s114_39, s114_40, s114_43, s114_44, s114_45, s114_48, s114_51, s114_52, ↓reduceIte, Option.bind_some, Option.toList, List.cons_append, List.nil_append, bB_0, bB_z, z01_0, z01_1, n01, n00, pm_ro_some, reduceCtorEq, if_true, if_false, and_self, and_true, true_and, not_true, not_false_eq_true, Nat.reduceLeDiff, Nat.reduceAdd, kdM, hr, lpF hi (by omega), i40, ix (show 40 * d + i < 240 by omega), ix (show 1 < 4 by omega), hs.m, h, Int32.not_le.mpr h, nz8, nI_add]
      · simp only [s114_0, s114_1, s114_2, s114_3, s114_7, s114_8, s114_11, s114_12, s114_13, s114_16, s114_18, s114_19, s114_20, s114_22, s114_23, s114_24, s114_26, s114_27, s114_28, s114_29, s114_30, s114_31, s114_34, s114_35, s114_36, s114_39, s114_40, s114_43, s114_44, s114_45, s114_48, s114_51, s114_52, ↓reduceIte, Option.bind_some, Option.toList, List.cons_append, List.nil_append, bB_0, bB_z, z01_0, z01_1, n01, n00, pm_ro_some, reduceCtorEq, if_true, if_false, and_self, and_true, true_and, not_true, not_false_eq_true, Nat.reduceLeDiff, Nat.reduceAdd, kdM, hr, lpF hi (by omega), i40, ix (show 40 * d + i < 240 by omega), ix (show 1 < 4 by omega), hs.m, h, Int32.not_lt.mp h, nz8, nI_add]
  rw [← key 0 (by omega)]
  simp only [s114_0, s114_1, s114_2, s114_3]
  rfl
theorem c115 (hr : rmM rm) (hs : SS σ im) {d t r : Nat} (hd : d < 6) (ht : t < 40) (h8 : r < 8) : ev 115 0 [.ref 129, .int (nI d), .int (nI t), .int (nI r), pm_u, pm_u, pm_u] [] im rm = some (some (.int (rdg σ d t r)), im, rm) := by
  have key : ∀ i, i ≤ t + 1 → ev 115 68 [.ref 129, .int (nI d), .int (nI t), pm_u, pm_u, .int (trs σ d i), .int (nI i)] [] im rm = some (some (.int (trs σ d (t + 1))), im, rm) := by
    refine dn ?_ ?_
    · simp only [s115_0, s115_2, s115_3, s115_4, s115_5, s115_6, s115_8, s115_9, s115_11, s115_12_0, s115_12_1, s115_12_2, s115_12_3, s115_12_4, s115_12_5, s115_12_6, s115_12_o, s115_56, s115_57, s115_58, s115_59, s115_60, s115_61, s115_64, s115_65, s115_66, s115_68, s115_70, s115_71, s115_74, s115_76, s115_77, s115_78, s115_80, s115_83, s115_84, s115_86, s115_89, s115_92, s115_94, s115_95, s115_96, s115_99, s115_101, s115_102, s115_103, s115_104, s115_107, s115_109, s115_110, s115_111, s115_112, s115_115, s115_117, s115_118, s115_119, s115_120, s115_123, s115_125, s115_126, s115_127, s115_128, s115_129, s115_130, s115_133, ↓reduceIte, Option.bind_some, Option.toList, List.cons_append, List.nil_append, bB_0, bB_z, z01_0, z01_1, n01, n00, pm_ro_some, reduceCtorEq, if_true, if_false, and_self, and_true, true_and, not_true, not_false_eq_true, Nat.reduceLeDiff, Nat.reduceAdd, kdM, lpF (show t < t + 1 by omega) (by omega)]
    · intro i hi ih
      rw [← ih, s115_68]
      simp only [s115_0, s115_2, s115_3, s115_4, s115_5, s115_6, s115_8, s115_9, s115_11, s115_12_0, s115_12_1, s115_12_2, s115_12_3, s115_12_4, s115_12_5, s115_12_6, s115_12_o, s115_56, s115_57, s115_58, s115_59, s115_60, s115_61, s115_64, s115_65, s115_66, s115_70, s115_71, s115_74, s115_76, s115_77, s115_78, s115_80, s115_83, s115_84, s115_86, s115_89, s115_92, s115_94, s115_95, s115_96, s115_99, s115_101, s115_102, s115_103, s115_104, s115_107, s115_109, s115_110, s115_111, s115_112, s115_115, s115_117, s115_118, s115_119, s115_120, s115_123, s115_125, s115_126, s115_127, s115_128, s115_129, s115_130, s115_133, ↓reduceIte, Option.bind_some, Option.toList, List.cons_append, List.nil_append, bB_0, bB_z, z01_0, z01_1, n01, n00, pm_ro_some, reduceCtorEq, if_true, if_false, and_self, and_true, true_and, not_true, not_false_eq_true, Nat.reduceLeDiff, Nat.reduceAdd, kdM, hr, lpG (show i ≤ t by omega) (by omega), c113 hr hs hd (show i < 40 by omega), nI_add]
      rfl
  have k0 := key 0 (by omega)
  have e0 : trs σ d 0 = nI 0 := rfl
  rw [e0] at k0
  rcases (show r = 0 ∨ r = 1 ∨ r = 2 ∨ r = 3 ∨ r = 4 ∨ r = 5 ∨ r = 6 ∨ r = 7 by omega) with rfl | rfl | rfl | rfl | rfl | rfl | rfl | rfl
  all_goals simp only [s115_0, s115_2, s115_3, s115_4, s115_5, s115_6, s115_8, s115_9, s115_11, s115_12_0, s115_12_1, s115_12_2, s115_12_3, s115_12_4, s115_12_5, s115_12_6, s115_12_o, s115_56, s115_57, s115_58, s115_59, s115_60, s115_61, s115_64, s115_65, s115_66, s115_70, s115_71, s115_74, s115_76, s115_77, s115_78, s115_80, s115_83, s115_84, s115_86, s115_89, s115_92, s115_94, s115_95, s115_96, s115_99, s115_101, s115_102, s115_103, s115_104, s115_107, s115_109, s115_110, s115_111, s115_112, s115_115, s115_117, s115_118, s115_119, s115_120, s115_123, s115_125, s115_126, s115_127, s115_128, s115_129, s115_130, s115_133, ↓reduceIte, Option.bind_some, Option.toList, List.cons_append, List.nil_append, bB_0, bB_z, z01_0, z01_1, n01, n00, pm_ro_some, reduceCtorEq, if_true, if_false, and_self, and_true, true_and, not_true, not_false_eq_true, Nat.reduceLeDiff, Nat.reduceAdd, kdM, hr, i40, ix (show 40 * d + t < 240 by omega), hs.m, c113 hr hs hd ht, c114 hr hs hd (show t ≤ 40 by omega), k0, show (nI 7).toInt = 7 from by decide, show ((7 : Int) < 0 ∨ (6 : Int) < 7) = True from by decide, rdg]
theorem p45 (hI : INV im rm pp ll) (d t r : Int32) : PAIR 45 [.ref 0, .int d, .int t, .int r] 116 [.ref 129, .int d, .int t, .int r] im rm := by
  have hx := hI.x
  have hm := hI.m
  have a1 := c77 hI (SS.rf) d t
  by_cases g0 : tkk im d t = true
  rotate_left
  · exact PAIR.q hI (-2) ⟨im, by simp only [s45_0, s45_1, s45_2, s45_3, s45_6, s45_9, s45_11, s45_12, s45_13, s45_15, s45_18, s45_21, s45_23, s45_24, s45_25, s45_28, s45_29, s45_30, s45_31, s45_32, s45_35, s45_38, s45_39, s45_42, s45_43, s45_44, ↓reduceIte, Option.bind_some, Option.toList, List.cons_append, List.nil_append, bB_0, bB_z, z01_0, z01_1, n01, n00, pm_ro_some, reduceCtorEq, if_true, if_false, and_self, and_true, true_and, not_true, not_false_eq_true, Nat.reduceLeDiff, Nat.reduceAdd, kdX, a1, hx, g0], SS.rf⟩ (fun im1 s1 => ⟨im1, by simp only [s116_0, s116_1, s116_2, s116_3, s116_6, s116_9, s116_11, s116_12, s116_13, s116_14, s116_15, s116_18, s116_21, s116_24, s116_25, s116_26, s116_27, s116_28, s116_31, s116_34, s116_36, ↓reduceIte, Option.bind_some, Option.toList, List.cons_append, List.nil_append, bB_0, bB_z, z01_0, z01_1, n01, n00, pm_ro_some, reduceCtorEq, if_true, if_false, and_self, and_true, true_and, not_true, not_false_eq_true, Nat.reduceLeDiff, Nat.reduceAdd, kdM, c108 hI s1, hm, g0], s1⟩)
  by_cases g1 : pm_in r 8 = true
  rotate_left
  · exact PAIR.q hI (-3) ⟨im, by simp only [s45_0, s45_1, s45_2, s45_3, s45_6, s45_9, s45_11, s45_12, s45_13, s45_15, s45_18, s45_21, s45_23, s45_24, s45_25, s45_28, s45_29, s45_30, s45_31, s45_32, s45_35, s45_38, s45_39, s45_42, s45_43, s45_44, ↓reduceIte, Option.bind_some, Option.toList, List.cons_append, List.nil_append, bB_0, bB_z, z01_0, z01_1, n01, n00, pm_ro_some, reduceCtorEq, if_true, if_false, and_self, and_true, true_and, not_true, not_false_eq_true, Nat.reduceLeDiff, Nat.reduceAdd, kdX, a1, hx, g0, b75_8, g1], SS.rf⟩ (fun im1 s1 => ⟨im1, by simp only [s116_0, s116_1, s116_2, s116_3, s116_6, s116_9, s116_11, s116_12, s116_13, s116_14, s116_15, s116_18, s116_21, s116_24, s116_25, s116_26, s116_27, s116_28, s116_31, s116_34, s116_36, ↓reduceIte, Option.bind_some, Option.toList, List.cons_append, List.nil_append, bB_0, bB_z, z01_0, z01_1, n01, n00, pm_ro_some, reduceCtorEq, if_true, if_false, and_self, and_true, true_and, not_true, not_false_eq_true, Nat.reduceLeDiff, Nat.reduceAdd, kdM, c108 hI s1, hm, g0, c104, inLs, g1], s1⟩)
  have g0' := g0
  unfold tkk at g0'
  rw [Bool.and_eq_true] at g0'
  obtain ⟨j, hj, rfl⟩ := pm_in_ex g0'.1 (by decide)
  rw [nI_clamp (by omega)] at g0'
  have D := hI.d j hj
  have n40 := D.n40
  obtain ⟨i, hi, rfl⟩ := pm_in_ex g0'.2 (by omega)
  obtain ⟨k, hk, rfl⟩ := pm_in_ex g1 (by decide)
  obtain ⟨im1, e1, e2, e3, e4⟩ := c6 hI SS.rf hj hi
  refine PAIR.q hI (rdg im j i k) ⟨im1, ?_, e2⟩ (fun im2 s2 => ⟨im2, ?_, s2⟩)
  · simp only [s45_0, s45_1, s45_2, s45_3, s45_6, s45_9, s45_11, s45_12, s45_13, s45_15, s45_18, s45_21, s45_23, s45_24, s45_25, s45_28, s45_29, s45_30, s45_31, s45_32, s45_35, s45_38, s45_39, s45_42, s45_43, s45_44, ↓reduceIte, Option.bind_some, Option.toList, List.cons_append, List.nil_append, bB_0, bB_z, z01_0, z01_1, n01, n00, pm_ro_some, reduceCtorEq, if_true, if_false, and_self, and_true, true_and, not_true, not_false_eq_true, Nat.reduceLeDiff, Nat.reduceAdd, kdX, a1, hx, g0, b75_8, g1, hI.dm hj, ix hj, ix hk, e1, e3 k hk]
  · simp only [s116_0, s116_1, s116_2, s116_3, s116_6, s116_9, s116_11, s116_12, s116_13, s116_14, s116_15, s116_18, s116_21, s116_24, s116_25, s116_26, s116_27, s116_28, s116_31, s116_34, s116_36, ↓reduceIte, Option.bind_some, Option.toList, List.cons_append, List.nil_append, bB_0, bB_z, z01_0, z01_1, n01, n00, pm_ro_some, reduceCtorEq, if_true, if_false, and_self, and_true, true_and, not_true, not_false_eq_true, Nat.reduceLeDiff, Nat.reduceAdd, kdM, c108 hI s2, hm, g0, c104, inLs, g1, c115 hm s2 hj (show i < 40 by omega) hk]
end RDG
