-- needs: 38 39
/-! drive, dose, cars, cost, months, erase, write: both sides. -/
section SIM
variable {im : IM} {rm : RM} {pp ll : Nat → Nat}
theorem p41 (hI : INV im rm pp ll) (d x y : Int32) : PAIR 41 [.ref 0, .int d, .int x, .int y] 109 [.ref 129, .int d, .int x, .int y] im rm := by
  have A := c41 (im := im) hI.x d x y
  have B := fun im1 : IM => c109 (im := im1) hI.m d x y
  by_cases g0 : pm_in d 6 = true ∧ pm_in y 4 = true
  rotate_left
  · rw [if_neg g0] at A
    simp only [if_neg g0] at B
    exact PAIR.q hI (-2) ⟨im, A, SS.rf⟩ (fun im1 s1 => ⟨im1, B im1, s1⟩)
  rw [if_pos g0] at A
  simp only [if_pos g0] at B
  by_cases g1 : pm_in x 2 = true
  rotate_left
  · rw [if_neg g1] at A
    simp only [if_neg g1] at B
    exact PAIR.q hI (-3) ⟨im, A, SS.rf⟩ (fun im1 s1 => ⟨im1, B im1, s1⟩)
  rw [if_pos g1] at A
  simp only [if_pos g1] at B
  obtain ⟨j, hj, rfl⟩ := pm_in_ex g0.1 (by decide)
  rw [nI_clamp (by omega)] at A
  simp only [nI_clamp (show j < 2 ^ 31 by omega)] at B
  have hdr : dr j = 51 + 8 * j := rfl
  refine ⟨nI 1, _, rm, _, rm, pp, ll, A, B _, ?_⟩
  generalize hw : pm_w2 (pm_w2 (pm_w2 (pm_w2 (pm_w2 (pm_w2 im (dr j) 0 x) (dr j) 1 y) (dr j) 2 (nI 0)) 130 j x) 131 j y) 132 j (nI 0) = im2
  have E : ∀ b k, ¬ (b = dr j ∧ k ≤ 2) ∧ ¬ (130 ≤ b ∧ b ≤ 132 ∧ k = j) → im2 b k = im b k := by
    intro b k h
    rw [← hw]
    simp (disch := omega) only [w2_n]
  refine ⟨?_, hI.s.cg (fun a i q => E a i (by omega)), hI.o.cg (fun a i q => E a i (by omega)), hI.t.cg (fun a i q => E a i (by omega)), fun v hv => (hI.p v hv).cg (fun k i hk => E _ _ (by have := hI.r.p v (by omega); omega)) (E _ _ (by omega)) (fun i hi => ⟨E _ _ (by omega), E _ _ (by omega)⟩) (fun i hi => ⟨E _ _ (by omega), E _ _ (by omega), E _ _ (by omega)⟩), fun v hv => (hI.l v hv).cg (fun k i hk => E _ _ (by have := hI.r.l v (by omega); omega)) (E _ _ (by omega)) (fun i hi => ⟨E _ _ (by omega), E _ _ (by omega)⟩), hI.e.cg (fun a i q => E a i (by omega)), hI.c.cg (fun a i q => E a i (by omega)), hI.n.cg (fun a i q => E a i (by omega)), hI.q.cg (fun a i q => E a i (by omega)), hI.r, hI.x, hI.m⟩
  intro d hd
  by_cases e : d = j
  · subst e
    have D := hI.d d hd
    have q : im2 (dr d) 0 = x ∧ im2 (dr d) 1 = y ∧ im2 (dr d) 2 = nI 0 ∧ im2 130 d = x ∧ im2 131 d = y ∧ im2 132 d = nI 0 := by
      rw [← hw]
      simp (disch := omega) only [w2_n, w2_s, and_self]
    have et : tk im2 d = 0 := by unfold tk; rw [q.2.2.2.2.2, nI_clamp (by decide)]
    refine ⟨by rw [q.1, q.2.2.2.1], by rw [q.2.1, q.2.2.2.2.1], by rw [q.2.2.1, et], ?_, by rw [q.2.2.2.1]; exact g1, by rw [q.2.2.2.2.1]; exact g0.2, ?_, by rw [q.2.2.2.2.2, et], by omega, fun t ht => absurd ht (by omega), fun t ht => absurd ht (by omega)⟩
    · rw [E _ _ (by omega), E 155 d (by omega)]; exact D.lc
    · rw [E 155 d (by omega)]; exact D.lc9
  · exact (hI.d d hd).cg (fun k i hk => E _ _ (by unfold dr; omega)) ⟨E _ _ (by omega), E _ _ (by omega), E _ _ (by omega), E _ _ (by omega)⟩ (fun t ht => ⟨E _ _ (by omega), E _ _ (by omega), E _ _ (by omega), E _ _ (by omega), E _ _ (by omega)⟩) (E _ _ (by omega))
theorem i4 (d t : Nat) : nI 4 * nI d + nI t = nI (4 * d + t) := by rw [pk_mul, nI_add]
theorem p43 (hI : INV im rm pp ll) (m c x : Int32) : PAIR 43 [.ref 0, .int m, .int c, .int x] 111 [.ref 129, .int m, .int c, .int x, pm_u] im rm := by
  have hx := hI.x
  have hm := hI.m
  by_cases g0 : pm_in m 4 = true
  rotate_left
  · exact PAIR.q hI (-2) ⟨im, by simp only [s43_0, s43_1, s43_2, s43_5, s43_8, s43_10, s43_11, s43_12, s43_13, s43_16, s43_19, s43_20, s43_22, s43_25, s43_28, s43_30, s43_31, s43_32, s43_35, s43_36, s43_37, s43_38, s43_39, s43_42, ↓reduceIte, Option.bind_some, Option.toList, List.cons_append, List.nil_append, bB_0, bB_z, z01_0, z01_1, n01, n00, pm_ro_some, reduceCtorEq, if_true, if_false, and_self, and_true, true_and, not_true, not_false_eq_true, Nat.reduceLeDiff, Nat.reduceAdd, kdX, b75_4, b76, hx, g0], SS.rf⟩ (fun im1 s1 => ⟨im1, by simp only [s111_0, s111_1, s111_4, s111_7, s111_9, s111_10, s111_11, s111_14, s111_17, s111_18, s111_19, s111_20, s111_23, s111_26, s111_29, s111_31, s111_32, s111_33, s111_36, s111_37, s111_38, s111_39, s111_40, s111_41, s111_42, s111_44, s111_45, s111_48, s111_49, s111_50, s111_51, s111_52, s111_53, s111_54, s111_55, s111_57, ↓reduceIte, Option.bind_some, Option.toList, List.cons_append, List.nil_append, bB_0, bB_z, z01_0, z01_1, n01, n00, pm_ro_some, reduceCtorEq, if_true, if_false, and_self, and_true, true_and, not_true, not_false_eq_true, Nat.reduceLeDiff, Nat.reduceAdd, kdM, c106, c104, inLs, hm, g0], s1⟩)
  by_cases g1 : pm_in c 4 = true
  rotate_left
  · exact PAIR.q hI (-3) ⟨im, by simp only [s43_0, s43_1, s43_2, s43_5, s43_8, s43_10, s43_11, s43_12, s43_13, s43_16, s43_19, s43_20, s43_22, s43_25, s43_28, s43_30, s43_31, s43_32, s43_35, s43_36, s43_37, s43_38, s43_39, s43_42, ↓reduceIte, Option.bind_some, Option.toList, List.cons_append, List.nil_append, bB_0, bB_z, z01_0, z01_1, n01, n00, pm_ro_some, reduceCtorEq, if_true, if_false, and_self, and_true, true_and, not_true, not_false_eq_true, Nat.reduceLeDiff, Nat.reduceAdd, kdX, b75_4, b76, hx, g0, g1], SS.rf⟩ (fun im1 s1 => ⟨im1, by simp only [s111_0, s111_1, s111_4, s111_7, s111_9, s111_10, s111_11, s111_14, s111_17, s111_18, s111_19, s111_20, s111_23, s111_26, s111_29, s111_31, s111_32, s111_33, s111_36, s111_37, s111_38, s111_39, s111_40, s111_41, s111_42, s111_44, s111_45, s111_48, s111_49, s111_50, s111_51, s111_52, s111_53, s111_54, s111_55, s111_57, ↓reduceIte, Option.bind_some, Option.toList, List.cons_append, List.nil_append, bB_0, bB_z, z01_0, z01_1, n01, n00, pm_ro_some, reduceCtorEq, if_true, if_false, and_self, and_true, true_and, not_true, not_false_eq_true, Nat.reduceLeDiff, Nat.reduceAdd, kdM, c106, c104, inLs, hm, g0, g1], s1⟩)
  by_cases g2 : pm_in x 61 = true
  rotate_left
  · exact PAIR.q hI (-3) ⟨im, by simp only [s43_0, s43_1, s43_2, s43_5, s43_8, s43_10, s43_11, s43_12, s43_13, s43_16, s43_19, s43_20, s43_22, s43_25, s43_28, s43_30, s43_31, s43_32, s43_35, s43_36, s43_37, s43_38, s43_39, s43_42, ↓reduceIte, Option.bind_some, Option.toList, List.cons_append, List.nil_append, bB_0, bB_z, z01_0, z01_1, n01, n00, pm_ro_some, reduceCtorEq, if_true, if_false, and_self, and_true, true_and, not_true, not_false_eq_true, Nat.reduceLeDiff, Nat.reduceAdd, kdX, b75_4, b76, hx, g0, g1, g2], SS.rf⟩ (fun im1 s1 => ⟨im1, by simp only [s111_0, s111_1, s111_4, s111_7, s111_9, s111_10, s111_11, s111_14, s111_17, s111_18, s111_19, s111_20, s111_23, s111_26, s111_29, s111_31, s111_32, s111_33, s111_36, s111_37, s111_38, s111_39, s111_40, s111_41, s111_42, s111_44, s111_45, s111_48, s111_49, s111_50, s111_51, s111_52, s111_53, s111_54, s111_55, s111_57, ↓reduceIte, Option.bind_some, Option.toList, List.cons_append, List.nil_append, bB_0, bB_z, z01_0, z01_1, n01, n00, pm_ro_some, reduceCtorEq, if_true, if_false, and_self, and_true, true_and, not_true, not_false_eq_true, Nat.reduceLeDiff, Nat.reduceAdd, kdM, c106, c104, inLs, hm, g0, g1, g2], s1⟩)
  obtain ⟨i, hi, rfl⟩ := pm_in_ex g0 (by decide)
  obtain ⟨j, hj, rfl⟩ := pm_in_ex g1 (by decide)
  have hk : kd (7 + i) = 0 ∧ ln (7 + i) = 4 := by
    rcases (show i = 0 ∨ i = 1 ∨ i = 2 ∨ i = 3 by omega) with rfl | rfl | rfl | rfl <;> simp only [Nat.reduceAdd, kdX, and_self]
  have hq : rm 6 i = some (7 + i) := hx.2.2.2.2.2.1 i hi
  refine ⟨im (7 + i) j, pm_w2 im (7 + i) j x, rm, pm_w2 (pm_w2 im (7 + i) j x) 138 (4 * i + j) x, rm, pp, ll, ?_, ?_, ?_⟩
  · simp only [s43_0, s43_1, s43_2, s43_5, s43_8, s43_10, s43_11, s43_12, s43_13, s43_16, s43_19, s43_20, s43_22, s43_25, s43_28, s43_30, s43_31, s43_32, s43_35, s43_36, s43_37, s43_38, s43_39, s43_42, ↓reduceIte, Option.bind_some, Option.toList, List.cons_append, List.nil_append, bB_0, bB_z, z01_0, z01_1, n01, n00, pm_ro_some, reduceCtorEq, if_true, if_false, and_self, and_true, true_and, not_true, not_false_eq_true, Nat.reduceLeDiff, Nat.reduceAdd, kdX, b75_4, b76, hx, g0, g1, g2, ix hi, hq, c78 hk.1 hk.2 (by decide) hj]
  · simp only [s111_0, s111_1, s111_4, s111_7, s111_9, s111_10, s111_11, s111_14, s111_17, s111_18, s111_19, s111_20, s111_23, s111_26, s111_29, s111_31, s111_32, s111_33, s111_36, s111_37, s111_38, s111_39, s111_40, s111_41, s111_42, s111_44, s111_45, s111_48, s111_49, s111_50, s111_51, s111_52, s111_53, s111_54, s111_55, s111_57, ↓reduceIte, Option.bind_some, Option.toList, List.cons_append, List.nil_append, bB_0, bB_z, z01_0, z01_1, n01, n00, pm_ro_some, reduceCtorEq, if_true, if_false, and_self, and_true, true_and, not_true, not_false_eq_true, Nat.reduceLeDiff, Nat.reduceAdd, kdM, c106, c104, inLs, hm, g0, g1, g2, i4, ix (show 4 * i + j < 16 by omega), w2_a (show 138 ≠ 7 + i by omega), (hI.o i j hi hj).1]
  · generalize hw : pm_w2 (pm_w2 im (7 + i) j x) 138 (4 * i + j) x = im2
    have E : ∀ b k, ¬ (b = 7 + i ∧ k = j) ∧ ¬ (b = 138 ∧ k = 4 * i + j) → im2 b k = im b k := by
      intro b k h
      rw [← hw]
      simp (disch := omega) only [w2_n]
    refine ⟨fun d hd => (hI.d d hd).cg (fun k i hk => E _ _ (by unfold dr; omega)) ⟨E _ _ (by omega), E _ _ (by omega), E _ _ (by omega), E _ _ (by omega)⟩ (fun t ht => ⟨E _ _ (by omega), E _ _ (by omega), E _ _ (by omega), E _ _ (by omega), E _ _ (by omega)⟩) (E _ _ (by omega)), hI.s.cg (fun a i q => E a i (by omega)), ?_, hI.t.cg (fun a i q => E a i (by omega)), fun v hv => (hI.p v hv).cg (fun k i hk => E _ _ (by have := hI.r.p v (by omega); omega)) (E _ _ (by omega)) (fun i hi => ⟨E _ _ (by omega), E _ _ (by omega)⟩) (fun i hi => ⟨E _ _ (by omega), E _ _ (by omega), E _ _ (by omega)⟩), fun v hv => (hI.l v hv).cg (fun k i hk => E _ _ (by have := hI.r.l v (by omega); omega)) (E _ _ (by omega)) (fun i hi => ⟨E _ _ (by omega), E _ _ (by omega)⟩), hI.e.cg (fun a i q => E a i (by omega)), hI.c.cg (fun a i q => E a i (by omega)), hI.n.cg (fun a i q => E a i (by omega)), hI.q.cg (fun a i q => E a i (by omega)), hI.r, hI.x, hI.m⟩
    intro a c ha hc
    by_cases e : a = i ∧ c = j
    · rw [e.1, e.2, ← hw]
      simp (disch := omega) only [w2_n, w2_s, g2, and_self]
    · rw [E _ _ (by omega), E 138 _ (by omega)]
      exact hI.o a c ha hc
theorem p64 (hI : INV im rm pp ll) (v w x : Int32) : PAIR 64 [.ref 0, .int v, .int w, .int x] 161 [.ref 129, .int v, .int w, .int x, pm_u] im rm := by
  have hx := hI.x
  have hm := hI.m
  by_cases g0 : pm_in v 4 = true
  rotate_left
  · exact PAIR.q hI (-2) ⟨im, by simp only [s64_0, s64_1, s64_2, s64_5, s64_8, s64_10, s64_11, s64_12, s64_13, s64_16, s64_19, s64_20, s64_21, s64_24, s64_27, s64_30, s64_33, s64_36, s64_39, s64_41, s64_42, s64_43, s64_46, s64_47, s64_50, s64_53, s64_54, s64_57, s64_58, s64_59, s64_62, ↓reduceIte, Option.bind_some, Option.toList, List.cons_append, List.nil_append, bB_0, bB_z, z01_0, z01_1, n01, n00, pm_ro_some, reduceCtorEq, if_true, if_false, and_self, and_true, true_and, not_true, not_false_eq_true, Nat.reduceLeDiff, Nat.reduceAdd, kdX, b75_4, b75_2, b76, hx, g0], SS.rf⟩ (fun im1 s1 => ⟨im1, by simp only [s161_0, s161_1, s161_4, s161_7, s161_9, s161_10, s161_11, s161_12, s161_13, s161_14, s161_17, s161_20, s161_21, s161_22, s161_23, s161_24, s161_27, s161_30, s161_33, s161_36, s161_39, s161_42, s161_44, s161_45, s161_46, s161_49, s161_50, s161_53, s161_54, s161_55, s161_58, s161_59, s161_62, s161_63, s161_64, s161_66, s161_67, s161_70, s161_71, s161_72, s161_75, s161_76, s161_79, s161_80, s161_83, s161_84, s161_85, s161_86, s161_87, s161_90, s161_91, s161_92, s161_93, s161_96, s161_97, s161_100, s161_101, s161_104, s161_105, s161_106, s161_107, s161_109, ↓reduceIte, Option.bind_some, Option.toList, List.cons_append, List.nil_append, bB_0, bB_z, z01_0, z01_1, n01, n00, pm_ro_some, reduceCtorEq, if_true, if_false, and_self, and_true, true_and, not_true, not_false_eq_true, Nat.reduceLeDiff, Nat.reduceAdd, kdM, c106, c104, inLs, hm, g0], s1⟩)
  by_cases g1 : pm_in w 2 = true
  rotate_left
  · exact PAIR.q hI (-3) ⟨im, by simp only [s64_0, s64_1, s64_2, s64_5, s64_8, s64_10, s64_11, s64_12, s64_13, s64_16, s64_19, s64_20, s64_21, s64_24, s64_27, s64_30, s64_33, s64_36, s64_39, s64_41, s64_42, s64_43, s64_46, s64_47, s64_50, s64_53, s64_54, s64_57, s64_58, s64_59, s64_62, ↓reduceIte, Option.bind_some, Option.toList, List.cons_append, List.nil_append, bB_0, bB_z, z01_0, z01_1, n01, n00, pm_ro_some, reduceCtorEq, if_true, if_false, and_self, and_true, true_and, not_true, not_false_eq_true, Nat.reduceLeDiff, Nat.reduceAdd, kdX, b75_4, b75_2, b76, hx, g0, g1], SS.rf⟩ (fun im1 s1 => ⟨im1, by simp only [s161_0, s161_1, s161_4, s161_7, s161_9, s161_10, s161_11, s161_12, s161_13, s161_14, s161_17, s161_20, s161_21, s161_22, s161_23, s161_24, s161_27, s161_30, s161_33, s161_36, s161_39, s161_42, s161_44, s161_45, s161_46, s161_49, s161_50, s161_53, s161_54, s161_55, s161_58, s161_59, s161_62, s161_63, s161_64, s161_66, s161_67, s161_70, s161_71, s161_72, s161_75, s161_76, s161_79, s161_80, s161_83, s161_84, s161_85, s161_86, s161_87, s161_90, s161_91, s161_92, s161_93, s161_96, s161_97, s161_100, s161_101, s161_104, s161_105, s161_106, s161_107, s161_109, ↓reduceIte, Option.bind_some, Option.toList, List.cons_append, List.nil_append, bB_0, bB_z, z01_0, z01_1, n01, n00, pm_ro_some, reduceCtorEq, if_true, if_false, and_self, and_true, true_and, not_true, not_false_eq_true, Nat.reduceLeDiff, Nat.reduceAdd, kdM, c106, c104, inLs, hm, g0, g1], s1⟩)
  obtain ⟨i, hi, rfl⟩ := pm_in_ex g0 (by decide)
  obtain ⟨j, hj, rfl⟩ := pm_in_ex g1 (by decide)
  have k12 : kd 12 = 0 ∧ ln 12 = 4 ∧ kd 13 = 0 ∧ ln 13 = 4 := by simp only [kdX, and_self]
  rcases (show j = 0 ∨ j = 1 by omega) with rfl | rfl
  · by_cases g2 : pm_in x 10000 = true
    rotate_left
    · exact PAIR.q hI (-3) ⟨im, by simp only [s64_0, s64_1, s64_2, s64_5, s64_8, s64_10, s64_11, s64_12, s64_13, s64_16, s64_19, s64_20, s64_21, s64_24, s64_27, s64_30, s64_33, s64_36, s64_39, s64_41, s64_42, s64_43, s64_46, s64_47, s64_50, s64_53, s64_54, s64_57, s64_58, s64_59, s64_62, ↓reduceIte, Option.bind_some, Option.toList, List.cons_append, List.nil_append, bB_0, bB_z, z01_0, z01_1, n01, n00, pm_ro_some, reduceCtorEq, if_true, if_false, and_self, and_true, true_and, not_true, not_false_eq_true, Nat.reduceLeDiff, Nat.reduceAdd, kdX, b75_4, b75_2, b76, hx, g0, g1, g2], SS.rf⟩ (fun im1 s1 => ⟨im1, by simp only [s161_0, s161_1, s161_4, s161_7, s161_9, s161_10, s161_11, s161_12, s161_13, s161_14, s161_17, s161_20, s161_21, s161_22, s161_23, s161_24, s161_27, s161_30, s161_33, s161_36, s161_39, s161_42, s161_44, s161_45, s161_46, s161_49, s161_50, s161_53, s161_54, s161_55, s161_58, s161_59, s161_62, s161_63, s161_64, s161_66, s161_67, s161_70, s161_71, s161_72, s161_75, s161_76, s161_79, s161_80, s161_83, s161_84, s161_85, s161_86, s161_87, s161_90, s161_91, s161_92, s161_93, s161_96, s161_97, s161_100, s161_101, s161_104, s161_105, s161_106, s161_107, s161_109, ↓reduceIte, Option.bind_some, Option.toList, List.cons_append, List.nil_append, bB_0, bB_z, z01_0, z01_1, n01, n00, pm_ro_some, reduceCtorEq, if_true, if_false, and_self, and_true, true_and, not_true, not_false_eq_true, Nat.reduceLeDiff, Nat.reduceAdd, kdM, c106, c104, inLs, hm, g0, g1, g2], s1⟩)
    have C := hI.c i hi
    refine ⟨im 12 i, pm_w2 im 12 i x, rm, pm_w2 (pm_w2 (pm_w2 im 12 i x) 153 i x) 154 i (im 154 i), rm, pp, ll, ?_, ?_, ?_⟩
    · simp only [s64_0, s64_1, s64_2, s64_5, s64_8, s64_10, s64_11, s64_12, s64_13, s64_16, s64_19, s64_20, s64_21, s64_24, s64_27, s64_30, s64_33, s64_36, s64_39, s64_41, s64_42, s64_43, s64_46, s64_47, s64_50, s64_53, s64_54, s64_57, s64_58, s64_59, s64_62, ↓reduceIte, Option.bind_some, Option.toList, List.cons_append, List.nil_append, bB_0, bB_z, z01_0, z01_1, n01, n00, pm_ro_some, reduceCtorEq, if_true, if_false, and_self, and_true, true_and, not_true, not_false_eq_true, Nat.reduceLeDiff, Nat.reduceAdd, kdX, b75_4, b75_2, b76, hx, g0, g1, g2, ix hi, c78 k12.1 k12.2.1 (by decide) hi]
    · simp only [s161_0, s161_1, s161_4, s161_7, s161_9, s161_10, s161_11, s161_12, s161_13, s161_14, s161_17, s161_20, s161_21, s161_22, s161_23, s161_24, s161_27, s161_30, s161_33, s161_36, s161_39, s161_42, s161_44, s161_45, s161_46, s161_49, s161_50, s161_53, s161_54, s161_55, s161_58, s161_59, s161_62, s161_63, s161_64, s161_66, s161_67, s161_70, s161_71, s161_72, s161_75, s161_76, s161_79, s161_80, s161_83, s161_84, s161_85, s161_86, s161_87, s161_90, s161_91, s161_92, s161_93, s161_96, s161_97, s161_100, s161_101, s161_104, s161_105, s161_106, s161_107, s161_109, ↓reduceIte, Option.bind_some, Option.toList, List.cons_append, List.nil_append, bB_0, bB_z, z01_0, z01_1, n01, n00, pm_ro_some, reduceCtorEq, if_true, if_false, and_self, and_true, true_and, not_true, not_false_eq_true, Nat.reduceLeDiff, Nat.reduceAdd, kdM, c106, c104, inLs, hm, g0, g1, g2, ix hi, w2_a (show 153 ≠ 12 by omega), w2_a (show 154 ≠ 12 by omega), w2_a (show 154 ≠ 153 by omega), C.1, show (nI 0 = nI 1) = False from by decide]
    · generalize hw : pm_w2 (pm_w2 (pm_w2 im 12 i x) 153 i x) 154 i (im 154 i) = im2
      have E : ∀ b k, ¬ (b = 12 ∧ k = i) ∧ ¬ (b = 153 ∧ k = i) → im2 b k = im b k := by
        intro b k h
        rw [← hw]
        by_cases e : b = 154 ∧ k = i
        · rw [e.1, e.2, w2_s]
        · simp (disch := omega) only [w2_n]
      refine ⟨fun d hd => (hI.d d hd).cg (fun k i hk => E _ _ (by unfold dr; omega)) ⟨E _ _ (by omega), E _ _ (by omega), E _ _ (by omega), E _ _ (by omega)⟩ (fun t ht => ⟨E _ _ (by omega), E _ _ (by omega), E _ _ (by omega), E _ _ (by omega), E _ _ (by omega)⟩) (E _ _ (by omega)), hI.s.cg (fun a i q => E a i (by omega)), hI.o.cg (fun a i q => E a i (by omega)), hI.t.cg (fun a i q => E a i (by omega)), fun v hv => (hI.p v hv).cg (fun k i hk => E _ _ (by have := hI.r.p v (by omega); omega)) (E _ _ (by omega)) (fun i hi => ⟨E _ _ (by omega), E _ _ (by omega)⟩) (fun i hi => ⟨E _ _ (by omega), E _ _ (by omega), E _ _ (by omega)⟩), fun v hv => (hI.l v hv).cg (fun k i hk => E _ _ (by have := hI.r.l v (by omega); omega)) (E _ _ (by omega)) (fun i hi => ⟨E _ _ (by omega), E _ _ (by omega)⟩), hI.e.cg (fun a i q => E a i (by omega)), ?_, hI.n.cg (fun a i q => E a i (by omega)), hI.q.cg (fun a i q => E a i (by omega)), hI.r, hI.x, hI.m⟩
      intro a ha
      by_cases e : a = i
      · have w1 : im2 12 i = x ∧ im2 153 i = x := by
          rw [← hw]
          simp (disch := omega) only [w2_n, w2_s, and_self]
        rw [e, w1.1, w1.2, E 13 i (by omega), E 154 i (by omega)]
        exact ⟨rfl, g2, C.2.2⟩
      · rw [E 12 a (by omega), E 153 a (by omega), E 13 a (by omega), E 154 a (by omega)]
        exact hI.c a ha
  · by_cases g2 : pm_in x 1000 = true
    rotate_left
    · exact PAIR.q hI (-3) ⟨im, by simp only [s64_0, s64_1, s64_2, s64_5, s64_8, s64_10, s64_11, s64_12, s64_13, s64_16, s64_19, s64_20, s64_21, s64_24, s64_27, s64_30, s64_33, s64_36, s64_39, s64_41, s64_42, s64_43, s64_46, s64_47, s64_50, s64_53, s64_54, s64_57, s64_58, s64_59, s64_62, ↓reduceIte, Option.bind_some, Option.toList, List.cons_append, List.nil_append, bB_0, bB_z, z01_0, z01_1, n01, n00, pm_ro_some, reduceCtorEq, if_true, if_false, and_self, and_true, true_and, not_true, not_false_eq_true, Nat.reduceLeDiff, Nat.reduceAdd, kdX, b75_4, b75_2, b76, hx, g0, g1, g2], SS.rf⟩ (fun im1 s1 => ⟨im1, by simp only [s161_0, s161_1, s161_4, s161_7, s161_9, s161_10, s161_11, s161_12, s161_13, s161_14, s161_17, s161_20, s161_21, s161_22, s161_23, s161_24, s161_27, s161_30, s161_33, s161_36, s161_39, s161_42, s161_44, s161_45, s161_46, s161_49, s161_50, s161_53, s161_54, s161_55, s161_58, s161_59, s161_62, s161_63, s161_64, s161_66, s161_67, s161_70, s161_71, s161_72, s161_75, s161_76, s161_79, s161_80, s161_83, s161_84, s161_85, s161_86, s161_87, s161_90, s161_91, s161_92, s161_93, s161_96, s161_97, s161_100, s161_101, s161_104, s161_105, s161_106, s161_107, s161_109, ↓reduceIte, Option.bind_some, Option.toList, List.cons_append, List.nil_append, bB_0, bB_z, z01_0, z01_1, n01, n00, pm_ro_some, reduceCtorEq, if_true, if_false, and_self, and_true, true_and, not_true, not_false_eq_true, Nat.reduceLeDiff, Nat.reduceAdd, kdM, c106, c104, inLs, hm, g0, g1, g2], s1⟩)
    have C := hI.c i hi
    refine ⟨im 13 i, pm_w2 im 13 i x, rm, pm_w2 (pm_w2 (pm_w2 im 13 i x) 153 i (im 153 i)) 154 i x, rm, pp, ll, ?_, ?_, ?_⟩
    · simp only [s64_0, s64_1, s64_2, s64_5, s64_8, s64_10, s64_11, s64_12, s64_13, s64_16, s64_19, s64_20, s64_21, s64_24, s64_27, s64_30, s64_33, s64_36, s64_39, s64_41, s64_42, s64_43, s64_46, s64_47, s64_50, s64_53, s64_54, s64_57, s64_58, s64_59, s64_62, ↓reduceIte, Option.bind_some, Option.toList, List.cons_append, List.nil_append, bB_0, bB_z, z01_0, z01_1, n01, n00, pm_ro_some, reduceCtorEq, if_true, if_false, and_self, and_true, true_and, not_true, not_false_eq_true, Nat.reduceLeDiff, Nat.reduceAdd, kdX, b75_4, b75_2, b76, hx, g0, g1, g2, ix hi, c78 k12.2.2.1 k12.2.2.2 (by decide) hi]
    · simp only [s161_0, s161_1, s161_4, s161_7, s161_9, s161_10, s161_11, s161_12, s161_13, s161_14, s161_17, s161_20, s161_21, s161_22, s161_23, s161_24, s161_27, s161_30, s161_33, s161_36, s161_39, s161_42, s161_44, s161_45, s161_46, s161_49, s161_50, s161_53, s161_54, s161_55, s161_58, s161_59, s161_62, s161_63, s161_64, s161_66, s161_67, s161_70, s161_71, s161_72, s161_75, s161_76, s161_79, s161_80, s161_83, s161_84, s161_85, s161_86, s161_87, s161_90, s161_91, s161_92, s161_93, s161_96, s161_97, s161_100, s161_101, s161_104, s161_105, s161_106, s161_107, s161_109, ↓reduceIte, Option.bind_some, Option.toList, List.cons_append, List.nil_append, bB_0, bB_z, z01_0, z01_1, n01, n00, pm_ro_some, reduceCtorEq, if_true, if_false, and_self, and_true, true_and, not_true, not_false_eq_true, Nat.reduceLeDiff, Nat.reduceAdd, kdM, c106, c104, inLs, hm, g0, g1, g2, ix hi, w2_a (show 153 ≠ 13 by omega), w2_a (show 154 ≠ 13 by omega), w2_a (show 154 ≠ 153 by omega), C.2.2.1]
    · generalize hw : pm_w2 (pm_w2 (pm_w2 im 13 i x) 153 i (im 153 i)) 154 i x = im2
      have E : ∀ b k, ¬ (b = 13 ∧ k = i) ∧ ¬ (b = 154 ∧ k = i) → im2 b k = im b k := by
        intro b k h
        rw [← hw]
        by_cases e : b = 153 ∧ k = i
        · rw [e.1, e.2, w2_a (by omega), w2_s]
        · simp (disch := omega) only [w2_n]
      refine ⟨fun d hd => (hI.d d hd).cg (fun k i hk => E _ _ (by unfold dr; omega)) ⟨E _ _ (by omega), E _ _ (by omega), E _ _ (by omega), E _ _ (by omega)⟩ (fun t ht => ⟨E _ _ (by omega), E _ _ (by omega), E _ _ (by omega), E _ _ (by omega), E _ _ (by omega)⟩) (E _ _ (by omega)), hI.s.cg (fun a i q => E a i (by omega)), hI.o.cg (fun a i q => E a i (by omega)), hI.t.cg (fun a i q => E a i (by omega)), fun v hv => (hI.p v hv).cg (fun k i hk => E _ _ (by have := hI.r.p v (by omega); omega)) (E _ _ (by omega)) (fun i hi => ⟨E _ _ (by omega), E _ _ (by omega)⟩) (fun i hi => ⟨E _ _ (by omega), E _ _ (by omega), E _ _ (by omega)⟩), fun v hv => (hI.l v hv).cg (fun k i hk => E _ _ (by have := hI.r.l v (by omega); omega)) (E _ _ (by omega)) (fun i hi => ⟨E _ _ (by omega), E _ _ (by omega)⟩), hI.e.cg (fun a i q => E a i (by omega)), ?_, hI.n.cg (fun a i q => E a i (by omega)), hI.q.cg (fun a i q => E a i (by omega)), hI.r, hI.x, hI.m⟩
      intro a ha
      by_cases e : a = i
      · have w1 : im2 13 i = x ∧ im2 154 i = x := by
          rw [← hw]
          simp (disch := omega) only [w2_n, w2_s, and_self]
        rw [e, w1.1, w1.2, E 12 i (by omega), E 153 i (by omega)]
        exact ⟨C.1, C.2.1, rfl, g2⟩
      · rw [E 12 a (by omega), E 153 a (by omega), E 13 a (by omega), E 154 a (by omega)]
        exact hI.c a ha
theorem p67 (hI : INV im rm pp ll) (d x : Int32) : PAIR 67 [.ref 0, .int d, .int x, pm_u] 165 [.ref 129, .int d, .int x, pm_u] im rm := by
  have hx := hI.x
  have hm := hI.m
  by_cases g0 : pm_in d 6 = true
  rotate_left
  · exact PAIR.q hI (-2) ⟨im, by simp only [s67_0, s67_1, s67_3, s67_6, s67_9, s67_11, s67_12, s67_13, s67_15, s67_18, s67_21, s67_23, s67_24, s67_25, s67_28, s67_29, s67_30, s67_33, s67_34, s67_35, s67_38, s67_39, s67_40, s67_41, s67_44, s67_45, ↓reduceIte, Option.bind_some, Option.toList, List.cons_append, List.nil_append, bB_0, bB_z, z01_0, z01_1, n01, n00, pm_ro_some, reduceCtorEq, if_true, if_false, and_self, and_true, true_and, not_true, not_false_eq_true, Nat.reduceLeDiff, Nat.reduceAdd, kdX, b75_6, b76, hx, g0], SS.rf⟩ (fun im1 s1 => ⟨im1, by simp only [s165_0, s165_1, s165_4, s165_7, s165_9, s165_10, s165_11, s165_12, s165_13, s165_16, s165_19, s165_22, s165_24, s165_25, s165_26, s165_29, s165_30, s165_31, s165_32, s165_33, s165_36, s165_37, s165_38, s165_39, s165_40, ↓reduceIte, Option.bind_some, Option.toList, List.cons_append, List.nil_append, bB_0, bB_z, z01_0, z01_1, n01, n00, pm_ro_some, reduceCtorEq, if_true, if_false, and_self, and_true, true_and, not_true, not_false_eq_true, Nat.reduceLeDiff, Nat.reduceAdd, kdM, c105, c104, inLs, hm, g0], s1⟩)
  by_cases g1 : pm_in x 100 = true
  rotate_left
  · exact PAIR.q hI (-3) ⟨im, by simp only [s67_0, s67_1, s67_3, s67_6, s67_9, s67_11, s67_12, s67_13, s67_15, s67_18, s67_21, s67_23, s67_24, s67_25, s67_28, s67_29, s67_30, s67_33, s67_34, s67_35, s67_38, s67_39, s67_40, s67_41, s67_44, s67_45, ↓reduceIte, Option.bind_some, Option.toList, List.cons_append, List.nil_append, bB_0, bB_z, z01_0, z01_1, n01, n00, pm_ro_some, reduceCtorEq, if_true, if_false, and_self, and_true, true_and, not_true, not_false_eq_true, Nat.reduceLeDiff, Nat.reduceAdd, kdX, b75_6, b76, hx, g0, g1], SS.rf⟩ (fun im1 s1 => ⟨im1, by simp only [s165_0, s165_1, s165_4, s165_7, s165_9, s165_10, s165_11, s165_12, s165_13, s165_16, s165_19, s165_22, s165_24, s165_25, s165_26, s165_29, s165_30, s165_31, s165_32, s165_33, s165_36, s165_37, s165_38, s165_39, s165_40, ↓reduceIte, Option.bind_some, Option.toList, List.cons_append, List.nil_append, bB_0, bB_z, z01_0, z01_1, n01, n00, pm_ro_some, reduceCtorEq, if_true, if_false, and_self, and_true, true_and, not_true, not_false_eq_true, Nat.reduceLeDiff, Nat.reduceAdd, kdM, c105, c104, inLs, hm, g0, g1], s1⟩)
  obtain ⟨j, hj, rfl⟩ := pm_in_ex g0 (by decide)
  have hdr : dr j = 51 + 8 * j := rfl
  refine ⟨im (dr j) 3, pm_w2 im (dr j) 3 x, rm, pm_w2 (pm_w2 im (dr j) 3 x) 155 j x, rm, pp, ll, ?_, ?_, ?_⟩
  · simp only [s67_0, s67_1, s67_3, s67_6, s67_9, s67_11, s67_12, s67_13, s67_15, s67_18, s67_21, s67_23, s67_24, s67_25, s67_28, s67_29, s67_30, s67_33, s67_34, s67_35, s67_38, s67_39, s67_40, s67_41, s67_44, s67_45, ↓reduceIte, Option.bind_some, Option.toList, List.cons_append, List.nil_append, bB_0, bB_z, z01_0, z01_1, n01, n00, pm_ro_some, reduceCtorEq, if_true, if_false, and_self, and_true, true_and, not_true, not_false_eq_true, Nat.reduceLeDiff, Nat.reduceAdd, kdX, b75_6, b76, hx, g0, g1, ix hj, hI.dm hj]
  · simp only [s165_0, s165_1, s165_4, s165_7, s165_9, s165_10, s165_11, s165_12, s165_13, s165_16, s165_19, s165_22, s165_24, s165_25, s165_26, s165_29, s165_30, s165_31, s165_32, s165_33, s165_36, s165_37, s165_38, s165_39, s165_40, ↓reduceIte, Option.bind_some, Option.toList, List.cons_append, List.nil_append, bB_0, bB_z, z01_0, z01_1, n01, n00, pm_ro_some, reduceCtorEq, if_true, if_false, and_self, and_true, true_and, not_true, not_false_eq_true, Nat.reduceLeDiff, Nat.reduceAdd, kdM, c105, c104, inLs, hm, g0, g1, ix hj, w2_a (show 155 ≠ dr j by omega), (hI.d j hj).lc]
  · generalize hw : pm_w2 (pm_w2 im (dr j) 3 x) 155 j x = im2
    have E : ∀ b k, ¬ (b = dr j ∧ k = 3) ∧ ¬ (b = 155 ∧ k = j) → im2 b k = im b k := by
      intro b k h
      rw [← hw]
      simp (disch := omega) only [w2_n]
    refine ⟨?_, hI.s.cg (fun a i q => E a i (by omega)), hI.o.cg (fun a i q => E a i (by omega)), hI.t.cg (fun a i q => E a i (by omega)), fun v hv => (hI.p v hv).cg (fun k i hk => E _ _ (by have := hI.r.p v (by omega); omega)) (E _ _ (by omega)) (fun i hi => ⟨E _ _ (by omega), E _ _ (by omega)⟩) (fun i hi => ⟨E _ _ (by omega), E _ _ (by omega), E _ _ (by omega)⟩), fun v hv => (hI.l v hv).cg (fun k i hk => E _ _ (by have := hI.r.l v (by omega); omega)) (E _ _ (by omega)) (fun i hi => ⟨E _ _ (by omega), E _ _ (by omega)⟩), hI.e.cg (fun a i q => E a i (by omega)), hI.c.cg (fun a i q => E a i (by omega)), hI.n.cg (fun a i q => E a i (by omega)), hI.q.cg (fun a i q => E a i (by omega)), hI.r, hI.x, hI.m⟩
    intro d hd
    have D := hI.d d hd
    have hd2 : dr d = 51 + 8 * d := rfl
    by_cases e : d = j
    · subst e
      have et : tk im2 d = tk im d := by unfold tk; rw [E 132 d (by omega)]
      have w1 : im2 (dr d) 3 = x ∧ im2 155 d = x := by
        rw [← hw]
        simp (disch := omega) only [w2_n, w2_s, and_self]
      refine ⟨?_, ?_, ?_, by rw [w1.1, w1.2], ?_, ?_, by rw [w1.2]; exact g1, ?_, by rw [et]; exact D.n40, ?_, ?_⟩
      · rw [E _ _ (by omega), E 130 d (by omega)]; exact D.so
      · rw [E _ _ (by omega), E 131 d (by omega)]; exact D.st
      · rw [E _ _ (by omega), et]; exact D.le
      · rw [E 130 d (by omega)]; exact D.so2
      · rw [E 131 d (by omega)]; exact D.st4
      · rw [E 132 d (by omega), et]; exact D.mn
      · intro t ht
        rw [et] at ht
        rw [E (dr d + 1) t (by omega), E (dr d + 2) t (by omega), E (dr d + 3) t (by omega), E (dr d + 4) t (by omega), E (dr d + 5) t (by omega), E (dr d + 6) t (by omega), E (dr d + 7) t (by omega), E 133 _ (by omega), E 134 _ (by omega), E 135 _ (by omega), E 136 _ (by omega), E 137 _ (by omega), trs_cg (σ := im) (fun s hs => E 135 _ (by omega)), sot_cg (σ := im) (fun s hs => E 134 _ (by omega)) (E 139 1 (by omega))]
        exact D.row t ht
      · intro t ht
        rw [et] at ht
        rw [E 133 _ (by omega), E 134 _ (by omega), E 135 _ (by omega), E 136 _ (by omega), E 137 _ (by omega)]
        exact D.rng t ht
    · exact D.cg (fun k i hk => E _ _ (by omega)) ⟨E _ _ (by omega), E _ _ (by omega), E _ _ (by omega), E _ _ (by omega)⟩ (fun t ht => ⟨E _ _ (by omega), E _ _ (by omega), E _ _ (by omega), E _ _ (by omega), E _ _ (by omega)⟩) (E _ _ (by omega))
theorem p69 (hI : INV im rm pp ll) (x : Int32) : PAIR 69 [.ref 0, .int x] 167 [.ref 129, .int x] im rm := by
  have hx := hI.x
  have hm := hI.m
  have hg : decide (lN 1 ≤ x.toInt64 ∧ x.toInt64 ≤ lN 60) = decide (¬ x < nI 1 ∧ x ≤ nI 60) := inG x (by decide) (by decide)
  by_cases g0 : x < nI 1
  · exact PAIR.q hI (-3) ⟨im, by simp only [s69_0, s69_1, s69_2, s69_5, s69_6, s69_8, s69_11, s69_12, s69_15, s69_16, s69_17, s69_20, s69_23, s69_25, s69_26, s69_27, s69_28, s69_31, s69_32, s69_33, s69_36, s69_37, s69_40, ↓reduceIte, Option.bind_some, Option.toList, List.cons_append, List.nil_append, bB_0, bB_z, z01_0, z01_1, n01, n00, pm_ro_some, reduceCtorEq, if_true, if_false, and_self, and_true, true_and, not_true, not_false_eq_true, Nat.reduceLeDiff, Nat.reduceAdd, kdX, hx, g0], SS.rf⟩ (fun im1 s1 => ⟨im1, by simp only [s167_0, s167_1, s167_2, s167_3, s167_6, s167_9, s167_12, s167_13, s167_16, s167_17, s167_18, s167_21, s167_24, s167_26, s167_27, s167_28, s167_29, s167_32, s167_33, s167_34, s167_37, s167_38, s167_41, ↓reduceIte, Option.bind_some, Option.toList, List.cons_append, List.nil_append, bB_0, bB_z, z01_0, z01_1, n01, n00, pm_ro_some, reduceCtorEq, if_true, if_false, and_self, and_true, true_and, not_true, not_false_eq_true, Nat.reduceLeDiff, Nat.reduceAdd, kdM, c104, hg, hm, g0, false_and, decide_false, Bool.false_eq_true], s1⟩)
  by_cases g1 : x ≤ nI 60
  rotate_left
  · exact PAIR.q hI (-3) ⟨im, by simp only [s69_0, s69_1, s69_2, s69_5, s69_6, s69_8, s69_11, s69_12, s69_15, s69_16, s69_17, s69_20, s69_23, s69_25, s69_26, s69_27, s69_28, s69_31, s69_32, s69_33, s69_36, s69_37, s69_40, ↓reduceIte, Option.bind_some, Option.toList, List.cons_append, List.nil_append, bB_0, bB_z, z01_0, z01_1, n01, n00, pm_ro_some, reduceCtorEq, if_true, if_false, and_self, and_true, true_and, not_true, not_false_eq_true, Nat.reduceLeDiff, Nat.reduceAdd, kdX, hx, g0, Int32.not_le.mp g1], SS.rf⟩ (fun im1 s1 => ⟨im1, by simp only [s167_0, s167_1, s167_2, s167_3, s167_6, s167_9, s167_12, s167_13, s167_16, s167_17, s167_18, s167_21, s167_24, s167_26, s167_27, s167_28, s167_29, s167_32, s167_33, s167_34, s167_37, s167_38, s167_41, ↓reduceIte, Option.bind_some, Option.toList, List.cons_append, List.nil_append, bB_0, bB_z, z01_0, z01_1, n01, n00, pm_ro_some, reduceCtorEq, if_true, if_false, and_self, and_true, true_and, not_true, not_false_eq_true, Nat.reduceLeDiff, Nat.reduceAdd, kdM, c104, hg, hm, g0, g1, decide_false, Bool.false_eq_true], s1⟩)
  have N := hI.n
  obtain ⟨n, hn, en⟩ := pm_in_ex N.2 (by decide)
  have s2 : ∀ im1, SS im im1 → im1 129 28 = im 129 28 := fun im1 s1 => s1.2.2 28 (by decide)
  by_cases g2 : im 129 28 + x ≤ nI 200
  rotate_left
  · exact PAIR.q hI (-3) ⟨im, by simp only [s69_0, s69_1, s69_2, s69_5, s69_6, s69_8, s69_11, s69_12, s69_15, s69_16, s69_17, s69_20, s69_23, s69_25, s69_26, s69_27, s69_28, s69_31, s69_32, s69_33, s69_36, s69_37, s69_40, ↓reduceIte, Option.bind_some, Option.toList, List.cons_append, List.nil_append, bB_0, bB_z, z01_0, z01_1, n01, n00, pm_ro_some, reduceCtorEq, if_true, if_false, and_self, and_true, true_and, not_true, not_false_eq_true, Nat.reduceLeDiff, Nat.reduceAdd, kdX, hx, g0, Int32.not_lt.mpr g1, N.1, g2], SS.rf⟩ (fun im1 s1 => ⟨im1, by simp only [s167_0, s167_1, s167_2, s167_3, s167_6, s167_9, s167_12, s167_13, s167_16, s167_17, s167_18, s167_21, s167_24, s167_26, s167_27, s167_28, s167_29, s167_32, s167_33, s167_34, s167_37, s167_38, s167_41, ↓reduceIte, Option.bind_some, Option.toList, List.cons_append, List.nil_append, bB_0, bB_z, z01_0, z01_1, n01, n00, pm_ro_some, reduceCtorEq, if_true, if_false, and_self, and_true, true_and, not_true, not_false_eq_true, Nat.reduceLeDiff, Nat.reduceAdd, kdM, c104, hg, hm, g0, g1, decide_true, s2 im1 s1, g2], s1⟩)
  refine ⟨im 129 28 + x, pm_w2 im 0 10 (im 129 28 + x), rm, pm_w2 (pm_w2 im 0 10 (im 129 28 + x)) 129 28 (im 129 28 + x), rm, pp, ll, ?_, ?_, ?_⟩
  · simp only [s69_0, s69_1, s69_2, s69_5, s69_6, s69_8, s69_11, s69_12, s69_15, s69_16, s69_17, s69_20, s69_23, s69_25, s69_26, s69_27, s69_28, s69_31, s69_32, s69_33, s69_36, s69_37, s69_40, ↓reduceIte, Option.bind_some, Option.toList, List.cons_append, List.nil_append, bB_0, bB_z, z01_0, z01_1, n01, n00, pm_ro_some, reduceCtorEq, if_true, if_false, and_self, and_true, true_and, not_true, not_false_eq_true, Nat.reduceLeDiff, Nat.reduceAdd, kdX, hx, g0, Int32.not_lt.mpr g1, N.1, g2, w2_s]
  · simp only [s167_0, s167_1, s167_2, s167_3, s167_6, s167_9, s167_12, s167_13, s167_16, s167_17, s167_18, s167_21, s167_24, s167_26, s167_27, s167_28, s167_29, s167_32, s167_33, s167_34, s167_37, s167_38, s167_41, ↓reduceIte, Option.bind_some, Option.toList, List.cons_append, List.nil_append, bB_0, bB_z, z01_0, z01_1, n01, n00, pm_ro_some, reduceCtorEq, if_true, if_false, and_self, and_true, true_and, not_true, not_false_eq_true, Nat.reduceLeDiff, Nat.reduceAdd, kdM, c104, hg, hm, g0, g1, decide_true, w2_a (show 129 ≠ 0 by omega), g2, w2_s]
  · generalize hw : pm_w2 (pm_w2 im 0 10 (im 129 28 + x)) 129 28 (im 129 28 + x) = im2
    have E : ∀ b k, ¬ (b = 0 ∧ k = 10) ∧ ¬ (b = 129 ∧ k = 28) → im2 b k = im b k := by
      intro b k h
      rw [← hw]
      simp (disch := omega) only [w2_n]
    refine ⟨fun d hd => (hI.d d hd).cg (fun k i hk => E _ _ (by unfold dr; omega)) ⟨E _ _ (by omega), E _ _ (by omega), E _ _ (by omega), E _ _ (by omega)⟩ (fun t ht => ⟨E _ _ (by omega), E _ _ (by omega), E _ _ (by omega), E _ _ (by omega), E _ _ (by omega)⟩) (E _ _ (by omega)), hI.s.cg (fun a i q => E a i (by omega)), hI.o.cg (fun a i q => E a i (by omega)), hI.t.cg (fun a i q => E a i (by omega)), fun v hv => (hI.p v hv).cg (fun k i hk => E _ _ (by have := hI.r.p v (by omega); omega)) (E _ _ (by omega)) (fun i hi => ⟨E _ _ (by omega), E _ _ (by omega)⟩) (fun i hi => ⟨E _ _ (by omega), E _ _ (by omega), E _ _ (by omega)⟩), fun v hv => (hI.l v hv).cg (fun k i hk => E _ _ (by have := hI.r.l v (by omega); omega)) (E _ _ (by omega)) (fun i hi => ⟨E _ _ (by omega), E _ _ (by omega)⟩), hI.e.cg (fun a i q => E a i (by omega)), hI.c.cg (fun a i q => E a i (by omega)), ?_, hI.q.cg (fun a i q => E a i (by omega)), hI.r, hI.x, hI.m⟩
    have w1 : im2 0 10 = im 129 28 + x ∧ im2 129 28 = im 129 28 + x := by
      rw [← hw]
      simp (disch := omega) only [w2_n, w2_s, and_self]
    refine ⟨by rw [w1.1, w1.2], ?_⟩
    rw [w1.2, pm_in_eq]
    rw [i32_lt, show (nI 1).toInt = 1 from by decide] at g0
    rw [i32_le, show (nI 60).toInt = 60 from by decide] at g1
    have e2 : (im 129 28 + x).toInt = (im 129 28).toInt + x.toInt := by
      rw [Int32.toInt_add, en, nI_toInt (by omega)]
      apply Int.bmod_eq_of_le <;> omega
    rw [i32_le, show (nI 200).toInt = 200 from by decide, e2] at g2
    rw [e2]
    rw [en, nI_toInt (by omega)] at g2 ⊢
    omega
theorem p47 (hI : INV im rm pp ll) : PAIR 47 [.ref 0, pm_u] 118 [.ref 129, pm_u] im rm := by
  have hx := hI.x
  have hm := hI.m
  have T := hI.t
  refine ⟨nI (tx im), pm_w2 im 4 0 (nI 0), rm, pm_w2 (pm_w2 im 4 0 (nI 0)) 129 11 (nI 0), rm, pp, ll, ?_, ?_, ?_⟩
  · simp only [s47_0, s47_1, s47_4, s47_7, s47_8, s47_9, s47_12, s47_13, s47_16, s47_17, ↓reduceIte, Option.bind_some, Option.toList, List.cons_append, List.nil_append, bB_0, bB_z, z01_0, z01_1, n01, n00, pm_ro_some, reduceCtorEq, if_true, if_false, and_self, and_true, true_and, not_true, not_false_eq_true, Nat.reduceLeDiff, Nat.reduceAdd, kdX, hx, T.1]
  · simp only [s118_0, s118_1, s118_4, s118_5, s118_6, s118_7, s118_10, s118_11, ↓reduceIte, Option.bind_some, Option.toList, List.cons_append, List.nil_append, bB_0, bB_z, z01_0, z01_1, n01, n00, pm_ro_some, reduceCtorEq, if_true, if_false, and_self, and_true, true_and, not_true, not_false_eq_true, Nat.reduceLeDiff, Nat.reduceAdd, kdM, hm, w2_a (show 129 ≠ 4 by omega), T.2.1]
  · generalize hw : pm_w2 (pm_w2 im 4 0 (nI 0)) 129 11 (nI 0) = im2
    have E : ∀ b k, ¬ (b = 4 ∧ k = 0) ∧ ¬ (b = 129 ∧ k = 11) → im2 b k = im b k := by
      intro b k h
      rw [← hw]
      simp (disch := omega) only [w2_n]
    refine ⟨fun d hd => (hI.d d hd).cg (fun k i hk => E _ _ (by unfold dr; omega)) ⟨E _ _ (by omega), E _ _ (by omega), E _ _ (by omega), E _ _ (by omega)⟩ (fun t ht => ⟨E _ _ (by omega), E _ _ (by omega), E _ _ (by omega), E _ _ (by omega), E _ _ (by omega)⟩) (E _ _ (by omega)), hI.s.cg (fun a i q => E a i (by omega)), hI.o.cg (fun a i q => E a i (by omega)), ?_, fun v hv => (hI.p v hv).cg (fun k i hk => E _ _ (by have := hI.r.p v (by omega); omega)) (E _ _ (by omega)) (fun i hi => ⟨E _ _ (by omega), E _ _ (by omega)⟩) (fun i hi => ⟨E _ _ (by omega), E _ _ (by omega), E _ _ (by omega)⟩), fun v hv => (hI.l v hv).cg (fun k i hk => E _ _ (by have := hI.r.l v (by omega); omega)) (E _ _ (by omega)) (fun i hi => ⟨E _ _ (by omega), E _ _ (by omega)⟩), hI.e.cg (fun a i q => E a i (by omega)), hI.c.cg (fun a i q => E a i (by omega)), hI.n.cg (fun a i q => E a i (by omega)), hI.q.cg (fun a i q => E a i (by omega)), hI.r, hI.x, hI.m⟩
    have w1 : im2 4 0 = nI 0 ∧ im2 129 11 = nI 0 := by
      rw [← hw]
      simp (disch := omega) only [w2_n, w2_s, and_self]
    have e : tx im2 = 0 := by unfold tx; rw [w1.2, nI_clamp (by decide)]
    exact ⟨by rw [w1.1, e], by rw [w1.2, e], by omega, fun i hi => absurd hi (by omega)⟩
/-- the k-th byte of a long -/
def byt (x : Int64) (k : Nat) : Int32 := ((x >>> ((nI 8 * nI k).toInt64 &&& 63)) &&& lN 255).toInt32
theorem c25 (hx : rmX rm pp ll) (x : Int64) {T n : Nat} (hn : T + n ≤ 160) (hT : im 4 0 = nI T) : ∃ im1, ev 25 0 [.ref 4, .long x, pm_u, .int (nI n), pm_u] [] im rm = some (none, im1, rm) ∧ im1 4 0 = nI (T + n) ∧ (∀ k, k < n → im1 5 (T + k) = byt x k) ∧ (∀ b k, ¬ (b = 4 ∧ k = 0) ∧ ¬ (b = 5 ∧ T ≤ k) → im1 b k = im b k) := by
  have key : ∀ i, i ≤ n → ∀ m : IM, m 4 0 = nI (T + i) → (∀ k, k < i → m 5 (T + k) = byt x k) → (∀ b k, ¬ (b = 4 ∧ k = 0) ∧ ¬ (b = 5 ∧ T ≤ k) → m b k = im b k) → ∃ im1, ev 25 3 [.ref 4, .long x, pm_u, .int (nI n), .int (nI i)] [] m rm = some (none, im1, rm) ∧ im1 4 0 = nI (T + n) ∧ (∀ k, k < n → im1 5 (T + k) = byt x k) ∧ (∀ b k, ¬ (b = 4 ∧ k = 0) ∧ ¬ (b = 5 ∧ T ≤ k) → im1 b k = im b k) := by
    refine dn ?_ ?_
    · intro m h1 h2 h3
      refine ⟨m, ?_, h1, h2, h3⟩
      simp only [s25_0, s25_1, s25_3, s25_5, s25_6, s25_9, s25_10, s25_13, s25_16, s25_19, s25_20, s25_23, s25_24, s25_27, s25_28, s25_30, s25_32, s25_33, s25_34, s25_37, s25_38, s25_39, s25_40, s25_41, s25_42, s25_45, s25_46, s25_47, s25_50, s25_53, s25_56, ↓reduceIte, Option.bind_some, Option.toList, List.cons_append, List.nil_append, bB_0, bB_z, z01_0, z01_1, n01, n00, pm_ro_some, reduceCtorEq, if_true, if_false, and_self, and_true, true_and, not_true, not_false_eq_true, Nat.reduceLeDiff, Nat.reduceAdd, kdX, lpT]
    · intro i hi ih m h1 h2 h3
      obtain ⟨im1, e1, e2⟩ := ih (pm_w2 (pm_w2 m 5 (T + i) (byt x i)) 4 0 (nI (T + (i + 1)))) (by rw [w2_s]) (fun k hk => by
        rw [w2_a (by omega)]
        by_cases e : k = i
        · rw [e, w2_s]
        · rw [w2_i (by omega)]; exact h2 k (by omega)) (fun b k hb => by
        simp (disch := omega) only [w2_n]
        exact h3 b k hb)
      refine ⟨im1, ?_, e2⟩
      rw [← e1, s25_3]
      simp only [s25_0, s25_1, s25_5, s25_6, s25_9, s25_10, s25_13, s25_16, s25_19, s25_20, s25_23, s25_24, s25_27, s25_28, s25_30, s25_32, s25_33, s25_34, s25_37, s25_38, s25_39, s25_40, s25_41, s25_42, s25_45, s25_46, s25_47, s25_50, s25_53, s25_56, ↓reduceIte, Option.bind_some, Option.toList, List.cons_append, List.nil_append, bB_0, bB_z, z01_0, z01_1, n01, n00, pm_ro_some, reduceCtorEq, if_true, if_false, and_self, and_true, true_and, not_true, not_false_eq_true, Nat.reduceLeDiff, Nat.reduceAdd, kdX, hx, lpF hi (by omega), h1, lpF (show T + i < 160 by omega) (by decide), ix (show T + i < 160 by omega), w2_a (show 4 ≠ 5 by omega), nI_add, byt, Nat.add_assoc]
  obtain ⟨im1, e1, e2⟩ := key 0 (by omega) im hT (fun k hk => absurd hk (by omega)) (fun _ _ _ => rfl)
  refine ⟨im1, ?_, e2⟩
  rw [← e1]
  simp only [s25_0, s25_1]
theorem p46 (hI : INV im rm pp ll) (x : Int64) (c : Int32) : PAIR 46 [.ref 0, .long x, pm_u, .int c] 117 [.ref 129, .long x, pm_u, .int c, pm_u] im rm := by
  have hx := hI.x
  have hm := hI.m
  have T := hI.t
  have hg : decide (lN 1 ≤ c.toInt64 ∧ c.toInt64 ≤ lN 8) = decide (¬ c < nI 1 ∧ c ≤ nI 8) := inG c (by decide) (by decide)
  by_cases g0 : c < nI 1
  · exact PAIR.q hI (-3) ⟨im, by simp only [s46_0, s46_1, s46_2, s46_5, s46_6, s46_8, s46_11, s46_13, s46_14, s46_15, s46_18, s46_21, s46_22, s46_23, s46_26, s46_29, s46_31, s46_32, s46_33, s46_36, s46_37, s46_38, s46_41, s46_42, s46_45, s46_48, ↓reduceIte, Option.bind_some, Option.toList, List.cons_append, List.nil_append, bB_0, bB_z, z01_0, z01_1, n01, n00, pm_ro_some, reduceCtorEq, if_true, if_false, and_self, and_true, true_and, not_true, not_false_eq_true, Nat.reduceLeDiff, Nat.reduceAdd, kdX, hx, g0], SS.rf⟩ (fun im1 s1 => ⟨im1, by simp only [s117_0, s117_1, s117_2, s117_3, s117_6, s117_9, s117_12, s117_14, s117_15, s117_16, s117_19, s117_20, s117_21, s117_24, s117_27, s117_29, s117_30, s117_31, s117_33, s117_35, s117_36, s117_39, s117_40, s117_43, s117_44, s117_47, s117_48, s117_50, s117_52, s117_53, s117_54, s117_57, s117_58, s117_59, s117_60, s117_61, s117_62, s117_65, s117_66, s117_67, s117_70, s117_73, s117_76, s117_77, s117_80, ↓reduceIte, Option.bind_some, Option.toList, List.cons_append, List.nil_append, bB_0, bB_z, z01_0, z01_1, n01, n00, pm_ro_some, reduceCtorEq, if_true, if_false, and_self, and_true, true_and, not_true, not_false_eq_true, Nat.reduceLeDiff, Nat.reduceAdd, kdM, c104, hg, hm, g0, false_and, decide_false, Bool.false_eq_true], s1⟩)
  by_cases g1 : c ≤ nI 8
  rotate_left
  · exact PAIR.q hI (-3) ⟨im, by simp only [s46_0, s46_1, s46_2, s46_5, s46_6, s46_8, s46_11, s46_13, s46_14, s46_15, s46_18, s46_21, s46_22, s46_23, s46_26, s46_29, s46_31, s46_32, s46_33, s46_36, s46_37, s46_38, s46_41, s46_42, s46_45, s46_48, ↓reduceIte, Option.bind_some, Option.toList, List.cons_append, List.nil_append, bB_0, bB_z, z01_0, z01_1, n01, n00, pm_ro_some, reduceCtorEq, if_true, if_false, and_self, and_true, true_and, not_true, not_false_eq_true, Nat.reduceLeDiff, Nat.reduceAdd, kdX, hx, g0, g1], SS.rf⟩ (fun im1 s1 => ⟨im1, by simp only [s117_0, s117_1, s117_2, s117_3, s117_6, s117_9, s117_12, s117_14, s117_15, s117_16, s117_19, s117_20, s117_21, s117_24, s117_27, s117_29, s117_30, s117_31, s117_33, s117_35, s117_36, s117_39, s117_40, s117_43, s117_44, s117_47, s117_48, s117_50, s117_52, s117_53, s117_54, s117_57, s117_58, s117_59, s117_60, s117_61, s117_62, s117_65, s117_66, s117_67, s117_70, s117_73, s117_76, s117_77, s117_80, ↓reduceIte, Option.bind_some, Option.toList, List.cons_append, List.nil_append, bB_0, bB_z, z01_0, z01_1, n01, n00, pm_ro_some, reduceCtorEq, if_true, if_false, and_self, and_true, true_and, not_true, not_false_eq_true, Nat.reduceLeDiff, Nat.reduceAdd, kdM, c104, hg, hm, g0, g1, decide_false, Bool.false_eq_true], s1⟩)
  have hc9 : pm_in c 9 = true := by
    rw [← in_le c (show 8 + 1 < 2 ^ 31 by decide)]
    simp only [decide_eq_true_eq]
    refine ⟨?_, g1⟩
    rw [i32_lt, show (nI 1).toInt = 1 from by decide] at g0
    rw [i32_le, show (nI 0).toInt = 0 from by decide]
    omega
  obtain ⟨n, hn, rfl⟩ := pm_in_ex hc9 (by decide)
  have hT := T.2.2.1
  have s2 : ∀ im1, SS im im1 → im1 129 11 = im 129 11 := fun im1 s1 => s1.2.2 11 (by decide)
  by_cases g2 : tx im + n ≤ 160
  rotate_left
  · have q : (nI (tx im + n) ≤ nI 160) = False := (lpF (show 160 < tx im + n by omega) (by omega)).1
    exact PAIR.q hI (-5) ⟨im, by simp only [s46_0, s46_1, s46_2, s46_5, s46_6, s46_8, s46_11, s46_13, s46_14, s46_15, s46_18, s46_21, s46_22, s46_23, s46_26, s46_29, s46_31, s46_32, s46_33, s46_36, s46_37, s46_38, s46_41, s46_42, s46_45, s46_48, ↓reduceIte, Option.bind_some, Option.toList, List.cons_append, List.nil_append, bB_0, bB_z, z01_0, z01_1, n01, n00, pm_ro_some, reduceCtorEq, if_true, if_false, and_self, and_true, true_and, not_true, not_false_eq_true, Nat.reduceLeDiff, Nat.reduceAdd, kdX, hx, g0, g1, T.1, nI_add, q], SS.rf⟩ (fun im1 s1 => ⟨im1, by simp only [s117_0, s117_1, s117_2, s117_3, s117_6, s117_9, s117_12, s117_14, s117_15, s117_16, s117_19, s117_20, s117_21, s117_24, s117_27, s117_29, s117_30, s117_31, s117_33, s117_35, s117_36, s117_39, s117_40, s117_43, s117_44, s117_47, s117_48, s117_50, s117_52, s117_53, s117_54, s117_57, s117_58, s117_59, s117_60, s117_61, s117_62, s117_65, s117_66, s117_67, s117_70, s117_73, s117_76, s117_77, s117_80, ↓reduceIte, Option.bind_some, Option.toList, List.cons_append, List.nil_append, bB_0, bB_z, z01_0, z01_1, n01, n00, pm_ro_some, reduceCtorEq, if_true, if_false, and_self, and_true, true_and, not_true, not_false_eq_true, Nat.reduceLeDiff, Nat.reduceAdd, kdM, c104, hg, hm, g0, g1, decide_true, s2 im1 s1, T.2.1, nI_add, q], s1⟩)
  have q : (nI (tx im + n) ≤ nI 160) = True := (lpG g2 (by decide)).1
  obtain ⟨im1, A1, A2, A3, A4⟩ := c25 (im := im) hx x g2 T.1
  have h11 : im1 129 11 = nI (tx im) := by rw [A4 _ _ (by omega)]; exact T.2.1
  have key : ∀ i, i ≤ n → ∀ m : IM, m 129 11 = nI (tx im + i) → (∀ k, k < i → m 140 (tx im + k) = byt x k) → (∀ b k, ¬ (b = 129 ∧ k = 11) ∧ ¬ (b = 140 ∧ tx im ≤ k) → m b k = im1 b k) → ∃ im2, ev 117 33 [.ref 129, .long x, pm_u, .int (nI n), .int (nI i)] [] m rm = some (some (.int (nI (tx im + n))), im2, rm) ∧ im2 129 11 = nI (tx im + n) ∧ (∀ k, k < n → im2 140 (tx im + k) = byt x k) ∧ (∀ b k, ¬ (b = 129 ∧ k = 11) ∧ ¬ (b = 140 ∧ tx im ≤ k) → im2 b k = im1 b k) := by
    refine dn ?_ ?_
    · intro m h1 h2 h3
      refine ⟨m, ?_, h1, h2, h3⟩
      simp only [s117_0, s117_1, s117_2, s117_3, s117_6, s117_9, s117_12, s117_14, s117_15, s117_16, s117_19, s117_20, s117_21, s117_24, s117_27, s117_29, s117_30, s117_31, s117_33, s117_35, s117_36, s117_39, s117_40, s117_43, s117_44, s117_47, s117_48, s117_50, s117_52, s117_53, s117_54, s117_57, s117_58, s117_59, s117_60, s117_61, s117_62, s117_65, s117_66, s117_67, s117_70, s117_73, s117_76, s117_77, s117_80, ↓reduceIte, Option.bind_some, Option.toList, List.cons_append, List.nil_append, bB_0, bB_z, z01_0, z01_1, n01, n00, pm_ro_some, reduceCtorEq, if_true, if_false, and_self, and_true, true_and, not_true, not_false_eq_true, Nat.reduceLeDiff, Nat.reduceAdd, kdM, lpT, h1]
    · intro i hi ih m h1 h2 h3
      obtain ⟨im2, e1, e2⟩ := ih (pm_w2 (pm_w2 m 140 (tx im + i) (byt x i)) 129 11 (nI (tx im + (i + 1)))) (by rw [w2_s]) (fun k hk => by
        rw [w2_a (by omega)]
        by_cases e : k = i
        · rw [e, w2_s]
        · rw [w2_i (by omega)]; exact h2 k (by omega)) (fun b k hb => by
        simp (disch := omega) only [w2_n]
        exact h3 b k hb)
      refine ⟨im2, ?_, e2⟩
      rw [← e1, s117_33]
      simp only [s117_0, s117_1, s117_2, s117_3, s117_6, s117_9, s117_12, s117_14, s117_15, s117_16, s117_19, s117_20, s117_21, s117_24, s117_27, s117_29, s117_30, s117_31, s117_35, s117_36, s117_39, s117_40, s117_43, s117_44, s117_47, s117_48, s117_50, s117_52, s117_53, s117_54, s117_57, s117_58, s117_59, s117_60, s117_61, s117_62, s117_65, s117_66, s117_67, s117_70, s117_73, s117_76, s117_77, s117_80, ↓reduceIte, Option.bind_some, Option.toList, List.cons_append, List.nil_append, bB_0, bB_z, z01_0, z01_1, n01, n00, pm_ro_some, reduceCtorEq, if_true, if_false, and_self, and_true, true_and, not_true, not_false_eq_true, Nat.reduceLeDiff, Nat.reduceAdd, kdM, hm, lpF hi (by omega), h1, ix (show tx im + i < 160 by omega), w2_a (show 129 ≠ 140 by omega), nI_add, byt, Nat.add_assoc]
  obtain ⟨im2, B1, B2, B3, B4⟩ := key 0 (by omega) im1 h11 (fun k hk => absurd hk (by omega)) (fun _ _ _ => rfl)
  refine ⟨nI (tx im + n), im1, rm, im2, rm, pp, ll, ?_, ?_, ?_⟩
  · simp only [s46_0, s46_1, s46_2, s46_5, s46_6, s46_8, s46_11, s46_13, s46_14, s46_15, s46_18, s46_21, s46_22, s46_23, s46_26, s46_29, s46_31, s46_32, s46_33, s46_36, s46_37, s46_38, s46_41, s46_42, s46_45, s46_48, ↓reduceIte, Option.bind_some, Option.toList, List.cons_append, List.nil_append, bB_0, bB_z, z01_0, z01_1, n01, n00, pm_ro_some, reduceCtorEq, if_true, if_false, and_self, and_true, true_and, not_true, not_false_eq_true, Nat.reduceLeDiff, Nat.reduceAdd, kdX, hx, g0, g1, T.1, nI_add, q, A1, A2]
  · simp only [s117_0, s117_1, s117_2, s117_3, s117_6, s117_9, s117_12, s117_14, s117_15, s117_16, s117_19, s117_20, s117_21, s117_24, s117_27, s117_29, s117_30, s117_31, s117_35, s117_36, s117_39, s117_40, s117_43, s117_44, s117_47, s117_48, s117_50, s117_52, s117_53, s117_54, s117_57, s117_58, s117_59, s117_60, s117_61, s117_62, s117_65, s117_66, s117_67, s117_70, s117_73, s117_76, s117_77, s117_80, ↓reduceIte, Option.bind_some, Option.toList, List.cons_append, List.nil_append, bB_0, bB_z, z01_0, z01_1, n01, n00, pm_ro_some, reduceCtorEq, if_true, if_false, and_self, and_true, true_and, not_true, not_false_eq_true, Nat.reduceLeDiff, Nat.reduceAdd, kdM, c104, hg, hm, g0, g1, decide_true, h11, nI_add, q, B1]
  · have E : ∀ b k, ¬ (b = 4 ∧ k = 0) ∧ ¬ (b = 5 ∧ tx im ≤ k) ∧ ¬ (b = 129 ∧ k = 11) ∧ ¬ (b = 140 ∧ tx im ≤ k) → im2 b k = im b k := by
      intro b k h
      rw [B4 _ _ (by omega), A4 _ _ (by omega)]
    refine ⟨fun d hd => (hI.d d hd).cg (fun k i hk => E _ _ (by unfold dr; omega)) ⟨E _ _ (by omega), E _ _ (by omega), E _ _ (by omega), E _ _ (by omega)⟩ (fun t ht => ⟨E _ _ (by omega), E _ _ (by omega), E _ _ (by omega), E _ _ (by omega), E _ _ (by omega)⟩) (E _ _ (by omega)), hI.s.cg (fun a i q => E a i (by omega)), hI.o.cg (fun a i q => E a i (by omega)), ?_, fun v hv => (hI.p v hv).cg (fun k i hk => E _ _ (by have := hI.r.p v (by omega); omega)) (E _ _ (by omega)) (fun i hi => ⟨E _ _ (by omega), E _ _ (by omega)⟩) (fun i hi => ⟨E _ _ (by omega), E _ _ (by omega), E _ _ (by omega)⟩), fun v hv => (hI.l v hv).cg (fun k i hk => E _ _ (by have := hI.r.l v (by omega); omega)) (E _ _ (by omega)) (fun i hi => ⟨E _ _ (by omega), E _ _ (by omega)⟩), hI.e.cg (fun a i q => E a i (by omega)), hI.c.cg (fun a i q => E a i (by omega)), hI.n.cg (fun a i q => E a i (by omega)), hI.q.cg (fun a i q => E a i (by omega)), hI.r, hI.x, hI.m⟩
    have e : tx im2 = tx im + n := by unfold tx; rw [B2, nI_clamp (by unfold tx at g2; omega)]; rfl
    refine ⟨by rw [B4 _ _ (by omega), A2, e], by rw [B2, e], by omega, ?_⟩
    intro i hi
    rw [e] at hi
    by_cases hl : i < tx im
    · rw [E 5 i (by omega), E 140 i (by omega)]
      exact T.2.2.2 i hl
    · obtain ⟨k, rfl⟩ : ∃ k, i = tx im + k := ⟨i - tx im, by omega⟩
      rw [B3 k (by omega), B4 _ _ (by omega), A3 k (by omega)]
end SIM
