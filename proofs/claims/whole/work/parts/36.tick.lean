-- needs: 35
theorem p42 {im : IM} {rm : RM} {pp ll : Nat → Nat} (hI : INV im rm pp ll) (d x1 x2 x3 x4 x5 : Int32) : PAIR 42 [.ref 0, .int d, .int x1, .int x2, .int x3, .int x4, .int x5, pm_u] 110 [.ref 129, .int d, .int x1, .int x2, .int x3, .int x4, .int x5, pm_u] im rm := by
  have hx := hI.x
  have hm := hI.m
  by_cases g0 : pm_in d 6 = true
  rotate_left
  · exact PAIR.q hI (-2) ⟨im, by simp only [s42_0, s42_1, s42_3, s42_6, s42_9, s42_11, s42_12, s42_13, s42_16, s42_19, s42_22, s42_23, s42_25, s42_28, s42_31, s42_33, s42_35, s42_38, s42_40, s42_42, s42_45, s42_47, s42_49, s42_52, s42_55, s42_57, s42_59, s42_62, s42_65, s42_67, s42_68, s42_69, s42_72, s42_73, s42_74, s42_76, s42_78, s42_81, s42_83, s42_86, s42_88, s42_89, s42_91, s42_92, s42_93, s42_95, s42_97, s42_99, s42_102, s42_104, s42_105, s42_108, s42_109, s42_110, s42_113, s42_115, s42_118, ↓reduceIte, Option.bind_some, Option.toList, List.cons_append, List.nil_append, bB_0, bB_z, z01_0, z01_1, n01, n00, pm_ro_some, reduceCtorEq, if_true, if_false, and_self, and_true, true_and, not_true, not_false_eq_true, Nat.reduceLeDiff, Nat.reduceAdd, kdX, b75_6, b76, hx, g0], SS.rf⟩ (fun im1 s1 => ⟨im1, by simp only [s110_0, s110_1, s110_4, s110_7, s110_9, s110_10, s110_11, s110_12, s110_13, s110_16, s110_19, s110_22, s110_23, s110_24, s110_25, s110_28, s110_31, s110_34, s110_36, s110_37, s110_40, s110_43, s110_46, s110_49, s110_51, s110_52, s110_53, s110_56, s110_59, s110_62, s110_64, s110_65, s110_66, s110_69, s110_72, s110_75, s110_77, s110_78, s110_79, s110_82, s110_83, s110_84, s110_86, s110_89, s110_91, s110_92, s110_94, s110_95, s110_96, s110_97, s110_100, s110_101, s110_102, s110_103, s110_105, s110_106, s110_109, s110_111, s110_112, s110_113, s110_114, s110_117, s110_119, s110_120, s110_121, s110_122, s110_125, s110_127, s110_129, s110_130, s110_131, s110_134, s110_136, s110_138, s110_139, s110_140, s110_143, s110_145, s110_147, s110_148, s110_149, s110_152, s110_153, s110_154, s110_155, s110_156, s110_157, s110_158, s110_159, s110_162, s110_163, s110_164, ↓reduceIte, Option.bind_some, Option.toList, List.cons_append, List.nil_append, bB_0, bB_z, z01_0, z01_1, n01, n00, pm_ro_some, reduceCtorEq, if_true, if_false, and_self, and_true, true_and, not_true, not_false_eq_true, Nat.reduceLeDiff, Nat.reduceAdd, kdM, c105, c104, inLs, in9, hm, g0], s1⟩)
  obtain ⟨j, hj, rfl⟩ := pm_in_ex g0 (by decide)
  by_cases g1 : pm_in x1 160 = true
  rotate_left
  · exact PAIR.q hI (-3) ⟨im, by simp only [s42_0, s42_1, s42_3, s42_6, s42_9, s42_11, s42_12, s42_13, s42_16, s42_19, s42_22, s42_23, s42_25, s42_28, s42_31, s42_33, s42_35, s42_38, s42_40, s42_42, s42_45, s42_47, s42_49, s42_52, s42_55, s42_57, s42_59, s42_62, s42_65, s42_67, s42_68, s42_69, s42_72, s42_73, s42_74, s42_76, s42_78, s42_81, s42_83, s42_86, s42_88, s42_89, s42_91, s42_92, s42_93, s42_95, s42_97, s42_99, s42_102, s42_104, s42_105, s42_108, s42_109, s42_110, s42_113, s42_115, s42_118, ↓reduceIte, Option.bind_some, Option.toList, List.cons_append, List.nil_append, bB_0, bB_z, z01_0, z01_1, n01, n00, pm_ro_some, reduceCtorEq, if_true, if_false, and_self, and_true, true_and, not_true, not_false_eq_true, Nat.reduceLeDiff, Nat.reduceAdd, kdX, b75_6, b76, hx, g0, g1], SS.rf⟩ (fun im1 s1 => ⟨im1, by simp only [s110_0, s110_1, s110_4, s110_7, s110_9, s110_10, s110_11, s110_12, s110_13, s110_16, s110_19, s110_22, s110_23, s110_24, s110_25, s110_28, s110_31, s110_34, s110_36, s110_37, s110_40, s110_43, s110_46, s110_49, s110_51, s110_52, s110_53, s110_56, s110_59, s110_62, s110_64, s110_65, s110_66, s110_69, s110_72, s110_75, s110_77, s110_78, s110_79, s110_82, s110_83, s110_84, s110_86, s110_89, s110_91, s110_92, s110_94, s110_95, s110_96, s110_97, s110_100, s110_101, s110_102, s110_103, s110_105, s110_106, s110_109, s110_111, s110_112, s110_113, s110_114, s110_117, s110_119, s110_120, s110_121, s110_122, s110_125, s110_127, s110_129, s110_130, s110_131, s110_134, s110_136, s110_138, s110_139, s110_140, s110_143, s110_145, s110_147, s110_148, s110_149, s110_152, s110_153, s110_154, s110_155, s110_156, s110_157, s110_158, s110_159, s110_162, s110_163, s110_164, ↓reduceIte, Option.bind_some, Option.toList, List.cons_append, List.nil_append, bB_0, bB_z, z01_0, z01_1, n01, n00, pm_ro_some, reduceCtorEq, if_true, if_false, and_self, and_true, true_and, not_true, not_false_eq_true, Nat.reduceLeDiff, Nat.reduceAdd, kdM, c105, c104, inLs, in9, hm, g0, g1], s1⟩)
  by_cases g2 : pm_in x2 100 = true
  rotate_left
  · exact PAIR.q hI (-3) ⟨im, by simp only [s42_0, s42_1, s42_3, s42_6, s42_9, s42_11, s42_12, s42_13, s42_16, s42_19, s42_22, s42_23, s42_25, s42_28, s42_31, s42_33, s42_35, s42_38, s42_40, s42_42, s42_45, s42_47, s42_49, s42_52, s42_55, s42_57, s42_59, s42_62, s42_65, s42_67, s42_68, s42_69, s42_72, s42_73, s42_74, s42_76, s42_78, s42_81, s42_83, s42_86, s42_88, s42_89, s42_91, s42_92, s42_93, s42_95, s42_97, s42_99, s42_102, s42_104, s42_105, s42_108, s42_109, s42_110, s42_113, s42_115, s42_118, ↓reduceIte, Option.bind_some, Option.toList, List.cons_append, List.nil_append, bB_0, bB_z, z01_0, z01_1, n01, n00, pm_ro_some, reduceCtorEq, if_true, if_false, and_self, and_true, true_and, not_true, not_false_eq_true, Nat.reduceLeDiff, Nat.reduceAdd, kdX, b75_6, b76, hx, g0, g1, g2], SS.rf⟩ (fun im1 s1 => ⟨im1, by simp only [s110_0, s110_1, s110_4, s110_7, s110_9, s110_10, s110_11, s110_12, s110_13, s110_16, s110_19, s110_22, s110_23, s110_24, s110_25, s110_28, s110_31, s110_34, s110_36, s110_37, s110_40, s110_43, s110_46, s110_49, s110_51, s110_52, s110_53, s110_56, s110_59, s110_62, s110_64, s110_65, s110_66, s110_69, s110_72, s110_75, s110_77, s110_78, s110_79, s110_82, s110_83, s110_84, s110_86, s110_89, s110_91, s110_92, s110_94, s110_95, s110_96, s110_97, s110_100, s110_101, s110_102, s110_103, s110_105, s110_106, s110_109, s110_111, s110_112, s110_113, s110_114, s110_117, s110_119, s110_120, s110_121, s110_122, s110_125, s110_127, s110_129, s110_130, s110_131, s110_134, s110_136, s110_138, s110_139, s110_140, s110_143, s110_145, s110_147, s110_148, s110_149, s110_152, s110_153, s110_154, s110_155, s110_156, s110_157, s110_158, s110_159, s110_162, s110_163, s110_164, ↓reduceIte, Option.bind_some, Option.toList, List.cons_append, List.nil_append, bB_0, bB_z, z01_0, z01_1, n01, n00, pm_ro_some, reduceCtorEq, if_true, if_false, and_self, and_true, true_and, not_true, not_false_eq_true, Nat.reduceLeDiff, Nat.reduceAdd, kdM, c105, c104, inLs, in9, hm, g0, g1, g2], s1⟩)
  by_cases g3 : ¬ x3 < -9 ∧ ¬ nI 9 < x3
  rotate_left
  · refine PAIR.q hI (-3) ⟨im, ?_, SS.rf⟩ (fun im1 s1 => ⟨im1, by simp only [s110_0, s110_1, s110_4, s110_7, s110_9, s110_10, s110_11, s110_12, s110_13, s110_16, s110_19, s110_22, s110_23, s110_24, s110_25, s110_28, s110_31, s110_34, s110_36, s110_37, s110_40, s110_43, s110_46, s110_49, s110_51, s110_52, s110_53, s110_56, s110_59, s110_62, s110_64, s110_65, s110_66, s110_69, s110_72, s110_75, s110_77, s110_78, s110_79, s110_82, s110_83, s110_84, s110_86, s110_89, s110_91, s110_92, s110_94, s110_95, s110_96, s110_97, s110_100, s110_101, s110_102, s110_103, s110_105, s110_106, s110_109, s110_111, s110_112, s110_113, s110_114, s110_117, s110_119, s110_120, s110_121, s110_122, s110_125, s110_127, s110_129, s110_130, s110_131, s110_134, s110_136, s110_138, s110_139, s110_140, s110_143, s110_145, s110_147, s110_148, s110_149, s110_152, s110_153, s110_154, s110_155, s110_156, s110_157, s110_158, s110_159, s110_162, s110_163, s110_164, ↓reduceIte, Option.bind_some, Option.toList, List.cons_append, List.nil_append, bB_0, bB_z, z01_0, z01_1, n01, n00, pm_ro_some, reduceCtorEq, if_true, if_false, and_self, and_true, true_and, not_true, not_false_eq_true, Nat.reduceLeDiff, Nat.reduceAdd, kdM, c105, c104, inLs, in9, hm, g0, g1, g2, g3, decide_false, Bool.false_eq_true], s1⟩)
    by_cases q : x3 < -9
    · simp only [s42_0, s42_1, s42_3, s42_6, s42_9, s42_11, s42_12, s42_13, s42_16, s42_19, s42_22, s42_23, s42_25, s42_28, s42_31, s42_33, s42_35, s42_38, s42_40, s42_42, s42_45, s42_47, s42_49, s42_52, s42_55, s42_57, s42_59, s42_62, s42_65, s42_67, s42_68, s42_69, s42_72, s42_73, s42_74, s42_76, s42_78, s42_81, s42_83, s42_86, s42_88, s42_89, s42_91, s42_92, s42_93, s42_95, s42_97, s42_99, s42_102, s42_104, s42_105, s42_108, s42_109, s42_110, s42_113, s42_115, s42_118, ↓reduceIte, Option.bind_some, Option.toList, List.cons_append, List.nil_append, bB_0, bB_z, z01_0, z01_1, n01, n00, pm_ro_some, reduceCtorEq, if_true, if_false, and_self, and_true, true_and, not_true, not_false_eq_true, Nat.reduceLeDiff, Nat.reduceAdd, kdX, b75_6, b76, hx, g0, g1, g2, q]
    · have q2 : nI 9 < x3 := by
        by_cases q3 : nI 9 < x3
        · exact q3
        · exact absurd ⟨q, q3⟩ g3
      simp only [s42_0, s42_1, s42_3, s42_6, s42_9, s42_11, s42_12, s42_13, s42_16, s42_19, s42_22, s42_23, s42_25, s42_28, s42_31, s42_33, s42_35, s42_38, s42_40, s42_42, s42_45, s42_47, s42_49, s42_52, s42_55, s42_57, s42_59, s42_62, s42_65, s42_67, s42_68, s42_69, s42_72, s42_73, s42_74, s42_76, s42_78, s42_81, s42_83, s42_86, s42_88, s42_89, s42_91, s42_92, s42_93, s42_95, s42_97, s42_99, s42_102, s42_104, s42_105, s42_108, s42_109, s42_110, s42_113, s42_115, s42_118, ↓reduceIte, Option.bind_some, Option.toList, List.cons_append, List.nil_append, bB_0, bB_z, z01_0, z01_1, n01, n00, pm_ro_some, reduceCtorEq, if_true, if_false, and_self, and_true, true_and, not_true, not_false_eq_true, Nat.reduceLeDiff, Nat.reduceAdd, kdX, b75_6, b76, hx, g0, g1, g2, q, q2]
  by_cases g4 : pm_in x4 31 = true
  rotate_left
  · exact PAIR.q hI (-3) ⟨im, by simp only [s42_0, s42_1, s42_3, s42_6, s42_9, s42_11, s42_12, s42_13, s42_16, s42_19, s42_22, s42_23, s42_25, s42_28, s42_31, s42_33, s42_35, s42_38, s42_40, s42_42, s42_45, s42_47, s42_49, s42_52, s42_55, s42_57, s42_59, s42_62, s42_65, s42_67, s42_68, s42_69, s42_72, s42_73, s42_74, s42_76, s42_78, s42_81, s42_83, s42_86, s42_88, s42_89, s42_91, s42_92, s42_93, s42_95, s42_97, s42_99, s42_102, s42_104, s42_105, s42_108, s42_109, s42_110, s42_113, s42_115, s42_118, ↓reduceIte, Option.bind_some, Option.toList, List.cons_append, List.nil_append, bB_0, bB_z, z01_0, z01_1, n01, n00, pm_ro_some, reduceCtorEq, if_true, if_false, and_self, and_true, true_and, not_true, not_false_eq_true, Nat.reduceLeDiff, Nat.reduceAdd, kdX, b75_6, b76, hx, g0, g1, g2, g3.1, g3.2, g4], SS.rf⟩ (fun im1 s1 => ⟨im1, by simp only [s110_0, s110_1, s110_4, s110_7, s110_9, s110_10, s110_11, s110_12, s110_13, s110_16, s110_19, s110_22, s110_23, s110_24, s110_25, s110_28, s110_31, s110_34, s110_36, s110_37, s110_40, s110_43, s110_46, s110_49, s110_51, s110_52, s110_53, s110_56, s110_59, s110_62, s110_64, s110_65, s110_66, s110_69, s110_72, s110_75, s110_77, s110_78, s110_79, s110_82, s110_83, s110_84, s110_86, s110_89, s110_91, s110_92, s110_94, s110_95, s110_96, s110_97, s110_100, s110_101, s110_102, s110_103, s110_105, s110_106, s110_109, s110_111, s110_112, s110_113, s110_114, s110_117, s110_119, s110_120, s110_121, s110_122, s110_125, s110_127, s110_129, s110_130, s110_131, s110_134, s110_136, s110_138, s110_139, s110_140, s110_143, s110_145, s110_147, s110_148, s110_149, s110_152, s110_153, s110_154, s110_155, s110_156, s110_157, s110_158, s110_159, s110_162, s110_163, s110_164, ↓reduceIte, Option.bind_some, Option.toList, List.cons_append, List.nil_append, bB_0, bB_z, z01_0, z01_1, n01, n00, pm_ro_some, reduceCtorEq, if_true, if_false, and_self, and_true, true_and, not_true, not_false_eq_true, Nat.reduceLeDiff, Nat.reduceAdd, kdM, c105, c104, inLs, in9, hm, g0, g1, g2, g3.1, g3.2, g4, decide_true], s1⟩)
  by_cases g5 : pm_in x5 61 = true
  rotate_left
  · exact PAIR.q hI (-3) ⟨im, by simp only [s42_0, s42_1, s42_3, s42_6, s42_9, s42_11, s42_12, s42_13, s42_16, s42_19, s42_22, s42_23, s42_25, s42_28, s42_31, s42_33, s42_35, s42_38, s42_40, s42_42, s42_45, s42_47, s42_49, s42_52, s42_55, s42_57, s42_59, s42_62, s42_65, s42_67, s42_68, s42_69, s42_72, s42_73, s42_74, s42_76, s42_78, s42_81, s42_83, s42_86, s42_88, s42_89, s42_91, s42_92, s42_93, s42_95, s42_97, s42_99, s42_102, s42_104, s42_105, s42_108, s42_109, s42_110, s42_113, s42_115, s42_118, ↓reduceIte, Option.bind_some, Option.toList, List.cons_append, List.nil_append, bB_0, bB_z, z01_0, z01_1, n01, n00, pm_ro_some, reduceCtorEq, if_true, if_false, and_self, and_true, true_and, not_true, not_false_eq_true, Nat.reduceLeDiff, Nat.reduceAdd, kdX, b75_6, b76, hx, g0, g1, g2, g3.1, g3.2, g4, g5], SS.rf⟩ (fun im1 s1 => ⟨im1, by simp only [s110_0, s110_1, s110_4, s110_7, s110_9, s110_10, s110_11, s110_12, s110_13, s110_16, s110_19, s110_22, s110_23, s110_24, s110_25, s110_28, s110_31, s110_34, s110_36, s110_37, s110_40, s110_43, s110_46, s110_49, s110_51, s110_52, s110_53, s110_56, s110_59, s110_62, s110_64, s110_65, s110_66, s110_69, s110_72, s110_75, s110_77, s110_78, s110_79, s110_82, s110_83, s110_84, s110_86, s110_89, s110_91, s110_92, s110_94, s110_95, s110_96, s110_97, s110_100, s110_101, s110_102, s110_103, s110_105, s110_106, s110_109, s110_111, s110_112, s110_113, s110_114, s110_117, s110_119, s110_120, s110_121, s110_122, s110_125, s110_127, s110_129, s110_130, s110_131, s110_134, s110_136, s110_138, s110_139, s110_140, s110_143, s110_145, s110_147, s110_148, s110_149, s110_152, s110_153, s110_154, s110_155, s110_156, s110_157, s110_158, s110_159, s110_162, s110_163, s110_164, ↓reduceIte, Option.bind_some, Option.toList, List.cons_append, List.nil_append, bB_0, bB_z, z01_0, z01_1, n01, n00, pm_ro_some, reduceCtorEq, if_true, if_false, and_self, and_true, true_and, not_true, not_false_eq_true, Nat.reduceLeDiff, Nat.reduceAdd, kdM, c105, c104, inLs, in9, hm, g0, g1, g2, g3.1, g3.2, g4, g5, decide_true], s1⟩)
  have D := hI.d j hj
  have dm := hI.dm hj
  have hc := ix hj
  have n40 := D.n40
  by_cases g6 : tk im j < 40
  rotate_left
  · have e40 : tk im j = 40 := by omega
    refine PAIR.q hI (-5) ⟨im, ?_, SS.rf⟩ (fun im1 s1 => ⟨im1, ?_, s1⟩)
    · simp only [s42_0, s42_1, s42_3, s42_6, s42_9, s42_11, s42_12, s42_13, s42_16, s42_19, s42_22, s42_23, s42_25, s42_28, s42_31, s42_33, s42_35, s42_38, s42_40, s42_42, s42_45, s42_47, s42_49, s42_52, s42_55, s42_57, s42_59, s42_62, s42_65, s42_67, s42_68, s42_69, s42_72, s42_73, s42_74, s42_76, s42_78, s42_81, s42_83, s42_86, s42_88, s42_89, s42_91, s42_92, s42_93, s42_95, s42_97, s42_99, s42_102, s42_104, s42_105, s42_108, s42_109, s42_110, s42_113, s42_115, s42_118, ↓reduceIte, Option.bind_some, Option.toList, List.cons_append, List.nil_append, bB_0, bB_z, z01_0, z01_1, n01, n00, pm_ro_some, reduceCtorEq, if_true, if_false, and_self, and_true, true_and, not_true, not_false_eq_true, Nat.reduceLeDiff, Nat.reduceAdd, kdX, b75_6, b76, hx, g0, g1, g2, g3.1, g3.2, g4, g5, dm, hc, D.le, e40, lpT]
    · simp only [s110_0, s110_1, s110_4, s110_7, s110_9, s110_10, s110_11, s110_12, s110_13, s110_16, s110_19, s110_22, s110_23, s110_24, s110_25, s110_28, s110_31, s110_34, s110_36, s110_37, s110_40, s110_43, s110_46, s110_49, s110_51, s110_52, s110_53, s110_56, s110_59, s110_62, s110_64, s110_65, s110_66, s110_69, s110_72, s110_75, s110_77, s110_78, s110_79, s110_82, s110_83, s110_84, s110_86, s110_89, s110_91, s110_92, s110_94, s110_95, s110_96, s110_97, s110_100, s110_101, s110_102, s110_103, s110_105, s110_106, s110_109, s110_111, s110_112, s110_113, s110_114, s110_117, s110_119, s110_120, s110_121, s110_122, s110_125, s110_127, s110_129, s110_130, s110_131, s110_134, s110_136, s110_138, s110_139, s110_140, s110_143, s110_145, s110_147, s110_148, s110_149, s110_152, s110_153, s110_154, s110_155, s110_156, s110_157, s110_158, s110_159, s110_162, s110_163, s110_164, ↓reduceIte, Option.bind_some, Option.toList, List.cons_append, List.nil_append, bB_0, bB_z, z01_0, z01_1, n01, n00, pm_ro_some, reduceCtorEq, if_true, if_false, and_self, and_true, true_and, not_true, not_false_eq_true, Nat.reduceLeDiff, Nat.reduceAdd, kdM, c105, c104, inLs, in9, hm, g0, g1, g2, g3.1, g3.2, g4, g5, decide_true, hc, s1.m, D.mn, e40]
  generalize hn : tk im j = n at *
  have hl := D.le
  rw [hn] at hl
  have hmn := D.mn
  rw [hn] at hmn
  have hdr : dr j = 51 + 8 * j := rfl
  have A := c3 (im := im) dm.2.2.1 dm.2.1 (fun q h1 h2 => kd_da hj h1 h2) g6 hl x1 x2 x3 x4 x5
  generalize h0 : pm_w2 (pm_w2 (pm_w2 (pm_w2 (pm_w2 (pm_w2 (pm_w2 im (dr j + 1) n x1) (dr j + 2) n x2) (dr j + 3) n x3) (dr j + 4) n x4) (dr j + 5) n x5) (dr j + 6) n (iab x3 + (if n = 0 then nI 0 else im (dr j + 6) (n - 1)))) (dr j) 2 (nI (n + 1)) = im0 at A
  obtain ⟨im1, B1, B2, B3⟩ := c4 (im := im0) (n := n + 1) (rm := rm) dm.2.2.1 ⟨dm.2.1.2.1, dm.2.1.2.2.2.2.2.2⟩ (kd_da hj (by omega) (by omega)) (kd_da hj (by omega) (by omega)) (by omega) (by rw [← h0, w2_s]) (im 11 1)
  have e0 : ∀ b i, (b < 51 ∨ 99 ≤ b) → im0 b i = im b i := by
    intro b i hb
    rw [← h0]
    simp (disch := omega) only [w2_n]
  have e1 : ∀ b i, (b < 51 ∨ 99 ≤ b) → im1 b i = im b i := fun b i hb => by rw [B3 b i (by omega), e0 b i hb]
  have hm1 : im1 132 j = nI n := by rw [e1 _ _ (by omega)]; exact hmn
  refine ⟨nI (n + 1), im1, rm, pm_w2 (pm_w2 (pm_w2 (pm_w2 (pm_w2 (pm_w2 im1 133 (40 * j + n) x1) 134 (40 * j + n) x2) 135 (40 * j + n) x3) 136 (40 * j + n) x4) 137 (40 * j + n) x5) 132 j (nI (n + 1)), rm, pp, ll, ?_, ?_, ?_⟩
  · have q1 : im0 11 1 = im 11 1 := e0 _ _ (by omega)
    have q2 : im1 (dr j) 2 = nI (n + 1) := by rw [B3 _ _ (by omega), ← h0, w2_s]
    simp only [s42_0, s42_1, s42_3, s42_6, s42_9, s42_11, s42_12, s42_13, s42_16, s42_19, s42_22, s42_23, s42_25, s42_28, s42_31, s42_33, s42_35, s42_38, s42_40, s42_42, s42_45, s42_47, s42_49, s42_52, s42_55, s42_57, s42_59, s42_62, s42_65, s42_67, s42_68, s42_69, s42_72, s42_73, s42_74, s42_76, s42_78, s42_81, s42_83, s42_86, s42_88, s42_89, s42_91, s42_92, s42_93, s42_95, s42_97, s42_99, s42_102, s42_104, s42_105, s42_108, s42_109, s42_110, s42_113, s42_115, s42_118, ↓reduceIte, Option.bind_some, Option.toList, List.cons_append, List.nil_append, bB_0, bB_z, z01_0, z01_1, n01, n00, pm_ro_some, reduceCtorEq, if_true, if_false, and_self, and_true, true_and, not_true, not_false_eq_true, Nat.reduceLeDiff, Nat.reduceAdd, kdX, b75_6, b76, hx, g0, g1, g2, g3.1, g3.2, g4, g5, dm, hc, hl, lpF g6 (by omega), A, q1, B1, q2, ix (show 1 < 4 by omega)]
  · have q1 := ix (show 40 * j + n < 240 by omega)
    have q2 : (n = 40) = False := by apply eq_false; omega
    have q3 : ∀ (f : IM) i x, pm_w2 f 133 i x 132 j = f 132 j ∧ pm_w2 f 134 i x 132 j = f 132 j ∧ pm_w2 f 135 i x 132 j = f 132 j ∧ pm_w2 f 136 i x 132 j = f 132 j ∧ pm_w2 f 137 i x 132 j = f 132 j := fun f i x => ⟨w2_a (by omega), w2_a (by omega), w2_a (by omega), w2_a (by omega), w2_a (by omega)⟩
    simp only [s110_0, s110_1, s110_4, s110_7, s110_9, s110_10, s110_11, s110_12, s110_13, s110_16, s110_19, s110_22, s110_23, s110_24, s110_25, s110_28, s110_31, s110_34, s110_36, s110_37, s110_40, s110_43, s110_46, s110_49, s110_51, s110_52, s110_53, s110_56, s110_59, s110_62, s110_64, s110_65, s110_66, s110_69, s110_72, s110_75, s110_77, s110_78, s110_79, s110_82, s110_83, s110_84, s110_86, s110_89, s110_91, s110_92, s110_94, s110_95, s110_96, s110_97, s110_100, s110_101, s110_102, s110_103, s110_105, s110_106, s110_109, s110_111, s110_112, s110_113, s110_114, s110_117, s110_119, s110_120, s110_121, s110_122, s110_125, s110_127, s110_129, s110_130, s110_131, s110_134, s110_136, s110_138, s110_139, s110_140, s110_143, s110_145, s110_147, s110_148, s110_149, s110_152, s110_153, s110_154, s110_155, s110_156, s110_157, s110_158, s110_159, s110_162, s110_163, s110_164, ↓reduceIte, Option.bind_some, Option.toList, List.cons_append, List.nil_append, bB_0, bB_z, z01_0, z01_1, n01, n00, pm_ro_some, reduceCtorEq, if_true, if_false, and_self, and_true, true_and, not_true, not_false_eq_true, Nat.reduceLeDiff, Nat.reduceAdd, kdM, c105, c104, inLs, in9, hm, g0, g1, g2, g3.1, g3.2, g4, g5, decide_true, hc, hm1, nI_eqq (show n < 2 ^ 31 by omega) (show 40 < 2 ^ 31 by decide), q2, i40, q1, q3, nI_add, w2_s]
  · generalize hw : pm_w2 (pm_w2 (pm_w2 (pm_w2 (pm_w2 (pm_w2 im1 133 (40 * j + n) x1) 134 (40 * j + n) x2) 135 (40 * j + n) x3) 136 (40 * j + n) x4) 137 (40 * j + n) x5) 132 j (nI (n + 1)) = im2
    have E : ∀ b i, (b < 51 ∨ 99 ≤ b) → ¬ (133 ≤ b ∧ b ≤ 137 ∧ i = 40 * j + n) → ¬ (b = 132 ∧ i = j) → im2 b i = im b i := by
      intro b i hb hb2 hb3
      rw [← hw]
      simp (disch := omega) only [w2_n]
      exact e1 b i hb
    have E0 : ∀ b i, b < 129 → im2 b i = im1 b i := by
      intro b i hb
      rw [← hw]
      simp (disch := omega) only [w2_n]
    have Et : tk im2 j = n + 1 := by
      unfold tk
      rw [← hw, w2_s, nI_clamp (by omega)]
    refine ⟨?_, ?_, ?_, ?_, ?_, ?_, ?_, ?_, ?_, ?_, hI.r, hI.x, hI.m⟩
    · intro d hd
      by_cases ed : d = j
      · subst ed
        have o0 : ∀ i, i ≠ 2 → im2 (dr d) i = im (dr d) i := by
          intro i hi
          rw [E0 _ _ (by omega), B3 _ _ (by omega), ← h0]
          simp (disch := omega) only [w2_n]
        have o2 : im2 (dr d) 2 = nI (n + 1) := by
          rw [E0 _ _ (by omega), B3 _ _ (by omega), ← h0, w2_s]
        have m5 : im2 133 (40 * d + n) = x1 ∧ im2 134 (40 * d + n) = x2 ∧ im2 135 (40 * d + n) = x3 ∧ im2 136 (40 * d + n) = x4 ∧ im2 137 (40 * d + n) = x5 := by
          rw [← hw]
          simp (disch := omega) only [w2_n, w2_s, and_self]
        have mo : ∀ t, t < n → im2 133 (40 * d + t) = im 133 (40 * d + t) ∧ im2 134 (40 * d + t) = im 134 (40 * d + t) ∧ im2 135 (40 * d + t) = im 135 (40 * d + t) ∧ im2 136 (40 * d + t) = im 136 (40 * d + t) ∧ im2 137 (40 * d + t) = im 137 (40 * d + t) := fun t ht => ⟨E _ _ (by omega) (by omega) (by omega), E _ _ (by omega) (by omega) (by omega), E _ _ (by omega) (by omega) (by omega), E _ _ (by omega) (by omega) (by omega), E _ _ (by omega) (by omega) (by omega)⟩
        have ro : ∀ k t, 1 ≤ k → k ≤ 6 → t < n → im2 (dr d + k) t = im (dr d + k) t := by
          intro k t h1 h2 h3
          rw [E0 _ _ (by omega), B3 _ _ (by omega), ← h0]
          simp (disch := omega) only [w2_n]
        have rn : im2 (dr d + 1) n = x1 ∧ im2 (dr d + 2) n = x2 ∧ im2 (dr d + 3) n = x3 ∧ im2 (dr d + 4) n = x4 ∧ im2 (dr d + 5) n = x5 ∧ im2 (dr d + 6) n = iab x3 + (if n = 0 then nI 0 else im (dr d + 6) (n - 1)) := by
          rw [E0 (dr d + 1) _ (by omega), E0 (dr d + 2) _ (by omega), E0 (dr d + 3) _ (by omega), E0 (dr d + 4) _ (by omega), E0 (dr d + 5) _ (by omega), E0 (dr d + 6) _ (by omega), B3 (dr d + 1) _ (by omega), B3 (dr d + 2) _ (by omega), B3 (dr d + 3) _ (by omega), B3 (dr d + 4) _ (by omega), B3 (dr d + 5) _ (by omega), B3 (dr d + 6) _ (by omega), ← h0]
          simp (disch := omega) only [w2_n, w2_s, and_self]
        have r2 : ∀ t, t < n + 1 → im0 (dr d + 2) t = im2 134 (40 * d + t) := by
          intro t ht
          rw [← B3 _ _ (by omega), ← E0 _ _ (by omega)]
          by_cases e : t = n
          · rw [e, rn.2.1, m5.2.1]
          · rw [ro 2 t (by omega) (by omega) (by omega), (mo t (by omega)).2.1]
            exact (D.row t (by omega)).2.1
        have r7 : ∀ t, t < n + 1 → im2 (dr d + 7) t = sot im2 d t := by
          intro t ht
          rw [E0 _ _ (by omega), B2 t ht]
          unfold sot
          rw [E 139 1 (by omega) (by omega) (by omega), ← hI.s.1 1 (by omega)]
          exact sotf_cg t (fun i hi => r2 i (by omega))
        refine ⟨?_, ?_, ?_, ?_, ?_, ?_, ?_, ?_, ?_, ?_, ?_⟩
        · rw [o0 0 (by omega), E 130 d (by omega) (by omega) (by omega)]; exact D.so
        · rw [o0 1 (by omega), E 131 d (by omega) (by omega) (by omega)]; exact D.st
        · rw [Et]; exact o2
        · rw [o0 3 (by omega), E 155 d (by omega) (by omega) (by omega)]; exact D.lc
        · rw [E 130 d (by omega) (by omega) (by omega)]; exact D.so2
        · rw [E 131 d (by omega) (by omega) (by omega)]; exact D.st4
        · rw [E 155 d (by omega) (by omega) (by omega)]; exact D.lc9
        · rw [Et, ← hw, w2_s]
        · omega
        · intro t ht
          rw [Et] at ht
          refine ⟨?_, ?_, ?_, ?_, ?_, ?_, r7 t ht⟩
          all_goals by_cases e : t = n
          · rw [e, rn.1, m5.1]
          · rw [ro _ t (by omega) (by omega) (by omega), (mo t (by omega)).1]; exact (D.row t (by omega)).1
          · rw [e, rn.2.1, m5.2.1]
          · rw [ro _ t (by omega) (by omega) (by omega), (mo t (by omega)).2.1]; exact (D.row t (by omega)).2.1
          · rw [e, rn.2.2.1, m5.2.2.1]
          · rw [ro _ t (by omega) (by omega) (by omega), (mo t (by omega)).2.2.1]; exact (D.row t (by omega)).2.2.1
          · rw [e, rn.2.2.2.1, m5.2.2.2.1]
          · rw [ro _ t (by omega) (by omega) (by omega), (mo t (by omega)).2.2.2.1]; exact (D.row t (by omega)).2.2.2.1
          · rw [e, rn.2.2.2.2.1, m5.2.2.2.2]
          · rw [ro _ t (by omega) (by omega) (by omega), (mo t (by omega)).2.2.2.2]; exact (D.row t (by omega)).2.2.2.2.1
          · rw [e, rn.2.2.2.2.2]
            have q : trs im2 d n = (if n = 0 then nI 0 else im (dr d + 6) (n - 1)) := by
              rw [trs_cg (σ := im) (fun s hs => (mo s hs).2.2.1)]
              by_cases hz : n = 0
              · rw [if_pos hz, hz]; rfl
              · rw [if_neg hz, (D.row (n - 1) (by omega)).2.2.2.2.2.1, show n - 1 + 1 = n by omega]
            show _ = trs im2 d n + iab (im2 135 (40 * d + n))
            rw [q, m5.2.2.1, Int32.add_comm]
          · rw [ro _ t (by omega) (by omega) (by omega), trs_cg (σ := im) (fun s hs => (mo s (by omega)).2.2.1)]; exact (D.row t (by omega)).2.2.2.2.2.1
        · intro t ht
          rw [Et] at ht
          by_cases e : t = n
          · rw [e, m5.1, m5.2.1, m5.2.2.1, m5.2.2.2.1, m5.2.2.2.2]
            refine ⟨g1, g2, ?_, g4, g5⟩
            have := g3
            rw [i32_lt, i32_lt, show ((-9 : Int32)).toInt = -9 from by decide, show (nI 9).toInt = 9 from by decide] at this
            omega
          · have := mo t (by omega)
            rw [this.1, this.2.1, this.2.2.1, this.2.2.2.1, this.2.2.2.2]
            exact D.rng t (by omega)
      · have hdr2 : dr d = 51 + 8 * d := rfl
        refine (hI.d d hd).cg ?_ ⟨E _ _ (by omega) (by omega) (by omega), E _ _ (by omega) (by omega) (by omega), E _ _ (by omega) (by omega) (by omega), E _ _ (by omega) (by omega) (by omega)⟩ (fun t ht => ⟨E _ _ (by omega) (by omega) (by omega), E _ _ (by omega) (by omega) (by omega), E _ _ (by omega) (by omega) (by omega), E _ _ (by omega) (by omega) (by omega), E _ _ (by omega) (by omega) (by omega)⟩) (E _ _ (by omega) (by omega) (by omega))
        intro k i hk
        rw [E0 _ _ (by omega), B3 _ _ (by omega), ← h0]
        simp (disch := omega) only [w2_n]
    · exact hI.s.cg (fun a i q => E a i (by omega) (by omega) (by omega))
    · exact hI.o.cg (fun a i q => E a i (by omega) (by omega) (by omega))
    · exact hI.t.cg (fun a i q => E a i (by omega) (by omega) (by omega))
    · intro v hv
      have := hI.r.p v (by omega)
      exact (hI.p v hv).cg (fun k i hk => E _ _ (by omega) (by omega) (by omega)) (E _ _ (by omega) (by omega) (by omega)) (fun i hi => ⟨E _ _ (by omega) (by omega) (by omega), E _ _ (by omega) (by omega) (by omega)⟩) (fun i hi => ⟨E _ _ (by omega) (by omega) (by omega), E _ _ (by omega) (by omega) (by omega), E _ _ (by omega) (by omega) (by omega)⟩)
    · intro v hv
      have := hI.r.l v (by omega)
      exact (hI.l v hv).cg (fun k i hk => E _ _ (by omega) (by omega) (by omega)) (E _ _ (by omega) (by omega) (by omega)) (fun i hi => ⟨E _ _ (by omega) (by omega) (by omega), E _ _ (by omega) (by omega) (by omega)⟩)
    · exact hI.e.cg (fun a i q => E a i (by omega) (by omega) (by omega))
    · exact hI.c.cg (fun a i q => E a i (by omega) (by omega) (by omega))
    · exact hI.n.cg (fun a i q => E a i (by omega) (by omega) (by omega))
    · exact hI.q.cg (fun a i q => E a i (by omega) (by omega) (by omega))
