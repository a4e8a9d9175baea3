-- needs: 57
/-! Readings and tests in texts: both sides. -/
theorem isL_s {wd : Int32} {L j : Nat} (h : (pm_stb j).length = L ∧ L ≤ 6 ∧ ∀ i, i < L → nI 96 + ((wd >>> (nI 5 * nI i &&& 31)) &&& nI 31) = (pm_stb j).getD i 0) : isL wd L (pm_stb j) := h
theorem wMap : isL (nI 16429) 3 (pm_stb 1) := isL_s (by decide)
theorem wWhen : isL (nI 464151) 4 (pm_stb 2) := isL_s (by decide)
theorem wAnd : isL (nI 4545) 3 (pm_stb 3) := isL_s (by decide)
theorem wAbove : isL (nI 5979201) 5 (pm_stb 4) := isL_s (by decide)
theorem wBelow : isL (nI 24621218) 5 (pm_stb 5) := isL_s (by decide)
theorem wGram : isL (nI 427591) 4 (pm_stb 6) := isL_s (by decide)
theorem wRoad : isL (nI 132594) 4 (pm_stb 7) := isL_s (by decide)
theorem wBan : isL (nI 14370) 3 (pm_stb 8) := isL_s (by decide)
theorem wAsk : isL (nI 11873) 3 (pm_stb 9) := isL_s (by decide)
theorem wTime : isL (nI 177460) 4 (pm_stb 10) := isL_s (by decide)
theorem wWheel : isL (nI 12752151) 5 (pm_stb 11) := isL_s (by decide)
theorem wTurned : isL (nI 139938484) 6 (pm_stb 12) := isL_s (by decide)
theorem wHeight : isL (nI 679716008) 6 (pm_stb 13) := isL_s (by decide)
theorem wHeat : isL (nI 656552) 4 (pm_stb 14) := isL_s (by decide)
theorem wSpeed : isL (nI 4363795) 5 (pm_stb 15) := isL_s (by decide)
theorem wLoad : isL (nI 132588) 4 (pm_stb 16) := isL_s (by decide)
theorem wSoot : isL (nI 671219) 4 (pm_stb 17) := isL_s (by decide)
def rdn (B : Nat → Int32) (N : Nat) (T : Nat × Nat) : Nat × Nat := if rdx B T = -1 then T else nx B N T
theorem oT_r {B : Nat → Int32} {N : Nat} {T : Nat × Nat} (h : oT B N T) : oT B N (rdn B N T) := by
  unfold rdn
  split
  · exact h
  · exact oT_n h
def abT (B : Nat → Int32) (N : Nat) (T : Nat × Nat) : Bool := isW B (pm_stb 4) (nx B N T)
def okT (B : Nat → Int32) (N : Nat) (T : Nat × Nat) : Bool := !decide (rdx B T = -1) && (abT B N T || isW B (pm_stb 5) (nx B N T)) && nok B 999 (nx B N (nx B N T))
def aft (B : Nat → Int32) (N : Nat) (T : Nat × Nat) : Nat × Nat := if rdx B T = -1 then T else if (abT B N T || isW B (pm_stb 5) (nx B N T)) = true then cond (nok B 999 (nx B N (nx B N T))) (nx B N (nx B N (nx B N T))) (nx B N (nx B N T)) else nx B N T
theorem oT_a {B : Nat → Int32} {N : Nat} {T : Nat × Nat} (h : oT B N T) : oT B N (aft B N T) := by
  unfold aft
  split
  · exact h
  · split
    · exact oT_c (oT_n (oT_n h)) _
    · exact oT_n h
section TST
variable {im σ : IM} {rm : RM} {pp ll : Nat → Nat} {B : Nat → Int32} {N : Nat} {T : Nat × Nat}
theorem CC.w {m : IM} (h : CC B N m T) {a i : Nat} {x : Int32} (h4 : a ≠ 4) (h5 : a ≠ 5) : CC B N (pm_w2 m a i x) T := by
  refine ⟨⟨?_, fun k hk => ?_⟩, ?_, ?_⟩
  · rw [w2_a (Ne.symm h4)]; exact h.1.1
  · rw [w2_a (Ne.symm h5)]; exact h.1.2 k hk
  · rw [w2_a (Ne.symm h4)]; exact h.2.1
  · rw [w2_a (Ne.symm h4)]; exact h.2.2
theorem MK.w {m : IM} (h : MK B N m T) {a i : Nat} {x : Int32} (h4 : a ≠ 129) (h5 : a ≠ 140) : MK B N (pm_w2 m a i x) T := by
  refine ⟨⟨?_, fun k hk => ?_⟩, ?_, ?_, ?_⟩
  · rw [w2_a (Ne.symm h4)]; exact h.1.1
  · rw [w2_a (Ne.symm h5)]; exact h.1.2 k hk
  · rw [w2_a (Ne.symm h4)]; exact h.2.1
  · rw [w2_a (Ne.symm h4)]; exact h.2.2.1
  · rw [w2_a (Ne.symm h4)]; exact h.2.2.2
theorem MK.w7 {m : IM} (h : MK B N m T) {x : Int32} : MK B N (pm_w2 m 129 37 x) T := by
  refine ⟨⟨?_, fun k hk => ?_⟩, ?_, ?_, ?_⟩
  · rw [w2_i (by omega)]; exact h.1.1
  · rw [w2_a (by omega)]; exact h.1.2 k hk
  · rw [w2_i (by omega)]; exact h.2.1
  · rw [w2_i (by omega)]; exact h.2.2.1
  · rw [w2_i (by omega)]; exact h.2.2.2
theorem c32 (hx : rmX rm pp ll) (hN : N ≤ 160) (h : CC B N im T) (o : oT B N T) : ∃ im', ev 32 0 [.ref 4, pm_u] [] im rm = some (some (.int (rdx B T)), im', rm) ∧ CC B N im' (rdn B N T) ∧ frC im im' := by
  obtain ⟨g1, G1, G2, G3⟩ := gC (rm := rm) hx hN h o
  have key : ∀ r, r ≤ 8 → ∃ im', ev 32 2 [.ref 4, .int (nI r)] [] im rm = some (some (.int (rdf B T r (8 - r))), im', rm) ∧ CC B N im' (if rdf B T r (8 - r) = -1 then T else nx B N T) ∧ frC im im' := by
    refine dn ?_ ?_
    · refine ⟨im, ?_, h, frC.rf⟩
      simp only [s32_0, s32_1, s32_2, s32_3, s32_5, s32_8, s32_9, s32_10, s32_13, s32_16, s32_19, s32_20, s32_23, s32_24, s32_25, s32_28, s32_31, s32_32, ↓reduceIte, Option.bind_some, Option.toList, List.cons_append, List.nil_append, bB_0, bB_z, z01_0, z01_1, n01, n00, pm_ro_some, reduceCtorEq, if_true, if_false, and_self, and_true, true_and, not_true, not_false_eq_true, Nat.reduceLeDiff, Nat.reduceAdd, kdX, lpT, Nat.sub_self, rdf]
    · intro r hr ih
      have e : rdf B T r (8 - r) = if isW B (pm_stb (10 + r)) T = true then nI r else rdf B T (r + 1) (8 - (r + 1)) := by
        rw [show 8 - r = 8 - (r + 1) + 1 by omega]
        rfl
      have k := c37 (rm := rm) hx hN h o (show 10 + r < 18 by omega)
      rw [e]
      by_cases b : isW B (pm_stb (10 + r)) T = true
      · rw [if_pos b]
        refine ⟨g1, ?_, by rw [if_neg (by rw [nIm1 (show r < 2 ^ 31 by omega)]; exact id)]; exact G2, G3⟩
        simp only [s32_0, s32_1, s32_2, s32_3, s32_5, s32_8, s32_9, s32_10, s32_13, s32_16, s32_19, s32_20, s32_23, s32_24, s32_25, s32_28, s32_31, s32_32, ↓reduceIte, Option.bind_some, Option.toList, List.cons_append, List.nil_append, bB_0, bB_z, z01_0, z01_1, n01, n00, pm_ro_some, reduceCtorEq, if_true, if_false, and_self, and_true, true_and, not_true, not_false_eq_true, Nat.reduceLeDiff, Nat.reduceAdd, kdX, lpF hr (show 8 < 2 ^ 31 by decide), c33 hr, k, b, G1]
      · rw [if_neg b]
        obtain ⟨im', E1, E2⟩ := ih
        refine ⟨im', ?_, E2⟩
        rw [← E1, s32_2]
        simp only [s32_0, s32_1, s32_3, s32_5, s32_8, s32_9, s32_10, s32_13, s32_16, s32_19, s32_20, s32_23, s32_24, s32_25, s32_28, s32_31, s32_32, ↓reduceIte, Option.bind_some, Option.toList, List.cons_append, List.nil_append, bB_0, bB_z, z01_0, z01_1, n01, n00, pm_ro_some, reduceCtorEq, if_true, if_false, and_self, and_true, true_and, not_true, not_false_eq_true, Nat.reduceLeDiff, Nat.reduceAdd, kdX, lpF hr (show 8 < 2 ^ 31 by decide), c33 hr, k, b, nI_add]
  obtain ⟨im', E1, E2⟩ := key 0 (by omega)
  refine ⟨im', ?_, E2⟩
  rw [show rdx B T = rdf B T 0 (8 - 0) from rfl, ← E1]
  simp only [s32_0, s32_1]
theorem c124 (hm : rmM rm) (hN : N ≤ 160) (h : MK B N im T) (o : oT B N T) : ∃ im', ev 124 0 [.ref 129, pm_u] [] im rm = some (some (.int (bB (!decide (rdx B T = -1)))), im', rm) ∧ MK B N im' (rdn B N T) ∧ (¬ rdx B T = -1 → im' 129 37 = rdx B T) ∧ frM im im' := by
  have seg : ev 124 0 [.ref 129, pm_u] [] im rm = ev 124 118 [.ref 129, .int (rdx B T)] [] im rm := by
    have k0 := c121 (rm := rm) hm hN h o wTime
    have k1 := c121 (rm := rm) hm hN h o wWheel
    have k2 := c121 (rm := rm) hm hN h o wTurned
    have k3 := c121 (rm := rm) hm hN h o wHeight
    have k4 := c121 (rm := rm) hm hN h o wHeat
    have k5 := c121 (rm := rm) hm hN h o wSpeed
    have k6 := c121 (rm := rm) hm hN h o wLoad
    have k7 := c121 (rm := rm) hm hN h o wSoot
    have e : rdx B T = if isW B (pm_stb 10) T = true then nI 0 else if isW B (pm_stb 11) T = true then nI 1 else if isW B (pm_stb 12) T = true then nI 2 else if isW B (pm_stb 13) T = true then nI 3 else if isW B (pm_stb 14) T = true then nI 4 else if isW B (pm_stb 15) T = true then nI 5 else if isW B (pm_stb 16) T = true then nI 6 else if isW B (pm_stb 17) T = true then nI 7 else -1 := rfl
    rw [e]
    by_cases b0 : isW B (pm_stb 10) T = true
    · simp only [s124_0, s124_1, s124_3, s124_4, s124_7, s124_10, s124_11, s124_14, s124_15, s124_17, s124_18, s124_21, s124_24, s124_25, s124_28, s124_29, s124_31, s124_33, s124_36, s124_39, s124_40, s124_43, s124_44, s124_46, s124_48, s124_51, s124_54, s124_55, s124_58, s124_59, s124_61, s124_62, s124_65, s124_68, s124_69, s124_72, s124_73, s124_75, s124_76, s124_79, s124_82, s124_83, s124_86, s124_87, s124_89, s124_90, s124_93, s124_96, s124_98, s124_101, s124_102, s124_104, s124_105, s124_108, s124_111, s124_113, s124_116, s124_117, ↓reduceIte, Option.bind_some, Option.toList, List.cons_append, List.nil_append, bB_0, bB_z, z01_0, z01_1, n01, n00, pm_ro_some, reduceCtorEq, if_true, if_false, and_self, and_true, true_and, not_true, not_false_eq_true, Nat.reduceLeDiff, Nat.reduceAdd, kdM, k0, b0]
    by_cases b1 : isW B (pm_stb 11) T = true
    · simp only [s124_0, s124_1, s124_3, s124_4, s124_7, s124_10, s124_11, s124_14, s124_15, s124_17, s124_18, s124_21, s124_24, s124_25, s124_28, s124_29, s124_31, s124_33, s124_36, s124_39, s124_40, s124_43, s124_44, s124_46, s124_48, s124_51, s124_54, s124_55, s124_58, s124_59, s124_61, s124_62, s124_65, s124_68, s124_69, s124_72, s124_73, s124_75, s124_76, s124_79, s124_82, s124_83, s124_86, s124_87, s124_89, s124_90, s124_93, s124_96, s124_98, s124_101, s124_102, s124_104, s124_105, s124_108, s124_111, s124_113, s124_116, s124_117, ↓reduceIte, Option.bind_some, Option.toList, List.cons_append, List.nil_append, bB_0, bB_z, z01_0, z01_1, n01, n00, pm_ro_some, reduceCtorEq, if_true, if_false, and_self, and_true, true_and, not_true, not_false_eq_true, Nat.reduceLeDiff, Nat.reduceAdd, kdM, k0, b0, k1, b1]
    by_cases b2 : isW B (pm_stb 12) T = true
    · simp only [s124_0, s124_1, s124_3, s124_4, s124_7, s124_10, s124_11, s124_14, s124_15, s124_17, s124_18, s124_21, s124_24, s124_25, s124_28, s124_29, s124_31, s124_33, s124_36, s124_39, s124_40, s124_43, s124_44, s124_46, s124_48, s124_51, s124_54, s124_55, s124_58, s124_59, s124_61, s124_62, s124_65, s124_68, s124_69, s124_72, s124_73, s124_75, s124_76, s124_79, s124_82, s124_83, s124_86, s124_87, s124_89, s124_90, s124_93, s124_96, s124_98, s124_101, s124_102, s124_104, s124_105, s124_108, s124_111, s124_113, s124_116, s124_117, ↓reduceIte, Option.bind_some, Option.toList, List.cons_append, List.nil_append, bB_0, bB_z, z01_0, z01_1, n01, n00, pm_ro_some, reduceCtorEq, if_true, if_false, and_self, and_true, true_and, not_true, not_false_eq_true, Nat.reduceLeDiff, Nat.reduceAdd, kdM, k0, b0, k1, b1, k2, b2]
    by_cases b3 : isW B (pm_stb 13) T = true
    · simp only [s124_0, s124_1, s124_3, s124_4, s124_7, s124_10, s124_11, s124_14, s124_15, s124_17, s124_18, s124_21, s124_24, s124_25, s124_28, s124_29, s124_31, s124_33, s124_36, s124_39, s124_40, s124_43, s124_44, s124_46, s124_48, s124_51, s124_54, s124_55, s124_58, s124_59, s124_61, s124_62, s124_65, s124_68, s124_69, s124_72, s124_73, s124_75, s124_76, s124_79, s124_82, s124_83, s124_86, s124_87, s124_89, s124_90, s124_93, s124_96, s124_98, s124_101, s124_102, s124_104, s124_105, s124_108, s124_111, s124_113, s124_116, s124_117, ↓reduceIte, Option.bind_some, Option.toList, List.cons_append, List.nil_append, bB_0, bB_z, z01_0, z01_1, n01, n00, pm_ro_some, reduceCtorEq, if_true, if_false, and_self, and_true, true_and, not_true, not_false_eq_true, Nat.reduceLeDiff, Nat.reduceAdd, kdM, k0, b0, k1, b1, k2, b2, k3, b3]
    by_cases b4 : isW B (pm_stb 14) T = true
    · simp only [s124_0, s124_1, s124_3, s124_4, s124_7, s124_10, s124_11, s124_14, s124_15, s124_17, s124_18, s124_21, s124_24, s124_25, s124_28, s124_29, s124_31, s124_33, s124_36, s124_39, s124_40, s124_43, s124_44, s124_46, s124_48, s124_51, s124_54, s124_55, s124_58, s124_59, s124_61, s124_62, s124_65, s124_68, s124_69, s124_72, s124_73, s124_75, s124_76, s124_79, s124_82, s124_83, s124_86, s124_87, s124_89, s124_90, s124_93, s124_96, s124_98, s124_101, s124_102, s124_104, s124_105, s124_108, s124_111, s124_113, s124_116, s124_117, ↓reduceIte, Option.bind_some, Option.toList, List.cons_append, List.nil_append, bB_0, bB_z, z01_0, z01_1, n01, n00, pm_ro_some, reduceCtorEq, if_true, if_false, and_self, and_true, true_and, not_true, not_false_eq_true, Nat.reduceLeDiff, Nat.reduceAdd, kdM, k0, b0, k1, b1, k2, b2, k3, b3, k4, b4]
    by_cases b5 : isW B (pm_stb 15) T = true
    · simp only [s124_0, s124_1, s124_3, s124_4, s124_7, s124_10, s124_11, s124_14, s124_15, s124_17, s124_18, s124_21, s124_24, s124_25, s124_28, s124_29, s124_31, s124_33, s124_36, s124_39, s124_40, s124_43, s124_44, s124_46, s124_48, s124_51, s124_54, s124_55, s124_58, s124_59, s124_61, s124_62, s124_65, s124_68, s124_69, s124_72, s124_73, s124_75, s124_76, s124_79, s124_82, s124_83, s124_86, s124_87, s124_89, s124_90, s124_93, s124_96, s124_98, s124_101, s124_102, s124_104, s124_105, s124_108, s124_111, s124_113, s124_116, s124_117, ↓reduceIte, Option.bind_some, Option.toList, List.cons_append, List.nil_append, bB_0, bB_z, z01_0, z01_1, n01, n00, pm_ro_some, reduceCtorEq, if_true, if_false, and_self, and_true, true_and, not_true, not_false_eq_true, Nat.reduceLeDiff, Nat.reduceAdd, kdM, k0, b0, k1, b1, k2, b2, k3, b3, k4, b4, k5, b5]
    by_cases b6 : isW B (pm_stb 16) T = true
    · simp only [s124_0, s124_1, s124_3, s124_4, s124_7, s124_10, s124_11, s124_14, s124_15, s124_17, s124_18, s124_21, s124_24, s124_25, s124_28, s124_29, s124_31, s124_33, s124_36, s124_39, s124_40, s124_43, s124_44, s124_46, s124_48, s124_51, s124_54, s124_55, s124_58, s124_59, s124_61, s124_62, s124_65, s124_68, s124_69, s124_72, s124_73, s124_75, s124_76, s124_79, s124_82, s124_83, s124_86, s124_87, s124_89, s124_90, s124_93, s124_96, s124_98, s124_101, s124_102, s124_104, s124_105, s124_108, s124_111, s124_113, s124_116, s124_117, ↓reduceIte, Option.bind_some, Option.toList, List.cons_append, List.nil_append, bB_0, bB_z, z01_0, z01_1, n01, n00, pm_ro_some, reduceCtorEq, if_true, if_false, and_self, and_true, true_and, not_true, not_false_eq_true, Nat.reduceLeDiff, Nat.reduceAdd, kdM, k0, b0, k1, b1, k2, b2, k3, b3, k4, b4, k5, b5, k6, b6]
    by_cases b7 : isW B (pm_stb 17) T = true
    · simp only [s124_0, s124_1, s124_3, s124_4, s124_7, s124_10, s124_11, s124_14, s124_15, s124_17, s124_18, s124_21, s124_24, s124_25, s124_28, s124_29, s124_31, s124_33, s124_36, s124_39, s124_40, s124_43, s124_44, s124_46, s124_48, s124_51, s124_54, s124_55, s124_58, s124_59, s124_61, s124_62, s124_65, s124_68, s124_69, s124_72, s124_73, s124_75, s124_76, s124_79, s124_82, s124_83, s124_86, s124_87, s124_89, s124_90, s124_93, s124_96, s124_98, s124_101, s124_102, s124_104, s124_105, s124_108, s124_111, s124_113, s124_116, s124_117, ↓reduceIte, Option.bind_some, Option.toList, List.cons_append, List.nil_append, bB_0, bB_z, z01_0, z01_1, n01, n00, pm_ro_some, reduceCtorEq, if_true, if_false, and_self, and_true, true_and, not_true, not_false_eq_true, Nat.reduceLeDiff, Nat.reduceAdd, kdM, k0, b0, k1, b1, k2, b2, k3, b3, k4, b4, k5, b5, k6, b6, k7, b7]
    · simp only [s124_0, s124_1, s124_3, s124_4, s124_7, s124_10, s124_11, s124_14, s124_15, s124_17, s124_18, s124_21, s124_24, s124_25, s124_28, s124_29, s124_31, s124_33, s124_36, s124_39, s124_40, s124_43, s124_44, s124_46, s124_48, s124_51, s124_54, s124_55, s124_58, s124_59, s124_61, s124_62, s124_65, s124_68, s124_69, s124_72, s124_73, s124_75, s124_76, s124_79, s124_82, s124_83, s124_86, s124_87, s124_89, s124_90, s124_93, s124_96, s124_98, s124_101, s124_102, s124_104, s124_105, s124_108, s124_111, s124_113, s124_116, s124_117, ↓reduceIte, Option.bind_some, Option.toList, List.cons_append, List.nil_append, bB_0, bB_z, z01_0, z01_1, n01, n00, pm_ro_some, reduceCtorEq, if_true, if_false, and_self, and_true, true_and, not_true, not_false_eq_true, Nat.reduceLeDiff, Nat.reduceAdd, kdM, k0, b0, k1, b1, k2, b2, k3, b3, k4, b4, k5, b5, k6, b6, k7, b7]
  rw [seg]
  unfold rdn
  by_cases g : rdx B T = -1
  · refine ⟨im, ?_, by rw [if_pos g]; exact h, fun q => absurd g q, frM.rf⟩
    rw [decide_eq_true g]
    simp only [s124_118, s124_119, s124_120, s124_123, s124_124, s124_125, s124_126, s124_129, s124_130, s124_131, s124_134, s124_135, ↓reduceIte, Option.bind_some, Option.toList, List.cons_append, List.nil_append, bB_0, bB_z, z01_0, z01_1, n01, n00, pm_ro_some, reduceCtorEq, if_true, if_false, and_self, and_true, true_and, not_true, not_false_eq_true, Nat.reduceLeDiff, Nat.reduceAdd, kdM, g]
    rfl
  · obtain ⟨m1, G1, G2, G3, G4⟩ := gM (rm := rm) hm hN h o
    refine ⟨pm_w2 m1 129 37 (rdx B T), ?_, by rw [if_neg g]; exact G2.w7, fun _ => w2_s _ _ _ _, G4.w (by omega) _⟩
    rw [decide_eq_false g]
    simp only [s124_118, s124_119, s124_120, s124_123, s124_124, s124_125, s124_126, s124_129, s124_130, s124_131, s124_134, s124_135, ↓reduceIte, Option.bind_some, Option.toList, List.cons_append, List.nil_append, bB_0, bB_z, z01_0, z01_1, n01, n00, pm_ro_some, reduceCtorEq, if_true, if_false, and_self, and_true, true_and, not_true, not_false_eq_true, Nat.reduceLeDiff, Nat.reduceAdd, kdM, g, G1]
    rfl
def cT (B : Nat → Int32) (N : Nat) (T : Nat × Nat) (x y z : Int32) : Prop := x = rdx B T ∧ y = bB (abT B N T) ∧ z = nuv B (nx B N (nx B N T))
theorem c29 (hI : INV σ rm pp ll) (hN : N ≤ 160) (h : CC B N im T) (o : oT B N T) {q : Nat} (hq : q < 24) : ∃ im', ev 29 0 [.ref 4, .ref (pp 4), .int (nI q)] [] im rm = some (some (.int (bB (okT B N T))), im', rm) ∧ CC B N im' (aft B N T) ∧ (okT B N T = true → cT B N T (im' (pp 4 + 3) q) (im' (pp 4 + 4) q) (im' (pp 4 + 5) q)) ∧ (∀ b k, ¬ (b = 4 ∧ (k = 2 ∨ k = 3)) → ¬ (pp 4 + 3 ≤ b ∧ b ≤ pp 4 + 5 ∧ k = q) → im' b k = im b k) := by
  have hx := hI.x
  have pm := hI.pm (show 4 < 5 by decide)
  have ha := hI.r.p 4 (by decide)
  obtain ⟨m1, A1, A2, A3⟩ := c32 (rm := rm) hx hN h o
  generalize hw1 : pm_w2 m1 (pp 4 + 3) q (rdx B T) = w1
  have W1 : w1 (pp 4 + 3) q = rdx B T := by rw [← hw1, w2_s]
  have F1 : ∀ b k, ¬ (b = 4 ∧ (k = 2 ∨ k = 3)) → ¬ (pp 4 + 3 ≤ b ∧ b ≤ pp 4 + 5 ∧ k = q) → w1 b k = im b k := fun b k q1 q2 => by rw [← hw1, w2_n (by omega)]; exact A3 b k q1
  have C1 : CC B N w1 (rdn B N T) := by rw [← hw1]; exact A2.w (by omega) (by omega)
  unfold okT aft
  unfold rdn at C1
  by_cases g : rdx B T = -1
  · refine ⟨w1, ?_, by rw [if_pos g] at C1 ⊢; exact C1, fun q => (by rw [decide_eq_true g] at q; cases q), F1⟩
    rw [decide_eq_true g]
    rw [g] at hw1 W1
    simp only [s29_0, s29_1, s29_4, s29_5, s29_6, s29_9, s29_10, s29_11, s29_14, s29_15, s29_16, s29_17, s29_20, s29_21, ↓reduceIte, Option.bind_some, Option.toList, List.cons_append, List.nil_append, bB_0, bB_z, z01_0, z01_1, n01, n00, pm_ro_some, reduceCtorEq, if_true, if_false, and_self, and_true, true_and, not_true, not_false_eq_true, Nat.reduceLeDiff, Nat.reduceAdd, kdX, pm, ix hq, A1, hw1, W1, g]
    rfl
  rw [if_neg g] at C1 ⊢
  rw [decide_eq_false g]
  have o1 := oT_n o
  have o2 := oT_n o1
  obtain ⟨m2, B1, B2, B3⟩ := c38 (rm := rm) hx hN C1 o1 (show 4 < 18 by decide)
  have B1' : ev 38 0 [.ref 4, .ref 1000004] [] w1 rm = some (some (.int (bB (isW B (pm_stb 4) (nx B N T)))), m2, rm) := B1
  generalize hw2 : pm_w2 m2 (pp 4 + 4) q (bB (isW B (pm_stb 4) (nx B N T))) = w2
  have W2 : w2 (pp 4 + 4) q = bB (isW B (pm_stb 4) (nx B N T)) := by rw [← hw2, w2_s]
  have W23 : w2 (pp 4 + 3) q = rdx B T := by rw [← hw2, w2_a (by omega), B3 _ _ (by omega)]; exact W1
  have F2 : ∀ b k, ¬ (b = 4 ∧ (k = 2 ∨ k = 3)) → ¬ (pp 4 + 3 ≤ b ∧ b ≤ pp 4 + 5 ∧ k = q) → w2 b k = im b k := fun b k q1 q2 => by rw [← hw2, w2_n (by omega), B3 b k q1]; exact F1 b k q1 q2
  have C2 : CC B N w2 (cond (isW B (pm_stb 4) (nx B N T)) (nx B N (nx B N T)) (nx B N T)) := by rw [← hw2]; exact B2.w (by omega) (by omega)
  have zz := bB_z (isW B (pm_stb 4) (nx B N T))
  have seg1 : ev 29 0 [.ref 4, .ref (pp 4), .int (nI q)] [] im rm = ev 29 40 [.ref 4, .ref (pp 4), .int (nI q)] [.int (bB (isW B (pm_stb 4) (nx B N T)))] w2 rm := by
    simp only [s29_0, s29_1, s29_4, s29_5, s29_6, s29_9, s29_10, s29_11, s29_14, s29_15, s29_16, s29_17, s29_20, s29_21, s29_22, s29_23, s29_26, s29_27, s29_28, s29_30, s29_33, s29_34, s29_35, s29_38, s29_39, ↓reduceIte, Option.bind_some, Option.toList, List.cons_append, List.nil_append, bB_0, bB_z, z01_0, z01_1, n01, n00, pm_ro_some, reduceCtorEq, if_true, if_false, and_self, and_true, true_and, not_true, not_false_eq_true, Nat.reduceLeDiff, Nat.reduceAdd, kdX, pm, ix hq, A1, hw1, W1, g, B1', zz, hw2, W2]
  rw [seg1]
  -- the number, once the token behind above or below is reached
  have num : ∀ m : IM, CC B N m (nx B N (nx B N T)) → (∀ b k, ¬ (b = 4 ∧ (k = 2 ∨ k = 3)) → m b k = w2 b k) → ∃ im', ev 29 54 [.ref 4, .ref (pp 4), .int (nI q)] [] m rm = some (some (.int (bB (nok B 999 (nx B N (nx B N T))))), im', rm) ∧ CC B N im' (cond (nok B 999 (nx B N (nx B N T))) (nx B N (nx B N (nx B N T))) (nx B N (nx B N T))) ∧ (nok B 999 (nx B N (nx B N T)) = true → cT B N T (im' (pp 4 + 3) q) (im' (pp 4 + 4) q) (im' (pp 4 + 5) q)) ∧ (∀ b k, ¬ (b = 4 ∧ (k = 2 ∨ k = 3)) → ¬ (pp 4 + 3 ≤ b ∧ b ≤ pp 4 + 5 ∧ k = q) → im' b k = im b k) := by
    intro m c f
    obtain ⟨m3, D1, D2, D3⟩ := c39 (rm := rm) hx hN c o2 (Nat.le_refl 999)
    generalize hw3 : pm_w2 m3 (pp 4 + 5) q (if nok B 999 (nx B N (nx B N T)) = true then nuv B (nx B N (nx B N T)) else -1) = w3
    have W3 : w3 (pp 4 + 5) q = if nok B 999 (nx B N (nx B N T)) = true then nuv B (nx B N (nx B N T)) else -1 := by rw [← hw3, w2_s]
    refine ⟨w3, ?_, by rw [← hw3]; exact D2.w (by omega) (by omega), fun k => ⟨?_, ?_, ?_⟩, fun b k q1 q2 => ?_⟩
    · by_cases n : nok B 999 (nx B N (nx B N T)) = true
      · rw [if_pos n] at W3 hw3 D1
        have V := nuN_e o2 (show isD B (nx B N (nx B N T)) = true by unfold nok at n; rw [Bool.and_eq_true] at n; exact n.1)
        rw [n]
        rw [V.1] at W3 hw3 D1
        simp only [s29_54, s29_55, s29_58, s29_59, s29_60, s29_63, s29_66, s29_67, s29_68, s29_71, s29_72, s29_73, s29_74, s29_77, s29_78, s29_81, s29_82, ↓reduceIte, Option.bind_some, Option.toList, List.cons_append, List.nil_append, bB_0, bB_z, z01_0, z01_1, n01, n00, pm_ro_some, reduceCtorEq, if_true, if_false, and_self, and_true, true_and, not_true, not_false_eq_true, Nat.reduceLeDiff, Nat.reduceAdd, kdX, pm, ix hq, D1, hw3, W3, nIm1 (show nuN B (nx B N (nx B N T)) < 2 ^ 31 by omega)]
        rfl
      · rw [if_neg n] at W3 hw3 D1
        rw [bf n]
        simp only [s29_54, s29_55, s29_58, s29_59, s29_60, s29_63, s29_66, s29_67, s29_68, s29_71, s29_72, s29_73, s29_74, s29_77, s29_78, s29_81, s29_82, ↓reduceIte, Option.bind_some, Option.toList, List.cons_append, List.nil_append, bB_0, bB_z, z01_0, z01_1, n01, n00, pm_ro_some, reduceCtorEq, if_true, if_false, and_self, and_true, true_and, not_true, not_false_eq_true, Nat.reduceLeDiff, Nat.reduceAdd, kdX, pm, ix hq, D1, hw3, W3]
        rfl
    · rw [← hw3, w2_a (by omega), D3 _ _ (by omega), f _ _ (by omega)]; exact W23
    · rw [← hw3, w2_a (by omega), D3 _ _ (by omega), f _ _ (by omega)]; exact W2
    · rw [W3, if_pos k]
    · rw [← hw3, w2_n (by omega), D3 _ _ q1, f _ _ q1]; exact F2 b k q1 q2
  unfold abT
  by_cases a : isW B (pm_stb 4) (nx B N T) = true
  · rw [a] at C2
    obtain ⟨im', E1, E2, E3, E4⟩ := num w2 C2 (fun _ _ _ => rfl)
    rw [a]
    simp only [Bool.not_false, Bool.true_and, Bool.true_or, if_true]
    refine ⟨im', ?_, E2, E3, E4⟩
    rw [← E1]
    simp only [s29_40, bB, cond_true, n01, ↓reduceIte]
  · rw [bf a] at C2 ⊢
    rw [cond_false] at C2
    simp only [Bool.not_false, Bool.true_and, Bool.false_or]
    obtain ⟨m3, D1, D2, D3⟩ := c38 (rm := rm) hx hN C2 o1 (show 5 < 18 by decide)
    have D1' : ev 38 0 [.ref 4, .ref 1000005] [] w2 rm = some (some (.int (bB (isW B (pm_stb 5) (nx B N T)))), m3, rm) := D1
    by_cases b : isW B (pm_stb 5) (nx B N T) = true
    · rw [b] at D1' D2
      rw [b]
      simp only [Bool.true_and, if_true]
      obtain ⟨im', E1, E2, E3, E4⟩ := num m3 D2 (fun b k q1 => D3 b k q1)
      refine ⟨im', ?_, E2, E3, E4⟩
      rw [← E1]
      simp only [s29_40, s29_43, s29_44, s29_46, s29_49, ↓reduceIte, Option.bind_some, Option.toList, List.cons_append, List.nil_append, bB_0, bB_z, z01_0, z01_1, n01, n00, pm_ro_some, reduceCtorEq, if_true, if_false, and_self, and_true, true_and, not_true, not_false_eq_true, Nat.reduceLeDiff, Nat.reduceAdd, kdX, bB, cond_true, cond_false, D1']
    · rw [bf b] at D1' D2
      rw [bf b]
      simp only [Bool.false_and]
      refine ⟨m3, ?_, D2, fun q => (by cases q), fun b k q1 q2 => by rw [D3 b k q1]; exact F2 b k q1 q2⟩
      simp only [s29_40, s29_43, s29_44, s29_46, s29_49, s29_52, s29_53, ↓reduceIte, Option.bind_some, Option.toList, List.cons_append, List.nil_append, bB_0, bB_z, z01_0, z01_1, n01, n00, pm_ro_some, reduceCtorEq, if_true, if_false, and_self, and_true, true_and, not_true, not_false_eq_true, Nat.reduceLeDiff, Nat.reduceAdd, kdX, bB, cond_false, D1']
theorem c125 (hm : rmM rm) (hN : N ≤ 160) (h : MK B N im T) (o : oT B N T) {l k : Nat} (hl : l < 30) (hk : k < 4) (hc : im 143 l = nI k) : ∃ im', ev 125 0 [.ref 129, .int (nI l), pm_u, pm_u] [] im rm = some (some (.int (bB (okT B N T))), im', rm) ∧ MK B N im' (aft B N T) ∧ (okT B N T = true → cT B N T (im' 144 (4 * l + k)) (im' 145 (4 * l + k)) (im' 146 (4 * l + k)) ∧ im' 143 l = nI (k + 1)) ∧ (∀ b j, ¬ (b = 129 ∧ 34 ≤ j ∧ j ≤ 37) → ¬ (144 ≤ b ∧ b ≤ 146 ∧ j = 4 * l + k) → ¬ (b = 143 ∧ j = l) → im' b j = im b j) := by
  have o1 := oT_n o
  have o2 := oT_n o1
  have hq := ix (show 4 * l + k < 120 by omega)
  obtain ⟨m1, A1, A2, A3, A4⟩ := c124 (rm := rm) hm hN h o
  unfold okT aft
  unfold rdn at A2
  by_cases g : rdx B T = -1
  · rw [decide_eq_true g] at A1 ⊢
    rw [if_pos g] at A2 ⊢
    refine ⟨m1, ?_, A2, fun q => (by cases q), fun b j q1 _ _ => A4 b j q1⟩
    simp only [s125_0, s125_1, s125_4, s125_7, s125_8, ↓reduceIte, Option.bind_some, Option.toList, List.cons_append, List.nil_append, bB_0, bB_z, z01_0, z01_1, n01, n00, pm_ro_some, reduceCtorEq, if_true, if_false, and_self, and_true, true_and, not_true, not_false_eq_true, Nat.reduceLeDiff, Nat.reduceAdd, kdM, A1, Bool.not_true, bB, cond_false, Bool.false_and]
  rw [decide_eq_false g] at A1 ⊢
  rw [if_neg g] at A2 ⊢
  have q43 : m1 143 l = nI k := by rw [A4 _ _ (by omega)]; exact hc
  have q37 := A3 g
  generalize hw1 : pm_w2 m1 144 (4 * l + k) (rdx B T) = w1
  have W1 : w1 144 (4 * l + k) = rdx B T := by rw [← hw1, w2_s]
  have F1 : ∀ b j, ¬ (b = 129 ∧ 34 ≤ j ∧ j ≤ 37) → ¬ (144 ≤ b ∧ b ≤ 146 ∧ j = 4 * l + k) → ¬ (b = 143 ∧ j = l) → w1 b j = im b j := fun b j q1 q2 q3 => by rw [← hw1, w2_n (by omega)]; exact A4 b j q1
  have C1 : MK B N w1 (nx B N T) := by rw [← hw1]; exact A2.w (by omega) (by omega)
  have kA := c121 (rm := rm) hm hN C1 o1 wAbove
  have kB := c121 (rm := rm) hm hN C1 o1 wBelow
  have seg1 : ev 125 0 [.ref 129, .int (nI l), pm_u, pm_u] [] im rm = ev 125 38 [.ref 129, .int (nI l), .int (nI (4 * l + k)), .int (bB (isW B (pm_stb 4) (nx B N T)))] [] w1 rm := by
    simp only [s125_0, s125_1, s125_4, s125_7, s125_8, s125_9, s125_10, s125_11, s125_12, s125_13, s125_16, s125_17, s125_18, s125_19, s125_20, s125_21, s125_24, s125_25, s125_26, s125_29, s125_30, s125_31, s125_33, s125_34, s125_37, ↓reduceIte, Option.bind_some, Option.toList, List.cons_append, List.nil_append, bB_0, bB_z, z01_0, z01_1, n01, n00, pm_ro_some, reduceCtorEq, if_true, if_false, and_self, and_true, true_and, not_true, not_false_eq_true, Nat.reduceLeDiff, Nat.reduceAdd, kdM, hm, A1, Bool.not_false, bB, cond_true, ix hl, q43, pk_mul, nI_add, hq, q37, hw1, kA]
  rw [seg1]
  obtain ⟨m2, G1, G2, G3, G4⟩ := gM (rm := rm) hm hN C1 o1
  obtain ⟨m3, N1, N2, N3, N4⟩ := c123 (rm := rm) hm hN G2 o2 (Nat.le_refl 999)
  have s43 : m3 143 l = nI k := by rw [N4 _ _ (by omega), G4 _ _ (by omega), ← hw1, w2_a (by omega)]; exact q43
  have num : ∃ im', ev 125 54 [.ref 129, .int (nI l), .int (nI (4 * l + k)), .int (bB (isW B (pm_stb 4) (nx B N T)))] [] w1 rm = some (some (.int (bB (nok B 999 (nx B N (nx B N T))))), im', rm) ∧ MK B N im' (cond (nok B 999 (nx B N (nx B N T))) (nx B N (nx B N (nx B N T))) (nx B N (nx B N T))) ∧ (nok B 999 (nx B N (nx B N T)) = true → cT B N T (im' 144 (4 * l + k)) (im' 145 (4 * l + k)) (im' 146 (4 * l + k)) ∧ im' 143 l = nI (k + 1)) ∧ (∀ b j, ¬ (b = 129 ∧ 34 ≤ j ∧ j ≤ 37) → ¬ (144 ≤ b ∧ b ≤ 146 ∧ j = 4 * l + k) → ¬ (b = 143 ∧ j = l) → im' b j = im b j) := by
    by_cases n : nok B 999 (nx B N (nx B N T)) = true
    · rw [n] at N1 N2 ⊢
      have p37 := N3 n
      generalize hw3 : pm_w2 (pm_w2 (pm_w2 m3 145 (4 * l + k) (bB (isW B (pm_stb 4) (nx B N T)))) 146 (4 * l + k) (nuv B (nx B N (nx B N T)))) 143 l (nI (k + 1)) = w3
      refine ⟨w3, ?_, by rw [← hw3]; exact ((N2.w (by omega) (by omega)).w (by omega) (by omega)).w (by omega) (by omega), fun _ => ⟨⟨?_, ?_, ?_⟩, by rw [← hw3, w2_s]⟩, fun b j q1 q2 q3 => ?_⟩
      · have z37 : ∀ x, pm_w2 m3 145 (4 * l + k) x 129 37 = nuv B (nx B N (nx B N T)) := fun x => by rw [w2_a (by omega)]; exact p37
        have z43 : ∀ x y, pm_w2 (pm_w2 m3 145 (4 * l + k) x) 146 (4 * l + k) y 143 l = nI k := fun x y => by rw [w2_a (by omega), w2_a (by omega)]; exact s43
        rw [← hw3]
        cases isW B (pm_stb 4) (nx B N T) <;> simp only [s125_54, s125_55, s125_58, s125_59, s125_62, s125_65, s125_68, s125_69, s125_70, s125_71, s125_74, s125_75, s125_76, s125_79, s125_80, s125_83, s125_84, s125_85, s125_86, s125_89, s125_90, s125_91, s125_94, s125_95, s125_96, s125_99, s125_100, s125_101, s125_102, s125_103, s125_104, s125_105, s125_106, ↓reduceIte, Option.bind_some, Option.toList, List.cons_append, List.nil_append, bB_0, bB_z, z01_0, z01_1, n01, n00, pm_ro_some, reduceCtorEq, if_true, if_false, and_self, and_true, true_and, not_true, not_false_eq_true, Nat.reduceLeDiff, Nat.reduceAdd, kdM, hm, G1, N1, bB, cond_true, cond_false, hq, ix hl, z37, z43, nI_add]
      · rw [← hw3, w2_a (by omega), w2_a (by omega), w2_a (by omega), N4 _ _ (by omega), G4 _ _ (by omega)]; exact W1
      · rw [← hw3, w2_a (by omega), w2_a (by omega), w2_s]; rfl
      · rw [← hw3, w2_a (by omega), w2_s]
      · rw [← hw3, w2_n (by omega), w2_n (by omega), w2_n (by omega), N4 _ _ q1, G4 _ _ q1]; exact F1 b j q1 q2 q3
    · rw [bf n] at N1 N2 ⊢
      refine ⟨m3, ?_, N2, fun q => (by cases q), fun b j q1 q2 q3 => by rw [N4 _ _ q1, G4 _ _ q1]; exact F1 b j q1 q2 q3⟩
      simp only [s125_54, s125_55, s125_58, s125_59, s125_62, s125_65, s125_68, s125_69, ↓reduceIte, Option.bind_some, Option.toList, List.cons_append, List.nil_append, bB_0, bB_z, z01_0, z01_1, n01, n00, pm_ro_some, reduceCtorEq, if_true, if_false, and_self, and_true, true_and, not_true, not_false_eq_true, Nat.reduceLeDiff, Nat.reduceAdd, kdM, G1, N1, bB, cond_false]
  obtain ⟨im', E1, E2, E3, E4⟩ := num
  unfold abT
  by_cases a : isW B (pm_stb 4) (nx B N T) = true
  · rw [a] at E1 ⊢
    simp only [Bool.not_false, Bool.true_and, Bool.true_or, if_true]
    refine ⟨im', ?_, E2, E3, E4⟩
    rw [← E1]
    simp only [s125_38, s125_39, bB, cond_true, n01, ↓reduceIte]
  · rw [bf a] at E1 ⊢
    simp only [Bool.not_false, Bool.true_and, Bool.false_or]
    by_cases b : isW B (pm_stb 5) (nx B N T) = true
    · rw [b] at kB ⊢
      simp only [Bool.true_and, if_true]
      refine ⟨im', ?_, E2, E3, E4⟩
      rw [← E1]
      simp only [s125_38, s125_39, s125_42, s125_43, s125_45, s125_46, s125_49, ↓reduceIte, Option.bind_some, Option.toList, List.cons_append, List.nil_append, bB_0, bB_z, z01_0, z01_1, n01, n00, pm_ro_some, reduceCtorEq, if_true, if_false, and_self, and_true, true_and, not_true, not_false_eq_true, Nat.reduceLeDiff, Nat.reduceAdd, kdM, bB, cond_true, cond_false, kB]
    · rw [bf b] at kB ⊢
      simp only [Bool.false_and]
      refine ⟨w1, ?_, C1, fun q => (by cases q), F1⟩
      simp only [s125_38, s125_39, s125_42, s125_43, s125_45, s125_46, s125_49, s125_52, s125_53, ↓reduceIte, Option.bind_some, Option.toList, List.cons_append, List.nil_append, bB_0, bB_z, z01_0, z01_1, n01, n00, pm_ro_some, reduceCtorEq, if_true, if_false, and_self, and_true, true_and, not_true, not_false_eq_true, Nat.reduceLeDiff, Nat.reduceAdd, kdM, bB, cond_false, kB]
end TST
