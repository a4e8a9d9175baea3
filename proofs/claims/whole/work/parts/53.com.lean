-- needs: 52
/-! comes: both sides. -/
def PAIRL (k : Nat) (lv : List Value) (k' : Nat) (lv' : List Value) (im : IM) (rm : RM) : Prop := ∃ x im1 rm1 im2 rm2 pp ll, ev k 0 lv [] im rm = some (some (.long x), im1, rm1) ∧ ev k' 0 lv' [] im1 rm1 = some (some (.long x), im2, rm2) ∧ INV im2 rm2 pp ll
def mdv (σ : IM) (d : Nat) (a : Int64) : Nat → Int64
  | 0 => a
  | v + 1 => mdv σ d a v + (σ 153 v).toInt64 * (aA σ v d).toInt64
def mds (σ : IM) (s : Int32) : Nat → Int64
  | 0 => lN 0
  | d + 1 => if σ 130 d = nI 1 ∧ σ 131 d = s then mdv σ d (mds σ s d) 4 else mds σ s d
theorem rm4 : ∀ s, s < 4 → (nI s + nI 4 - nI 1) - (nI s + nI 4 - nI 1) / nI 4 * nI 4 = nI ((s + 3) % 4) := by decide
theorem rm4' : ∀ s, s < 4 → (nI s + nI 3) - (nI s + nI 3) / nI 4 * nI 4 = nI ((s + 3) % 4) := by decide
theorem lz100 : (lN 100 = (0 : Int64)) = False := by decide
section COM
variable {im σ : IM} {rm : RM} {pp ll : Nat → Nat}
theorem c101 (hI : INV σ rm pp ll) (hs : SS σ im) (hT : ∀ v, v < 4 → TT σ v im) (s : Int32) : ev 101 0 [.ref 0, .int s, pm_u, pm_u, pm_u, pm_u] [] im rm = some (some (.long (mds σ s 6)), im, rm) := by
  have hx := hI.x
  have inner : ∀ d, d < 6 → ∀ v, v ≤ 4 → ev 101 43 [.ref 0, .int s, .long (mdv σ d (mds σ s d) v), pm_u, .int (nI d), .int (nI v)] [] im rm = ev 101 78 [.ref 0, .int s, .long (mdv σ d (mds σ s d) 4), pm_u, .int (nI d), pm_u] [] im rm := by
    intro d hd
    refine dn ?_ ?_
    · simp only [s101_43, s101_45, s101_46, ↓reduceIte, Option.bind_some, Option.toList, List.cons_append, List.nil_append, bB_0, bB_z, z01_0, z01_1, n01, n00, pm_ro_some, reduceCtorEq, if_true, if_false, and_self, and_true, true_and, not_true, not_false_eq_true, Nat.reduceLeDiff, Nat.reduceAdd, kdX, lpT]
    · intro v hv ih
      have q1 : im 12 v = σ 153 v := by rw [(hs.c v).2.2.2.2.2.2.2.2.1, (hI.c v hv).1]
      rw [← ih, s101_43]
      simp only [s101_45, s101_46, s101_49, s101_50, s101_51, s101_54, s101_56, s101_57, s101_58, s101_59, s101_62, s101_64, s101_65, s101_67, s101_68, s101_69, s101_70, s101_71, s101_72, s101_75, ↓reduceIte, Option.bind_some, Option.toList, List.cons_append, List.nil_append, bB_0, bB_z, z01_0, z01_1, n01, n00, pm_ro_some, reduceCtorEq, if_true, if_false, and_self, and_true, true_and, not_true, not_false_eq_true, Nat.reduceLeDiff, Nat.reduceAdd, kdX, lpF hv (show 4 < 2 ^ 31 by decide), hx, ix hv, ix hd, q1, hI.to hv, (hT v hv d hd).1, nI_add, mdv]
  have outer : ∀ d, d ≤ 6 → ev 101 5 [.ref 0, .int s, .long (mds σ s d), pm_u, .int (nI d), pm_u] [] im rm = some (some (.long (mds σ s 6)), im, rm) := by
    refine dn ?_ ?_
    · simp only [s101_5, s101_7, s101_9, s101_84, s101_85, ↓reduceIte, Option.bind_some, Option.toList, List.cons_append, List.nil_append, bB_0, bB_z, z01_0, z01_1, n01, n00, pm_ro_some, reduceCtorEq, if_true, if_false, and_self, and_true, true_and, not_true, not_false_eq_true, Nat.reduceLeDiff, Nat.reduceAdd, kdX, lpT]
    · intro d hd ih
      have D := hI.d d hd
      have dm := hI.dm hd
      rw [← ih, s101_5]
      by_cases g1 : σ 130 d = nI 1
      · by_cases g2 : σ 131 d = s
        · have I0 := inner d hd 0 (by omega)
          have z : mdv σ d (mds σ s d) 0 = mds σ s d := rfl
          rw [z] at I0
          simp only [s101_7, s101_9, s101_12, s101_13, s101_16, s101_18, s101_19, s101_22, s101_23, s101_26, s101_27, s101_30, s101_32, s101_33, s101_36, s101_37, s101_40, s101_41, ↓reduceIte, Option.bind_some, Option.toList, List.cons_append, List.nil_append, bB_0, bB_z, z01_0, z01_1, n01, n00, pm_ro_some, reduceCtorEq, if_true, if_false, and_self, and_true, true_and, not_true, not_false_eq_true, Nat.reduceLeDiff, Nat.reduceAdd, kdX, lpF hd (show 6 < 2 ^ 31 by decide), hx, dm, ix hd, hs.d0 hd, D.so, D.st, g1, g2, I0, s101_78, s101_81, nI_add, mds]
        · simp only [s101_7, s101_9, s101_12, s101_13, s101_16, s101_18, s101_19, s101_22, s101_23, s101_26, s101_27, s101_30, s101_32, s101_33, s101_36, s101_37, ↓reduceIte, Option.bind_some, Option.toList, List.cons_append, List.nil_append, bB_0, bB_z, z01_0, z01_1, n01, n00, pm_ro_some, reduceCtorEq, if_true, if_false, and_self, and_true, true_and, not_true, not_false_eq_true, Nat.reduceLeDiff, Nat.reduceAdd, kdX, lpF hd (show 6 < 2 ^ 31 by decide), hx, dm, ix hd, hs.d0 hd, D.so, D.st, g1, g2, s101_78, s101_81, nI_add, mds, and_false]
      · simp only [s101_7, s101_9, s101_12, s101_13, s101_16, s101_18, s101_19, s101_22, s101_23, ↓reduceIte, Option.bind_some, Option.toList, List.cons_append, List.nil_append, bB_0, bB_z, z01_0, z01_1, n01, n00, pm_ro_some, reduceCtorEq, if_true, if_false, and_self, and_true, true_and, not_true, not_false_eq_true, Nat.reduceLeDiff, Nat.reduceAdd, kdX, lpF hd (show 6 < 2 ^ 31 by decide), hx, dm, ix hd, hs.d0 hd, D.so, g1, s101_78, s101_81, nI_add, mds, false_and]
  rw [← outer 0 (by omega)]
  simp only [s101_0, s101_1, s101_2, s101_3, ↓reduceIte, Option.bind_some, Option.toList, List.cons_append, List.nil_append, bB_0, bB_z, z01_0, z01_1, n01, n00, pm_ro_some, reduceCtorEq, if_true, if_false, and_self, and_true, true_and, not_true, not_false_eq_true, Nat.reduceLeDiff, Nat.reduceAdd, kdX]
  rfl
theorem c102 (hI : INV σ rm pp ll) (hs : SS σ im) (a : Int64) : ev 102 0 [.ref 0, .long a, pm_u] [] im rm = some (some (.long (a * (σ 139 3).toInt64 / lN 100)), im, rm) := by
  have hx := hI.x
  have q : im 11 3 = σ 139 3 := by rw [(hs.c 3).2.2.2.2.2.2.2.1, hI.s.1 3 (by omega)]
  simp only [s102_0, s102_1, s102_2, s102_5, s102_6, s102_7, s102_8, s102_9, s102_12, s102_13, ↓reduceIte, Option.bind_some, Option.toList, List.cons_append, List.nil_append, bB_0, bB_z, z01_0, z01_1, n01, n00, pm_ro_some, reduceCtorEq, if_true, if_false, and_self, and_true, true_and, not_true, not_false_eq_true, Nat.reduceLeDiff, Nat.reduceAdd, kdX, hx, ix (show 3 < 4 by decide), q, lz100]
theorem c171 (hI : INV σ rm pp ll) (hs : SS σ im) (s : Int32) : ∃ im', ev 171 0 [.ref 129, .int s, pm_u, pm_u, pm_u, pm_u] [] im rm = some (some (.long (mds σ s 6)), im', rm) ∧ SS σ im' := by
  have hm := hI.m
  have inner : ∀ d, d < 6 → σ 130 d = nI 1 → σ 131 d = s → ∀ v, v ≤ 4 → ∀ m : IM, SS σ m → ∃ m', ev 171 15 [.ref 129, .int s, .long (mdv σ d (mds σ s d) v), pm_u, .int (nI d), .int (nI v)] [] m rm = ev 171 74 [.ref 129, .int s, .long (mdv σ d (mds σ s d) 4), pm_u, .int (nI d), pm_u] [] m' rm ∧ SS σ m' := by
    intro d hd g1 g2
    refine dn ?_ ?_
    · intro m h1
      exact ⟨m, by simp only [s171_15, s171_17, s171_18, ↓reduceIte, Option.bind_some, Option.toList, List.cons_append, List.nil_append, bB_0, bB_z, z01_0, z01_1, n01, n00, pm_ro_some, reduceCtorEq, if_true, if_false, and_self, and_true, true_and, not_true, not_false_eq_true, Nat.reduceLeDiff, Nat.reduceAdd, kdM, lpT], h1⟩
    · intro v hv ih m h1
      obtain ⟨m1, A1, A2, A3, A4⟩ := c135 hI h1 (hI.p v hv) hv hd
      obtain ⟨m', E1, E2⟩ := ih m1 A2
      refine ⟨m', ?_, E2⟩
      have q : m1 129 43 = aA σ v d := A3.2.2.2.1
      rw [← E1, s171_15]
      simp only [s171_17, s171_18, s171_21, s171_22, s171_25, s171_27, s171_28, s171_29, s171_32, s171_33, s171_36, s171_38, s171_39, s171_40, s171_43, s171_44, s171_46, s171_48, s171_51, s171_52, s171_53, s171_56, s171_58, s171_59, s171_60, s171_61, s171_64, s171_65, s171_66, s171_67, s171_68, s171_71, ↓reduceIte, Option.bind_some, Option.toList, List.cons_append, List.nil_append, bB_0, bB_z, z01_0, z01_1, n01, n00, pm_ro_some, reduceCtorEq, if_true, if_false, and_self, and_true, true_and, not_true, not_false_eq_true, Nat.reduceLeDiff, Nat.reduceAdd, kdM, lpF hv (show 4 < 2 ^ 31 by decide), hm, h1.m, A2.m, ix hd, ix hv, g1, g2, A1, q, nI_add, mdv]
  have outer : ∀ d, d ≤ 6 → ∀ m : IM, SS σ m → ∃ im', ev 171 5 [.ref 129, .int s, .long (mds σ s d), pm_u, .int (nI d), pm_u] [] m rm = some (some (.long (mds σ s 6)), im', rm) ∧ SS σ im' := by
    refine dn ?_ ?_
    · intro m h1
      exact ⟨m, by simp only [s171_5, s171_7, s171_9, s171_80, s171_81, ↓reduceIte, Option.bind_some, Option.toList, List.cons_append, List.nil_append, bB_0, bB_z, z01_0, z01_1, n01, n00, pm_ro_some, reduceCtorEq, if_true, if_false, and_self, and_true, true_and, not_true, not_false_eq_true, Nat.reduceLeDiff, Nat.reduceAdd, kdM, lpT], h1⟩
    · intro d hd ih m h1
      by_cases g1 : σ 130 d = nI 1
      · by_cases g2 : σ 131 d = s
        · obtain ⟨m1, I0, I1⟩ := inner d hd g1 g2 0 (by omega) m h1
          have z : mdv σ d (mds σ s d) 0 = mds σ s d := rfl
          rw [z] at I0
          obtain ⟨im', E1, E2⟩ := ih m1 I1
          refine ⟨im', ?_, E2⟩
          rw [← E1, s171_5]
          simp only [s171_7, s171_9, s171_12, s171_13, ↓reduceIte, Option.bind_some, Option.toList, List.cons_append, List.nil_append, bB_0, bB_z, z01_0, z01_1, n01, n00, pm_ro_some, reduceCtorEq, if_true, if_false, and_self, and_true, true_and, not_true, not_false_eq_true, Nat.reduceLeDiff, Nat.reduceAdd, kdM, lpF hd (show 6 < 2 ^ 31 by decide), I0, s171_74, s171_77, nI_add, mds, g1, g2]
        · obtain ⟨im', E1, E2⟩ := ih m h1
          refine ⟨im', ?_, E2⟩
          rw [← E1, s171_5]
          simp only [s171_7, s171_9, s171_12, s171_13, s171_15, s171_17, s171_18, s171_21, s171_22, s171_25, s171_27, s171_28, s171_29, s171_32, s171_33, s171_36, s171_38, s171_39, s171_40, ↓reduceIte, Option.bind_some, Option.toList, List.cons_append, List.nil_append, bB_0, bB_z, z01_0, z01_1, n01, n00, pm_ro_some, reduceCtorEq, if_true, if_false, and_self, and_true, true_and, not_true, not_false_eq_true, Nat.reduceLeDiff, Nat.reduceAdd, kdM, lpF hd (show 6 < 2 ^ 31 by decide), lpF (show 0 < 4 by decide) (show 4 < 2 ^ 31 by decide), hm, h1.m, ix hd, s171_74, s171_77, nI_add, mds, g1, g2, and_false]
      · obtain ⟨im', E1, E2⟩ := ih m h1
        refine ⟨im', ?_, E2⟩
        rw [← E1, s171_5]
        simp only [s171_7, s171_9, s171_12, s171_13, s171_15, s171_17, s171_18, s171_21, s171_22, s171_25, s171_27, s171_28, s171_29, ↓reduceIte, Option.bind_some, Option.toList, List.cons_append, List.nil_append, bB_0, bB_z, z01_0, z01_1, n01, n00, pm_ro_some, reduceCtorEq, if_true, if_false, and_self, and_true, true_and, not_true, not_false_eq_true, Nat.reduceLeDiff, Nat.reduceAdd, kdM, lpF hd (show 6 < 2 ^ 31 by decide), lpF (show 0 < 4 by decide) (show 4 < 2 ^ 31 by decide), hm, h1.m, ix hd, s171_74, s171_77, nI_add, mds, g1, false_and]
  obtain ⟨im', E1, E2⟩ := outer 0 (by omega) im hs
  refine ⟨im', ?_, E2⟩
  rw [← E1]
  simp only [s171_0, s171_1, s171_2, s171_3, ↓reduceIte, Option.bind_some, Option.toList, List.cons_append, List.nil_append, bB_0, bB_z, z01_0, z01_1, n01, n00, pm_ro_some, reduceCtorEq, if_true, if_false, and_self, and_true, true_and, not_true, not_false_eq_true, Nat.reduceLeDiff, Nat.reduceAdd, kdM]
  rfl
theorem p73 (hI : INV im rm pp ll) (s : Int32) : PAIRL 73 [.ref 0, .int s, pm_u, pm_u, pm_u, pm_u] 172 [.ref 129, .int s, pm_u, pm_u] im rm := by
  have hx := hI.x
  have hm := hI.m
  by_cases g0 : pm_in s 4 = true
  rotate_left
  · exact ⟨-2, im, rm, im, rm, pp, ll, by simp only [s73_0, s73_1, s73_2, s73_5, s73_8, s73_11, s73_12, s73_13, s73_16, s73_17, s73_18, s73_21, s73_22, s73_23, s73_24, s73_25, s73_26, s73_27, s73_28, s73_29, s73_30, s73_33, s73_35, s73_36, s73_37, s73_38, s73_41, s73_42, s73_43, s73_45, s73_48, s73_49, ↓reduceIte, Option.bind_some, Option.toList, List.cons_append, List.nil_append, bB_0, bB_z, z01_0, z01_1, n01, n00, pm_ro_some, reduceCtorEq, if_true, if_false, and_self, and_true, true_and, not_true, not_false_eq_true, Nat.reduceLeDiff, Nat.reduceAdd, kdX, b75_4, g0, hx], by simp only [s172_0, s172_1, s172_4, s172_7, s172_10, s172_11, s172_12, s172_13, s172_16, s172_17, s172_18, s172_19, s172_20, s172_23, s172_24, s172_25, s172_26, s172_27, s172_30, s172_31, s172_32, s172_33, s172_34, s172_35, s172_36, s172_37, s172_38, s172_41, s172_42, s172_45, s172_46, s172_47, s172_48, s172_49, s172_52, s172_53, s172_54, ↓reduceIte, Option.bind_some, Option.toList, List.cons_append, List.nil_append, bB_0, bB_z, z01_0, z01_1, n01, n00, pm_ro_some, reduceCtorEq, if_true, if_false, and_self, and_true, true_and, not_true, not_false_eq_true, Nat.reduceLeDiff, Nat.reduceAdd, kdM, c106, hm, g0], hI⟩
  obtain ⟨i, hi, rfl⟩ := pm_in_ex g0 (by decide)
  obtain ⟨m1, A1, A2, A3, A4⟩ := c82 hI SS.rf
  obtain ⟨n1, B1, B2⟩ := c171 hI A2 (nI i)
  obtain ⟨n2, C1, C2⟩ := c171 hI B2 (nI ((i + 3) % 4))
  refine ⟨mds im (nI i) 6 - mds im (nI i) 6 * (im 139 3).toInt64 / lN 100 + mds im (nI ((i + 3) % 4)) 6 * (im 139 3).toInt64 / lN 100, m1, rm, n2, rm, pp, ll, ?_, ?_, hI.ss C2⟩
  · simp only [s73_0, s73_1, s73_2, s73_5, s73_8, s73_11, s73_12, s73_13, s73_16, s73_17, s73_18, s73_21, s73_22, s73_23, s73_24, s73_25, s73_26, s73_27, s73_28, s73_29, s73_30, s73_33, s73_35, s73_36, s73_37, s73_38, s73_41, s73_42, s73_43, s73_45, s73_48, s73_49, ↓reduceIte, Option.bind_some, Option.toList, List.cons_append, List.nil_append, bB_0, bB_z, z01_0, z01_1, n01, n00, pm_ro_some, reduceCtorEq, if_true, if_false, and_self, and_true, true_and, not_true, not_false_eq_true, Nat.reduceLeDiff, Nat.reduceAdd, kdX, b75_4, g0, hx, A1, c101 hI A2 A3, nz4, rm4 i hi, c102 hI A2]
  · simp only [s172_0, s172_1, s172_4, s172_7, s172_10, s172_11, s172_12, s172_13, s172_16, s172_17, s172_18, s172_19, s172_20, s172_23, s172_24, s172_25, s172_26, s172_27, s172_30, s172_31, s172_32, s172_33, s172_34, s172_35, s172_36, s172_37, s172_38, s172_41, s172_42, s172_45, s172_46, s172_47, s172_48, s172_49, s172_52, s172_53, s172_54, ↓reduceIte, Option.bind_some, Option.toList, List.cons_append, List.nil_append, bB_0, bB_z, z01_0, z01_1, n01, n00, pm_ro_some, reduceCtorEq, if_true, if_false, and_self, and_true, true_and, not_true, not_false_eq_true, Nat.reduceLeDiff, Nat.reduceAdd, kdM, c106, hm, g0, B1, B2.m, C1, C2.m, nz4, rm4' i hi, ix (show 3 < 4 by decide), lz100]
end COM
