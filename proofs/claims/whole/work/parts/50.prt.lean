-- needs: 49
/-! parts, fewest: both sides. -/
theorem rem2b : ∀ T, T < 16 → nI T - nI (T / 2) * nI 2 = nI (T % 2) := by decide
section PRT
variable {im σ : IM} {rm : RM} {pp ll : Nat → Nat}
theorem c89 (hI : INV σ rm pp ll) (hs : SS σ im) {T d : Nat} (hT : T < 16) (hd : d < 6) : ∃ im', ev 89 0 [.ref 0, .ref (dr d), .int (nI T), .int (bnd σ T), pm_u, pm_u] [] im rm = some (some (.int (bB (flo σ T d (tk σ d)))), im', rm) ∧ SS σ im' ∧ (∀ b i, b ≠ 38 → im' b i = im b i) := by
  have hx := hI.x
  have h8 : T / 2 < 8 := by omega
  have D := hI.d d hd
  have dm := hI.dm hd
  have n40 := D.n40
  have key : ∀ t, t ≤ tk σ d → flo σ T d t = false → ∀ m : IM, SS σ m → (∀ b i, b ≠ 38 → m b i = im b i) → ∃ im', ev 89 3 [.ref 0, .ref (dr d), .int (nI T), .int (bnd σ T), .int (nI t), pm_u] [] m rm = some (some (.int (bB (flo σ T d (tk σ d)))), im', rm) ∧ SS σ im' ∧ (∀ b i, b ≠ 38 → im' b i = im b i) := by
    refine dn ?_ ?_
    · intro h m h1 h2
      refine ⟨m, ?_, h1, h2⟩
      rw [h]
      simp only [s89_0, s89_1, s89_3, s89_5, s89_6, s89_9, s89_12, s89_13, s89_15, s89_16, s89_19, s89_22, s89_23, s89_26, s89_27, s89_28, s89_29, s89_30, s89_32, s89_33, s89_36, s89_39, s89_41, s89_42, s89_45, s89_48, s89_50, s89_51, s89_54, s89_55, s89_56, s89_59, s89_62, s89_63, ↓reduceIte, Option.bind_some, Option.toList, List.cons_append, List.nil_append, bB_0, bB_z, z01_0, z01_1, n01, n00, pm_ro_some, reduceCtorEq, if_true, if_false, and_self, and_true, true_and, not_true, not_false_eq_true, Nat.reduceLeDiff, Nat.reduceAdd, kdX, dm, h1.d0 hd, D.le, lpT]
      rfl
    · intro t ht ih h m h1 h2
      obtain ⟨m1, A1, A2, A3, A4⟩ := c6 hI h1 hd ht
      have f1 : ∀ b i, b ≠ 38 → m1 b i = im b i := fun b i hb => by rw [A4 b i hb]; exact h2 b i hb
      have q := A3 (T / 2) h8
      have e1 : flo σ T d (t + 1) = flc σ T d t := by
        show (flo σ T d t || flc σ T d t) = _
        rw [h, Bool.false_or]
      rw [s89_3]
      by_cases g : flc σ T d t = true
      · refine ⟨m1, ?_, A2, f1⟩
        have e2 : flo σ T d (tk σ d) = true := by
          have := flo_t (e1.trans g) (tk σ d - (t + 1))
          rw [show t + 1 + (tk σ d - (t + 1)) = tk σ d by omega] at this
          exact this
        rw [e2]
        unfold flc at g
        rcases (show T % 2 = 0 ∨ T % 2 = 1 by omega) with h | h
        · rw [h, if_neg (by decide), decide_eq_true_eq] at g
          simp only [s89_0, s89_1, s89_5, s89_6, s89_9, s89_12, s89_13, s89_15, s89_16, s89_19, s89_22, s89_23, s89_26, s89_27, s89_28, s89_29, s89_30, s89_32, s89_33, s89_36, s89_39, s89_41, s89_42, s89_45, s89_48, s89_50, s89_51, s89_54, s89_55, s89_56, s89_59, s89_62, s89_63, ↓reduceIte, Option.bind_some, Option.toList, List.cons_append, List.nil_append, bB_0, bB_z, z01_0, z01_1, n01, n00, pm_ro_some, reduceCtorEq, if_true, if_false, and_self, and_true, true_and, not_true, not_false_eq_true, Nat.reduceLeDiff, Nat.reduceAdd, kdX, hx, dm, h1.d0 hd, D.le, lpF ht (show tk σ d < 2 ^ 31 by omega), A1, nz2, dv2 T hT, ix h8, q, c86 hT, h, decide_false, bB, cond_false, Int32.not_lt.mpr g]
          try rfl
        · rw [h, if_pos rfl, decide_eq_true_eq] at g
          simp only [s89_0, s89_1, s89_5, s89_6, s89_9, s89_12, s89_13, s89_15, s89_16, s89_19, s89_22, s89_23, s89_26, s89_27, s89_28, s89_29, s89_30, s89_32, s89_33, s89_36, s89_39, s89_41, s89_42, s89_45, s89_48, s89_50, s89_51, s89_54, s89_55, s89_56, s89_59, s89_62, s89_63, ↓reduceIte, Option.bind_some, Option.toList, List.cons_append, List.nil_append, bB_0, bB_z, z01_0, z01_1, n01, n00, pm_ro_some, reduceCtorEq, if_true, if_false, and_self, and_true, true_and, not_true, not_false_eq_true, Nat.reduceLeDiff, Nat.reduceAdd, kdX, hx, dm, h1.d0 hd, D.le, lpF ht (show tk σ d < 2 ^ 31 by omega), A1, nz2, dv2 T hT, ix h8, q, c86 hT, h, decide_true, bB, cond_true, Int32.not_lt.mpr g]
          try rfl
      · obtain ⟨im', E1, E2⟩ := ih (e1.trans (bf g)) m1 A2 f1
        refine ⟨im', ?_, E2⟩
        rw [← E1]
        unfold flc at g
        rcases (show T % 2 = 0 ∨ T % 2 = 1 by omega) with h | h
        · rw [h, if_neg (by decide), decide_eq_true_eq, Int32.not_le] at g
          simp only [s89_0, s89_1, s89_5, s89_6, s89_9, s89_12, s89_13, s89_15, s89_16, s89_19, s89_22, s89_23, s89_26, s89_27, s89_28, s89_29, s89_30, s89_32, s89_33, s89_36, s89_39, s89_41, s89_42, s89_45, s89_48, s89_50, s89_51, s89_54, s89_55, s89_56, s89_59, s89_62, s89_63, ↓reduceIte, Option.bind_some, Option.toList, List.cons_append, List.nil_append, bB_0, bB_z, z01_0, z01_1, n01, n00, pm_ro_some, reduceCtorEq, if_true, if_false, and_self, and_true, true_and, not_true, not_false_eq_true, Nat.reduceLeDiff, Nat.reduceAdd, kdX, hx, dm, h1.d0 hd, D.le, lpF ht (show tk σ d < 2 ^ 31 by omega), A1, nz2, dv2 T hT, ix h8, q, c86 hT, h, decide_false, bB, cond_false, g, nI_add]
        · rw [h, if_pos rfl, decide_eq_true_eq, Int32.not_le] at g
          simp only [s89_0, s89_1, s89_5, s89_6, s89_9, s89_12, s89_13, s89_15, s89_16, s89_19, s89_22, s89_23, s89_26, s89_27, s89_28, s89_29, s89_30, s89_32, s89_33, s89_36, s89_39, s89_41, s89_42, s89_45, s89_48, s89_50, s89_51, s89_54, s89_55, s89_56, s89_59, s89_62, s89_63, ↓reduceIte, Option.bind_some, Option.toList, List.cons_append, List.nil_append, bB_0, bB_z, z01_0, z01_1, n01, n00, pm_ro_some, reduceCtorEq, if_true, if_false, and_self, and_true, true_and, not_true, not_false_eq_true, Nat.reduceLeDiff, Nat.reduceAdd, kdX, hx, dm, h1.d0 hd, D.le, lpF ht (show tk σ d < 2 ^ 31 by omega), A1, nz2, dv2 T hT, ix h8, q, c86 hT, h, decide_true, bB, cond_true, g, nI_add]
  obtain ⟨im', e1, e2⟩ := key 0 (by omega) rfl im hs (fun _ _ _ => rfl)
  refine ⟨im', ?_, e2⟩
  rw [← e1]
  simp only [s89_0, s89_1]
theorem c88 (hI : INV σ rm pp ll) (hs : SS σ im) {T : Nat} (hT : T < 16) : ∃ im', ev 88 0 [.ref 0, .int (nI T), pm_u, pm_u, pm_u] [] im rm = some (some (.int (nI (parN σ T))), im', rm) ∧ SS σ im' ∧ (∀ b i, b ≠ 38 → im' b i = im b i) := by
  have hx := hI.x
  obtain ⟨m1, A1, A2, A3⟩ := c87 hI hs hT
  by_cases g : bnd σ T = -1
  · refine ⟨m1, ?_, A2, A3⟩
    unfold parN
    rw [if_pos g]
    simp only [s88_0, s88_1, s88_2, s88_5, s88_6, s88_7, s88_8, s88_9, s88_11, s88_12, s88_13, s88_16, s88_18, s88_20, s88_23, s88_24, s88_27, s88_29, s88_30, s88_33, s88_34, s88_37, s88_38, s88_39, s88_42, s88_44, s88_45, s88_46, s88_47, s88_50, s88_53, s88_54, s88_55, s88_57, s88_58, s88_59, s88_60, s88_63, s88_66, s88_67, ↓reduceIte, Option.bind_some, Option.toList, List.cons_append, List.nil_append, bB_0, bB_z, z01_0, z01_1, n01, n00, pm_ro_some, reduceCtorEq, if_true, if_false, and_self, and_true, true_and, not_true, not_false_eq_true, Nat.reduceLeDiff, Nat.reduceAdd, kdX, A1, g]
  have key : ∀ d, d ≤ 6 → ∀ m : IM, SS σ m → (∀ b i, b ≠ 38 → m b i = im b i) → ∃ im', ev 88 11 [.ref 0, .int (nI T), .int (bnd σ T), .int (nI (prt σ T d)), .int (nI d)] [] m rm = some (some (.int (nI (prt σ T 6))), im', rm) ∧ SS σ im' ∧ (∀ b i, b ≠ 38 → im' b i = im b i) := by
    refine dn ?_ ?_
    · intro m h1 h2
      exact ⟨m, by simp only [s88_0, s88_1, s88_2, s88_5, s88_6, s88_7, s88_8, s88_9, s88_11, s88_12, s88_13, s88_16, s88_18, s88_20, s88_23, s88_24, s88_27, s88_29, s88_30, s88_33, s88_34, s88_37, s88_38, s88_39, s88_42, s88_44, s88_45, s88_46, s88_47, s88_50, s88_53, s88_54, s88_55, s88_57, s88_58, s88_59, s88_60, s88_63, s88_66, s88_67, ↓reduceIte, Option.bind_some, Option.toList, List.cons_append, List.nil_append, bB_0, bB_z, z01_0, z01_1, n01, n00, pm_ro_some, reduceCtorEq, if_true, if_false, and_self, and_true, true_and, not_true, not_false_eq_true, Nat.reduceLeDiff, Nat.reduceAdd, kdX, g, lpT], h1, h2⟩
    · intro d hd ih m h1 h2
      have D := hI.d d hd
      have dm := hI.dm hd
      rw [s88_11]
      by_cases g1 : σ 130 d = nI 1
      · obtain ⟨m2, B1, B2, B3⟩ := c89 hI h1 hT hd
        obtain ⟨im', E1, E2⟩ := ih m2 B2 (fun b i hb => by rw [B3 b i hb]; exact h2 b i hb)
        refine ⟨im', ?_, E2⟩
        rw [← E1]
        by_cases g2 : flo σ T d (tk σ d) = true
        · simp only [s88_0, s88_1, s88_2, s88_5, s88_6, s88_7, s88_8, s88_9, s88_12, s88_13, s88_16, s88_18, s88_20, s88_23, s88_24, s88_27, s88_29, s88_30, s88_33, s88_34, s88_37, s88_38, s88_39, s88_42, s88_44, s88_45, s88_46, s88_47, s88_50, s88_53, s88_54, s88_55, s88_57, s88_58, s88_59, s88_60, s88_63, s88_66, s88_67, ↓reduceIte, Option.bind_some, Option.toList, List.cons_append, List.nil_append, bB_0, bB_z, z01_0, z01_1, n01, n00, pm_ro_some, reduceCtorEq, if_true, if_false, and_self, and_true, true_and, not_true, not_false_eq_true, Nat.reduceLeDiff, Nat.reduceAdd, kdX, hx, dm, ix hd, g, lpF hd (show 6 < 2 ^ 31 by decide), h1.d0 hd, D.so, g1, B1, g2, shl1 (show d < 31 by omega), or_nI, nI_add, prt]
        · simp only [s88_0, s88_1, s88_2, s88_5, s88_6, s88_7, s88_8, s88_9, s88_12, s88_13, s88_16, s88_18, s88_20, s88_23, s88_24, s88_27, s88_29, s88_30, s88_33, s88_34, s88_37, s88_38, s88_39, s88_42, s88_44, s88_45, s88_46, s88_47, s88_50, s88_53, s88_54, s88_55, s88_57, s88_58, s88_59, s88_60, s88_63, s88_66, s88_67, ↓reduceIte, Option.bind_some, Option.toList, List.cons_append, List.nil_append, bB_0, bB_z, z01_0, z01_1, n01, n00, pm_ro_some, reduceCtorEq, if_true, if_false, and_self, and_true, true_and, not_true, not_false_eq_true, Nat.reduceLeDiff, Nat.reduceAdd, kdX, hx, dm, ix hd, g, lpF hd (show 6 < 2 ^ 31 by decide), h1.d0 hd, D.so, g1, B1, g2, nI_add, prt]
      · obtain ⟨im', E1, E2⟩ := ih m h1 h2
        refine ⟨im', ?_, E2⟩
        rw [← E1]
        simp only [s88_0, s88_1, s88_2, s88_5, s88_6, s88_7, s88_8, s88_9, s88_12, s88_13, s88_16, s88_18, s88_20, s88_23, s88_24, s88_27, s88_29, s88_30, s88_33, s88_34, s88_37, s88_38, s88_39, s88_42, s88_44, s88_45, s88_46, s88_47, s88_50, s88_53, s88_54, s88_55, s88_57, s88_58, s88_59, s88_60, s88_63, s88_66, s88_67, ↓reduceIte, Option.bind_some, Option.toList, List.cons_append, List.nil_append, bB_0, bB_z, z01_0, z01_1, n01, n00, pm_ro_some, reduceCtorEq, if_true, if_false, and_self, and_true, true_and, not_true, not_false_eq_true, Nat.reduceLeDiff, Nat.reduceAdd, kdX, hx, dm, ix hd, g, lpF hd (show 6 < 2 ^ 31 by decide), h1.d0 hd, D.so, g1, false_and, nI_add, prt]
  obtain ⟨im', e1, e2⟩ := key 0 (by omega) m1 A2 A3
  refine ⟨im', ?_, e2⟩
  unfold parN
  rw [if_neg g, ← e1]
  simp only [s88_0, s88_1, s88_2, s88_5, s88_6, s88_7, s88_8, s88_9, ↓reduceIte, Option.bind_some, Option.toList, List.cons_append, List.nil_append, bB_0, bB_z, z01_0, z01_1, n01, n00, pm_ro_some, reduceCtorEq, if_true, if_false, and_self, and_true, true_and, not_true, not_false_eq_true, Nat.reduceLeDiff, Nat.reduceAdd, kdX, A1]
  rfl
def pti (σ : IM) (T d t : Nat) : Nat := if flo σ T d t = true then prt σ T d ||| 2 ^ d else prt σ T d
theorem c139 (hI : INV σ rm pp ll) (hs : SS σ im) {T : Nat} (hT : T < 16) : ev 139 0 [.ref 129, .int (nI T), pm_u, pm_u, pm_u, pm_u, pm_u] [] im rm = some (some (.int (nI (parN σ T))), im, rm) := by
  have hm := hI.m
  have h8 : T / 2 < 8 := by omega
  have cb := c138 hI hs hT
  have z0 : ∀ x : Int32, x ||| nI 0 = x := fun x => by simp [nI]
  by_cases g : bnd σ T = -1
  · unfold parN
    rw [if_pos g]
    simp only [s139_0, s139_1, s139_2, s139_5, s139_6, s139_7, s139_8, s139_9, s139_11, s139_13, s139_15, s139_18, s139_19, s139_20, s139_23, s139_24, s139_26, s139_28, s139_29, s139_32, s139_34, s139_35, s139_38, s139_39, s139_42, s139_44, s139_45, s139_46, s139_49, s139_50, s139_52, s139_54, s139_55, s139_56, s139_57, s139_60, s139_62, s139_63, s139_64, s139_65, s139_66, s139_69, s139_71, s139_72, s139_75, s139_78, s139_80, s139_81, s139_84, s139_85, s139_88, s139_89, s139_91, s139_92, s139_93, s139_94, s139_97, s139_100, s139_103, s139_106, s139_107, ↓reduceIte, Option.bind_some, Option.toList, List.cons_append, List.nil_append, bB_0, bB_z, z01_0, z01_1, n01, n00, pm_ro_some, reduceCtorEq, if_true, if_false, and_self, and_true, true_and, not_true, not_false_eq_true, Nat.reduceLeDiff, Nat.reduceAdd, kdM, cb, g, lpF (show 0 < 6 by decide) (show 6 < 2 ^ 31 by decide)]
  have inner : ∀ j, j < 6 → σ 130 j = nI 1 → ∀ t, t ≤ tk σ j → ev 139 26 [.ref 129, .int (nI T), .int (bnd σ T), .int (nI (pti σ T j t)), .int (nI j), .int (nI t), pm_u] [] im rm = ev 139 100 [.ref 129, .int (nI T), .int (bnd σ T), .int (nI (pti σ T j (tk σ j))), .int (nI j), pm_u, pm_u] [] im rm := by
    intro j hj gs
    have D := hI.d j hj
    have n40 := D.n40
    refine dn ?_ ?_
    · simp only [s139_26, s139_28, s139_29, s139_32, s139_34, s139_35, ↓reduceIte, Option.bind_some, Option.toList, List.cons_append, List.nil_append, bB_0, bB_z, z01_0, z01_1, n01, n00, pm_ro_some, reduceCtorEq, if_true, if_false, and_self, and_true, true_and, not_true, not_false_eq_true, Nat.reduceLeDiff, Nat.reduceAdd, kdM, hm, hs.m, ix hj, D.mn, lpT]
    · intro t ht ih
      have c := c115 hm hs hj (show t < 40 by omega) h8
      rw [← ih, s139_26]
      by_cases q : flc σ T j t = true
      · have e : pti σ T j (t + 1) = pti σ T j t ||| 2 ^ j := by
          unfold pti
          show (if (flo σ T j t || flc σ T j t) = true then _ else _) = _
          rw [q, Bool.or_true, if_pos rfl]
          split
          · rw [Nat.or_assoc, Nat.or_self]
          · rfl
        rw [e]
        unfold flc at q
        rcases (show T % 2 = 0 ∨ T % 2 = 1 by omega) with h | h
        · rw [h, if_neg (by decide), decide_eq_true_eq] at q
          simp only [s139_28, s139_29, s139_32, s139_34, s139_35, s139_38, s139_39, s139_42, s139_44, s139_45, s139_46, s139_49, s139_50, s139_52, s139_54, s139_55, s139_56, s139_57, s139_60, s139_62, s139_63, s139_64, s139_65, s139_66, s139_69, s139_71, s139_72, s139_75, s139_78, s139_80, s139_81, s139_84, s139_85, s139_88, s139_89, s139_91, s139_92, s139_93, s139_94, s139_97, ↓reduceIte, Option.bind_some, Option.toList, List.cons_append, List.nil_append, bB_0, bB_z, z01_0, z01_1, n01, n00, pm_ro_some, reduceCtorEq, if_true, if_false, and_self, and_true, true_and, not_true, not_false_eq_true, Nat.reduceLeDiff, Nat.reduceAdd, kdM, hm, hs.m, ix hj, D.mn, lpF ht (show tk σ j < 2 ^ 31 by omega), gs, nz2, dv2 T hT, c, rem2b T hT, h, q, shl1 (show j < 31 by omega), or_nI, nI_add]
        · rw [h, if_pos rfl, decide_eq_true_eq] at q
          simp only [s139_28, s139_29, s139_32, s139_34, s139_35, s139_38, s139_39, s139_42, s139_44, s139_45, s139_46, s139_49, s139_50, s139_52, s139_54, s139_55, s139_56, s139_57, s139_60, s139_62, s139_63, s139_64, s139_65, s139_66, s139_69, s139_71, s139_72, s139_75, s139_78, s139_80, s139_81, s139_84, s139_85, s139_88, s139_89, s139_91, s139_92, s139_93, s139_94, s139_97, ↓reduceIte, Option.bind_some, Option.toList, List.cons_append, List.nil_append, bB_0, bB_z, z01_0, z01_1, n01, n00, pm_ro_some, reduceCtorEq, if_true, if_false, and_self, and_true, true_and, not_true, not_false_eq_true, Nat.reduceLeDiff, Nat.reduceAdd, kdM, hm, hs.m, ix hj, D.mn, lpF ht (show tk σ j < 2 ^ 31 by omega), gs, nz2, dv2 T hT, c, rem2b T hT, h, q, shl1 (show j < 31 by omega), or_nI, nI_add]
      · have e : pti σ T j (t + 1) = pti σ T j t := by
          unfold pti
          show (if (flo σ T j t || flc σ T j t) = true then _ else _) = _
          rw [bf q, Bool.or_false]
        rw [e]
        unfold flc at q
        rcases (show T % 2 = 0 ∨ T % 2 = 1 by omega) with h | h
        · rw [h, if_neg (by decide), decide_eq_true_eq] at q
          simp only [s139_28, s139_29, s139_32, s139_34, s139_35, s139_38, s139_39, s139_42, s139_44, s139_45, s139_46, s139_49, s139_50, s139_52, s139_54, s139_55, s139_56, s139_57, s139_60, s139_62, s139_63, s139_64, s139_65, s139_66, s139_69, s139_71, s139_72, s139_75, s139_78, s139_80, s139_81, s139_84, s139_85, s139_88, s139_89, s139_91, s139_92, s139_93, s139_94, s139_97, ↓reduceIte, Option.bind_some, Option.toList, List.cons_append, List.nil_append, bB_0, bB_z, z01_0, z01_1, n01, n00, pm_ro_some, reduceCtorEq, if_true, if_false, and_self, and_true, true_and, not_true, not_false_eq_true, Nat.reduceLeDiff, Nat.reduceAdd, kdM, hm, hs.m, ix hj, D.mn, lpF ht (show tk σ j < 2 ^ 31 by omega), gs, nz2, dv2 T hT, c, rem2b T hT, h, q, z0, nI_add]
        · rw [h, if_pos rfl, decide_eq_true_eq] at q
          simp only [s139_28, s139_29, s139_32, s139_34, s139_35, s139_38, s139_39, s139_42, s139_44, s139_45, s139_46, s139_49, s139_50, s139_52, s139_54, s139_55, s139_56, s139_57, s139_60, s139_62, s139_63, s139_64, s139_65, s139_66, s139_69, s139_71, s139_72, s139_75, s139_78, s139_80, s139_81, s139_84, s139_85, s139_88, s139_89, s139_91, s139_92, s139_93, s139_94, s139_97, ↓reduceIte, Option.bind_some, Option.toList, List.cons_append, List.nil_append, bB_0, bB_z, z01_0, z01_1, n01, n00, pm_ro_some, reduceCtorEq, if_true, if_false, and_self, and_true, true_and, not_true, not_false_eq_true, Nat.reduceLeDiff, Nat.reduceAdd, kdM, hm, hs.m, ix hj, D.mn, lpF ht (show tk σ j < 2 ^ 31 by omega), gs, nz2, dv2 T hT, c, rem2b T hT, h, q, z0, nI_add]
  have outer : ∀ j, j ≤ 6 → ev 139 11 [.ref 129, .int (nI T), .int (bnd σ T), .int (nI (prt σ T j)), .int (nI j), pm_u, pm_u] [] im rm = some (some (.int (nI (prt σ T 6))), im, rm) := by
    refine dn ?_ ?_
    · simp only [s139_11, s139_13, s139_15, s139_106, s139_107, ↓reduceIte, Option.bind_some, Option.toList, List.cons_append, List.nil_append, bB_0, bB_z, z01_0, z01_1, n01, n00, pm_ro_some, reduceCtorEq, if_true, if_false, and_self, and_true, true_and, not_true, not_false_eq_true, Nat.reduceLeDiff, Nat.reduceAdd, kdM, lpT]
    · intro j hj ih
      have D := hI.d j hj
      rw [← ih, s139_11]
      by_cases q : σ 130 j = nI 1
      · have A1 := inner j hj q 0 (by omega)
        have z : pti σ T j 0 = prt σ T j := rfl
        have z2 : prt σ T (j + 1) = pti σ T j (tk σ j) := by
          unfold pti
          show (if σ 130 j = nI 1 ∧ flo σ T j (tk σ j) = true then _ else _) = _
          simp only [q, true_and]
        rw [z] at A1
        rw [z2]
        simp only [s139_13, s139_15, s139_18, s139_19, s139_20, s139_23, s139_24, ↓reduceIte, Option.bind_some, Option.toList, List.cons_append, List.nil_append, bB_0, bB_z, z01_0, z01_1, n01, n00, pm_ro_some, reduceCtorEq, if_true, if_false, and_self, and_true, true_and, not_true, not_false_eq_true, Nat.reduceLeDiff, Nat.reduceAdd, kdM, lpF hj (show 6 < 2 ^ 31 by decide), g, A1, s139_100, s139_103, nI_add]
      · have z2 : prt σ T (j + 1) = prt σ T j := by
          show (if σ 130 j = nI 1 ∧ flo σ T j (tk σ j) = true then _ else _) = _
          simp only [q, false_and, if_false]
        rw [z2]
        by_cases z : tk σ j = 0
        · have mn := D.mn
          rw [z] at mn
          simp only [s139_13, s139_15, s139_18, s139_19, s139_20, s139_23, s139_24, s139_26, s139_28, s139_29, s139_32, s139_34, s139_35, ↓reduceIte, Option.bind_some, Option.toList, List.cons_append, List.nil_append, bB_0, bB_z, z01_0, z01_1, n01, n00, pm_ro_some, reduceCtorEq, if_true, if_false, and_self, and_true, true_and, not_true, not_false_eq_true, Nat.reduceLeDiff, Nat.reduceAdd, kdM, hm, hs.m, ix hj, mn, lpT, lpF hj (show 6 < 2 ^ 31 by decide), g, s139_100, s139_103, nI_add]
        · simp only [s139_13, s139_15, s139_18, s139_19, s139_20, s139_23, s139_24, s139_26, s139_28, s139_29, s139_32, s139_34, s139_35, s139_38, s139_39, s139_42, s139_44, s139_45, s139_46, ↓reduceIte, Option.bind_some, Option.toList, List.cons_append, List.nil_append, bB_0, bB_z, z01_0, z01_1, n01, n00, pm_ro_some, reduceCtorEq, if_true, if_false, and_self, and_true, true_and, not_true, not_false_eq_true, Nat.reduceLeDiff, Nat.reduceAdd, kdM, hm, hs.m, ix hj, D.mn, lpF (show 0 < tk σ j by omega) (show tk σ j < 2 ^ 31 by have := D.n40; omega), lpF hj (show 6 < 2 ^ 31 by decide), g, q, s139_100, s139_103, nI_add]
  unfold parN
  rw [if_neg g, ← outer 0 (by omega)]
  simp only [s139_0, s139_1, s139_2, s139_5, s139_6, s139_7, s139_8, s139_9, ↓reduceIte, Option.bind_some, Option.toList, List.cons_append, List.nil_append, bB_0, bB_z, z01_0, z01_1, n01, n00, pm_ro_some, reduceCtorEq, if_true, if_false, and_self, and_true, true_and, not_true, not_false_eq_true, Nat.reduceLeDiff, Nat.reduceAdd, kdM, cb]
  rfl
theorem p53 (hI : INV im rm pp ll) (x : Int32) : PAIR 53 [.ref 0, .int x] 140 [.ref 129, .int x] im rm := by
  have hx := hI.x
  have hm := hI.m
  by_cases g0 : pm_in x 16 = true
  rotate_left
  · exact PAIR.q hI (-3) ⟨im, by simp only [s53_0, s53_1, s53_3, s53_6, s53_9, s53_10, s53_11, s53_14, s53_17, s53_19, ↓reduceIte, Option.bind_some, Option.toList, List.cons_append, List.nil_append, bB_0, bB_z, z01_0, z01_1, n01, n00, pm_ro_some, reduceCtorEq, if_true, if_false, and_self, and_true, true_and, not_true, not_false_eq_true, Nat.reduceLeDiff, Nat.reduceAdd, kdX, b75_16, g0, hx], SS.rf⟩ (fun im1 s1 => ⟨im1, by simp only [s140_0, s140_1, s140_2, s140_3, s140_6, s140_9, s140_12, s140_13, s140_14, s140_17, s140_20, s140_22, ↓reduceIte, Option.bind_some, Option.toList, List.cons_append, List.nil_append, bB_0, bB_z, z01_0, z01_1, n01, n00, pm_ro_some, reduceCtorEq, if_true, if_false, and_self, and_true, true_and, not_true, not_false_eq_true, Nat.reduceLeDiff, Nat.reduceAdd, kdM, c104, inLs, hm, g0], s1⟩)
  obtain ⟨T, hT, rfl⟩ := pm_in_ex g0 (by decide)
  obtain ⟨m1, A1, A2, A3⟩ := c88 hI SS.rf hT
  exact PAIR.q hI (nI (parN im T)) ⟨m1, by simp only [s53_0, s53_1, s53_3, s53_6, s53_9, s53_10, s53_11, s53_14, s53_17, s53_19, ↓reduceIte, Option.bind_some, Option.toList, List.cons_append, List.nil_append, bB_0, bB_z, z01_0, z01_1, n01, n00, pm_ro_some, reduceCtorEq, if_true, if_false, and_self, and_true, true_and, not_true, not_false_eq_true, Nat.reduceLeDiff, Nat.reduceAdd, kdX, b75_16, g0, hx, A1], A2⟩ (fun im1 s1 => ⟨im1, by simp only [s140_0, s140_1, s140_2, s140_3, s140_6, s140_9, s140_12, s140_13, s140_14, s140_17, s140_20, s140_22, ↓reduceIte, Option.bind_some, Option.toList, List.cons_append, List.nil_append, bB_0, bB_z, z01_0, z01_1, n01, n00, pm_ro_some, reduceCtorEq, if_true, if_false, and_self, and_true, true_and, not_true, not_false_eq_true, Nat.reduceLeDiff, Nat.reduceAdd, kdM, c104, inLs, hm, g0, c139 hI s1 hT], s1⟩)
end PRT
