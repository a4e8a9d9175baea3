-- needs: 45 44
/-! lets, parting: both sides. -/
def ilc (σ : IM) (v k : Nat) : Bool := tkk σ (σ 150 k) (σ 151 k) && decide (sA σ v (σ 150 k).toNatClampNeg ((σ 151 k).toNatClampNeg + 1) = σ 152 k)
def il (σ : IM) (v : Nat) : Nat → Bool
  | 0 => true
  | k + 1 => il σ v k && ilc σ v k
theorem il_f {σ : IM} {v j : Nat} (h : il σ v j = false) : ∀ n, il σ v (j + n) = false := by
  intro n
  induction n with
  | zero => exact h
  | succ n ih => show (il σ v (j + n) && ilc σ v (j + n)) = false; rw [ih, Bool.false_and]
def lts (σ : IM) : Nat → Int32
  | 0 => nI 0
  | v + 1 => if il σ v (mn σ) = true then lts σ v ||| (nI 1 <<< (nI v &&& 31)) else lts σ v
section LET
variable {im σ : IM} {rm : RM} {pp ll : Nat → Nat}
theorem c14 (hI : INV σ rm pp ll) {v d s : Nat} (hd : d < 6) (hs : s < tk σ d) (hL : LO σ v d (tk σ d) im) : ev 14 0 [.ref 32, .int (nI s), pm_u, pm_u] [] im rm = some (some (.int (sA σ v d (s + 1))), im, rm) := by
  have hx := hI.x
  have n40 := (hI.d d hd).n40
  have key : ∀ j, j ≤ s + 1 → ev 14 4 [.ref 32, .int (nI s), .int (sA σ v d j), .int (nI j)] [] im rm = some (some (.int (sA σ v d (s + 1))), im, rm) := by
    refine dn ?_ ?_
    · simp only [s14_0, s14_1, s14_2, s14_3, s14_4, s14_5, s14_6, s14_9, s14_10, s14_11, s14_14, s14_15, s14_16, s14_17, s14_18, s14_21, s14_24, s14_25, ↓reduceIte, Option.bind_some, Option.toList, List.cons_append, List.nil_append, bB_0, bB_z, z01_0, z01_1, n01, n00, pm_ro_some, reduceCtorEq, if_true, if_false, and_self, and_true, true_and, not_true, not_false_eq_true, Nat.reduceLeDiff, Nat.reduceAdd, kdX, lpF (show s < s + 1 by omega) (by omega)]
    · intro j hj ih
      rw [← ih, s14_4]
      have e : sA σ v d (j + 1) = sA σ v d j + air σ v d j := rfl
      simp only [s14_0, s14_1, s14_2, s14_3, s14_5, s14_6, s14_9, s14_10, s14_11, s14_14, s14_15, s14_16, s14_17, s14_18, s14_21, s14_24, s14_25, ↓reduceIte, Option.bind_some, Option.toList, List.cons_append, List.nil_append, bB_0, bB_z, z01_0, z01_1, n01, n00, pm_ro_some, reduceCtorEq, if_true, if_false, and_self, and_true, true_and, not_true, not_false_eq_true, Nat.reduceLeDiff, Nat.reduceAdd, kdX, hx, lpG (show j ≤ s by omega) (by omega), ix (show j < 40 by omega), hL.1 j (by omega), e, nI_add]
  rw [← key 0 (by omega)]
  simp only [s14_0, s14_1, s14_2, s14_3]
  rfl
theorem c91 (hI : INV σ rm pp ll) (hs : SS σ im) {v : Nat} (hv : v < 4) : ∃ im', ev 91 0 [.ref 0, .int (nI v), pm_u, pm_u, pm_u] [] im rm = some (some (.int (bB (il σ v (mn σ)))), im', rm) ∧ SS σ im' := by
  have hx := hI.x
  have T := hI.e
  have n20 := T.2.2.1
  have key : ∀ k, k ≤ mn σ → il σ v k = true → ∀ m : IM, SS σ m → ∃ im', ev 91 2 [.ref 0, .int (nI v), .int (nI k), pm_u, pm_u] [] m rm = some (some (.int (bB (il σ v (mn σ)))), im', rm) ∧ SS σ im' := by
    refine dn ?_ ?_
    · intro h m h1
      refine ⟨m, ?_, h1⟩
      rw [h]
      simp only [s91_0, s91_1, s91_2, s91_3, s91_4, s91_7, s91_10, s91_13, s91_14, s91_17, s91_20, s91_21, s91_22, s91_23, s91_24, s91_27, s91_30, s91_31, s91_32, s91_34, s91_35, s91_36, s91_38, s91_41, s91_44, s91_45, s91_46, s91_47, s91_48, s91_49, s91_52, s91_53, s91_56, s91_58, s91_61, s91_62, s91_65, s91_68, s91_69, s91_70, s91_73, s91_74, s91_75, s91_78, s91_81, s91_82, ↓reduceIte, Option.bind_some, Option.toList, List.cons_append, List.nil_append, bB_0, bB_z, z01_0, z01_1, n01, n00, pm_ro_some, reduceCtorEq, if_true, if_false, and_self, and_true, true_and, not_true, not_false_eq_true, Nat.reduceLeDiff, Nat.reduceAdd, kdX, hx, h1.c, T.1, lpT]
      rfl
    · intro k hk ih h m h1
      have R := T.2.2.2 k hk
      have et : il σ v (k + 1) = ilc σ v k := by
        show (il σ v k && ilc σ v k) = _
        rw [h, Bool.true_and]
      have fin : ilc σ v k = false → il σ v (mn σ) = false := by
        intro q
        have := il_f (et.trans q) (mn σ - (k + 1))
        rw [show k + 1 + (mn σ - (k + 1)) = mn σ by omega] at this
        exact this
      have a1 := c77 hI h1 (σ 150 k) (σ 151 k)
      rw [s91_2]
      by_cases g : tkk σ (σ 150 k) (σ 151 k) = true
      rotate_left
      · refine ⟨m, ?_, h1⟩
        rw [fin (by unfold ilc; rw [bf g, Bool.false_and])]
        simp only [s91_0, s91_1, s91_3, s91_4, s91_7, s91_10, s91_13, s91_14, s91_17, s91_20, s91_21, s91_22, s91_23, s91_24, s91_27, s91_30, s91_31, s91_32, s91_34, s91_35, s91_36, s91_38, s91_41, s91_44, s91_45, s91_46, s91_47, s91_48, s91_49, s91_52, s91_53, s91_56, s91_58, s91_61, s91_62, s91_65, s91_68, s91_69, s91_70, s91_73, s91_74, s91_75, s91_78, s91_81, s91_82, ↓reduceIte, Option.bind_some, Option.toList, List.cons_append, List.nil_append, bB_0, bB_z, z01_0, z01_1, n01, n00, pm_ro_some, reduceCtorEq, if_true, if_false, and_self, and_true, true_and, not_true, not_false_eq_true, Nat.reduceLeDiff, Nat.reduceAdd, kdX, hx, h1.c, T.1, lpF hk (show mn σ < 2 ^ 31 by omega), ix (show k < 20 by omega), R.1, R.2.2.1, a1, g]
        rfl
      obtain ⟨d, s, hd, hs2, ed, es⟩ := tkk_ex hI g
      obtain ⟨m1, A1, A2, A3, A4⟩ := c80 hI h1 hv hd
      have e14 := c14 (rm := rm) hI hd hs2 A3
      have ec : ilc σ v k = decide (sA σ v d (s + 1) = σ 152 k) := by
        unfold ilc
        have n40 := (hI.d d hd).n40
        rw [g, Bool.true_and, ed, es, nI_clamp (by omega), nI_clamp (by omega)]
      rw [ed, es] at a1 g R
      by_cases g2 : sA σ v d (s + 1) = σ 152 k
      · obtain ⟨im', e1, e2⟩ := ih (et.trans (by rw [ec]; exact decide_eq_true g2)) m1 A2
        refine ⟨im', ?_, e2⟩
        rw [← e1]
        simp only [s91_0, s91_1, s91_3, s91_4, s91_7, s91_10, s91_13, s91_14, s91_17, s91_20, s91_21, s91_22, s91_23, s91_24, s91_27, s91_30, s91_31, s91_32, s91_34, s91_35, s91_36, s91_38, s91_41, s91_44, s91_45, s91_46, s91_47, s91_48, s91_49, s91_52, s91_53, s91_56, s91_58, s91_61, s91_62, s91_65, s91_68, s91_69, s91_70, s91_73, s91_74, s91_75, s91_78, s91_81, s91_82, ↓reduceIte, Option.bind_some, Option.toList, List.cons_append, List.nil_append, bB_0, bB_z, z01_0, z01_1, n01, n00, pm_ro_some, reduceCtorEq, if_true, if_false, and_self, and_true, true_and, not_true, not_false_eq_true, Nat.reduceLeDiff, Nat.reduceAdd, kdX, hx, h1.c, A2.c, T.1, lpF hk (show mn σ < 2 ^ 31 by omega), ix (show k < 20 by omega), R.1, R.2.2.1, R.2.2.2.2, a1, g, A1, e14, g2, nI_add]
      · refine ⟨m1, ?_, A2⟩
        rw [fin (by rw [ec]; exact decide_eq_false g2)]
        simp only [s91_0, s91_1, s91_3, s91_4, s91_7, s91_10, s91_13, s91_14, s91_17, s91_20, s91_21, s91_22, s91_23, s91_24, s91_27, s91_30, s91_31, s91_32, s91_34, s91_35, s91_36, s91_38, s91_41, s91_44, s91_45, s91_46, s91_47, s91_48, s91_49, s91_52, s91_53, s91_56, s91_58, s91_61, s91_62, s91_65, s91_68, s91_69, s91_70, s91_73, s91_74, s91_75, s91_78, s91_81, s91_82, ↓reduceIte, Option.bind_some, Option.toList, List.cons_append, List.nil_append, bB_0, bB_z, z01_0, z01_1, n01, n00, pm_ro_some, reduceCtorEq, if_true, if_false, and_self, and_true, true_and, not_true, not_false_eq_true, Nat.reduceLeDiff, Nat.reduceAdd, kdX, hx, h1.c, A2.c, T.1, lpF hk (show mn σ < 2 ^ 31 by omega), ix (show k < 20 by omega), R.1, R.2.2.1, R.2.2.2.2, a1, g, A1, e14, g2]
        rfl
  obtain ⟨im', e1, e2⟩ := key 0 (by omega) rfl im hs
  refine ⟨im', ?_, e2⟩
  rw [← e1]
  simp only [s91_0, s91_1]
theorem c146 (hI : INV σ rm pp ll) (hs : SS σ im) {v : Nat} (hv : v < 4) : ∃ im', ev 146 0 [.ref 129, .int (nI v), pm_u, pm_u, pm_u] [] im rm = some (some (.int (bB (il σ v (mn σ)))), im', rm) ∧ SS σ im' := by
  have hm := hI.m
  have T := hI.e
  have n20 := T.2.2.1
  have P := hI.p v hv
  have s24 : ∀ m, SS σ m → m 129 24 = nI (mn σ) := fun m h => by rw [h.2.2 24 (by decide)]; exact T.2.1
  have key : ∀ k, k ≤ mn σ → il σ v k = true → ∀ m : IM, SS σ m → ∃ im', ev 146 2 [.ref 129, .int (nI v), .int (nI k), pm_u, pm_u] [] m rm = some (some (.int (bB (il σ v (mn σ)))), im', rm) ∧ SS σ im' := by
    refine dn ?_ ?_
    · intro h m h1
      refine ⟨m, ?_, h1⟩
      rw [h]
      simp only [s146_0, s146_1, s146_2, s146_3, s146_4, s146_7, s146_10, s146_11, s146_12, s146_15, s146_16, s146_17, s146_18, s146_21, s146_22, s146_23, s146_26, s146_29, s146_30, s146_31, s146_32, s146_33, s146_34, s146_37, s146_38, s146_39, s146_42, s146_43, s146_44, s146_45, s146_47, s146_49, s146_50, s146_53, s146_54, s146_55, s146_58, s146_59, s146_60, s146_63, s146_65, s146_66, s146_67, s146_68, s146_71, s146_74, s146_75, s146_76, s146_79, s146_80, s146_81, s146_84, s146_85, s146_86, s146_89, s146_92, s146_93, ↓reduceIte, Option.bind_some, Option.toList, List.cons_append, List.nil_append, bB_0, bB_z, z01_0, z01_1, n01, n00, pm_ro_some, reduceCtorEq, if_true, if_false, and_self, and_true, true_and, not_true, not_false_eq_true, Nat.reduceLeDiff, Nat.reduceAdd, kdM, hm, s24 m h1, lpT]
      rfl
    · intro k hk ih h m h1
      have et : il σ v (k + 1) = ilc σ v k := by
        show (il σ v k && ilc σ v k) = _
        rw [h, Bool.true_and]
      have fin : ilc σ v k = false → il σ v (mn σ) = false := by
        intro q
        have := il_f (et.trans q) (mn σ - (k + 1))
        rw [show k + 1 + (mn σ - (k + 1)) = mn σ by omega] at this
        exact this
      have a1 := c108 hI h1 (σ 150 k) (σ 151 k)
      rw [s146_2]
      by_cases g : tkk σ (σ 150 k) (σ 151 k) = true
      rotate_left
      · refine ⟨m, ?_, h1⟩
        rw [fin (by unfold ilc; rw [bf g, Bool.false_and])]
        simp only [s146_0, s146_1, s146_3, s146_4, s146_7, s146_10, s146_11, s146_12, s146_15, s146_16, s146_17, s146_18, s146_21, s146_22, s146_23, s146_26, s146_29, s146_30, s146_31, s146_32, s146_33, s146_34, s146_37, s146_38, s146_39, s146_42, s146_43, s146_44, s146_45, s146_49, s146_50, s146_53, s146_54, s146_55, s146_58, s146_59, s146_60, s146_63, s146_65, s146_66, s146_67, s146_68, s146_71, s146_74, s146_75, s146_76, s146_79, s146_80, s146_81, s146_84, s146_85, s146_86, s146_89, s146_92, s146_93, ↓reduceIte, Option.bind_some, Option.toList, List.cons_append, List.nil_append, bB_0, bB_z, z01_0, z01_1, n01, n00, pm_ro_some, reduceCtorEq, if_true, if_false, and_self, and_true, true_and, not_true, not_false_eq_true, Nat.reduceLeDiff, Nat.reduceAdd, kdM, hm, h1.m, s24 m h1, lpF hk (show mn σ < 2 ^ 31 by omega), ix (show k < 20 by omega), a1, g]
        rfl
      obtain ⟨d, s, hd, hs2, ed, es⟩ := tkk_ex hI g
      have n40 := (hI.d d hd).n40
      obtain ⟨m1, A1, A2, A3, A4⟩ := c135 hI h1 P hv hd
      have ec : ilc σ v k = decide (sA σ v d (s + 1) = σ 152 k) := by
        unfold ilc
        rw [g, Bool.true_and, ed, es, nI_clamp (by omega), nI_clamp (by omega)]
      rw [ed, es] at a1 g
      have inner : ∀ j, j ≤ s + 1 → ev 146 47 [.ref 129, .int (nI v), .int (nI k), .int (sA σ v d j), .int (nI j)] [] m1 rm = ev 146 74 [.ref 129, .int (nI v), .int (nI k), .int (sA σ v d (s + 1)), pm_u] [] m1 rm := by
        refine dn ?_ ?_
        · simp only [s146_0, s146_1, s146_2, s146_3, s146_4, s146_7, s146_10, s146_11, s146_12, s146_15, s146_16, s146_17, s146_18, s146_21, s146_22, s146_23, s146_26, s146_29, s146_30, s146_31, s146_32, s146_33, s146_34, s146_37, s146_38, s146_39, s146_42, s146_43, s146_44, s146_45, s146_47, s146_49, s146_50, s146_53, s146_54, s146_55, s146_58, s146_59, s146_60, s146_63, s146_65, s146_66, s146_67, s146_68, s146_71, s146_75, s146_76, s146_79, s146_80, s146_81, s146_84, s146_85, s146_86, s146_89, s146_92, s146_93, ↓reduceIte, Option.bind_some, Option.toList, List.cons_append, List.nil_append, bB_0, bB_z, z01_0, z01_1, n01, n00, pm_ro_some, reduceCtorEq, if_true, if_false, and_self, and_true, true_and, not_true, not_false_eq_true, Nat.reduceLeDiff, Nat.reduceAdd, kdM, hm, A2.m, ix (show k < 20 by omega), es, lpF (show s < s + 1 by omega) (by omega)]
        · intro j hj ih
          rw [← ih, s146_47]
          have e : sA σ v d (j + 1) = sA σ v d j + air σ v d j := rfl
          simp only [s146_0, s146_1, s146_2, s146_3, s146_4, s146_7, s146_10, s146_11, s146_12, s146_15, s146_16, s146_17, s146_18, s146_21, s146_22, s146_23, s146_26, s146_29, s146_30, s146_31, s146_32, s146_33, s146_34, s146_37, s146_38, s146_39, s146_42, s146_43, s146_44, s146_45, s146_49, s146_50, s146_53, s146_54, s146_55, s146_58, s146_59, s146_60, s146_63, s146_65, s146_66, s146_67, s146_68, s146_71, s146_75, s146_76, s146_79, s146_80, s146_81, s146_84, s146_85, s146_86, s146_89, s146_92, s146_93, ↓reduceIte, Option.bind_some, Option.toList, List.cons_append, List.nil_append, bB_0, bB_z, z01_0, z01_1, n01, n00, pm_ro_some, reduceCtorEq, if_true, if_false, and_self, and_true, true_and, not_true, not_false_eq_true, Nat.reduceLeDiff, Nat.reduceAdd, kdM, hm, A2.m, ix (show k < 20 by omega), es, lpG (show j ≤ s by omega) (by omega), ix (show j < 40 by omega), A3.1 j (by omega), e, nI_add]
      have i0 := inner 0 (by omega)
      rw [show sA σ v d 0 = nI 0 from rfl] at i0
      by_cases g2 : sA σ v d (s + 1) = σ 152 k
      · obtain ⟨im', e1, e2⟩ := ih (et.trans (by rw [ec]; exact decide_eq_true g2)) m1 A2
        refine ⟨im', ?_, e2⟩
        rw [← e1]
        simp only [s146_0, s146_1, s146_3, s146_4, s146_7, s146_10, s146_11, s146_12, s146_15, s146_16, s146_17, s146_18, s146_21, s146_22, s146_23, s146_26, s146_29, s146_30, s146_31, s146_32, s146_33, s146_34, s146_37, s146_38, s146_39, s146_42, s146_43, s146_44, s146_45, s146_49, s146_50, s146_53, s146_54, s146_55, s146_58, s146_59, s146_60, s146_63, s146_65, s146_66, s146_67, s146_68, s146_71, s146_74, s146_75, s146_76, s146_79, s146_80, s146_81, s146_84, s146_85, s146_86, s146_89, s146_92, s146_93, ↓reduceIte, Option.bind_some, Option.toList, List.cons_append, List.nil_append, bB_0, bB_z, z01_0, z01_1, n01, n00, pm_ro_some, reduceCtorEq, if_true, if_false, and_self, and_true, true_and, not_true, not_false_eq_true, Nat.reduceLeDiff, Nat.reduceAdd, kdM, hm, h1.m, A2.m, s24 m h1, lpF hk (show mn σ < 2 ^ 31 by omega), ix (show k < 20 by omega), ed, es, a1, g, A1, i0, g2, nI_add]
      · refine ⟨m1, ?_, A2⟩
        rw [fin (by rw [ec]; exact decide_eq_false g2)]
        simp only [s146_0, s146_1, s146_3, s146_4, s146_7, s146_10, s146_11, s146_12, s146_15, s146_16, s146_17, s146_18, s146_21, s146_22, s146_23, s146_26, s146_29, s146_30, s146_31, s146_32, s146_33, s146_34, s146_37, s146_38, s146_39, s146_42, s146_43, s146_44, s146_45, s146_49, s146_50, s146_53, s146_54, s146_55, s146_58, s146_59, s146_60, s146_63, s146_65, s146_66, s146_67, s146_68, s146_71, s146_74, s146_75, s146_76, s146_79, s146_80, s146_81, s146_84, s146_85, s146_86, s146_89, s146_92, s146_93, ↓reduceIte, Option.bind_some, Option.toList, List.cons_append, List.nil_append, bB_0, bB_z, z01_0, z01_1, n01, n00, pm_ro_some, reduceCtorEq, if_true, if_false, and_self, and_true, true_and, not_true, not_false_eq_true, Nat.reduceLeDiff, Nat.reduceAdd, kdM, hm, h1.m, A2.m, s24 m h1, lpF hk (show mn σ < 2 ^ 31 by omega), ix (show k < 20 by omega), ed, es, a1, g, A1, i0, g2]
        rfl
  obtain ⟨im', e1, e2⟩ := key 0 (by omega) rfl im hs
  refine ⟨im', ?_, e2⟩
  rw [← e1]
  simp only [s146_0, s146_1]
theorem c58 (hI : INV σ rm pp ll) (hs : SS σ im) : ∃ im', ev 58 0 [.ref 0, pm_u, pm_u] [] im rm = some (some (.int (lts σ 4)), im', rm) ∧ SS σ im' := by
  have hx := hI.x
  have key : ∀ j, j ≤ 4 → ∀ m : IM, SS σ m → ∃ im', ev 58 4 [.ref 0, .int (lts σ j), .int (nI j)] [] m rm = some (some (.int (lts σ 4)), im', rm) ∧ SS σ im' := by
    refine dn ?_ ?_
    · intro m h1
      exact ⟨m, by simp only [s58_0, s58_1, s58_2, s58_3, s58_4, s58_5, s58_6, s58_9, s58_10, s58_11, s58_14, s58_17, s58_18, s58_19, s58_20, s58_21, s58_22, s58_23, s58_26, s58_29, s58_30, ↓reduceIte, Option.bind_some, Option.toList, List.cons_append, List.nil_append, bB_0, bB_z, z01_0, z01_1, n01, n00, pm_ro_some, reduceCtorEq, if_true, if_false, and_self, and_true, true_and, not_true, not_false_eq_true, Nat.reduceLeDiff, Nat.reduceAdd, kdX, lpT], h1⟩
    · intro j hj ih m h1
      obtain ⟨m1, A1, A2⟩ := c91 hI h1 hj
      obtain ⟨im', e1, e2⟩ := ih m1 A2
      refine ⟨im', ?_, e2⟩
      rw [← e1, s58_4]
      by_cases g : il σ j (mn σ) = true <;> simp only [s58_0, s58_1, s58_2, s58_3, s58_5, s58_6, s58_9, s58_10, s58_11, s58_14, s58_17, s58_18, s58_19, s58_20, s58_21, s58_22, s58_23, s58_26, s58_29, s58_30, ↓reduceIte, Option.bind_some, Option.toList, List.cons_append, List.nil_append, bB_0, bB_z, z01_0, z01_1, n01, n00, pm_ro_some, reduceCtorEq, if_true, if_false, and_self, and_true, true_and, not_true, not_false_eq_true, Nat.reduceLeDiff, Nat.reduceAdd, kdX, hx, lpF hj (by decide), A1, g, lts, nI_add, Bool.false_eq_true]
  obtain ⟨im', e1, e2⟩ := key 0 (by omega) im hs
  refine ⟨im', ?_, e2⟩
  rw [← e1]
  simp only [s58_0, s58_1, s58_2, s58_3]
  rfl
theorem c147 (hI : INV σ rm pp ll) (hs : SS σ im) : ∃ im', ev 147 0 [.ref 129, pm_u, pm_u] [] im rm = some (some (.int (lts σ 4)), im', rm) ∧ SS σ im' := by
  have hm := hI.m
  have z0 : ∀ x : Int32, x ||| nI 0 = x := fun x => by simp [nI]
  have key : ∀ j, j ≤ 4 → ∀ m : IM, SS σ m → ∃ im', ev 147 4 [.ref 129, .int (lts σ j), .int (nI j)] [] m rm = some (some (.int (lts σ 4)), im', rm) ∧ SS σ im' := by
    refine dn ?_ ?_
    · intro m h1
      exact ⟨m, by simp only [s147_0, s147_1, s147_2, s147_3, s147_4, s147_5, s147_6, s147_9, s147_10, s147_11, s147_12, s147_15, s147_18, s147_19, s147_20, s147_21, s147_24, s147_25, s147_26, s147_27, s147_30, s147_33, s147_34, ↓reduceIte, Option.bind_some, Option.toList, List.cons_append, List.nil_append, bB_0, bB_z, z01_0, z01_1, n01, n00, pm_ro_some, reduceCtorEq, if_true, if_false, and_self, and_true, true_and, not_true, not_false_eq_true, Nat.reduceLeDiff, Nat.reduceAdd, kdM, lpT], h1⟩
    · intro j hj ih m h1
      obtain ⟨m1, A1, A2⟩ := c146 hI h1 hj
      obtain ⟨im', e1, e2⟩ := ih m1 A2
      refine ⟨im', ?_, e2⟩
      rw [← e1, s147_4]
      by_cases g : il σ j (mn σ) = true <;> simp only [s147_0, s147_1, s147_2, s147_3, s147_5, s147_6, s147_9, s147_10, s147_11, s147_12, s147_15, s147_18, s147_19, s147_20, s147_21, s147_24, s147_25, s147_26, s147_27, s147_30, s147_33, s147_34, ↓reduceIte, Option.bind_some, Option.toList, List.cons_append, List.nil_append, bB_0, bB_z, z01_0, z01_1, n01, n00, pm_ro_some, reduceCtorEq, if_true, if_false, and_self, and_true, true_and, not_true, not_false_eq_true, Nat.reduceLeDiff, Nat.reduceAdd, kdM, hm, lpF hj (by decide), A1, g, lts, nI_add, z0, Bool.false_eq_true]
  obtain ⟨im', e1, e2⟩ := key 0 (by omega) im hs
  refine ⟨im', ?_, e2⟩
  rw [← e1]
  simp only [s147_0, s147_1, s147_2, s147_3]
  rfl
theorem p58 (hI : INV im rm pp ll) : PAIR 58 [.ref 0, pm_u, pm_u] 148 [.ref 129] im rm := by
  refine PAIR.q hI (lts im 4) (c58 hI SS.rf) (fun im1 s1 => ?_)
  obtain ⟨im2, e1, e2⟩ := c147 hI s1
  exact ⟨im2, by simp only [s148_0, s148_1, s148_4, ↓reduceIte, Option.bind_some, Option.toList, List.cons_append, List.nil_append, bB_0, bB_z, z01_0, z01_1, n01, n00, pm_ro_some, reduceCtorEq, if_true, if_false, and_self, and_true, true_and, not_true, not_false_eq_true, Nat.reduceLeDiff, Nat.reduceAdd, kdM, e1], e2⟩
/-- bit v of a set -/
def bt (s : Int32) (v : Nat) : Bool := decide ((s >>> (nI v &&& 31)) &&& nI 1 = nI 1)
/-- an earlier one of the set has the same air -/
def erl (f : Nat → Int32) (s : Int32) (x : Int32) : Nat → Bool
  | 0 => false
  | o + 1 => erl f s x o || (bt s o && decide (f o = x))
theorem erl_iff {f : Nat → Int32} {s x : Int32} : ∀ n, erl f s x n = true ↔ ∃ o, o < n ∧ bt s o = true ∧ f o = x := by
  intro n
  induction n with
  | zero => simp [erl]
  | succ n ih =>
    unfold erl
    rw [Bool.or_eq_true, ih, Bool.and_eq_true, decide_eq_true_eq]
    constructor
    · rintro (⟨o, h1, h2⟩ | h)
      · exact ⟨o, by omega, h2⟩
      · exact ⟨n, by omega, h⟩
    · rintro ⟨o, h1, h2⟩
      by_cases e : o = n
      · subst e; exact Or.inr h2
      · exact Or.inl ⟨o, by omega, h2⟩
def unl (f : Nat → Int32) (s : Int32) : Nat → Nat
  | 0 => 0
  | v + 1 => if (bt s v && !erl f s (f v) v) = true then unl f s v + 1 else unl f s v
theorem unl_le (f : Nat → Int32) (s : Int32) : ∀ n, unl f s n ≤ n := by
  intro n
  induction n with
  | zero => exact Nat.le_refl _
  | succ n ih => unfold unl; split <;> omega
theorem c92 (hI : INV σ rm pp ll) (hs : SS σ im) {d : Nat} (hd : d < 6) (hT : ∀ v, v < 4 → TT σ v im) (s : Int32) : ev 92 0 [.ref 0, .int (nI d), .int s, pm_u, pm_u, pm_u, pm_u] [] im rm = some (some (.int (nI (unl (fun v => aA σ v d) s 4))), im, rm) := by
  have hx := hI.x
  generalize hf : (fun v => aA σ v d) = f
  have fa : ∀ v, v < 4 → im (40 + v) d = f v := fun v hv => by rw [← hf]; exact (hT v hv d hd).1
  have inner : ∀ v, v < 4 → ∀ b0 : Bool, ∀ o, o ≤ v → ev 92 31 [.ref 0, .int (nI d), .int s, .int (nI (unl f s v)), .int (nI v), .int (bB (b0 && !erl f s (f v) o)), .int (nI o)] [] im rm = ev 92 78 [.ref 0, .int (nI d), .int s, .int (nI (unl f s v)), .int (nI v), .int (bB (b0 && !erl f s (f v) v)), pm_u] [] im rm := by
    intro v hv b0
    refine dn ?_ ?_
    · simp only [s92_0, s92_1, s92_2, s92_3, s92_5, s92_7, s92_8, s92_11, s92_12, s92_14, s92_15, s92_16, s92_17, s92_18, s92_21, s92_22, s92_25, s92_26, s92_28, s92_29, s92_31, s92_33, s92_35, s92_38, s92_39, s92_41, s92_42, s92_43, s92_44, s92_45, s92_48, s92_49, s92_52, s92_54, s92_55, s92_56, s92_57, s92_58, s92_61, s92_63, s92_64, s92_65, s92_66, s92_69, s92_70, s92_72, s92_75, s92_80, s92_83, s92_86, s92_89, s92_92, s92_93, ↓reduceIte, Option.bind_some, Option.toList, List.cons_append, List.nil_append, bB_0, bB_z, z01_0, z01_1, n01, n00, pm_ro_some, reduceCtorEq, if_true, if_false, and_self, and_true, true_and, not_true, not_false_eq_true, Nat.reduceLeDiff, Nat.reduceAdd, kdX, lpT]
    · intro o ho ih
      have tv := hI.to hv
      have to := hI.to (show o < 4 by omega)
      rw [← ih, s92_31]
      have ee : erl f s (f v) (o + 1) = (erl f s (f v) o || (bt s o && decide (f o = f v))) := rfl
      rw [ee]
      by_cases h1 : (s >>> (nI o &&& 31)) &&& nI 1 = nI 1
      · have hb : bt s o = true := decide_eq_true h1
        by_cases h2 : f o = f v
        · simp only [s92_0, s92_1, s92_2, s92_3, s92_5, s92_7, s92_8, s92_11, s92_12, s92_14, s92_15, s92_16, s92_17, s92_18, s92_21, s92_22, s92_25, s92_26, s92_28, s92_29, s92_33, s92_35, s92_38, s92_39, s92_41, s92_42, s92_43, s92_44, s92_45, s92_48, s92_49, s92_52, s92_54, s92_55, s92_56, s92_57, s92_58, s92_61, s92_63, s92_64, s92_65, s92_66, s92_69, s92_70, s92_72, s92_75, s92_80, s92_83, s92_86, s92_89, s92_92, s92_93, ↓reduceIte, Option.bind_some, Option.toList, List.cons_append, List.nil_append, bB_0, bB_z, z01_0, z01_1, n01, n00, pm_ro_some, reduceCtorEq, if_true, if_false, and_self, and_true, true_and, not_true, not_false_eq_true, Nat.reduceLeDiff, Nat.reduceAdd, kdX, hx, lpF ho (by omega), h1, tv, to, ix hv, ix (show o < 4 by omega), ix hd, fa v hv, fa o (by omega), h2, hb, decide_true, Bool.and_true, Bool.or_true, Bool.not_true, Bool.and_false, bB, cond_false, nI_add]
        · simp only [s92_0, s92_1, s92_2, s92_3, s92_5, s92_7, s92_8, s92_11, s92_12, s92_14, s92_15, s92_16, s92_17, s92_18, s92_21, s92_22, s92_25, s92_26, s92_28, s92_29, s92_33, s92_35, s92_38, s92_39, s92_41, s92_42, s92_43, s92_44, s92_45, s92_48, s92_49, s92_52, s92_54, s92_55, s92_56, s92_57, s92_58, s92_61, s92_63, s92_64, s92_65, s92_66, s92_69, s92_70, s92_72, s92_75, s92_80, s92_83, s92_86, s92_89, s92_92, s92_93, ↓reduceIte, Option.bind_some, Option.toList, List.cons_append, List.nil_append, bB_0, bB_z, z01_0, z01_1, n01, n00, pm_ro_some, reduceCtorEq, if_true, if_false, and_self, and_true, true_and, not_true, not_false_eq_true, Nat.reduceLeDiff, Nat.reduceAdd, kdX, hx, lpF ho (by omega), h1, tv, to, ix hv, ix (show o < 4 by omega), ix hd, fa v hv, fa o (by omega), h2, hb, decide_false, Bool.and_false, Bool.or_false, nI_add]
      · have hb : bt s o = false := decide_eq_false h1
        simp only [s92_0, s92_1, s92_2, s92_3, s92_5, s92_7, s92_8, s92_11, s92_12, s92_14, s92_15, s92_16, s92_17, s92_18, s92_21, s92_22, s92_25, s92_26, s92_28, s92_29, s92_33, s92_35, s92_38, s92_39, s92_41, s92_42, s92_43, s92_44, s92_45, s92_48, s92_49, s92_52, s92_54, s92_55, s92_56, s92_57, s92_58, s92_61, s92_63, s92_64, s92_65, s92_66, s92_69, s92_70, s92_72, s92_75, s92_80, s92_83, s92_86, s92_89, s92_92, s92_93, ↓reduceIte, Option.bind_some, Option.toList, List.cons_append, List.nil_append, bB_0, bB_z, z01_0, z01_1, n01, n00, pm_ro_some, reduceCtorEq, if_true, if_false, and_self, and_true, true_and, not_true, not_false_eq_true, Nat.reduceLeDiff, Nat.reduceAdd, kdX, hx, lpF ho (by omega), h1, hb, Bool.false_and, Bool.or_false, nI_add]
  have key : ∀ v, v ≤ 4 → ev 92 5 [.ref 0, .int (nI d), .int s, .int (nI (unl f s v)), .int (nI v), pm_u, pm_u] [] im rm = some (some (.int (nI (unl f s 4))), im, rm) := by
    refine dn ?_ ?_
    · simp only [s92_0, s92_1, s92_2, s92_3, s92_5, s92_7, s92_8, s92_11, s92_12, s92_14, s92_15, s92_16, s92_17, s92_18, s92_21, s92_22, s92_25, s92_26, s92_28, s92_29, s92_31, s92_33, s92_35, s92_38, s92_39, s92_41, s92_42, s92_43, s92_44, s92_45, s92_48, s92_49, s92_52, s92_54, s92_55, s92_56, s92_57, s92_58, s92_61, s92_63, s92_64, s92_65, s92_66, s92_69, s92_70, s92_72, s92_75, s92_78, s92_80, s92_83, s92_86, s92_89, s92_92, s92_93, ↓reduceIte, Option.bind_some, Option.toList, List.cons_append, List.nil_append, bB_0, bB_z, z01_0, z01_1, n01, n00, pm_ro_some, reduceCtorEq, if_true, if_false, and_self, and_true, true_and, not_true, not_false_eq_true, Nat.reduceLeDiff, Nat.reduceAdd, kdX, lpT]
    · intro v hv ih
      rw [← ih, s92_5]
      have i0 := inner v hv (bt s v) 0 (by omega)
      have e0 : erl f s (f v) 0 = false := rfl
      rw [e0, Bool.not_false, Bool.and_true] at i0
      have eu : unl f s (v + 1) = if (bt s v && !erl f s (f v) v) = true then unl f s v + 1 else unl f s v := rfl
      rw [eu]
      by_cases h1 : (s >>> (nI v &&& 31)) &&& nI 1 = nI 1
      · have hb : bt s v = true := decide_eq_true h1
        rw [hb] at i0 ⊢
        have i1 : bB true = nI 1 := rfl
        rw [i1] at i0
        by_cases h2 : (true && !erl f s (f v) v) = true <;> simp only [s92_0, s92_1, s92_2, s92_3, s92_7, s92_8, s92_11, s92_12, s92_14, s92_15, s92_16, s92_17, s92_18, s92_21, s92_22, s92_25, s92_26, s92_28, s92_29, s92_33, s92_35, s92_38, s92_39, s92_41, s92_42, s92_43, s92_44, s92_45, s92_48, s92_49, s92_52, s92_54, s92_55, s92_56, s92_57, s92_58, s92_61, s92_63, s92_64, s92_65, s92_66, s92_69, s92_70, s92_72, s92_75, s92_78, s92_80, s92_83, s92_86, s92_89, s92_92, s92_93, ↓reduceIte, Option.bind_some, Option.toList, List.cons_append, List.nil_append, bB_0, bB_z, z01_0, z01_1, n01, n00, pm_ro_some, reduceCtorEq, if_true, if_false, and_self, and_true, true_and, not_true, not_false_eq_true, Nat.reduceLeDiff, Nat.reduceAdd, kdX, lpF hv (by decide), h1, i0, h2, nI_add, Bool.false_eq_true]
      · have hb : bt s v = false := decide_eq_false h1
        rw [hb] at i0 ⊢
        have i1 : bB false = nI 0 := rfl
        rw [i1, Bool.false_and] at i0
        simp only [s92_0, s92_1, s92_2, s92_3, s92_7, s92_8, s92_11, s92_12, s92_14, s92_15, s92_16, s92_17, s92_18, s92_21, s92_22, s92_25, s92_26, s92_28, s92_29, s92_33, s92_35, s92_38, s92_39, s92_41, s92_42, s92_43, s92_44, s92_45, s92_48, s92_49, s92_52, s92_54, s92_55, s92_56, s92_57, s92_58, s92_61, s92_63, s92_64, s92_65, s92_66, s92_69, s92_70, s92_72, s92_75, s92_78, s92_80, s92_83, s92_86, s92_89, s92_92, s92_93, ↓reduceIte, Option.bind_some, Option.toList, List.cons_append, List.nil_append, bB_0, bB_z, z01_0, z01_1, n01, n00, pm_ro_some, reduceCtorEq, if_true, if_false, and_self, and_true, true_and, not_true, not_false_eq_true, Nat.reduceLeDiff, Nat.reduceAdd, kdX, lpF hv (by decide), h1, i0, i1, Bool.false_and, nI_add, Bool.false_eq_true]
  rw [← key 0 (by omega)]
  simp only [s92_0, s92_1, s92_2, s92_3]
  rfl
def hdb (f : Nat → Int32) (x : Int32) : Nat → Bool
  | 0 => false
  | k + 1 => hdb f x k || decide (f k = x)
theorem hdb_iff {f : Nat → Int32} {x : Int32} : ∀ n, hdb f x n = true ↔ ∃ k, k < n ∧ f k = x := by
  intro n
  induction n with
  | zero => simp [hdb]
  | succ n ih =>
    unfold hdb
    rw [Bool.or_eq_true, ih, decide_eq_true_eq]
    constructor
    · rintro (⟨o, h1, h2⟩ | h)
      · exact ⟨o, by omega, h2⟩
      · exact ⟨n, by omega, h⟩
    · rintro ⟨o, h1, h2⟩
      by_cases e : o = n
      · subst e; exact Or.inr h2
      · exact Or.inl ⟨o, by omega, h2⟩
theorem c149 (hI : INV σ rm pp ll) (hs : SS σ im) {d : Nat} (hd : d < 6) (s : Int32) : ∃ im', ev 149 0 [.ref 129, .int s, .int (nI d), pm_u, pm_u, pm_u, pm_u] [] im rm = some (some (.int (nI (unl (fun v => aA σ v d) s 4))), im', rm) ∧ SS σ im' := by
  have hm := hI.m
  generalize hf : (fun v => aA σ v d) = f
  have key : ∀ v, v ≤ 4 → ∀ m : IM, SS σ m → (∀ k, k < unl f s v → ∃ u, u < v ∧ bt s u = true ∧ m 164 k = f u) → (∀ u, u < v → bt s u = true → ∃ k, k < unl f s v ∧ m 164 k = f u) → ∃ im', ev 149 5 [.ref 129, .int s, .int (nI d), .int (nI (unl f s v)), .int (nI v), pm_u, pm_u] [] m rm = some (some (.int (nI (unl f s 4))), im', rm) ∧ SS σ im' := by
    refine dn ?_ ?_
    · intro m h1 _ _
      exact ⟨m, by simp only [s149_0, s149_1, s149_2, s149_3, s149_5, s149_7, s149_8, s149_11, s149_12, s149_14, s149_15, s149_16, s149_17, s149_18, s149_21, s149_22, s149_24, s149_25, s149_28, s149_29, s149_31, s149_32, s149_34, s149_36, s149_37, s149_40, s149_42, s149_45, s149_46, s149_49, s149_51, s149_52, s149_53, s149_56, s149_59, s149_60, s149_63, s149_64, s149_66, s149_69, s149_72, s149_74, s149_77, s149_78, s149_81, s149_82, s149_83, s149_86, s149_87, s149_90, s149_93, s149_96, s149_97, ↓reduceIte, Option.bind_some, Option.toList, List.cons_append, List.nil_append, bB_0, bB_z, z01_0, z01_1, n01, n00, pm_ro_some, reduceCtorEq, if_true, if_false, and_self, and_true, true_and, not_true, not_false_eq_true, Nat.reduceLeDiff, Nat.reduceAdd, kdM, lpT], h1⟩
    · intro v hv ih m h1 k1 k2
      have ul := unl_le f s v
      by_cases g : (s >>> (nI v &&& 31)) &&& nI 1 = nI 1
      rotate_left
      · have hb : bt s v = false := decide_eq_false g
        have eu : unl f s (v + 1) = unl f s v := by show (if _ then _ else _) = _; rw [hb, Bool.false_and, if_neg (by decide)]
        obtain ⟨im', e1, e2⟩ := ih m h1 (fun k hk => by
          rw [eu] at hk
          obtain ⟨u, a, b, c⟩ := k1 k hk
          exact ⟨u, by omega, b, c⟩) (fun u hu hb2 => by
          rw [eu]
          by_cases e : u = v
          · subst e; rw [hb] at hb2; cases hb2
          · exact k2 u (by omega) hb2)
        refine ⟨im', ?_, e2⟩
        rw [← e1, s149_5, eu]
        simp only [s149_0, s149_1, s149_2, s149_3, s149_7, s149_8, s149_11, s149_12, s149_14, s149_15, s149_16, s149_17, s149_18, s149_21, s149_22, s149_24, s149_25, s149_28, s149_29, s149_31, s149_32, s149_34, s149_36, s149_37, s149_40, s149_42, s149_45, s149_46, s149_49, s149_51, s149_52, s149_53, s149_56, s149_59, s149_60, s149_63, s149_64, s149_66, s149_69, s149_72, s149_74, s149_77, s149_78, s149_81, s149_82, s149_83, s149_86, s149_87, s149_90, s149_93, s149_96, s149_97, ↓reduceIte, Option.bind_some, Option.toList, List.cons_append, List.nil_append, bB_0, bB_z, z01_0, z01_1, n01, n00, pm_ro_some, reduceCtorEq, if_true, if_false, and_self, and_true, true_and, not_true, not_false_eq_true, Nat.reduceLeDiff, Nat.reduceAdd, kdM, hm, lpF hv (by decide), g, nI_add]
      · have hb : bt s v = true := decide_eq_true g
        obtain ⟨m1, A1, A2, A3, A4⟩ := c135 hI h1 (hI.p v hv) hv hd
        have q : m1 129 43 = f v := by rw [← hf]; exact A3.2.2.2.1
        have f4 : ∀ k, m1 164 k = m 164 k := fun k => A4 _ _ (by omega)
        have inner : ∀ k, k ≤ unl f s v → ev 149 34 [.ref 129, .int s, .int (nI d), .int (nI (unl f s v)), .int (nI v), .int (bB (hdb (m 164) (f v) k)), .int (nI k)] [] m1 rm = ev 149 72 [.ref 129, .int s, .int (nI d), .int (nI (unl f s v)), .int (nI v), .int (bB (hdb (m 164) (f v) (unl f s v))), pm_u] [] m1 rm := by
          refine dn ?_ ?_
          · simp only [s149_0, s149_1, s149_2, s149_3, s149_5, s149_7, s149_8, s149_11, s149_12, s149_14, s149_15, s149_16, s149_17, s149_18, s149_21, s149_22, s149_24, s149_25, s149_28, s149_29, s149_31, s149_32, s149_34, s149_36, s149_37, s149_40, s149_42, s149_45, s149_46, s149_49, s149_51, s149_52, s149_53, s149_56, s149_59, s149_60, s149_63, s149_64, s149_66, s149_69, s149_74, s149_77, s149_78, s149_81, s149_82, s149_83, s149_86, s149_87, s149_90, s149_93, s149_96, s149_97, ↓reduceIte, Option.bind_some, Option.toList, List.cons_append, List.nil_append, bB_0, bB_z, z01_0, z01_1, n01, n00, pm_ro_some, reduceCtorEq, if_true, if_false, and_self, and_true, true_and, not_true, not_false_eq_true, Nat.reduceLeDiff, Nat.reduceAdd, kdM, lpT]
          · intro k hk ih
            rw [← ih, s149_34]
            have eh : hdb (m 164) (f v) (k + 1) = (hdb (m 164) (f v) k || decide (m 164 k = f v)) := rfl
            rw [eh]
            by_cases h2 : hdb (m 164) (f v) k = true
            · simp only [s149_0, s149_1, s149_2, s149_3, s149_5, s149_7, s149_8, s149_11, s149_12, s149_14, s149_15, s149_16, s149_17, s149_18, s149_21, s149_22, s149_24, s149_25, s149_28, s149_29, s149_31, s149_32, s149_36, s149_37, s149_40, s149_42, s149_45, s149_46, s149_49, s149_51, s149_52, s149_53, s149_56, s149_59, s149_60, s149_63, s149_64, s149_66, s149_69, s149_74, s149_77, s149_78, s149_81, s149_82, s149_83, s149_86, s149_87, s149_90, s149_93, s149_96, s149_97, ↓reduceIte, Option.bind_some, Option.toList, List.cons_append, List.nil_append, bB_0, bB_z, z01_0, z01_1, n01, n00, pm_ro_some, reduceCtorEq, if_true, if_false, and_self, and_true, true_and, not_true, not_false_eq_true, Nat.reduceLeDiff, Nat.reduceAdd, kdM, hm, lpF hk (show unl f s v < 2 ^ 31 by omega), h2, Bool.true_or, bB, cond_true, nI_add]
            · by_cases h3 : m 164 k = f v
              · simp only [s149_0, s149_1, s149_2, s149_3, s149_5, s149_7, s149_8, s149_11, s149_12, s149_14, s149_15, s149_16, s149_17, s149_18, s149_21, s149_22, s149_24, s149_25, s149_28, s149_29, s149_31, s149_32, s149_36, s149_37, s149_40, s149_42, s149_45, s149_46, s149_49, s149_51, s149_52, s149_53, s149_56, s149_59, s149_60, s149_63, s149_64, s149_66, s149_69, s149_74, s149_77, s149_78, s149_81, s149_82, s149_83, s149_86, s149_87, s149_90, s149_93, s149_96, s149_97, ↓reduceIte, Option.bind_some, Option.toList, List.cons_append, List.nil_append, bB_0, bB_z, z01_0, z01_1, n01, n00, pm_ro_some, reduceCtorEq, if_true, if_false, and_self, and_true, true_and, not_true, not_false_eq_true, Nat.reduceLeDiff, Nat.reduceAdd, kdM, hm, lpF hk (show unl f s v < 2 ^ 31 by omega), bf h2, Bool.false_or, f4, ix (show k < 4 by omega), q, h3, decide_true, bB, cond_true, cond_false, nI_add]
              · simp only [s149_0, s149_1, s149_2, s149_3, s149_5, s149_7, s149_8, s149_11, s149_12, s149_14, s149_15, s149_16, s149_17, s149_18, s149_21, s149_22, s149_24, s149_25, s149_28, s149_29, s149_31, s149_32, s149_36, s149_37, s149_40, s149_42, s149_45, s149_46, s149_49, s149_51, s149_52, s149_53, s149_56, s149_59, s149_60, s149_63, s149_64, s149_66, s149_69, s149_74, s149_77, s149_78, s149_81, s149_82, s149_83, s149_86, s149_87, s149_90, s149_93, s149_96, s149_97, ↓reduceIte, Option.bind_some, Option.toList, List.cons_append, List.nil_append, bB_0, bB_z, z01_0, z01_1, n01, n00, pm_ro_some, reduceCtorEq, if_true, if_false, and_self, and_true, true_and, not_true, not_false_eq_true, Nat.reduceLeDiff, Nat.reduceAdd, kdM, hm, lpF hk (show unl f s v < 2 ^ 31 by omega), bf h2, Bool.false_or, f4, ix (show k < 4 by omega), q, h3, decide_false, bB, cond_false, nI_add]
        have i0 := inner 0 (by omega)
        have e0 : bB (hdb (m 164) (f v) 0) = nI 0 := rfl
        rw [e0] at i0
        have hh : hdb (m 164) (f v) (unl f s v) = erl f s (f v) v := by
          apply Bool.eq_iff_iff.mpr
          rw [hdb_iff, erl_iff]
          constructor
          · rintro ⟨k, a, b⟩
            obtain ⟨u, c1, c2, c3⟩ := k1 k a
            exact ⟨u, c1, c2, by rw [← c3, b]⟩
          · rintro ⟨u, a, b, c⟩
            obtain ⟨k, d1, d2⟩ := k2 u a b
            exact ⟨k, d1, by rw [d2, c]⟩
        rw [hh] at i0
        by_cases g2 : erl f s (f v) v = true
        · have eu : unl f s (v + 1) = unl f s v := by show (if _ then _ else _) = _; rw [g2, Bool.not_true, Bool.and_false, if_neg (by decide)]
          obtain ⟨im', e1, e2⟩ := ih m1 A2 (fun k hk => by
            rw [eu] at hk
            obtain ⟨u, a, b, c⟩ := k1 k hk
            exact ⟨u, by omega, b, by rw [f4]; exact c⟩) (fun u hu hb2 => by
            rw [eu]
            by_cases e : u = v
            · subst e
              obtain ⟨o, o1, o2, o3⟩ := (erl_iff _).mp g2
              obtain ⟨k, d1, d2⟩ := k2 o o1 o2
              exact ⟨k, d1, by rw [f4, d2, o3]⟩
            · obtain ⟨k, d1, d2⟩ := k2 u (by omega) hb2
              exact ⟨k, d1, by rw [f4, d2]⟩)
          refine ⟨im', ?_, e2⟩
          rw [← e1, s149_5, eu]
          simp only [s149_0, s149_1, s149_2, s149_3, s149_7, s149_8, s149_11, s149_12, s149_14, s149_15, s149_16, s149_17, s149_18, s149_21, s149_22, s149_24, s149_25, s149_28, s149_29, s149_31, s149_32, s149_36, s149_37, s149_40, s149_42, s149_45, s149_46, s149_49, s149_51, s149_52, s149_53, s149_56, s149_59, s149_60, s149_63, s149_64, s149_66, s149_69, s149_72, s149_74, s149_77, s149_78, s149_81, s149_82, s149_83, s149_86, s149_87, s149_90, s149_93, s149_96, s149_97, ↓reduceIte, Option.bind_some, Option.toList, List.cons_append, List.nil_append, bB_0, bB_z, z01_0, z01_1, n01, n00, pm_ro_some, reduceCtorEq, if_true, if_false, and_self, and_true, true_and, not_true, not_false_eq_true, Nat.reduceLeDiff, Nat.reduceAdd, kdM, hm, lpF hv (by decide), g, A1, i0, g2, nI_add]
        · have eu : unl f s (v + 1) = unl f s v + 1 := by show (if _ then _ else _) = _; rw [hb, bf g2, Bool.not_false, Bool.and_true, if_pos rfl]
          obtain ⟨im', e1, e2⟩ := ih (pm_w2 m1 164 (unl f s v) (f v)) (A2.w (by omega)) (fun k hk => by
            rw [eu] at hk
            by_cases e : k = unl f s v
            · rw [e, w2_s]; exact ⟨v, by omega, hb, rfl⟩
            · obtain ⟨u, a, b, c⟩ := k1 k (by omega)
              exact ⟨u, by omega, b, by rw [w2_i e, f4]; exact c⟩) (fun u hu hb2 => by
            rw [eu]
            by_cases e : u = v
            · subst e; exact ⟨unl f s u, by omega, by rw [w2_s]⟩
            · obtain ⟨k, d1, d2⟩ := k2 u (by omega) hb2
              exact ⟨k, by omega, by rw [w2_i (by omega), f4, d2]⟩)
          refine ⟨im', ?_, e2⟩
          rw [← e1, s149_5, eu]
          simp only [s149_0, s149_1, s149_2, s149_3, s149_7, s149_8, s149_11, s149_12, s149_14, s149_15, s149_16, s149_17, s149_18, s149_21, s149_22, s149_24, s149_25, s149_28, s149_29, s149_31, s149_32, s149_36, s149_37, s149_40, s149_42, s149_45, s149_46, s149_49, s149_51, s149_52, s149_53, s149_56, s149_59, s149_60, s149_63, s149_64, s149_66, s149_69, s149_72, s149_74, s149_77, s149_78, s149_81, s149_82, s149_83, s149_86, s149_87, s149_90, s149_93, s149_96, s149_97, ↓reduceIte, Option.bind_some, Option.toList, List.cons_append, List.nil_append, bB_0, bB_z, z01_0, z01_1, n01, n00, pm_ro_some, reduceCtorEq, if_true, if_false, and_self, and_true, true_and, not_true, not_false_eq_true, Nat.reduceLeDiff, Nat.reduceAdd, kdM, hm, lpF hv (by decide), g, A1, i0, g2, ix (show unl f s v < 4 by omega), q, nI_add]
  obtain ⟨im', e1, e2⟩ := key 0 (by omega) im hs (fun k hk => absurd hk (by unfold unl; omega)) (fun u hu => absurd hu (by omega))
  refine ⟨im', ?_, e2⟩
  rw [← e1]
  simp only [s149_0, s149_1, s149_2, s149_3]
  rfl
def mos (σ : IM) (s : Int32) : Nat → Nat
  | 0 => 0
  | d + 1 => if mos σ s d < unl (fun v => aA σ v d) s 4 then unl (fun v => aA σ v d) s 4 else mos σ s d
def bes (e : Int32) (σ : IM) (s : Int32) : Nat → Int32
  | 0 => e
  | d + 1 => if mos σ s d < unl (fun v => aA σ v d) s 4 then nI d else bes e σ s d
theorem mos_le (σ : IM) (s : Int32) : ∀ n, mos σ s n ≤ 4 := by
  intro n
  induction n with
  | zero => exact Nat.zero_le _
  | succ n ih => unfold mos; split <;> have := unl_le (fun v => aA σ v n) s 4 <;> omega
theorem unl_pos (f : Nat → Int32) (s : Int32) {v : Nat} (hb : bt s v = true) : ∀ n, v < n → 0 < unl f s n := by
  have st : ∀ n, unl f s n ≤ unl f s (n + 1) := fun n => by
    show unl f s n ≤ (if (bt s n && !erl f s (f n) n) = true then unl f s n + 1 else unl f s n)
    split
    · exact Nat.le_succ _
    · exact Nat.le_refl _
  have mono : ∀ a b, a ≤ b → unl f s a ≤ unl f s b := by
    intro a b h
    induction h with
    | refl => exact Nat.le_refl _
    | step _ ih => exact Nat.le_trans ih (st _)
  -- the first of the set
  induction v using Nat.strongRecOn with
  | _ v ih =>
    intro n hn
    by_cases e : erl f s (f v) v = true
    · obtain ⟨o, h1, h2, _⟩ := (erl_iff _).mp e
      exact ih o h1 h2 n (by omega)
    · have : unl f s (v + 1) = unl f s v + 1 := by show (if _ then _ else _) = _; rw [hb, bf e, Bool.not_false, Bool.and_true, if_pos rfl]
      have := mono (v + 1) n hn
      omega
theorem unl_zero (f : Nat → Int32) (s : Int32) : ∀ n, (∀ v, v < n → bt s v = false) → unl f s n = 0 := by
  intro n
  induction n with
  | zero => intro _; rfl
  | succ n ih =>
    intro h
    show (if _ then _ else _) = _
    rw [h n (by omega), Bool.false_and, if_neg (by decide)]
    exact ih (fun v hv => h v (by omega))
theorem lts_cs (σ : IM) : (lts σ 4 = nI 0 ∧ ∀ v, v < 4 → bt (lts σ 4) v = false) ∨ (¬ lts σ 4 = nI 0 ∧ ∃ v, v < 4 ∧ bt (lts σ 4) v = true) := by
  have key : ∀ b0 b1 b2 b3 : Bool, (fun s : Int32 => (s = nI 0 ∧ ∀ v, v < 4 → bt s v = false) ∨ (¬ s = nI 0 ∧ ∃ v, v < 4 ∧ bt s v = true)) (let s0 := nI 0; let s1 := if b0 = true then s0 ||| (nI 1 <<< (nI 0 &&& 31)) else s0; let s2 := if b1 = true then s1 ||| (nI 1 <<< (nI 1 &&& 31)) else s1; let s3 := if b2 = true then s2 ||| (nI 1 <<< (nI 2 &&& 31)) else s2; if b3 = true then s3 ||| (nI 1 <<< (nI 3 &&& 31)) else s3) := by
    unfold bt
    decide
  exact key (il σ 0 (mn σ)) (il σ 1 (mn σ)) (il σ 2 (mn σ)) (il σ 3 (mn σ))
theorem p59 (hI : INV im rm pp ll) (w : Int32) : PAIR 59 [.ref 0, .int w, pm_u, pm_u, pm_u, pm_u, pm_u] 150 [.ref 129, .int w, pm_u, pm_u, pm_u, pm_u, pm_u] im rm := by
  have hx := hI.x
  have hm := hI.m
  by_cases g0 : pm_in w 2 = true
  rotate_left
  · exact PAIR.q hI (-3) ⟨im, by simp only [s59_0, s59_1, s59_2, s59_5, s59_8, s59_10, s59_11, s59_12, s59_15, s59_16, s59_17, s59_20, s59_21, s59_22, s59_23, s59_25, s59_26, s59_30, s59_32, s59_35, s59_36, s59_38, s59_39, s59_42, s59_44, s59_46, s59_48, s59_51, s59_53, s59_54, s59_56, s59_58, s59_61, s59_64, s59_65, s59_68, s59_69, s59_72, s59_74, ↓reduceIte, Option.bind_some, Option.toList, List.cons_append, List.nil_append, bB_0, bB_z, z01_0, z01_1, n01, n00, pm_ro_some, reduceCtorEq, if_true, if_false, and_self, and_true, true_and, not_true, not_false_eq_true, Nat.reduceLeDiff, Nat.reduceAdd, kdX, b75_2, g0, hx], SS.rf⟩ (fun im1 s1 => ⟨im1, by simp only [s150_0, s150_1, s150_2, s150_3, s150_4, s150_7, s150_10, s150_12, s150_13, s150_14, s150_17, s150_18, s150_19, s150_20, s150_21, s150_23, s150_24, s150_28, s150_30, s150_33, s150_34, s150_35, s150_37, s150_40, s150_42, s150_44, s150_46, s150_49, s150_51, s150_54, s150_55, s150_56, s150_58, s150_60, s150_63, s150_65, s150_68, s150_70, s150_72, s150_75, s150_78, s150_79, s150_80, s150_83, s150_85, s150_88, s150_89, s150_92, s150_93, s150_96, s150_97, ↓reduceIte, Option.bind_some, Option.toList, List.cons_append, List.nil_append, bB_0, bB_z, z01_0, z01_1, n01, n00, pm_ro_some, reduceCtorEq, if_true, if_false, and_self, and_true, true_and, not_true, not_false_eq_true, Nat.reduceLeDiff, Nat.reduceAdd, kdM, c104, inLs, hm, g0], s1⟩)
  obtain ⟨k, hk, rfl⟩ := pm_in_ex g0 (by decide)
  generalize hs : lts im 4 = s
  have C := lts_cs im
  rw [hs] at C
  have eq : (if s = nI 0 then (-1 : Int32) else bes (nI 0) im s 6) = bes (-1) im s 6 := by
    rcases C with ⟨c1, c2⟩ | ⟨c1, v, hv, c2⟩
    · rw [if_pos c1]
      have z : ∀ d, bes (-1) im s d = -1 := by
        intro d
        induction d with
        | zero => rfl
        | succ d ih =>
          show (if mos im s d < unl (fun v => aA im v d) s 4 then nI d else bes (-1) im s d) = -1
          rw [unl_zero _ s 4 c2, if_neg (by omega), ih]
      rw [z]
    · rw [if_neg c1]
      have z : ∀ d, bes (nI 0) im s (d + 1) = bes (-1) im s (d + 1) := by
        intro d
        induction d with
        | zero =>
          show (if 0 < unl (fun v => aA im v 0) s 4 then nI 0 else nI 0) = (if 0 < unl (fun v => aA im v 0) s 4 then nI 0 else -1)
          have := unl_pos (fun v => aA im v 0) s c2 4 hv
          rw [if_pos this, if_pos this]
        | succ d ih =>
          show (if mos im s (d + 1) < unl (fun v => aA im v (d + 1)) s 4 then nI (d + 1) else bes (nI 0) im s (d + 1)) = (if mos im s (d + 1) < unl (fun v => aA im v (d + 1)) s 4 then nI (d + 1) else bes (-1) im s (d + 1))
          rw [ih]
      exact z 5
  have A : ∀ j, j ≤ 6 → ∀ m : IM, SS im m → (∀ v, v < 4 → TT im v m) → ev 59 28 [.ref 0, .int (nI k), .int s, .int (bes (-1) im s j), .int (nI (mos im s j)), .int (nI j), pm_u] [] m rm = some (some (.int (if k = 0 then bes (-1) im s 6 else nI (mos im s 6))), m, rm) := by
    intro j hj m h1 hT
    revert j
    refine dn ?_ ?_
    · rcases (show k = 0 ∨ k = 1 by omega) with rfl | rfl
      · simp only [s59_0, s59_1, s59_2, s59_5, s59_8, s59_10, s59_11, s59_12, s59_15, s59_16, s59_17, s59_20, s59_21, s59_22, s59_23, s59_25, s59_26, s59_28, s59_30, s59_32, s59_35, s59_36, s59_38, s59_39, s59_42, s59_44, s59_46, s59_48, s59_51, s59_53, s59_54, s59_56, s59_58, s59_61, s59_64, s59_65, s59_68, s59_69, s59_72, s59_74, ↓reduceIte, Option.bind_some, Option.toList, List.cons_append, List.nil_append, bB_0, bB_z, z01_0, z01_1, n01, n00, pm_ro_some, reduceCtorEq, if_true, if_false, and_self, and_true, true_and, not_true, not_false_eq_true, Nat.reduceLeDiff, Nat.reduceAdd, kdX, lpT]
      · simp only [s59_0, s59_1, s59_2, s59_5, s59_8, s59_10, s59_11, s59_12, s59_15, s59_16, s59_17, s59_20, s59_21, s59_22, s59_23, s59_25, s59_26, s59_28, s59_30, s59_32, s59_35, s59_36, s59_38, s59_39, s59_42, s59_44, s59_46, s59_48, s59_51, s59_53, s59_54, s59_56, s59_58, s59_61, s59_64, s59_65, s59_68, s59_69, s59_72, s59_74, ↓reduceIte, Option.bind_some, Option.toList, List.cons_append, List.nil_append, bB_0, bB_z, z01_0, z01_1, n01, n00, pm_ro_some, reduceCtorEq, if_true, if_false, and_self, and_true, true_and, not_true, not_false_eq_true, Nat.reduceLeDiff, Nat.reduceAdd, kdX, lpT, show ((1 : Nat) = 0) = False from by decide]
    · intro j hj ih
      rw [← ih, s59_28]
      have u := unl_le (fun v => aA im v j) s 4
      have mo := mos_le im s j
      have e1 : mos im s (j + 1) = if mos im s j < unl (fun v => aA im v j) s 4 then unl (fun v => aA im v j) s 4 else mos im s j := rfl
      have e2 : bes (-1) im s (j + 1) = if mos im s j < unl (fun v => aA im v j) s 4 then nI j else bes (-1) im s j := rfl
      rw [e1, e2]
      by_cases g : mos im s j < unl (fun v => aA im v j) s 4
      · simp only [s59_0, s59_1, s59_2, s59_5, s59_8, s59_10, s59_11, s59_12, s59_15, s59_16, s59_17, s59_20, s59_21, s59_22, s59_23, s59_25, s59_26, s59_30, s59_32, s59_35, s59_36, s59_38, s59_39, s59_42, s59_44, s59_46, s59_48, s59_51, s59_53, s59_54, s59_56, s59_58, s59_61, s59_64, s59_65, s59_68, s59_69, s59_72, s59_74, ↓reduceIte, Option.bind_some, Option.toList, List.cons_append, List.nil_append, bB_0, bB_z, z01_0, z01_1, n01, n00, pm_ro_some, reduceCtorEq, if_true, if_false, and_self, and_true, true_and, not_true, not_false_eq_true, Nat.reduceLeDiff, Nat.reduceAdd, kdX, hx, lpF hj (by decide), c92 hI h1 hj hT, lpF g (by omega), g, nI_add]
      · simp only [s59_0, s59_1, s59_2, s59_5, s59_8, s59_10, s59_11, s59_12, s59_15, s59_16, s59_17, s59_20, s59_21, s59_22, s59_23, s59_25, s59_26, s59_30, s59_32, s59_35, s59_36, s59_38, s59_39, s59_42, s59_44, s59_46, s59_48, s59_51, s59_53, s59_54, s59_56, s59_58, s59_61, s59_64, s59_65, s59_68, s59_69, s59_72, s59_74, ↓reduceIte, Option.bind_some, Option.toList, List.cons_append, List.nil_append, bB_0, bB_z, z01_0, z01_1, n01, n00, pm_ro_some, reduceCtorEq, if_true, if_false, and_self, and_true, true_and, not_true, not_false_eq_true, Nat.reduceLeDiff, Nat.reduceAdd, kdX, hx, lpF hj (by decide), c92 hI h1 hj hT, lpG (show unl (fun v => aA im v j) s 4 ≤ mos im s j by omega) (by omega), g, nI_add]
  have B : ∀ j, j ≤ 6 → ∀ m : IM, SS im m → ∃ m', ev 150 26 [.ref 129, .int (nI k), .int s, .int (bes (nI 0) im s j), .int (nI (mos im s j)), .int (nI j), pm_u] [] m rm = some (some (.int (if k = 0 then bes (-1) im s 6 else nI (mos im s 6))), m', rm) ∧ SS im m' := by
    refine dn ?_ ?_
    · intro m h1
      refine ⟨m, ?_, h1⟩
      rcases (show k = 0 ∨ k = 1 by omega) with rfl | rfl
      · rw [← eq]
        by_cases c : s = nI 0 <;> simp only [s150_0, s150_1, s150_2, s150_3, s150_4, s150_7, s150_10, s150_12, s150_13, s150_14, s150_17, s150_18, s150_19, s150_20, s150_21, s150_23, s150_24, s150_26, s150_28, s150_30, s150_33, s150_34, s150_35, s150_37, s150_40, s150_42, s150_44, s150_46, s150_49, s150_51, s150_54, s150_55, s150_56, s150_58, s150_60, s150_63, s150_65, s150_68, s150_70, s150_72, s150_75, s150_78, s150_79, s150_80, s150_83, s150_85, s150_88, s150_89, s150_92, s150_93, s150_96, s150_97, ↓reduceIte, Option.bind_some, Option.toList, List.cons_append, List.nil_append, bB_0, bB_z, z01_0, z01_1, n01, n00, pm_ro_some, reduceCtorEq, if_true, if_false, and_self, and_true, true_and, not_true, not_false_eq_true, Nat.reduceLeDiff, Nat.reduceAdd, kdM, lpT, c, show (nI 0 = nI 1) = False from by decide]
      · simp only [s150_0, s150_1, s150_2, s150_3, s150_4, s150_7, s150_10, s150_12, s150_13, s150_14, s150_17, s150_18, s150_19, s150_20, s150_21, s150_23, s150_24, s150_26, s150_28, s150_30, s150_33, s150_34, s150_35, s150_37, s150_40, s150_42, s150_44, s150_46, s150_49, s150_51, s150_54, s150_55, s150_56, s150_58, s150_60, s150_63, s150_65, s150_68, s150_70, s150_72, s150_75, s150_78, s150_79, s150_80, s150_83, s150_85, s150_88, s150_89, s150_92, s150_93, s150_96, s150_97, ↓reduceIte, Option.bind_some, Option.toList, List.cons_append, List.nil_append, bB_0, bB_z, z01_0, z01_1, n01, n00, pm_ro_some, reduceCtorEq, if_true, if_false, and_self, and_true, true_and, not_true, not_false_eq_true, Nat.reduceLeDiff, Nat.reduceAdd, kdM, lpT, show ((1 : Nat) = 0) = False from by decide]
    · intro j hj ih m h1
      obtain ⟨m1, C1, C2⟩ := c149 hI h1 hj s
      obtain ⟨m2, E1, E2⟩ := ih m1 C2
      refine ⟨m2, ?_, E2⟩
      rw [← E1, s150_26]
      have u := unl_le (fun v => aA im v j) s 4
      have mo := mos_le im s j
      have e1 : mos im s (j + 1) = if mos im s j < unl (fun v => aA im v j) s 4 then unl (fun v => aA im v j) s 4 else mos im s j := rfl
      have e2 : bes (nI 0) im s (j + 1) = if mos im s j < unl (fun v => aA im v j) s 4 then nI j else bes (nI 0) im s j := rfl
      rw [e1, e2]
      by_cases g : mos im s j < unl (fun v => aA im v j) s 4
      · simp only [s150_0, s150_1, s150_2, s150_3, s150_4, s150_7, s150_10, s150_12, s150_13, s150_14, s150_17, s150_18, s150_19, s150_20, s150_21, s150_23, s150_24, s150_28, s150_30, s150_33, s150_34, s150_35, s150_37, s150_40, s150_42, s150_44, s150_46, s150_49, s150_51, s150_54, s150_55, s150_56, s150_58, s150_60, s150_63, s150_65, s150_68, s150_70, s150_72, s150_75, s150_78, s150_79, s150_80, s150_83, s150_85, s150_88, s150_89, s150_92, s150_93, s150_96, s150_97, ↓reduceIte, Option.bind_some, Option.toList, List.cons_append, List.nil_append, bB_0, bB_z, z01_0, z01_1, n01, n00, pm_ro_some, reduceCtorEq, if_true, if_false, and_self, and_true, true_and, not_true, not_false_eq_true, Nat.reduceLeDiff, Nat.reduceAdd, kdM, hm, lpF hj (by decide), C1, lpF g (by omega), g, nI_add]
      · simp only [s150_0, s150_1, s150_2, s150_3, s150_4, s150_7, s150_10, s150_12, s150_13, s150_14, s150_17, s150_18, s150_19, s150_20, s150_21, s150_23, s150_24, s150_28, s150_30, s150_33, s150_34, s150_35, s150_37, s150_40, s150_42, s150_44, s150_46, s150_49, s150_51, s150_54, s150_55, s150_56, s150_58, s150_60, s150_63, s150_65, s150_68, s150_70, s150_72, s150_75, s150_78, s150_79, s150_80, s150_83, s150_85, s150_88, s150_89, s150_92, s150_93, s150_96, s150_97, ↓reduceIte, Option.bind_some, Option.toList, List.cons_append, List.nil_append, bB_0, bB_z, z01_0, z01_1, n01, n00, pm_ro_some, reduceCtorEq, if_true, if_false, and_self, and_true, true_and, not_true, not_false_eq_true, Nat.reduceLeDiff, Nat.reduceAdd, kdM, hm, lpF hj (by decide), C1, lpG (show unl (fun v => aA im v j) s 4 ≤ mos im s j by omega) (by omega), g, nI_add]
  obtain ⟨m1, L1, L2⟩ := c58 hI SS.rf
  obtain ⟨m2, T1, T2, T3, T4⟩ := c82 hI L2
  rw [hs] at L1
  refine PAIR.q hI (if k = 0 then bes (-1) im s 6 else nI (mos im s 6)) ⟨m2, ?_, T2⟩ (fun im1 s1 => ?_)
  · rw [← A 0 (by omega) m2 T2 T3]
    simp only [s59_0, s59_1, s59_2, s59_5, s59_8, s59_10, s59_11, s59_12, s59_15, s59_16, s59_17, s59_20, s59_21, s59_22, s59_23, s59_25, s59_26, s59_30, s59_32, s59_35, s59_36, s59_38, s59_39, s59_42, s59_44, s59_46, s59_48, s59_51, s59_53, s59_54, s59_56, s59_58, s59_61, s59_64, s59_65, s59_68, s59_69, s59_72, s59_74, ↓reduceIte, Option.bind_some, Option.toList, List.cons_append, List.nil_append, bB_0, bB_z, z01_0, z01_1, n01, n00, pm_ro_some, reduceCtorEq, if_true, if_false, and_self, and_true, true_and, not_true, not_false_eq_true, Nat.reduceLeDiff, Nat.reduceAdd, kdX, b75_2, g0, hx, L1, T1]
    rfl
  · obtain ⟨n1, N1, N2⟩ := c147 hI s1
    rw [hs] at N1
    obtain ⟨n2, M1, M2⟩ := B 0 (by omega) n1 N2
    refine ⟨n2, ?_, M2⟩
    rw [← M1]
    simp only [s150_0, s150_1, s150_2, s150_3, s150_4, s150_7, s150_10, s150_12, s150_13, s150_14, s150_17, s150_18, s150_19, s150_20, s150_21, s150_23, s150_24, s150_28, s150_30, s150_33, s150_34, s150_35, s150_37, s150_40, s150_42, s150_44, s150_46, s150_49, s150_51, s150_54, s150_55, s150_56, s150_58, s150_60, s150_63, s150_65, s150_68, s150_70, s150_72, s150_75, s150_78, s150_79, s150_80, s150_83, s150_85, s150_88, s150_89, s150_92, s150_93, s150_96, s150_97, ↓reduceIte, Option.bind_some, Option.toList, List.cons_append, List.nil_append, bB_0, bB_z, z01_0, z01_1, n01, n00, pm_ro_some, reduceCtorEq, if_true, if_false, and_self, and_true, true_and, not_true, not_false_eq_true, Nat.reduceLeDiff, Nat.reduceAdd, kdM, c104, inLs, hm, g0, N1]
    rfl
end LET
