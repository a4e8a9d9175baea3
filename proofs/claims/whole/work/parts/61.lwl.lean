-- needs: 60
/-! A law's line in a text: both sides. -/
def kdx (B : Nat → Int32) (T : Nat × Nat) : Int32 := if isW B (pm_stb 6) T = true then nI 0 else if isW B (pm_stb 7) T = true then nI 1 else if isW B (pm_stb 8) T = true then nI 2 else if isW B (pm_stb 9) T = true then nI 3 else -1
theorem kdx_or (B : Nat → Int32) (T : Nat × Nat) : kdx B T = -1 ∨ kdx B T = nI 0 ∨ kdx B T = nI 1 ∨ kdx B T = nI 2 ∨ kdx B T = nI 3 := by
  unfold kdx
  repeat' split
  all_goals simp
def lwp (B : Nat → Int32) (N : Nat) (T : Nat × Nat) : Bool × (Nat × Nat) := if kdx B T = -1 then (false, T) else if kdx B T = nI 0 ∨ kdx B T = nI 1 then (nok B 999 (nx B N T), cond (nok B 999 (nx B N T)) (nx B N (nx B N T)) (nx B N T)) else (!decide (rdx B (nx B N T) = -1), rdn B N (nx B N T))
def lwv (B : Nat → Int32) (N : Nat) (T : Nat × Nat) : Int32 := if kdx B T = nI 0 ∨ kdx B T = nI 1 then nuv B (nx B N T) else rdx B (nx B N T)
theorem lwp_o {B : Nat → Int32} {N : Nat} {T : Nat × Nat} (h : oT B N T) : oT B N (lwp B N T).2 := by
  unfold lwp
  split
  · exact h
  · split
    · exact oT_c (oT_n h) _
    · exact oT_r (oT_n h)
def cW (B : Nat → Int32) (N : Nat) (T : Nat × Nat) (x y : Int32) : Prop := (lwp B N T).1 = true ∧ x = kdx B T ∧ y = lwv B N T
section LWL
variable {im σ : IM} {rm : RM} {pp ll : Nat → Nat} {B : Nat → Int32} {N : Nat} {T : Nat × Nat}
theorem c31 (hx : rmX rm pp ll) (hN : N ≤ 160) (h : CC B N im T) (o : oT B N T) : ∃ im', ev 31 0 [.ref 4] [] im rm = some (some (.int (kdx B T)), im', rm) ∧ CC B N im' (if kdx B T = -1 then T else nx B N T) ∧ frC im im' := by
  obtain ⟨m0, A1, A2, A3⟩ := c38 (rm := rm) hx hN h o (show 6 < 18 by decide)
  have A1' : ev 38 0 [.ref 4, .ref 1000006] [] im rm = some (some (.int (bB (isW B (pm_stb 6) T))), m0, rm) := A1
  unfold kdx
  by_cases b0 : isW B (pm_stb 6) T = true
  · rw [b0] at A1' A2
    rw [if_pos b0]
    exact ⟨m0, by simp only [s31_0, s31_1, s31_3, s31_6, s31_9, s31_10, s31_11, s31_12, s31_14, s31_17, s31_20, s31_21, s31_22, s31_23, s31_25, s31_28, s31_31, s31_32, s31_33, s31_34, s31_36, s31_39, s31_42, s31_43, s31_46, s31_47, ↓reduceIte, Option.bind_some, Option.toList, List.cons_append, List.nil_append, bB_0, bB_z, z01_0, z01_1, n01, n00, pm_ro_some, reduceCtorEq, if_true, if_false, and_self, and_true, true_and, not_true, not_false_eq_true, Nat.reduceLeDiff, Nat.reduceAdd, kdX, A1', bB, cond_true], by rw [if_neg (by decide)]; exact A2, A3⟩
  rw [bf b0] at A1'
  rw [bf b0, cond_false] at A2
  rw [if_neg b0]
  obtain ⟨m1, B1, B2, B3⟩ := c38 (rm := rm) hx hN A2 o (show 7 < 18 by decide)
  have B1' : ev 38 0 [.ref 4, .ref 1000007] [] m0 rm = some (some (.int (bB (isW B (pm_stb 7) T))), m1, rm) := B1
  by_cases b1 : isW B (pm_stb 7) T = true
  · rw [b1] at B1' B2
    rw [if_pos b1]
    exact ⟨m1, by simp only [s31_0, s31_1, s31_3, s31_6, s31_9, s31_10, s31_11, s31_12, s31_14, s31_17, s31_20, s31_21, s31_22, s31_23, s31_25, s31_28, s31_31, s31_32, s31_33, s31_34, s31_36, s31_39, s31_42, s31_43, s31_46, s31_47, ↓reduceIte, Option.bind_some, Option.toList, List.cons_append, List.nil_append, bB_0, bB_z, z01_0, z01_1, n01, n00, pm_ro_some, reduceCtorEq, if_true, if_false, and_self, and_true, true_and, not_true, not_false_eq_true, Nat.reduceLeDiff, Nat.reduceAdd, kdX, A1', B1', bB, cond_true, cond_false], by rw [if_neg (by decide)]; exact B2, A3.tr B3⟩
  rw [bf b1] at B1'
  rw [bf b1, cond_false] at B2
  rw [if_neg b1]
  obtain ⟨m2, D1, D2, D3⟩ := c38 (rm := rm) hx hN B2 o (show 8 < 18 by decide)
  have D1' : ev 38 0 [.ref 4, .ref 1000008] [] m1 rm = some (some (.int (bB (isW B (pm_stb 8) T))), m2, rm) := D1
  by_cases b2 : isW B (pm_stb 8) T = true
  · rw [b2] at D1' D2
    rw [if_pos b2]
    exact ⟨m2, by simp only [s31_0, s31_1, s31_3, s31_6, s31_9, s31_10, s31_11, s31_12, s31_14, s31_17, s31_20, s31_21, s31_22, s31_23, s31_25, s31_28, s31_31, s31_32, s31_33, s31_34, s31_36, s31_39, s31_42, s31_43, s31_46, s31_47, ↓reduceIte, Option.bind_some, Option.toList, List.cons_append, List.nil_append, bB_0, bB_z, z01_0, z01_1, n01, n00, pm_ro_some, reduceCtorEq, if_true, if_false, and_self, and_true, true_and, not_true, not_false_eq_true, Nat.reduceLeDiff, Nat.reduceAdd, kdX, A1', B1', D1', bB, cond_true, cond_false], by rw [if_neg (by decide)]; exact D2, (A3.tr B3).tr D3⟩
  rw [bf b2] at D1'
  rw [bf b2, cond_false] at D2
  rw [if_neg b2]
  obtain ⟨m3, E1, E2, E3⟩ := c38 (rm := rm) hx hN D2 o (show 9 < 18 by decide)
  have E1' : ev 38 0 [.ref 4, .ref 1000009] [] m2 rm = some (some (.int (bB (isW B (pm_stb 9) T))), m3, rm) := E1
  by_cases b3 : isW B (pm_stb 9) T = true
  · rw [b3] at E1' E2
    rw [if_pos b3]
    exact ⟨m3, by simp only [s31_0, s31_1, s31_3, s31_6, s31_9, s31_10, s31_11, s31_12, s31_14, s31_17, s31_20, s31_21, s31_22, s31_23, s31_25, s31_28, s31_31, s31_32, s31_33, s31_34, s31_36, s31_39, s31_42, s31_43, s31_46, s31_47, ↓reduceIte, Option.bind_some, Option.toList, List.cons_append, List.nil_append, bB_0, bB_z, z01_0, z01_1, n01, n00, pm_ro_some, reduceCtorEq, if_true, if_false, and_self, and_true, true_and, not_true, not_false_eq_true, Nat.reduceLeDiff, Nat.reduceAdd, kdX, A1', B1', D1', E1', bB, cond_true, cond_false], by rw [if_neg (by decide)]; exact E2, ((A3.tr B3).tr D3).tr E3⟩
  · rw [bf b3] at E1' E2
    rw [if_neg b3]
    exact ⟨m3, by simp only [s31_0, s31_1, s31_3, s31_6, s31_9, s31_10, s31_11, s31_12, s31_14, s31_17, s31_20, s31_21, s31_22, s31_23, s31_25, s31_28, s31_31, s31_32, s31_33, s31_34, s31_36, s31_39, s31_42, s31_43, s31_46, s31_47, ↓reduceIte, Option.bind_some, Option.toList, List.cons_append, List.nil_append, bB_0, bB_z, z01_0, z01_1, n01, n00, pm_ro_some, reduceCtorEq, if_true, if_false, and_self, and_true, true_and, not_true, not_false_eq_true, Nat.reduceLeDiff, Nat.reduceAdd, kdX, A1', B1', D1', E1', bB, cond_false], by rw [if_pos rfl]; exact E2, ((A3.tr B3).tr D3).tr E3⟩
theorem c30 (hI : INV σ rm pp ll) (hN : N ≤ 160) (h : CC B N im T) (o : oT B N T) {i : Nat} (hi : i < 8) : ∃ im', ev 30 0 [.ref 4, .ref (ll 2), .int (nI i), pm_u] [] im rm = some (some (.int (bB (lwp B N T).1)), im', rm) ∧ CC B N im' (lwp B N T).2 ∧ ((lwp B N T).1 = true → cW B N T (im' (ll 2 + 1) i) (im' (ll 2 + 2) i)) ∧ (∀ b k, ¬ (b = 4 ∧ (k = 2 ∨ k = 3)) → ¬ ((b = ll 2 + 1 ∨ b = ll 2 + 2) ∧ k = i) → im' b k = im b k) := by
  have hx := hI.x
  have lm := hI.lm (show 2 < 3 by decide)
  have ha := hI.r.l 2 (by decide)
  have o1 := oT_n o
  have hq := ix hi
  obtain ⟨m1, A1, A2, A3⟩ := c31 (rm := rm) hx hN h o
  generalize hw1 : pm_w2 m1 (ll 2 + 1) i (kdx B T) = w1
  have W1 : w1 (ll 2 + 1) i = kdx B T := by rw [← hw1, w2_s]
  have F1 : ∀ b k, ¬ (b = 4 ∧ (k = 2 ∨ k = 3)) → ¬ ((b = ll 2 + 1 ∨ b = ll 2 + 2) ∧ k = i) → w1 b k = im b k := fun b k q1 q2 => by rw [← hw1, w2_n (by omega)]; exact A3 b k q1
  have C1 : CC B N w1 (if kdx B T = -1 then T else nx B N T) := by rw [← hw1]; exact A2.w (by omega) (by omega)
  have cw : ∀ x y, cW B N T x y = ((lwp B N T).1 = true ∧ x = kdx B T ∧ y = lwv B N T) := fun _ _ => rfl
  simp only [cw]
  unfold lwp lwv
  by_cases g : kdx B T = -1
  · rw [if_pos g] at C1 ⊢
    refine ⟨w1, ?_, C1, fun q => (by cases q), F1⟩
    rw [g] at A1 W1 hw1
    simp only [s30_0, s30_1, s30_4, s30_5, s30_6, s30_9, s30_10, s30_11, s30_14, s30_15, s30_16, s30_17, s30_20, s30_21, ↓reduceIte, Option.bind_some, Option.toList, List.cons_append, List.nil_append, bB_0, bB_z, z01_0, z01_1, n01, n00, pm_ro_some, reduceCtorEq, if_true, if_false, and_self, and_true, true_and, not_true, not_false_eq_true, Nat.reduceLeDiff, Nat.reduceAdd, kdX, lm, hq, A1, hw1, W1]
    rfl
  rw [if_neg g] at C1 ⊢
  by_cases gk : kdx B T = nI 0 ∨ kdx B T = nI 1
  · rw [if_pos gk]
    rw [if_pos gk]
    obtain ⟨m2, D1, D2, D3⟩ := c39 (rm := rm) hx hN C1 o1 (Nat.le_refl 999)
    have n2 : (kdx B T = nI 2) = False := by rcases gk with q | q <;> rw [q] <;> decide
    have n3 : (kdx B T = nI 3) = False := by rcases gk with q | q <;> rw [q] <;> decide
    generalize hw2 : pm_w2 m2 (ll 2 + 2) i (if nok B 999 (nx B N T) = true then nuv B (nx B N T) else -1) = w2
    have W2 : w2 (ll 2 + 2) i = if nok B 999 (nx B N T) = true then nuv B (nx B N T) else -1 := by rw [← hw2, w2_s]
    refine ⟨w2, ?_, by rw [← hw2]; exact D2.w (by omega) (by omega), fun q => ⟨q, ?_, by rw [W2, if_pos q]⟩, fun b k q1 q2 => by rw [← hw2, w2_n (by omega), D3 b k q1]; exact F1 b k q1 q2⟩
    · by_cases n : nok B 999 (nx B N T) = true
      · rw [if_pos n] at W2 hw2 D1
        have V := nuN_e o1 (show isD B (nx B N T) = true by unfold nok at n; rw [Bool.and_eq_true] at n; exact n.1)
        rw [V.1] at W2 hw2 D1
        rw [n]
        simp only [s30_0, s30_1, s30_4, s30_5, s30_6, s30_9, s30_10, s30_11, s30_14, s30_15, s30_16, s30_17, s30_20, s30_21, s30_22, s30_23, s30_26, s30_27, s30_28, s30_29, s30_32, s30_33, s30_36, s30_37, s30_38, s30_39, s30_42, s30_43, s30_46, s30_47, s30_48, s30_49, s30_52, s30_53, s30_54, s30_57, s30_58, s30_61, s30_64, s30_65, s30_68, s30_71, s30_72, s30_73, s30_76, s30_77, s30_78, s30_79, s30_82, s30_83, s30_86, s30_87, ↓reduceIte, Option.bind_some, Option.toList, List.cons_append, List.nil_append, bB_0, bB_z, z01_0, z01_1, n01, n00, pm_ro_some, reduceCtorEq, if_true, if_false, and_self, and_true, true_and, not_true, not_false_eq_true, Nat.reduceLeDiff, Nat.reduceAdd, kdX, lm, hq, A1, hw1, W1, g, n2, n3, D1, hw2, W2, nIm1 (show nuN B (nx B N T) < 2 ^ 31 by omega)]
        rfl
      · rw [if_neg n] at W2 hw2 D1
        rw [bf n]
        simp only [s30_0, s30_1, s30_4, s30_5, s30_6, s30_9, s30_10, s30_11, s30_14, s30_15, s30_16, s30_17, s30_20, s30_21, s30_22, s30_23, s30_26, s30_27, s30_28, s30_29, s30_32, s30_33, s30_36, s30_37, s30_38, s30_39, s30_42, s30_43, s30_46, s30_47, s30_48, s30_49, s30_52, s30_53, s30_54, s30_57, s30_58, s30_61, s30_64, s30_65, s30_68, s30_71, s30_72, s30_73, s30_76, s30_77, s30_78, s30_79, s30_82, s30_83, s30_86, s30_87, ↓reduceIte, Option.bind_some, Option.toList, List.cons_append, List.nil_append, bB_0, bB_z, z01_0, z01_1, n01, n00, pm_ro_some, reduceCtorEq, if_true, if_false, and_self, and_true, true_and, not_true, not_false_eq_true, Nat.reduceLeDiff, Nat.reduceAdd, kdX, lm, hq, A1, hw1, W1, g, n2, n3, D1, hw2, W2]
        rfl
    · rw [← hw2, w2_a (by omega), D3 _ _ (by omega)]; exact W1
  · rw [if_neg gk]
    rw [if_neg gk]
    obtain ⟨m2, D1, D2, D3⟩ := c32 (rm := rm) hx hN C1 o1
    have gg : kdx B T = nI 2 ∨ kdx B T = nI 3 := by
      rcases kdx_or B T with q | q | q | q | q
      · exact absurd q g
      · exact absurd (Or.inl q) gk
      · exact absurd (Or.inr q) gk
      · exact Or.inl q
      · exact Or.inr q
    generalize hw2 : pm_w2 m2 (ll 2 + 2) i (rdx B (nx B N T)) = w2
    have W2 : w2 (ll 2 + 2) i = rdx B (nx B N T) := by rw [← hw2, w2_s]
    refine ⟨w2, ?_, by rw [← hw2]; exact D2.w (by omega) (by omega), fun q => ⟨q, ?_, W2⟩, fun b k q1 q2 => by rw [← hw2, w2_n (by omega), D3 b k q1]; exact F1 b k q1 q2⟩
    · have seg : ev 30 0 [.ref 4, .ref (ll 2), .int (nI i), pm_u] [] im rm = ev 30 79 [pm_u, .ref (ll 2), .int (nI i), pm_u] [.int (-1), .int (rdx B (nx B N T))] w2 rm := by
        rcases gg with q | q
        · rw [q] at A1 W1 hw1
          simp only [s30_0, s30_1, s30_4, s30_5, s30_6, s30_9, s30_10, s30_11, s30_14, s30_15, s30_16, s30_17, s30_20, s30_21, s30_22, s30_23, s30_26, s30_27, s30_28, s30_29, s30_32, s30_33, s30_36, s30_37, s30_38, s30_39, s30_42, s30_43, s30_46, s30_47, s30_48, s30_49, s30_52, s30_53, s30_54, s30_57, s30_58, s30_61, s30_64, s30_65, s30_68, s30_71, s30_72, s30_73, s30_76, s30_77, s30_78, ↓reduceIte, Option.bind_some, Option.toList, List.cons_append, List.nil_append, bB_0, bB_z, z01_0, z01_1, n01, n00, pm_ro_some, reduceCtorEq, if_true, if_false, and_self, and_true, true_and, not_true, not_false_eq_true, Nat.reduceLeDiff, Nat.reduceAdd, kdX, lm, hq, A1, hw1, W1, show (nI 2 = (-1 : Int32)) = False from by decide, D1, hw2, W2]
        · rw [q] at A1 W1 hw1
          simp only [s30_0, s30_1, s30_4, s30_5, s30_6, s30_9, s30_10, s30_11, s30_14, s30_15, s30_16, s30_17, s30_20, s30_21, s30_22, s30_23, s30_26, s30_27, s30_28, s30_29, s30_32, s30_33, s30_36, s30_37, s30_38, s30_39, s30_42, s30_43, s30_46, s30_47, s30_48, s30_49, s30_52, s30_53, s30_54, s30_57, s30_58, s30_61, s30_64, s30_65, s30_68, s30_71, s30_72, s30_73, s30_76, s30_77, s30_78, ↓reduceIte, Option.bind_some, Option.toList, List.cons_append, List.nil_append, bB_0, bB_z, z01_0, z01_1, n01, n00, pm_ro_some, reduceCtorEq, if_true, if_false, and_self, and_true, true_and, not_true, not_false_eq_true, Nat.reduceLeDiff, Nat.reduceAdd, kdX, lm, hq, A1, hw1, W1, show (nI 3 = (-1 : Int32)) = False from by decide, show (nI 3 = nI 2) = False from by decide, D1, hw2, W2]
      rw [seg]
      by_cases r : rdx B (nx B N T) = -1
      · rw [decide_eq_true r]
        simp only [s30_79, s30_82, s30_83, s30_86, s30_87, ↓reduceIte, Option.bind_some, Option.toList, List.cons_append, List.nil_append, bB_0, bB_z, z01_0, z01_1, n01, n00, pm_ro_some, reduceCtorEq, if_true, if_false, and_self, and_true, true_and, not_true, not_false_eq_true, Nat.reduceLeDiff, Nat.reduceAdd, kdX, r]
        rfl
      · rw [decide_eq_false r]
        simp only [s30_79, s30_82, s30_83, s30_86, s30_87, ↓reduceIte, Option.bind_some, Option.toList, List.cons_append, List.nil_append, bB_0, bB_z, z01_0, z01_1, n01, n00, pm_ro_some, reduceCtorEq, if_true, if_false, and_self, and_true, true_and, not_true, not_false_eq_true, Nat.reduceLeDiff, Nat.reduceAdd, kdX, r]
        rfl
    · rw [← hw2, w2_a (by omega), D3 _ _ (by omega)]; exact W1
theorem c127 (hm : rmM rm) (hN : N ≤ 160) (h : MK B N im T) (o : oT B N T) {i : Nat} (hi : i < 8) (hc : im 147 2 = nI i) : ∃ im', ev 127 0 [.ref 129, pm_u, pm_u] [] im rm = some (some (.int (bB (lwp B N T).1)), im', rm) ∧ MK B N im' (lwp B N T).2 ∧ ((lwp B N T).1 = true → cW B N T (im' 148 (16 + i)) (im' 149 (16 + i)) ∧ im' 147 2 = nI (i + 1)) ∧ (∀ b k, ¬ (b = 129 ∧ 34 ≤ k ∧ k ≤ 37) → ¬ ((b = 148 ∨ b = 149) ∧ k = 16 + i) → ¬ (b = 147 ∧ k = 2) → im' b k = im b k) := by
  have o1 := oT_n o
  have hq := ix (show 16 + i < 24 by omega)
  have k0 := c121 (rm := rm) hm hN h o wGram
  have k1 := c121 (rm := rm) hm hN h o wRoad
  have k2 := c121 (rm := rm) hm hN h o wBan
  have k3 := c121 (rm := rm) hm hN h o wAsk
  have seg : ev 127 0 [.ref 129, pm_u, pm_u] [] im rm = ev 127 70 [.ref 129, .int (nI (16 + i)), .int (kdx B T)] [] im rm := by
    unfold kdx
    by_cases b0 : isW B (pm_stb 6) T = true
    · simp only [s127_0, s127_2, s127_3, s127_6, s127_7, s127_8, s127_9, s127_10, s127_11, s127_13, s127_14, s127_17, s127_20, s127_21, s127_24, s127_25, s127_27, s127_28, s127_31, s127_34, s127_35, s127_38, s127_39, s127_42, s127_43, s127_46, s127_49, s127_50, s127_53, s127_54, s127_57, s127_58, s127_61, s127_64, s127_65, s127_68, s127_69, ↓reduceIte, Option.bind_some, Option.toList, List.cons_append, List.nil_append, bB_0, bB_z, z01_0, z01_1, n01, n00, pm_ro_some, reduceCtorEq, if_true, if_false, and_self, and_true, true_and, not_true, not_false_eq_true, Nat.reduceLeDiff, Nat.reduceAdd, kdM, hm, ix (show 2 < 3 by decide), hc, nI_add, k0, b0]
    by_cases b1 : isW B (pm_stb 7) T = true
    · simp only [s127_0, s127_2, s127_3, s127_6, s127_7, s127_8, s127_9, s127_10, s127_11, s127_13, s127_14, s127_17, s127_20, s127_21, s127_24, s127_25, s127_27, s127_28, s127_31, s127_34, s127_35, s127_38, s127_39, s127_42, s127_43, s127_46, s127_49, s127_50, s127_53, s127_54, s127_57, s127_58, s127_61, s127_64, s127_65, s127_68, s127_69, ↓reduceIte, Option.bind_some, Option.toList, List.cons_append, List.nil_append, bB_0, bB_z, z01_0, z01_1, n01, n00, pm_ro_some, reduceCtorEq, if_true, if_false, and_self, and_true, true_and, not_true, not_false_eq_true, Nat.reduceLeDiff, Nat.reduceAdd, kdM, hm, ix (show 2 < 3 by decide), hc, nI_add, k0, b0, k1, b1]
    by_cases b2 : isW B (pm_stb 8) T = true
    · simp only [s127_0, s127_2, s127_3, s127_6, s127_7, s127_8, s127_9, s127_10, s127_11, s127_13, s127_14, s127_17, s127_20, s127_21, s127_24, s127_25, s127_27, s127_28, s127_31, s127_34, s127_35, s127_38, s127_39, s127_42, s127_43, s127_46, s127_49, s127_50, s127_53, s127_54, s127_57, s127_58, s127_61, s127_64, s127_65, s127_68, s127_69, ↓reduceIte, Option.bind_some, Option.toList, List.cons_append, List.nil_append, bB_0, bB_z, z01_0, z01_1, n01, n00, pm_ro_some, reduceCtorEq, if_true, if_false, and_self, and_true, true_and, not_true, not_false_eq_true, Nat.reduceLeDiff, Nat.reduceAdd, kdM, hm, ix (show 2 < 3 by decide), hc, nI_add, k0, b0, k1, b1, k2, b2]
    by_cases b3 : isW B (pm_stb 9) T = true
    · simp only [s127_0, s127_2, s127_3, s127_6, s127_7, s127_8, s127_9, s127_10, s127_11, s127_13, s127_14, s127_17, s127_20, s127_21, s127_24, s127_25, s127_27, s127_28, s127_31, s127_34, s127_35, s127_38, s127_39, s127_42, s127_43, s127_46, s127_49, s127_50, s127_53, s127_54, s127_57, s127_58, s127_61, s127_64, s127_65, s127_68, s127_69, ↓reduceIte, Option.bind_some, Option.toList, List.cons_append, List.nil_append, bB_0, bB_z, z01_0, z01_1, n01, n00, pm_ro_some, reduceCtorEq, if_true, if_false, and_self, and_true, true_and, not_true, not_false_eq_true, Nat.reduceLeDiff, Nat.reduceAdd, kdM, hm, ix (show 2 < 3 by decide), hc, nI_add, k0, b0, k1, b1, k2, b2, k3, b3]
    · simp only [s127_0, s127_2, s127_3, s127_6, s127_7, s127_8, s127_9, s127_10, s127_11, s127_13, s127_14, s127_17, s127_20, s127_21, s127_24, s127_25, s127_27, s127_28, s127_31, s127_34, s127_35, s127_38, s127_39, s127_42, s127_43, s127_46, s127_49, s127_50, s127_53, s127_54, s127_57, s127_58, s127_61, s127_64, s127_65, s127_68, s127_69, ↓reduceIte, Option.bind_some, Option.toList, List.cons_append, List.nil_append, bB_0, bB_z, z01_0, z01_1, n01, n00, pm_ro_some, reduceCtorEq, if_true, if_false, and_self, and_true, true_and, not_true, not_false_eq_true, Nat.reduceLeDiff, Nat.reduceAdd, kdM, hm, ix (show 2 < 3 by decide), hc, nI_add, k0, b0, k1, b1, k2, b2, k3, b3]
  rw [seg]
  have cw : ∀ x y, cW B N T x y = ((lwp B N T).1 = true ∧ x = kdx B T ∧ y = lwv B N T) := fun _ _ => rfl
  simp only [cw]
  unfold lwp lwv
  by_cases g : kdx B T = -1
  · rw [if_pos g]
    refine ⟨im, ?_, h, fun q => (by cases q), fun b k _ _ _ => rfl⟩
    simp only [s127_70, s127_71, s127_72, s127_75, s127_76, ↓reduceIte, Option.bind_some, Option.toList, List.cons_append, List.nil_append, bB_0, bB_z, z01_0, z01_1, n01, n00, pm_ro_some, reduceCtorEq, if_true, if_false, and_self, and_true, true_and, not_true, not_false_eq_true, Nat.reduceLeDiff, Nat.reduceAdd, kdM, g]
    rfl
  rw [if_neg g]
  obtain ⟨m1, G1, G2, G3, G4⟩ := gM (rm := rm) hm hN h o
  have fin : ∀ (m : IM) (x : Int32), m 129 37 = x → m 147 2 = nI i → ev 127 108 [.ref 129, .int (nI (16 + i)), .int (kdx B T)] [] m rm = some (some (.int (nI 1)), pm_w2 (pm_w2 (pm_w2 m 148 (16 + i) (kdx B T)) 149 (16 + i) x) 147 2 (nI (i + 1)), rm) := by
    intro m x h1 h2
    have z1 : ∀ y, pm_w2 m 148 (16 + i) y 129 37 = x := fun y => by rw [w2_a (by omega)]; exact h1
    have z2 : ∀ y z, pm_w2 (pm_w2 m 148 (16 + i) y) 149 (16 + i) z 147 2 = nI i := fun y z => by rw [w2_a (by omega), w2_a (by omega)]; exact h2
    simp only [s127_108, s127_109, s127_112, s127_113, s127_114, s127_115, s127_116, s127_119, s127_120, s127_121, s127_124, s127_125, s127_126, s127_129, s127_130, s127_131, s127_132, s127_133, s127_134, s127_135, s127_136, ↓reduceIte, Option.bind_some, Option.toList, List.cons_append, List.nil_append, bB_0, bB_z, z01_0, z01_1, n01, n00, pm_ro_some, reduceCtorEq, if_true, if_false, and_self, and_true, true_and, not_true, not_false_eq_true, Nat.reduceLeDiff, Nat.reduceAdd, kdM, hm, hq, z1, z2, ix (show 2 < 3 by decide), nI_add]
  have g147 : m1 147 2 = nI i := by rw [G4 _ _ (by omega)]; exact hc
  by_cases gk : kdx B T = nI 0 ∨ kdx B T = nI 1
  · rw [if_pos gk]
    rw [if_pos gk]
    obtain ⟨m2, D1, D2, D4, D3⟩ := c123 (rm := rm) hm hN G2 o1 (Nat.le_refl 999)
    have l2 : (nI 2 ≤ kdx B T) = False := by rcases gk with q | q <;> rw [q] <;> decide
    by_cases n : nok B 999 (nx B N T) = true
    · rw [n] at D1 D2 ⊢
      have s2 : m2 147 2 = nI i := by rw [D3 _ _ (by omega)]; exact g147
      have f := fin m2 _ (D4 n) s2
      refine ⟨pm_w2 (pm_w2 (pm_w2 m2 148 (16 + i) (kdx B T)) 149 (16 + i) (nuv B (nx B N T))) 147 2 (nI (i + 1)), ?_, ((D2.w (by omega) (by omega)).w (by omega) (by omega)).w (by omega) (by omega), fun q => ⟨⟨q, ?_, ?_⟩, w2_s _ _ _ _⟩, fun b k q1 q2 q3 => ?_⟩
      · simp only [s127_70, s127_71, s127_72, s127_75, s127_76, s127_77, s127_78, s127_81, s127_82, s127_83, s127_86, s127_87, s127_90, s127_93, s127_96, ↓reduceIte, Option.bind_some, Option.toList, List.cons_append, List.nil_append, bB_0, bB_z, z01_0, z01_1, n01, n00, pm_ro_some, reduceCtorEq, if_true, if_false, and_self, and_true, true_and, not_true, not_false_eq_true, Nat.reduceLeDiff, Nat.reduceAdd, kdM, g, G1, l2, D1, bB, cond_true, f]
      · rw [w2_a (by omega), w2_a (by omega), w2_s]
      · rw [w2_a (by omega), w2_s]
      · rw [w2_n (by omega), w2_n (by omega), w2_n (by omega), D3 b k q1, G4 b k q1]
    · rw [bf n] at D1 D2 ⊢
      refine ⟨m2, ?_, D2, fun q => (by cases q), fun b k q1 q2 q3 => by rw [D3 b k q1, G4 b k q1]⟩
      simp only [s127_70, s127_71, s127_72, s127_75, s127_76, s127_77, s127_78, s127_81, s127_82, s127_83, s127_86, s127_87, s127_90, s127_93, s127_96, s127_106, s127_107, ↓reduceIte, Option.bind_some, Option.toList, List.cons_append, List.nil_append, bB_0, bB_z, z01_0, z01_1, n01, n00, pm_ro_some, reduceCtorEq, if_true, if_false, and_self, and_true, true_and, not_true, not_false_eq_true, Nat.reduceLeDiff, Nat.reduceAdd, kdM, g, G1, l2, D1, bB, cond_false]
  · rw [if_neg gk]
    rw [if_neg gk]
    obtain ⟨m2, D1, D2, D4, D3⟩ := c124 (rm := rm) hm hN G2 o1
    have l2 : (nI 2 ≤ kdx B T) = True := by
      rcases kdx_or B T with q | q | q | q | q
      · exact absurd q g
      · exact absurd (Or.inl q) gk
      · exact absurd (Or.inr q) gk
      · rw [q]; decide
      · rw [q]; decide
    by_cases r : rdx B (nx B N T) = -1
    · rw [decide_eq_true r] at D1 ⊢
      refine ⟨m2, ?_, D2, fun q => (by cases q), fun b k q1 q2 q3 => by rw [D3 b k q1, G4 b k q1]⟩
      simp only [s127_70, s127_71, s127_72, s127_75, s127_76, s127_77, s127_78, s127_81, s127_82, s127_83, s127_99, s127_100, s127_103, s127_106, s127_107, ↓reduceIte, Option.bind_some, Option.toList, List.cons_append, List.nil_append, bB_0, bB_z, z01_0, z01_1, n01, n00, pm_ro_some, reduceCtorEq, if_true, if_false, and_self, and_true, true_and, not_true, not_false_eq_true, Nat.reduceLeDiff, Nat.reduceAdd, kdM, g, G1, l2, D1, Bool.not_true, bB, cond_false]
    · rw [decide_eq_false r] at D1 ⊢
      have s2 : m2 147 2 = nI i := by rw [D3 _ _ (by omega)]; exact g147
      have f := fin m2 _ (D4 r) s2
      refine ⟨pm_w2 (pm_w2 (pm_w2 m2 148 (16 + i) (kdx B T)) 149 (16 + i) (rdx B (nx B N T))) 147 2 (nI (i + 1)), ?_, ((D2.w (by omega) (by omega)).w (by omega) (by omega)).w (by omega) (by omega), fun q => ⟨⟨q, ?_, ?_⟩, w2_s _ _ _ _⟩, fun b k q1 q2 q3 => ?_⟩
      · simp only [s127_70, s127_71, s127_72, s127_75, s127_76, s127_77, s127_78, s127_81, s127_82, s127_83, s127_99, s127_100, s127_103, ↓reduceIte, Option.bind_some, Option.toList, List.cons_append, List.nil_append, bB_0, bB_z, z01_0, z01_1, n01, n00, pm_ro_some, reduceCtorEq, if_true, if_false, and_self, and_true, true_and, not_true, not_false_eq_true, Nat.reduceLeDiff, Nat.reduceAdd, kdM, g, G1, l2, D1, Bool.not_false, bB, cond_true, f]
      · rw [w2_a (by omega), w2_a (by omega), w2_s]
      · rw [w2_a (by omega), w2_s]
      · rw [w2_n (by omega), w2_n (by omega), w2_n (by omega), D3 b k q1, G4 b k q1]
end LWL
