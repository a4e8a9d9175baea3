-- needs: 47 41
/-! breaks: both sides. -/
def mor (σ : IM) (v : Nat) (so : Int32) (by_ li : Nat) : Nat → Bool
  | 0 => false
  | d + 1 => mor σ v so by_ li d || (decide (σ 130 d = so) && decide (li * tk σ d < by_ * aN σ v d))
theorem mor_t {σ : IM} {v by_ li : Nat} {so : Int32} {j : Nat} (h : mor σ v so by_ li j = true) : ∀ n, mor σ v so by_ li (j + n) = true := by
  intro n
  induction n with
  | zero => exact h
  | succ n ih => show (mor σ v so by_ li (j + n) || _) = true; rw [ih, Bool.true_or]
/-- among the first k tests of line i one asks for r -/
def askl (σ : IM) (v : Nat) (r : Int32) (i : Nat) : Nat → Bool
  | 0 => false
  | k + 1 => askl σ v r i k || decide (σ 144 (24 * v + (4 * i + k)) = r)
def asko (σ : IM) (v : Nat) (r : Int32) : Nat → Bool
  | 0 => false
  | i + 1 => asko σ v r i || askl σ v r i (tn σ v i)
theorem askl_t {σ : IM} {v i : Nat} {r : Int32} {j : Nat} (h : askl σ v r i j = true) : ∀ n, askl σ v r i (j + n) = true := by
  intro n
  induction n with
  | zero => exact h
  | succ n ih => show (askl σ v r i (j + n) || _) = true; rw [ih, Bool.true_or]
theorem asko_t {σ : IM} {v : Nat} {r : Int32} {j : Nat} (h : asko σ v r j = true) : ∀ n, asko σ v r (j + n) = true := by
  intro n
  induction n with
  | zero => exact h
  | succ n ih => show (asko σ v r (j + n) || _) = true; rw [ih, Bool.true_or]
def lgm (σ : IM) (l : Nat) : Nat → Int32
  | 0 => -1
  | i + 1 => if σ 148 (8 * l + i) = nI 0 ∧ (lgm σ l i = -1 ∨ σ 149 (8 * l + i) < lgm σ l i) then σ 149 (8 * l + i) else lgm σ l i
def wtc (σ : IM) (l v r : Int32) (k : Nat) : Bool := decide (σ 156 k = l) && decide (σ 157 k = v) && decide (σ 158 k = r) && !decide (σ 159 k = -1)
def wt (σ : IM) (l v r : Int32) : Nat → Bool
  | 0 => false
  | k + 1 => wt σ l v r k || wtc σ l v r k
def brc (σ : IM) (v l i : Nat) : Bool :=
  if σ 148 (8 * l + i) = nI 0 then mor σ v (nI 0) 100 (σ 149 (8 * l + i)).toNatClampNeg 6
  else if σ 148 (8 * l + i) = nI 1 then !decide (lgm σ l (wn σ l) = -1) && mor σ v (nI 1) 10000 ((lgm σ l (wn σ l)).toNatClampNeg * (σ 149 (8 * l + i)).toNatClampNeg) 6
  else asko σ v (σ 149 (8 * l + i)) (pn σ v) && (decide (σ 148 (8 * l + i) = nI 2) || !wt σ (nI l) (nI v) (σ 149 (8 * l + i)) (qn σ))
def brs (σ : IM) (v l : Nat) : Nat → Int32
  | 0 => nI 0
  | i + 1 => if brc σ v l i = true then brs σ v l i ||| (nI 1 <<< (nI i &&& 31)) else brs σ v l i
section BRK
variable {im σ : IM} {rm : RM} {pp ll : Nat → Nat}
theorem kd_ll (h : PR pp ll) {l : Nat} (hl : l < 3) : kd (ll l) = 11 ∧ (kd (ll l + 1) = 0 ∧ ln (ll l + 1) = 8) ∧ (kd (ll l + 2) = 0 ∧ ln (ll l + 2) = 8) := by
  rcases h.l l hl with e | e | e <;> rw [e] <;> exact ⟨kd_at (by decide), ⟨kd_at (by decide), ln_at (by decide)⟩, kd_at (by decide), ln_at (by decide)⟩
theorem INV.lm {l : Nat} (h : INV σ rm pp ll) (hl : l < 3) : (rm (ll l) 1 = some (ll l + 1) ∧ rm (ll l) 2 = some (ll l + 2)) ∧ kd (ll l) = 11 ∧ (kd (ll l + 1) = 0 ∧ ln (ll l + 1) = 8) ∧ (kd (ll l + 2) = 0 ∧ ln (ll l + 2) = 8) := ⟨h.x.2.2.2.2.2.2.2.2.2.2 l hl, kd_ll h.r hl⟩
theorem SS.l {l : Nat} (hs : SS σ im) (h : PR pp ll) (hl : l < 3) (j : Nat) (hj : j ≤ 2) (i : Nat) : im (ll l + j) i = σ (ll l + j) i := by
  have := h.l l hl
  exact hs.1 _ _ (by omega) (by omega)
theorem SS.l0 {l : Nat} (hs : SS σ im) (h : PR pp ll) (hl : l < 3) (i : Nat) : im (ll l) i = σ (ll l) i := hs.l h hl 0 (by omega) i
theorem c94 (hI : INV σ rm pp ll) (hs : SS σ im) {v by_ li : Nat} (hv : v < 4) (hT : TT σ v im) (hb : by_ ≤ 10000) (hl : li ≤ 998001) (so : Int32) : ev 94 0 [.ref 0, .int (nI v), .int so, .int (nI by_), .int (nI li), pm_u, pm_u] [] im rm = some (some (.int (bB (mor σ v so by_ li 6))), im, rm) := by
  have hx := hI.x
  have to := hI.to hv
  have key : ∀ j, j ≤ 6 → mor σ v so by_ li j = false → ev 94 3 [.ref 0, .int (nI v), .int so, .int (nI by_), .int (nI li), .int (nI j), pm_u] [] im rm = some (some (.int (bB (mor σ v so by_ li 6))), im, rm) := by
    refine dn ?_ ?_
    · intro h
      rw [h]
      simp only [s94_0, s94_1, s94_3, s94_5, s94_7, s94_10, s94_11, s94_14, s94_16, s94_17, s94_19, s94_21, s94_24, s94_25, s94_28, s94_29, s94_30, s94_33, s94_34, s94_35, s94_37, s94_38, s94_39, s94_41, s94_43, s94_46, s94_47, s94_50, s94_51, s94_52, s94_55, s94_58, s94_59, ↓reduceIte, Option.bind_some, Option.toList, List.cons_append, List.nil_append, bB_0, bB_z, z01_0, z01_1, n01, n00, pm_ro_some, reduceCtorEq, if_true, if_false, and_self, and_true, true_and, not_true, not_false_eq_true, Nat.reduceLeDiff, Nat.reduceAdd, kdX, lpT]
      rfl
    · intro j hj ih h
      have D := hI.d j hj
      have dm := hI.dm hj
      have A := aN_e hI hv hj
      have n40 := D.n40
      have b1 : by_ * aN σ v j ≤ 10000 * 7920 := Nat.mul_le_mul hb A.2.1
      have b2 : li * tk σ j ≤ 998001 * 40 := Nat.mul_le_mul hl n40
      have T := (hT j hj).1
      rw [A.1] at T
      have e1 : mor σ v so by_ li (j + 1) = (decide (σ 130 j = so) && decide (li * tk σ j < by_ * aN σ v j)) := by
        show (mor σ v so by_ li j || _) = _
        rw [h, Bool.false_or]
      rw [s94_3]
      by_cases g1 : σ 130 j = so
      · by_cases g2 : li * tk σ j < by_ * aN σ v j
        · have e2 : mor σ v so by_ li 6 = true := by
            have := mor_t (e1.trans (by rw [decide_eq_true g1, decide_eq_true g2]; rfl)) (6 - (j + 1))
            rw [show j + 1 + (6 - (j + 1)) = 6 by omega] at this
            exact this
          rw [e2]
          simp only [s94_0, s94_1, s94_5, s94_7, s94_10, s94_11, s94_14, s94_16, s94_17, s94_19, s94_21, s94_24, s94_25, s94_28, s94_29, s94_30, s94_33, s94_34, s94_35, s94_37, s94_38, s94_39, s94_41, s94_43, s94_46, s94_47, s94_50, s94_51, s94_52, s94_55, s94_58, s94_59, ↓reduceIte, Option.bind_some, Option.toList, List.cons_append, List.nil_append, bB_0, bB_z, z01_0, z01_1, n01, n00, pm_ro_some, reduceCtorEq, if_true, if_false, and_self, and_true, true_and, not_true, not_false_eq_true, Nat.reduceLeDiff, Nat.reduceAdd, kdX, hx, dm, to, ix hv, ix hj, lpF hj (by decide), hs.d0 hj, D.so, D.le, g1, T, pk_mul, lpF g2 (by omega)]
          rfl
        · rw [← ih (e1.trans (by rw [decide_eq_false g2, Bool.and_false]))]
          simp only [s94_0, s94_1, s94_5, s94_7, s94_10, s94_11, s94_14, s94_16, s94_17, s94_19, s94_21, s94_24, s94_25, s94_28, s94_29, s94_30, s94_33, s94_34, s94_35, s94_37, s94_38, s94_39, s94_41, s94_43, s94_46, s94_47, s94_50, s94_51, s94_52, s94_55, s94_58, s94_59, ↓reduceIte, Option.bind_some, Option.toList, List.cons_append, List.nil_append, bB_0, bB_z, z01_0, z01_1, n01, n00, pm_ro_some, reduceCtorEq, if_true, if_false, and_self, and_true, true_and, not_true, not_false_eq_true, Nat.reduceLeDiff, Nat.reduceAdd, kdX, hx, dm, to, ix hv, ix hj, lpF hj (by decide), hs.d0 hj, D.so, D.le, g1, T, pk_mul, lpG (show by_ * aN σ v j ≤ li * tk σ j by omega) (by omega), nI_add]
      · rw [← ih (e1.trans (by rw [decide_eq_false g1, Bool.false_and]))]
        simp only [s94_0, s94_1, s94_5, s94_7, s94_10, s94_11, s94_14, s94_16, s94_17, s94_19, s94_21, s94_24, s94_25, s94_28, s94_29, s94_30, s94_33, s94_34, s94_35, s94_37, s94_38, s94_39, s94_41, s94_43, s94_46, s94_47, s94_50, s94_51, s94_52, s94_55, s94_58, s94_59, ↓reduceIte, Option.bind_some, Option.toList, List.cons_append, List.nil_append, bB_0, bB_z, z01_0, z01_1, n01, n00, pm_ro_some, reduceCtorEq, if_true, if_false, and_self, and_true, true_and, not_true, not_false_eq_true, Nat.reduceLeDiff, Nat.reduceAdd, kdX, hx, dm, to, ix hv, ix hj, lpF hj (by decide), hs.d0 hj, D.so, g1, nI_add]
  rw [← key 0 (by omega) rfl]
  simp only [s94_0, s94_1]
theorem c154 (hI : INV σ rm pp ll) (hs : SS σ im) {v by_ li : Nat} (hv : v < 4) (hb : by_ ≤ 10000) (hl : li ≤ 998001) (so : Int32) : ∃ im', ev 154 0 [.ref 129, .int (nI v), .int so, .int (nI by_), .int (nI li), pm_u, pm_u] [] im rm = some (some (.int (bB (mor σ v so by_ li 6))), im', rm) ∧ SS σ im' ∧ (∀ b i, ¬ (b = 129 ∧ 41 ≤ i ∧ i ≤ 44) ∧ ¬ (160 ≤ b ∧ b ≤ 162) → im' b i = im b i) := by
  have hm := hI.m
  have P := hI.p v hv
  have key : ∀ j, j ≤ 6 → ∀ m : IM, SS σ m → (∀ b i, ¬ (b = 129 ∧ 41 ≤ i ∧ i ≤ 44) ∧ ¬ (160 ≤ b ∧ b ≤ 162) → m b i = im b i) → ∃ im', ev 154 6 [.ref 129, .int (nI v), .int so, .int (nI by_), .int (nI li), .int (bB (mor σ v so by_ li j)), .int (nI j)] [] m rm = some (some (.int (bB (mor σ v so by_ li 6))), im', rm) ∧ SS σ im' ∧ (∀ b i, ¬ (b = 129 ∧ 41 ≤ i ∧ i ≤ 44) ∧ ¬ (160 ≤ b ∧ b ≤ 162) → im' b i = im b i) := by
    refine dn ?_ ?_
    · intro m h1 h2
      exact ⟨m, by simp only [s154_0, s154_1, s154_3, s154_4, s154_6, s154_8, s154_10, s154_13, s154_14, s154_17, s154_19, s154_20, s154_21, s154_24, s154_25, s154_28, s154_30, s154_31, s154_34, s154_35, s154_36, s154_38, s154_41, s154_43, s154_46, s154_47, s154_48, s154_49, s154_52, s154_53, s154_54, s154_56, s154_57, s154_58, s154_61, s154_63, s154_64, s154_65, s154_66, s154_67, s154_70, s154_71, s154_74, s154_75, s154_77, s154_80, s154_83, s154_85, ↓reduceIte, Option.bind_some, Option.toList, List.cons_append, List.nil_append, bB_0, bB_z, z01_0, z01_1, n01, n00, pm_ro_some, reduceCtorEq, if_true, if_false, and_self, and_true, true_and, not_true, not_false_eq_true, Nat.reduceLeDiff, Nat.reduceAdd, kdM, lpT], h1, h2⟩
    · intro j hj ih m h1 h2
      have D := hI.d j hj
      have A := aN_e hI hv hj
      have n40 := D.n40
      have b1 : by_ * aN σ v j ≤ 10000 * 7920 := Nat.mul_le_mul hb A.2.1
      have b2 : li * tk σ j ≤ 998001 * 40 := Nat.mul_le_mul hl n40
      have e1 : mor σ v so by_ li (j + 1) = (mor σ v so by_ li j || (decide (σ 130 j = so) && decide (li * tk σ j < by_ * aN σ v j))) := rfl
      by_cases g1 : σ 130 j = so
      rotate_left
      · obtain ⟨im', E1, E2⟩ := ih m h1 h2
        refine ⟨im', ?_, E2⟩
        rw [← E1, s154_6, e1, decide_eq_false g1, Bool.false_and, Bool.or_false]
        simp only [s154_0, s154_1, s154_3, s154_4, s154_8, s154_10, s154_13, s154_14, s154_17, s154_19, s154_20, s154_21, s154_24, s154_25, s154_28, s154_30, s154_31, s154_34, s154_35, s154_36, s154_38, s154_41, s154_43, s154_46, s154_47, s154_48, s154_49, s154_52, s154_53, s154_54, s154_56, s154_57, s154_58, s154_61, s154_63, s154_64, s154_65, s154_66, s154_67, s154_70, s154_71, s154_74, s154_75, s154_77, s154_80, s154_83, s154_85, ↓reduceIte, Option.bind_some, Option.toList, List.cons_append, List.nil_append, bB_0, bB_z, z01_0, z01_1, n01, n00, pm_ro_some, reduceCtorEq, if_true, if_false, and_self, and_true, true_and, not_true, not_false_eq_true, Nat.reduceLeDiff, Nat.reduceAdd, kdM, hm, ix hj, lpF hj (by decide), h1.m, g1, nI_add]
      by_cases g0 : tk σ j = 0
      · obtain ⟨im', E1, E2⟩ := ih m h1 h2
        refine ⟨im', ?_, E2⟩
        have mn := D.mn
        rw [g0] at mn
        rw [← E1, s154_6, e1, decide_eq_false (show ¬ li * tk σ j < by_ * aN σ v j by rw [A.2.2 g0, Nat.mul_zero]; omega), Bool.and_false, Bool.or_false]
        simp only [s154_0, s154_1, s154_3, s154_4, s154_8, s154_10, s154_13, s154_14, s154_17, s154_19, s154_20, s154_21, s154_24, s154_25, s154_28, s154_30, s154_31, s154_34, s154_35, s154_36, s154_38, s154_41, s154_43, s154_46, s154_47, s154_48, s154_49, s154_52, s154_53, s154_54, s154_56, s154_57, s154_58, s154_61, s154_63, s154_64, s154_65, s154_66, s154_67, s154_70, s154_71, s154_74, s154_75, s154_77, s154_80, s154_83, s154_85, ↓reduceIte, Option.bind_some, Option.toList, List.cons_append, List.nil_append, bB_0, bB_z, z01_0, z01_1, n01, n00, pm_ro_some, reduceCtorEq, if_true, if_false, and_self, and_true, true_and, not_true, not_false_eq_true, Nat.reduceLeDiff, Nat.reduceAdd, kdM, hm, ix hj, lpF hj (by decide), h1.m, g1, mn, lpT, nI_add]
      obtain ⟨m1, A1, A2, A3, A4⟩ := c135 hI h1 P hv hj
      obtain ⟨im', E1, E2⟩ := ih m1 A2 (fun b i hb => by rw [A4 b i hb]; exact h2 b i hb)
      refine ⟨im', ?_, E2⟩
      rw [← E1, s154_6, e1, decide_eq_true g1, Bool.true_and]
      have q : m1 129 43 = nI (aN σ v j) := (show m1 129 43 = aA σ v j from A3.2.2.2.1).trans A.1
      by_cases g2 : mor σ v so by_ li j = true
      · simp only [s154_0, s154_1, s154_3, s154_4, s154_8, s154_10, s154_13, s154_14, s154_17, s154_19, s154_20, s154_21, s154_24, s154_25, s154_28, s154_30, s154_31, s154_34, s154_35, s154_36, s154_38, s154_41, s154_43, s154_46, s154_47, s154_48, s154_49, s154_52, s154_53, s154_54, s154_56, s154_57, s154_58, s154_61, s154_63, s154_64, s154_65, s154_66, s154_67, s154_70, s154_71, s154_74, s154_75, s154_77, s154_80, s154_83, s154_85, ↓reduceIte, Option.bind_some, Option.toList, List.cons_append, List.nil_append, bB_0, bB_z, z01_0, z01_1, n01, n00, pm_ro_some, reduceCtorEq, if_true, if_false, and_self, and_true, true_and, not_true, not_false_eq_true, Nat.reduceLeDiff, Nat.reduceAdd, kdM, hm, ix hj, lpF hj (by decide), h1.m, g1, D.mn, lpF (show 0 < tk σ j by omega) (by omega), A1, g2, Bool.true_or, bB, cond_true, nI_add]
      · have l1 : (nI by_).toInt64 = lN by_ := nI_l (by omega)
        have l2 : (nI (aN σ v j)).toInt64 = lN (aN σ v j) := nI_l (by omega)
        have l3 : (nI li).toInt64 = lN li := nI_l (by omega)
        have l4 : (nI (tk σ j)).toInt64 = lN (tk σ j) := nI_l (by omega)
        by_cases g3 : li * tk σ j < by_ * aN σ v j
        · simp only [s154_0, s154_1, s154_3, s154_4, s154_8, s154_10, s154_13, s154_14, s154_17, s154_19, s154_20, s154_21, s154_24, s154_25, s154_28, s154_30, s154_31, s154_34, s154_35, s154_36, s154_38, s154_41, s154_43, s154_46, s154_47, s154_48, s154_49, s154_52, s154_53, s154_54, s154_56, s154_57, s154_58, s154_61, s154_63, s154_64, s154_65, s154_66, s154_67, s154_70, s154_71, s154_74, s154_75, s154_77, s154_80, s154_83, s154_85, ↓reduceIte, Option.bind_some, Option.toList, List.cons_append, List.nil_append, bB_0, bB_z, z01_0, z01_1, n01, n00, pm_ro_some, reduceCtorEq, if_true, if_false, and_self, and_true, true_and, not_true, not_false_eq_true, Nat.reduceLeDiff, Nat.reduceAdd, kdM, hm, ix hj, lpF hj (by decide), h1.m, A2.m, g1, D.mn, lpF (show 0 < tk σ j by omega) (show tk σ j < 2 ^ 31 by omega), A1, bf g2, q, l1, l2, l3, l4, lN_mul, lgle, lNle (show by_ * aN σ v j < 2 ^ 31 by omega) (show li * tk σ j < 2 ^ 31 by omega), show (by_ * aN σ v j ≤ li * tk σ j) = False from eq_false (by omega), g3, decide_true, Bool.or_true, bB, cond_true, cond_false, nI_add]
        · simp only [s154_0, s154_1, s154_3, s154_4, s154_8, s154_10, s154_13, s154_14, s154_17, s154_19, s154_20, s154_21, s154_24, s154_25, s154_28, s154_30, s154_31, s154_34, s154_35, s154_36, s154_38, s154_41, s154_43, s154_46, s154_47, s154_48, s154_49, s154_52, s154_53, s154_54, s154_56, s154_57, s154_58, s154_61, s154_63, s154_64, s154_65, s154_66, s154_67, s154_70, s154_71, s154_74, s154_75, s154_77, s154_80, s154_83, s154_85, ↓reduceIte, Option.bind_some, Option.toList, List.cons_append, List.nil_append, bB_0, bB_z, z01_0, z01_1, n01, n00, pm_ro_some, reduceCtorEq, if_true, if_false, and_self, and_true, true_and, not_true, not_false_eq_true, Nat.reduceLeDiff, Nat.reduceAdd, kdM, hm, ix hj, lpF hj (by decide), h1.m, A2.m, g1, D.mn, lpF (show 0 < tk σ j by omega) (show tk σ j < 2 ^ 31 by omega), A1, bf g2, q, l1, l2, l3, l4, lN_mul, lgle, lNle (show by_ * aN σ v j < 2 ^ 31 by omega) (show li * tk σ j < 2 ^ 31 by omega), show (by_ * aN σ v j ≤ li * tk σ j) = True from eq_true (by omega), g3, decide_false, Bool.or_false, bB, cond_true, cond_false, nI_add]
  obtain ⟨im', e1, e2⟩ := key 0 (by omega) im hs (fun _ _ _ => rfl)
  refine ⟨im', ?_, e2⟩
  rw [← e1]
  simp only [s154_0, s154_1, s154_3, s154_4]
  rfl
theorem c19 (hI : INV σ rm pp ll) (hs : SS σ im) {v : Nat} (hv : v < 4) (r : Int32) : ev 19 0 [.ref (pp v), .int r, pm_u, pm_u, pm_u] [] im rm = some (some (.int (bB (asko σ v r (pn σ v)))), im, rm) := by
  have P := hI.p v hv
  have pm := hI.pm (show v < 5 by omega)
  have n6 := P.n6
  have key : ∀ i, i ≤ pn σ v → asko σ v r i = false → ev 19 2 [.ref (pp v), .int r, .int (nI i), pm_u, pm_u] [] im rm = some (some (.int (bB (asko σ v r (pn σ v)))), im, rm) := by
    refine dn ?_ ?_
    · intro h
      rw [h]
      simp only [s19_0, s19_1, s19_2, s19_3, s19_4, s19_7, s19_10, s19_11, s19_12, s19_13, s19_14, s19_15, s19_17, s19_19, s19_20, s19_21, s19_24, s19_25, s19_26, s19_27, s19_30, s19_31, s19_34, s19_36, s19_37, s19_38, s19_41, s19_42, s19_43, s19_46, s19_49, s19_52, s19_55, s19_56, ↓reduceIte, Option.bind_some, Option.toList, List.cons_append, List.nil_append, bB_0, bB_z, z01_0, z01_1, n01, n00, pm_ro_some, reduceCtorEq, if_true, if_false, and_self, and_true, true_and, not_true, not_false_eq_true, Nat.reduceLeDiff, Nat.reduceAdd, kdX, pm, hs.p0 hI.r (show v < 5 by omega), P.le, lpT]
      rfl
    · intro i hi ih h
      have L := P.li i hi
      have t4 := L.2.2.2.2
      have e1 : asko σ v r (i + 1) = askl σ v r i (tn σ v i) := by
        show (asko σ v r i || _) = _
        rw [h, Bool.false_or]
      have q2 := hs.p hI.r (show v < 5 by omega) 2 (by omega) i
      rw [L.2.2.1] at q2
      have inner : ∀ k, k ≤ tn σ v i → askl σ v r i k = false → ev 19 17 [.ref (pp v), .int r, .int (nI i), .int (nI (4 * i)), .int (nI (4 * i + k))] [] im rm = some (some (.int (bB (asko σ v r (pn σ v)))), im, rm) := by
        refine dn ?_ ?_
        · intro h2
          rw [← ih (e1.trans h2)]
          simp only [s19_0, s19_1, s19_3, s19_4, s19_7, s19_10, s19_11, s19_12, s19_13, s19_14, s19_15, s19_17, s19_19, s19_20, s19_21, s19_24, s19_25, s19_26, s19_27, s19_30, s19_31, s19_34, s19_36, s19_37, s19_38, s19_41, s19_42, s19_43, s19_46, s19_49, s19_52, s19_55, s19_56, ↓reduceIte, Option.bind_some, Option.toList, List.cons_append, List.nil_append, bB_0, bB_z, z01_0, z01_1, n01, n00, pm_ro_some, reduceCtorEq, if_true, if_false, and_self, and_true, true_and, not_true, not_false_eq_true, Nat.reduceLeDiff, Nat.reduceAdd, kdX, pm, ix (show i < 6 by omega), q2, nI_add, lpT]
        · intro k hk ih2 h2
          have te := P.te i hi k hk
          have q3 := hs.p hI.r (show v < 5 by omega) 3 (by omega) (4 * i + k)
          rw [te.1] at q3
          have e2 : askl σ v r i (k + 1) = decide (σ 144 (24 * v + (4 * i + k)) = r) := by
            show (askl σ v r i k || _) = _
            rw [h2, Bool.false_or]
          rw [s19_17]
          by_cases g : σ 144 (24 * v + (4 * i + k)) = r
          · have e3 : asko σ v r (pn σ v) = true := by
              have a1 := askl_t (e2.trans (decide_eq_true g)) (tn σ v i - (k + 1))
              rw [show k + 1 + (tn σ v i - (k + 1)) = tn σ v i by omega] at a1
              have a2 := asko_t (e1.trans a1) (pn σ v - (i + 1))
              rw [show i + 1 + (pn σ v - (i + 1)) = pn σ v by omega] at a2
              exact a2
            rw [e3]
            simp only [s19_0, s19_1, s19_2, s19_3, s19_4, s19_7, s19_10, s19_11, s19_12, s19_13, s19_14, s19_15, s19_19, s19_20, s19_21, s19_24, s19_25, s19_26, s19_27, s19_30, s19_31, s19_34, s19_36, s19_37, s19_38, s19_41, s19_42, s19_43, s19_46, s19_49, s19_52, s19_55, s19_56, ↓reduceIte, Option.bind_some, Option.toList, List.cons_append, List.nil_append, bB_0, bB_z, z01_0, z01_1, n01, n00, pm_ro_some, reduceCtorEq, if_true, if_false, and_self, and_true, true_and, not_true, not_false_eq_true, Nat.reduceLeDiff, Nat.reduceAdd, kdX, pm, ix (show i < 6 by omega), q2, nI_add, lpF (show 4 * i + k < 4 * i + tn σ v i by omega) (by omega), ix (show 4 * i + k < 24 by omega), q3, g]
            rfl
          · rw [← ih2 (e2.trans (decide_eq_false g))]
            simp only [s19_0, s19_1, s19_2, s19_3, s19_4, s19_7, s19_10, s19_11, s19_12, s19_13, s19_14, s19_15, s19_19, s19_20, s19_21, s19_24, s19_25, s19_26, s19_27, s19_30, s19_31, s19_34, s19_36, s19_37, s19_38, s19_41, s19_42, s19_43, s19_46, s19_49, s19_52, s19_55, s19_56, ↓reduceIte, Option.bind_some, Option.toList, List.cons_append, List.nil_append, bB_0, bB_z, z01_0, z01_1, n01, n00, pm_ro_some, reduceCtorEq, if_true, if_false, and_self, and_true, true_and, not_true, not_false_eq_true, Nat.reduceLeDiff, Nat.reduceAdd, kdX, pm, ix (show i < 6 by omega), q2, nI_add, lpF (show 4 * i + k < 4 * i + tn σ v i by omega) (by omega), ix (show 4 * i + k < 24 by omega), q3, g, Nat.add_assoc]
      have i0 := inner 0 (by omega) rfl
      rw [← i0, s19_2]
      simp only [s19_0, s19_1, s19_3, s19_4, s19_7, s19_10, s19_11, s19_12, s19_13, s19_14, s19_15, s19_19, s19_20, s19_21, s19_24, s19_25, s19_26, s19_27, s19_30, s19_31, s19_34, s19_36, s19_37, s19_38, s19_41, s19_42, s19_43, s19_46, s19_49, s19_52, s19_55, s19_56, ↓reduceIte, Option.bind_some, Option.toList, List.cons_append, List.nil_append, bB_0, bB_z, z01_0, z01_1, n01, n00, pm_ro_some, reduceCtorEq, if_true, if_false, and_self, and_true, true_and, not_true, not_false_eq_true, Nat.reduceLeDiff, Nat.reduceAdd, kdX, pm, hs.p0 hI.r (show v < 5 by omega), P.le, lpF hi (by omega), pk_mul, Nat.add_zero]
  rw [← key 0 (by omega) rfl]
  simp only [s19_0, s19_1]
theorem c151 (hI : INV σ rm pp ll) (hs : SS σ im) {v : Nat} (hv : v < 4) (r : Int32) : ev 151 0 [.ref 129, .int (nI v), .int r, pm_u, pm_u, pm_u] [] im rm = some (some (.int (bB (asko σ v r (pn σ v)))), im, rm) := by
  have hm := hI.m
  have P := hI.p v hv
  have n6 := P.n6
  have key : ∀ i, i ≤ pn σ v → ev 151 8 [.ref 129, .int (nI v), .int r, .int (bB (asko σ v r i)), .int (nI (6 * v + i)), pm_u] [] im rm = some (some (.int (bB (asko σ v r (pn σ v)))), im, rm) := by
    refine dn ?_ ?_
    · simp only [s151_0, s151_1, s151_2, s151_4, s151_5, s151_6, s151_8, s151_10, s151_12, s151_13, s151_14, s151_15, s151_18, s151_19, s151_20, s151_21, s151_24, s151_25, s151_27, s151_28, s151_30, s151_32, s151_33, s151_35, s151_36, s151_37, s151_40, s151_42, s151_43, s151_44, s151_47, s151_48, s151_51, s151_52, s151_55, s151_57, s151_58, s151_59, s151_62, s151_63, s151_66, s151_67, s151_68, s151_71, s151_74, s151_77, s151_80, s151_81, ↓reduceIte, Option.bind_some, Option.toList, List.cons_append, List.nil_append, bB_0, bB_z, z01_0, z01_1, n01, n00, pm_ro_some, reduceCtorEq, if_true, if_false, and_self, and_true, true_and, not_true, not_false_eq_true, Nat.reduceLeDiff, Nat.reduceAdd, kdM, hm, hs.m, pk_mul, ix (show v < 5 by omega), P.mn, nI_add, lpT]
    · intro i hi ih
      have L := P.li i hi
      have t4 := L.2.2.2.2
      have inner : ∀ k, k ≤ tn σ v i → ev 151 30 [.ref 129, .int (nI v), .int r, .int (bB (asko σ v r i || askl σ v r i k)), .int (nI (6 * v + i)), .int (nI (4 * (6 * v + i) + k))] [] im rm = ev 151 74 [.ref 129, .int (nI v), .int r, .int (bB (asko σ v r i || askl σ v r i (tn σ v i))), .int (nI (6 * v + i)), pm_u] [] im rm := by
        refine dn ?_ ?_
        · simp only [s151_0, s151_1, s151_2, s151_4, s151_5, s151_6, s151_8, s151_10, s151_12, s151_13, s151_14, s151_15, s151_18, s151_19, s151_20, s151_21, s151_24, s151_25, s151_27, s151_28, s151_30, s151_32, s151_33, s151_35, s151_36, s151_37, s151_40, s151_42, s151_43, s151_44, s151_47, s151_48, s151_51, s151_52, s151_55, s151_57, s151_58, s151_59, s151_62, s151_63, s151_66, s151_67, s151_68, s151_71, s151_77, s151_80, s151_81, ↓reduceIte, Option.bind_some, Option.toList, List.cons_append, List.nil_append, bB_0, bB_z, z01_0, z01_1, n01, n00, pm_ro_some, reduceCtorEq, if_true, if_false, and_self, and_true, true_and, not_true, not_false_eq_true, Nat.reduceLeDiff, Nat.reduceAdd, kdM, hm, hs.m, pk_mul, ix (show 6 * v + i < 30 by omega), L.2.2.2.1, nI_add, lpT]
        · intro k hk ih2
          have e2 : askl σ v r i (k + 1) = (askl σ v r i k || decide (σ 144 (4 * (6 * v + i) + k) = r)) := by
            show (askl σ v r i k || decide (σ 144 (24 * v + (4 * i + k)) = r)) = _
            rw [show 24 * v + (4 * i + k) = 4 * (6 * v + i) + k by omega]
          rw [← ih2, e2, s151_30, ← Bool.or_assoc]
          by_cases h : (asko σ v r i || askl σ v r i k) = true
          · simp only [s151_0, s151_1, s151_2, s151_4, s151_5, s151_6, s151_8, s151_10, s151_12, s151_13, s151_14, s151_15, s151_18, s151_19, s151_20, s151_21, s151_24, s151_25, s151_27, s151_28, s151_32, s151_33, s151_35, s151_36, s151_37, s151_40, s151_42, s151_43, s151_44, s151_47, s151_48, s151_51, s151_52, s151_55, s151_57, s151_58, s151_59, s151_62, s151_63, s151_66, s151_67, s151_68, s151_71, s151_77, s151_80, s151_81, ↓reduceIte, Option.bind_some, Option.toList, List.cons_append, List.nil_append, bB_0, bB_z, z01_0, z01_1, n01, n00, pm_ro_some, reduceCtorEq, if_true, if_false, and_self, and_true, true_and, not_true, not_false_eq_true, Nat.reduceLeDiff, Nat.reduceAdd, kdM, hm, hs.m, pk_mul, ix (show 6 * v + i < 30 by omega), L.2.2.2.1, nI_add, lpF (show 4 * (6 * v + i) + k < 4 * (6 * v + i) + tn σ v i by omega) (show 4 * (6 * v + i) + tn σ v i < 2 ^ 31 by omega), h, Bool.true_or, bB, cond_true, Nat.add_assoc]
          · by_cases g : σ 144 (4 * (6 * v + i) + k) = r
            · simp only [s151_0, s151_1, s151_2, s151_4, s151_5, s151_6, s151_8, s151_10, s151_12, s151_13, s151_14, s151_15, s151_18, s151_19, s151_20, s151_21, s151_24, s151_25, s151_27, s151_28, s151_32, s151_33, s151_35, s151_36, s151_37, s151_40, s151_42, s151_43, s151_44, s151_47, s151_48, s151_51, s151_52, s151_55, s151_57, s151_58, s151_59, s151_62, s151_63, s151_66, s151_67, s151_68, s151_71, s151_77, s151_80, s151_81, ↓reduceIte, Option.bind_some, Option.toList, List.cons_append, List.nil_append, bB_0, bB_z, z01_0, z01_1, n01, n00, pm_ro_some, reduceCtorEq, if_true, if_false, and_self, and_true, true_and, not_true, not_false_eq_true, Nat.reduceLeDiff, Nat.reduceAdd, kdM, hm, hs.m, pk_mul, ix (show 6 * v + i < 30 by omega), L.2.2.2.1, nI_add, lpF (show 4 * (6 * v + i) + k < 4 * (6 * v + i) + tn σ v i by omega) (show 4 * (6 * v + i) + tn σ v i < 2 ^ 31 by omega), bf h, ix (show 4 * (6 * v + i) + k < 120 by omega), g, decide_true, Bool.or_true, bB, cond_true, cond_false, Nat.add_assoc]
            · simp only [s151_0, s151_1, s151_2, s151_4, s151_5, s151_6, s151_8, s151_10, s151_12, s151_13, s151_14, s151_15, s151_18, s151_19, s151_20, s151_21, s151_24, s151_25, s151_27, s151_28, s151_32, s151_33, s151_35, s151_36, s151_37, s151_40, s151_42, s151_43, s151_44, s151_47, s151_48, s151_51, s151_52, s151_55, s151_57, s151_58, s151_59, s151_62, s151_63, s151_66, s151_67, s151_68, s151_71, s151_77, s151_80, s151_81, ↓reduceIte, Option.bind_some, Option.toList, List.cons_append, List.nil_append, bB_0, bB_z, z01_0, z01_1, n01, n00, pm_ro_some, reduceCtorEq, if_true, if_false, and_self, and_true, true_and, not_true, not_false_eq_true, Nat.reduceLeDiff, Nat.reduceAdd, kdM, hm, hs.m, pk_mul, ix (show 6 * v + i < 30 by omega), L.2.2.2.1, nI_add, lpF (show 4 * (6 * v + i) + k < 4 * (6 * v + i) + tn σ v i by omega) (show 4 * (6 * v + i) + tn σ v i < 2 ^ 31 by omega), bf h, ix (show 4 * (6 * v + i) + k < 120 by omega), g, decide_false, Bool.or_false, bB, cond_true, cond_false, Nat.add_assoc]
      have i0 := inner 0 (by omega)
      rw [show askl σ v r i 0 = false from rfl, Bool.or_false, Nat.add_zero] at i0
      rw [← ih, s151_8]
      have e1 : asko σ v r (i + 1) = (asko σ v r i || askl σ v r i (tn σ v i)) := rfl
      simp only [s151_0, s151_1, s151_2, s151_4, s151_5, s151_6, s151_10, s151_12, s151_13, s151_14, s151_15, s151_18, s151_19, s151_20, s151_21, s151_24, s151_25, s151_27, s151_28, s151_32, s151_33, s151_35, s151_36, s151_37, s151_40, s151_42, s151_43, s151_44, s151_47, s151_48, s151_51, s151_52, s151_55, s151_57, s151_58, s151_59, s151_62, s151_63, s151_66, s151_67, s151_68, s151_71, s151_74, s151_77, s151_80, s151_81, ↓reduceIte, Option.bind_some, Option.toList, List.cons_append, List.nil_append, bB_0, bB_z, z01_0, z01_1, n01, n00, pm_ro_some, reduceCtorEq, if_true, if_false, and_self, and_true, true_and, not_true, not_false_eq_true, Nat.reduceLeDiff, Nat.reduceAdd, kdM, hm, hs.m, pk_mul, ix (show v < 5 by omega), P.mn, nI_add, lpF (show 6 * v + i < 6 * v + pn σ v by omega) (show 6 * v + pn σ v < 2 ^ 31 by omega), i0, e1, Nat.add_assoc]
  rw [← key 0 (by omega)]
  simp only [s151_0, s151_1, s151_2, s151_4, s151_5, s151_6, pk_mul]
  rfl
theorem lgm_or (hI : INV σ rm pp ll) {l : Nat} (hl : l < 2) : ∀ n, n ≤ wn σ l → lgm σ l n = -1 ∨ ∃ g, g < 1000 ∧ lgm σ l n = nI g := by
  intro n
  induction n with
  | zero => intro _; exact Or.inl rfl
  | succ n ih =>
    intro hn
    unfold lgm
    split
    · obtain ⟨g, hg, eg⟩ := pm_in_ex ((hI.l l hl).li n (by omega)).2.2.2.1 (by decide)
      exact Or.inr ⟨g, hg, eg⟩
    · exact ih (by omega)
theorem c8 (hI : INV σ rm pp ll) (hs : SS σ im) {l : Nat} (hl : l < 2) : ev 8 0 [.ref (ll l), pm_u, pm_u] [] im rm = some (some (.int (lgm σ l (wn σ l))), im, rm) := by
  have W := hI.l l hl
  have lm := hI.lm (show l < 3 by omega)
  have n8 := W.n8
  have key : ∀ i, i ≤ wn σ l → ev 8 4 [.ref (ll l), .int (lgm σ l i), .int (nI i)] [] im rm = some (some (.int (lgm σ l (wn σ l))), im, rm) := by
    refine dn ?_ ?_
    · simp only [s8_0, s8_1, s8_2, s8_3, s8_4, s8_5, s8_6, s8_9, s8_12, s8_13, s8_16, s8_17, s8_18, s8_21, s8_22, s8_23, s8_26, s8_27, s8_30, s8_31, s8_32, s8_33, s8_36, s8_37, s8_40, s8_41, s8_42, s8_43, s8_46, s8_49, s8_50, ↓reduceIte, Option.bind_some, Option.toList, List.cons_append, List.nil_append, bB_0, bB_z, z01_0, z01_1, n01, n00, pm_ro_some, reduceCtorEq, if_true, if_false, and_self, and_true, true_and, not_true, not_false_eq_true, Nat.reduceLeDiff, Nat.reduceAdd, kdX, lm, hs.l0 hI.r (show l < 3 by omega), W.le, lpT]
    · intro i hi ih
      have L := W.li i hi
      have q1 := hs.l hI.r (show l < 3 by omega) 1 (by omega) i
      have q2 := hs.l hI.r (show l < 3 by omega) 2 (by omega) i
      rw [L.1] at q1
      rw [L.2.2.1] at q2
      rw [← ih, s8_4]
      by_cases g1 : σ 148 (8 * l + i) = nI 0
      · by_cases g2 : lgm σ l i = -1
        · simp only [s8_0, s8_1, s8_2, s8_3, s8_5, s8_6, s8_9, s8_12, s8_13, s8_16, s8_17, s8_18, s8_21, s8_22, s8_23, s8_26, s8_27, s8_30, s8_31, s8_32, s8_33, s8_36, s8_37, s8_40, s8_41, s8_42, s8_43, s8_46, s8_49, s8_50, ↓reduceIte, Option.bind_some, Option.toList, List.cons_append, List.nil_append, bB_0, bB_z, z01_0, z01_1, n01, n00, pm_ro_some, reduceCtorEq, if_true, if_false, and_self, and_true, true_and, not_true, not_false_eq_true, Nat.reduceLeDiff, Nat.reduceAdd, kdX, lm, hs.l0 hI.r (show l < 3 by omega), W.le, lpF hi (by omega), ix (show i < 8 by omega), q1, q2, g1, g2, lgm, true_or, and_self, nI_add]
        · by_cases g3 : σ 149 (8 * l + i) < lgm σ l i
          · simp only [s8_0, s8_1, s8_2, s8_3, s8_5, s8_6, s8_9, s8_12, s8_13, s8_16, s8_17, s8_18, s8_21, s8_22, s8_23, s8_26, s8_27, s8_30, s8_31, s8_32, s8_33, s8_36, s8_37, s8_40, s8_41, s8_42, s8_43, s8_46, s8_49, s8_50, ↓reduceIte, Option.bind_some, Option.toList, List.cons_append, List.nil_append, bB_0, bB_z, z01_0, z01_1, n01, n00, pm_ro_some, reduceCtorEq, if_true, if_false, and_self, and_true, true_and, not_true, not_false_eq_true, Nat.reduceLeDiff, Nat.reduceAdd, kdX, lm, hs.l0 hI.r (show l < 3 by omega), W.le, lpF hi (by omega), ix (show i < 8 by omega), q1, q2, g1, g2, g3, Int32.not_le.mpr g3, lgm, or_true, and_self, nI_add]
          · simp only [s8_0, s8_1, s8_2, s8_3, s8_5, s8_6, s8_9, s8_12, s8_13, s8_16, s8_17, s8_18, s8_21, s8_22, s8_23, s8_26, s8_27, s8_30, s8_31, s8_32, s8_33, s8_36, s8_37, s8_40, s8_41, s8_42, s8_43, s8_46, s8_49, s8_50, ↓reduceIte, Option.bind_some, Option.toList, List.cons_append, List.nil_append, bB_0, bB_z, z01_0, z01_1, n01, n00, pm_ro_some, reduceCtorEq, if_true, if_false, and_self, and_true, true_and, not_true, not_false_eq_true, Nat.reduceLeDiff, Nat.reduceAdd, kdX, lm, hs.l0 hI.r (show l < 3 by omega), W.le, lpF hi (by omega), ix (show i < 8 by omega), q1, q2, g1, g2, g3, Int32.not_lt.mp g3, lgm, or_self, and_false, nI_add]
      · simp only [s8_0, s8_1, s8_2, s8_3, s8_5, s8_6, s8_9, s8_12, s8_13, s8_16, s8_17, s8_18, s8_21, s8_22, s8_23, s8_26, s8_27, s8_30, s8_31, s8_32, s8_33, s8_36, s8_37, s8_40, s8_41, s8_42, s8_43, s8_46, s8_49, s8_50, ↓reduceIte, Option.bind_some, Option.toList, List.cons_append, List.nil_append, bB_0, bB_z, z01_0, z01_1, n01, n00, pm_ro_some, reduceCtorEq, if_true, if_false, and_self, and_true, true_and, not_true, not_false_eq_true, Nat.reduceLeDiff, Nat.reduceAdd, kdX, lm, hs.l0 hI.r (show l < 3 by omega), W.le, lpF hi (by omega), ix (show i < 8 by omega), q1, q2, g1, lgm, false_and, nI_add]
  rw [← key 0 (by omega)]
  simp only [s8_0, s8_1, s8_2, s8_3]
  rfl
theorem c153 (hI : INV σ rm pp ll) (hs : SS σ im) {l : Nat} (hl : l < 2) : ev 153 0 [.ref 129, .int (nI l), pm_u, pm_u] [] im rm = some (some (.int (lgm σ l (wn σ l))), im, rm) := by
  have hm := hI.m
  have W := hI.l l hl
  have n8 := W.n8
  have key : ∀ i, i ≤ wn σ l → ev 153 7 [.ref 129, .int (nI l), .int (lgm σ l i), .int (nI (8 * l + i))] [] im rm = some (some (.int (lgm σ l (wn σ l))), im, rm) := by
    refine dn ?_ ?_
    · simp only [s153_0, s153_1, s153_2, s153_4, s153_5, s153_6, s153_7, s153_8, s153_10, s153_11, s153_12, s153_13, s153_16, s153_17, s153_18, s153_19, s153_22, s153_23, s153_26, s153_27, s153_28, s153_31, s153_32, s153_33, s153_36, s153_37, s153_40, s153_41, s153_42, s153_43, s153_46, s153_47, s153_50, s153_51, s153_52, s153_55, s153_56, s153_57, s153_60, s153_63, s153_64, ↓reduceIte, Option.bind_some, Option.toList, List.cons_append, List.nil_append, bB_0, bB_z, z01_0, z01_1, n01, n00, pm_ro_some, reduceCtorEq, if_true, if_false, and_self, and_true, true_and, not_true, not_false_eq_true, Nat.reduceLeDiff, Nat.reduceAdd, kdM, hm, hs.m, pk_mul, ix (show l < 3 by omega), W.mn, nI_add, lpT]
    · intro i hi ih
      rw [← ih, s153_7]
      by_cases g1 : σ 148 (8 * l + i) = nI 0
      · by_cases g2 : lgm σ l i = -1
        · simp only [s153_0, s153_1, s153_2, s153_4, s153_5, s153_6, s153_8, s153_10, s153_11, s153_12, s153_13, s153_16, s153_17, s153_18, s153_19, s153_22, s153_23, s153_26, s153_27, s153_28, s153_31, s153_32, s153_33, s153_36, s153_37, s153_40, s153_41, s153_42, s153_43, s153_46, s153_47, s153_50, s153_51, s153_52, s153_55, s153_56, s153_57, s153_60, s153_63, s153_64, ↓reduceIte, Option.bind_some, Option.toList, List.cons_append, List.nil_append, bB_0, bB_z, z01_0, z01_1, n01, n00, pm_ro_some, reduceCtorEq, if_true, if_false, and_self, and_true, true_and, not_true, not_false_eq_true, Nat.reduceLeDiff, Nat.reduceAdd, kdM, hm, hs.m, pk_mul, ix (show l < 3 by omega), W.mn, nI_add, lpF (show 8 * l + i < 8 * l + wn σ l by omega) (by omega), ix (show 8 * l + i < 24 by omega), g1, g2, lgm, true_or, and_self, Nat.add_assoc]
        · by_cases g3 : σ 149 (8 * l + i) < lgm σ l i
          · simp only [s153_0, s153_1, s153_2, s153_4, s153_5, s153_6, s153_8, s153_10, s153_11, s153_12, s153_13, s153_16, s153_17, s153_18, s153_19, s153_22, s153_23, s153_26, s153_27, s153_28, s153_31, s153_32, s153_33, s153_36, s153_37, s153_40, s153_41, s153_42, s153_43, s153_46, s153_47, s153_50, s153_51, s153_52, s153_55, s153_56, s153_57, s153_60, s153_63, s153_64, ↓reduceIte, Option.bind_some, Option.toList, List.cons_append, List.nil_append, bB_0, bB_z, z01_0, z01_1, n01, n00, pm_ro_some, reduceCtorEq, if_true, if_false, and_self, and_true, true_and, not_true, not_false_eq_true, Nat.reduceLeDiff, Nat.reduceAdd, kdM, hm, hs.m, pk_mul, ix (show l < 3 by omega), W.mn, nI_add, lpF (show 8 * l + i < 8 * l + wn σ l by omega) (by omega), ix (show 8 * l + i < 24 by omega), g1, g2, g3, Int32.not_le.mpr g3, lgm, or_true, and_self, Nat.add_assoc]
          · simp only [s153_0, s153_1, s153_2, s153_4, s153_5, s153_6, s153_8, s153_10, s153_11, s153_12, s153_13, s153_16, s153_17, s153_18, s153_19, s153_22, s153_23, s153_26, s153_27, s153_28, s153_31, s153_32, s153_33, s153_36, s153_37, s153_40, s153_41, s153_42, s153_43, s153_46, s153_47, s153_50, s153_51, s153_52, s153_55, s153_56, s153_57, s153_60, s153_63, s153_64, ↓reduceIte, Option.bind_some, Option.toList, List.cons_append, List.nil_append, bB_0, bB_z, z01_0, z01_1, n01, n00, pm_ro_some, reduceCtorEq, if_true, if_false, and_self, and_true, true_and, not_true, not_false_eq_true, Nat.reduceLeDiff, Nat.reduceAdd, kdM, hm, hs.m, pk_mul, ix (show l < 3 by omega), W.mn, nI_add, lpF (show 8 * l + i < 8 * l + wn σ l by omega) (by omega), ix (show 8 * l + i < 24 by omega), g1, g2, g3, Int32.not_lt.mp g3, lgm, or_self, and_false, Nat.add_assoc]
      · simp only [s153_0, s153_1, s153_2, s153_4, s153_5, s153_6, s153_8, s153_10, s153_11, s153_12, s153_13, s153_16, s153_17, s153_18, s153_19, s153_22, s153_23, s153_26, s153_27, s153_28, s153_31, s153_32, s153_33, s153_36, s153_37, s153_40, s153_41, s153_42, s153_43, s153_46, s153_47, s153_50, s153_51, s153_52, s153_55, s153_56, s153_57, s153_60, s153_63, s153_64, ↓reduceIte, Option.bind_some, Option.toList, List.cons_append, List.nil_append, bB_0, bB_z, z01_0, z01_1, n01, n00, pm_ro_some, reduceCtorEq, if_true, if_false, and_self, and_true, true_and, not_true, not_false_eq_true, Nat.reduceLeDiff, Nat.reduceAdd, kdM, hm, hs.m, pk_mul, ix (show l < 3 by omega), W.mn, nI_add, lpF (show 8 * l + i < 8 * l + wn σ l by omega) (by omega), ix (show 8 * l + i < 24 by omega), g1, lgm, false_and, Nat.add_assoc]
  rw [← key 0 (by omega)]
  simp only [s153_0, s153_1, s153_2, s153_4, s153_5, s153_6, pk_mul]
  rfl
theorem c152 (hI : INV σ rm pp ll) (hs : SS σ im) (l v r : Int32) : ev 152 0 [.ref 129, .int l, .int v, .int r, pm_u, pm_u] [] im rm = some (some (.int (bB (wt σ l v r (qn σ)))), im, rm) := by
  have hm := hI.m
  have Q := hI.q
  have n20 := Q.2.2.1
  have s33 : im 129 33 = nI (qn σ) := by rw [hs.2.2 33 (by decide)]; exact Q.2.1
  have key : ∀ k, k ≤ qn σ → ev 152 6 [.ref 129, .int l, .int v, .int r, .int (bB (wt σ l v r k)), .int (nI k)] [] im rm = some (some (.int (bB (wt σ l v r (qn σ)))), im, rm) := by
    refine dn ?_ ?_
    · simp only [s152_0, s152_1, s152_3, s152_4, s152_6, s152_8, s152_9, s152_12, s152_15, s152_17, s152_20, s152_21, s152_24, s152_26, s152_27, s152_28, s152_31, s152_32, s152_35, s152_37, s152_38, s152_39, s152_42, s152_43, s152_46, s152_48, s152_49, s152_50, s152_53, s152_54, s152_57, s152_59, s152_60, s152_61, s152_64, s152_65, s152_68, s152_69, s152_71, s152_74, s152_77, s152_79, ↓reduceIte, Option.bind_some, Option.toList, List.cons_append, List.nil_append, bB_0, bB_z, z01_0, z01_1, n01, n00, pm_ro_some, reduceCtorEq, if_true, if_false, and_self, and_true, true_and, not_true, not_false_eq_true, Nat.reduceLeDiff, Nat.reduceAdd, kdM, hm, s33, lpT]
    · intro k hk ih
      rw [← ih, s152_6]
      have e : wt σ l v r (k + 1) = (wt σ l v r k || wtc σ l v r k) := rfl
      rw [e]
      by_cases h : wt σ l v r k = true
      · simp only [s152_0, s152_1, s152_3, s152_4, s152_8, s152_9, s152_12, s152_15, s152_17, s152_20, s152_21, s152_24, s152_26, s152_27, s152_28, s152_31, s152_32, s152_35, s152_37, s152_38, s152_39, s152_42, s152_43, s152_46, s152_48, s152_49, s152_50, s152_53, s152_54, s152_57, s152_59, s152_60, s152_61, s152_64, s152_65, s152_68, s152_69, s152_71, s152_74, s152_77, s152_79, ↓reduceIte, Option.bind_some, Option.toList, List.cons_append, List.nil_append, bB_0, bB_z, z01_0, z01_1, n01, n00, pm_ro_some, reduceCtorEq, if_true, if_false, and_self, and_true, true_and, not_true, not_false_eq_true, Nat.reduceLeDiff, Nat.reduceAdd, kdM, hm, s33, lpF hk (by omega), h, Bool.true_or, bB, cond_true, nI_add]
      · rw [bf h, Bool.false_or]
        unfold wtc
        by_cases h1 : σ 156 k = l <;> by_cases h2 : σ 157 k = v <;> by_cases h3 : σ 158 k = r <;> by_cases h4 : σ 159 k = -1 <;> simp only [s152_0, s152_1, s152_3, s152_4, s152_8, s152_9, s152_12, s152_15, s152_17, s152_20, s152_21, s152_24, s152_26, s152_27, s152_28, s152_31, s152_32, s152_35, s152_37, s152_38, s152_39, s152_42, s152_43, s152_46, s152_48, s152_49, s152_50, s152_53, s152_54, s152_57, s152_59, s152_60, s152_61, s152_64, s152_65, s152_68, s152_69, s152_71, s152_74, s152_77, s152_79, ↓reduceIte, Option.bind_some, Option.toList, List.cons_append, List.nil_append, bB_0, bB_z, z01_0, z01_1, n01, n00, pm_ro_some, reduceCtorEq, if_true, if_false, and_self, and_true, true_and, not_true, not_false_eq_true, Nat.reduceLeDiff, Nat.reduceAdd, kdM, hm, hs.m, s33, lpF hk (by omega), ix (show k < 20 by omega), h1, h2, h3, h4, bB, cond_true, cond_false, nI_add, decide_true, decide_false, Bool.not_true, Bool.not_false, Bool.and_true, Bool.and_false, Bool.true_and, Bool.false_and, Bool.false_eq_true]
  rw [← key 0 (by omega)]
  simp only [s152_0, s152_1, s152_3, s152_4]
  rfl
/-- what was told, as bits -/
theorem told_e (hI : INV σ rm pp ll) (l v : Int32) : ∀ n, n ≤ qn σ → ∃ T, T < 256 ∧ told σ l v (nI 200) n = nI T ∧ ∀ r, r < 8 → T.testBit r = wt σ l v (nI r) n := by
  intro n
  induction n with
  | zero =>
    intro _
    refine ⟨0, by decide, rfl, fun r _ => ?_⟩
    rw [Nat.zero_testBit]
    rfl
  | succ n ih =>
    intro hn
    obtain ⟨T, hT, eT, bT⟩ := ih (by omega)
    have R := hI.q.2.2.2 n (by omega)
    obtain ⟨q, hq, eq⟩ := pm_in_ex R.2.2.2.2.2.1 (by decide)
    have t200 : ¬ nI 200 < σ 159 n := by
      rcases R.2.2.2.2.2.2.2 with h | h
      · rw [h]; decide
      · have := (pm_in_eq.mp h).2
        rw [i32_lt, show (nI 200).toInt = 200 from by decide]
        omega
    have et : tolc σ l v (nI 200) n = (decide (σ 156 n = l) && decide (σ 157 n = v) && !decide (σ 159 n = -1)) := by
      unfold tolc
      rw [decide_eq_false t200, Bool.not_false, Bool.and_true]
    have ew : ∀ r, r < 8 → wtc σ l v (nI r) n = (tolc σ l v (nI 200) n && decide (q = r)) := by
      intro r hr
      rw [et]
      unfold wtc
      rw [eq, show decide (nI q = nI r) = decide (q = r) from by
        apply Bool.eq_iff_iff.mpr
        rw [decide_eq_true_eq, decide_eq_true_eq, nI_eqq (by omega) (by omega)]]
      cases decide (σ 156 n = l) <;> cases decide (σ 157 n = v) <;> cases decide (σ 159 n = -1) <;> cases decide (q = r) <;> rfl
    show ∃ T, T < 256 ∧ (if tolc σ l v (nI 200) n = true then told σ l v (nI 200) n ||| (nI 1 <<< (σ 158 n &&& 31)) else told σ l v (nI 200) n) = nI T ∧ ∀ r, r < 8 → T.testBit r = (wt σ l v (nI r) n || wtc σ l v (nI r) n)
    by_cases h : tolc σ l v (nI 200) n = true
    · rw [if_pos h, eT, eq, shl1 (by omega), or_nI]
      refine ⟨T ||| 2 ^ q, Nat.or_lt_two_pow (n := 8) hT (Nat.pow_lt_pow_right (by decide) hq), rfl, fun r hr => ?_⟩
      rw [Nat.testBit_or, Nat.testBit_two_pow, bT r hr, ew r hr, h, Bool.true_and]
    · rw [if_neg h]
      refine ⟨T, hT, eT, fun r hr => ?_⟩
      rw [bT r hr, ew r hr, bf h, Bool.false_and, Bool.or_false]
theorem c93 (hI : INV σ rm pp ll) (hs : SS σ im) {v l : Nat} (hv : v < 4) (hl : l < 2) (hT : TT σ v im) : ev 93 0 [.ref 0, .int (nI v), .int (nI l), pm_u, pm_u, pm_u, pm_u, pm_u, pm_u, pm_u] [] im rm = some (some (.int (brs σ v l (wn σ l))), im, rm) := by
  have hx := hI.x
  have W := hI.l l hl
  have lm := hI.lm (show l < 3 by omega)
  have n8 := W.n8
  have hpv : rm 2 v = some (pp v) := hx.2.2.2.1 v hv
  have hlv : rm 3 l = some (ll l) := hx.2.2.2.2.1 l hl
  have pm := hI.pm (show v < 5 by omega)
  obtain ⟨T, hT2, eT, bT⟩ := told_e hI (nI l) (nI v) (qn σ) (Nat.le_refl _)
  have G := lgm_or hI hl (wn σ l) (Nat.le_refl _)
  have c22' := c22 hI hs (nI l) (nI v) (nI 200)
  rw [eT] at c22'
  have key : ∀ i, i ≤ wn σ l → ev 93 33 [.ref 0, .int (nI v), pm_u, .ref (ll l), .int (nI T), .int (lgm σ l (wn σ l)), .int (brs σ v l i), .int (nI i), pm_u, pm_u] [] im rm = some (some (.int (brs σ v l (wn σ l))), im, rm) := by
    refine dn ?_ ?_
    · simp only [s93_0, s93_1, s93_4, s93_5, s93_6, s93_7, s93_8, s93_11, s93_12, s93_13, s93_16, s93_19, s93_21, s93_22, s93_25, s93_27, s93_28, s93_30, s93_31, s93_33, s93_35, s93_36, s93_39, s93_42, s93_43, s93_46, s93_48, s93_49, s93_51, s93_52, s93_54, s93_55, s93_58, s93_60, s93_92, s93_93, s93_94, s93_95, s93_97, s93_99, s93_102, s93_104, s93_107, s93_109, s93_110, s93_113, s93_114, s93_115, s93_116, s93_119, s93_121, s93_123, s93_124, s93_127, s93_130, s93_131, s93_134, s93_135, s93_137, s93_140, s93_141, s93_144, s93_145, s93_146, s93_148, s93_151, s93_153, s93_156, s93_157, s93_160, s93_161, s93_162, s93_164, s93_167, s93_170, s93_172, s93_174, s93_175, s93_176, s93_177, s93_180, s93_181, s93_184, s93_185, s93_187, s93_190, s93_192, s93_195, s93_197, s93_198, s93_200, s93_201, s93_202, s93_204, s93_207, s93_210, s93_212, ↓reduceIte, Option.bind_some, Option.toList, List.cons_append, List.nil_append, bB_0, bB_z, z01_0, z01_1, n01, n00, pm_ro_some, reduceCtorEq, if_true, if_false, and_self, and_true, true_and, not_true, not_false_eq_true, Nat.reduceLeDiff, Nat.reduceAdd, kdX, lm, hs.l0 hI.r (show l < 3 by omega), W.le, lpT]
    · intro i hi ih
      have L := W.li i hi
      have q1 := hs.l hI.r (show l < 3 by omega) 1 (by omega) i
      have q2 := hs.l hI.r (show l < 3 by omega) 2 (by omega) i
      rw [L.1] at q1
      rw [L.2.2.1] at q2
      obtain ⟨k, hk, ek⟩ := pm_in_ex L.2.1 (by decide)
      obtain ⟨n, hn, en⟩ := pm_in_ex L.2.2.2.1 (by decide)
      rw [en] at q2
      rw [ek] at q1
      have seg : ev 93 33 [.ref 0, .int (nI v), pm_u, .ref (ll l), .int (nI T), .int (lgm σ l (wn σ l)), .int (brs σ v l i), .int (nI i), pm_u, pm_u] [] im rm = ev 93 190 [.ref 0, .int (nI v), pm_u, .ref (ll l), .int (nI T), .int (lgm σ l (wn σ l)), .int (brs σ v l i), .int (nI i), pm_u, .int (bB (brc σ v l i))] [] im rm := by
        rcases (show k = 0 ∨ k = 1 ∨ k = 2 ∨ k = 3 by omega) with rfl | rfl | rfl | rfl
        · have eb : brc σ v l i = mor σ v (nI 0) 100 n 6 := by
            unfold brc
            rw [ek, if_pos rfl, en, nI_clamp (by omega)]
          rw [eb]
          simp only [s93_0, s93_1, s93_4, s93_5, s93_6, s93_7, s93_8, s93_11, s93_12, s93_13, s93_16, s93_19, s93_21, s93_22, s93_25, s93_27, s93_28, s93_30, s93_31, s93_33, s93_35, s93_36, s93_39, s93_42, s93_43, s93_46, s93_48, s93_49, s93_51, s93_52, s93_54, s93_55, s93_58, s93_60, s93_61_0, s93_61_1, s93_61_2, s93_61_3, s93_61_o, s93_92, s93_93, s93_94, s93_95, s93_97, s93_99, s93_102, s93_104, s93_107, s93_109, s93_110, s93_113, s93_114, s93_115, s93_116, s93_119, s93_121, s93_123, s93_124, s93_127, s93_130, s93_131, s93_134, s93_135, s93_137, s93_140, s93_141, s93_144, s93_145, s93_146, s93_148, s93_151, s93_153, s93_156, s93_157, s93_160, s93_161, s93_162, s93_164, s93_167, s93_170, s93_172, s93_174, s93_175, s93_176, s93_177, s93_180, s93_181, s93_184, s93_185, s93_187, s93_192, s93_195, s93_197, s93_198, s93_200, s93_201, s93_202, s93_204, s93_207, s93_210, s93_212, ↓reduceIte, Option.bind_some, Option.toList, List.cons_append, List.nil_append, bB_0, bB_z, z01_0, z01_1, n01, n00, pm_ro_some, reduceCtorEq, if_true, if_false, and_self, and_true, true_and, not_true, not_false_eq_true, Nat.reduceLeDiff, Nat.reduceAdd, kdX, hx, lm, hs.l0 hI.r (show l < 3 by omega), W.le, lpF hi (by omega), ix (show i < 8 by omega), q1, q2, c94 hI hs hv hT (show 100 ≤ 10000 by decide) (show n ≤ 998001 by omega)]
        · rcases G with g | ⟨g, hg, eg⟩
          · have eb : brc σ v l i = false := by
              unfold brc
              rw [ek, if_neg (by decide), if_pos rfl, g]
              rfl
            rw [eb, g]
            simp only [s93_0, s93_1, s93_4, s93_5, s93_6, s93_7, s93_8, s93_11, s93_12, s93_13, s93_16, s93_19, s93_21, s93_22, s93_25, s93_27, s93_28, s93_30, s93_31, s93_33, s93_35, s93_36, s93_39, s93_42, s93_43, s93_46, s93_48, s93_49, s93_51, s93_52, s93_54, s93_55, s93_58, s93_60, s93_61_0, s93_61_1, s93_61_2, s93_61_3, s93_61_o, s93_92, s93_93, s93_94, s93_95, s93_97, s93_99, s93_102, s93_104, s93_107, s93_109, s93_110, s93_113, s93_114, s93_115, s93_116, s93_119, s93_121, s93_123, s93_124, s93_127, s93_130, s93_131, s93_134, s93_135, s93_137, s93_140, s93_141, s93_144, s93_145, s93_146, s93_148, s93_151, s93_153, s93_156, s93_157, s93_160, s93_161, s93_162, s93_164, s93_167, s93_170, s93_172, s93_174, s93_175, s93_176, s93_177, s93_180, s93_181, s93_184, s93_185, s93_187, s93_192, s93_195, s93_197, s93_198, s93_200, s93_201, s93_202, s93_204, s93_207, s93_210, s93_212, ↓reduceIte, Option.bind_some, Option.toList, List.cons_append, List.nil_append, bB_0, bB_z, z01_0, z01_1, n01, n00, pm_ro_some, reduceCtorEq, if_true, if_false, and_self, and_true, true_and, not_true, not_false_eq_true, Nat.reduceLeDiff, Nat.reduceAdd, kdX, hx, lm, hs.l0 hI.r (show l < 3 by omega), W.le, lpF hi (by omega), ix (show i < 8 by omega), q1, q2]
            rfl
          · have gn : g * n ≤ 998001 := Nat.mul_le_mul (show g ≤ 999 by omega) (show n ≤ 999 by omega)
            have eb : brc σ v l i = mor σ v (nI 1) 10000 (g * n) 6 := by
              unfold brc
              rw [ek, if_neg (by decide), if_pos rfl, eg, en, nI_clamp (by omega), nI_clamp (by omega), show decide (nI g = -1) = false from decide_eq_false (by rw [nIm1 (by omega)]; exact id), Bool.not_false, Bool.true_and]
            rw [eb, eg]
            by_cases b : mor σ v (nI 1) 10000 (g * n) 6 = true
            · simp only [s93_0, s93_1, s93_4, s93_5, s93_6, s93_7, s93_8, s93_11, s93_12, s93_13, s93_16, s93_19, s93_21, s93_22, s93_25, s93_27, s93_28, s93_30, s93_31, s93_33, s93_35, s93_36, s93_39, s93_42, s93_43, s93_46, s93_48, s93_49, s93_51, s93_52, s93_54, s93_55, s93_58, s93_60, s93_61_0, s93_61_1, s93_61_2, s93_61_3, s93_61_o, s93_92, s93_93, s93_94, s93_95, s93_97, s93_99, s93_102, s93_104, s93_107, s93_109, s93_110, s93_113, s93_114, s93_115, s93_116, s93_119, s93_121, s93_123, s93_124, s93_127, s93_130, s93_131, s93_134, s93_135, s93_137, s93_140, s93_141, s93_144, s93_145, s93_146, s93_148, s93_151, s93_153, s93_156, s93_157, s93_160, s93_161, s93_162, s93_164, s93_167, s93_170, s93_172, s93_174, s93_175, s93_176, s93_177, s93_180, s93_181, s93_184, s93_185, s93_187, s93_192, s93_195, s93_197, s93_198, s93_200, s93_201, s93_202, s93_204, s93_207, s93_210, s93_212, ↓reduceIte, Option.bind_some, Option.toList, List.cons_append, List.nil_append, bB_0, bB_z, z01_0, z01_1, n01, n00, pm_ro_some, reduceCtorEq, if_true, if_false, and_self, and_true, true_and, not_true, not_false_eq_true, Nat.reduceLeDiff, Nat.reduceAdd, kdX, hx, lm, hs.l0 hI.r (show l < 3 by omega), W.le, lpF hi (by omega), ix (show i < 8 by omega), q1, q2, nIm1 (show g < 2 ^ 31 by omega), pk_mul, c94 hI hs hv hT (show 10000 ≤ 10000 by decide) gn, b]
              rfl
            · simp only [s93_0, s93_1, s93_4, s93_5, s93_6, s93_7, s93_8, s93_11, s93_12, s93_13, s93_16, s93_19, s93_21, s93_22, s93_25, s93_27, s93_28, s93_30, s93_31, s93_33, s93_35, s93_36, s93_39, s93_42, s93_43, s93_46, s93_48, s93_49, s93_51, s93_52, s93_54, s93_55, s93_58, s93_60, s93_61_0, s93_61_1, s93_61_2, s93_61_3, s93_61_o, s93_92, s93_93, s93_94, s93_95, s93_97, s93_99, s93_102, s93_104, s93_107, s93_109, s93_110, s93_113, s93_114, s93_115, s93_116, s93_119, s93_121, s93_123, s93_124, s93_127, s93_130, s93_131, s93_134, s93_135, s93_137, s93_140, s93_141, s93_144, s93_145, s93_146, s93_148, s93_151, s93_153, s93_156, s93_157, s93_160, s93_161, s93_162, s93_164, s93_167, s93_170, s93_172, s93_174, s93_175, s93_176, s93_177, s93_180, s93_181, s93_184, s93_185, s93_187, s93_192, s93_195, s93_197, s93_198, s93_200, s93_201, s93_202, s93_204, s93_207, s93_210, s93_212, ↓reduceIte, Option.bind_some, Option.toList, List.cons_append, List.nil_append, bB_0, bB_z, z01_0, z01_1, n01, n00, pm_ro_some, reduceCtorEq, if_true, if_false, and_self, and_true, true_and, not_true, not_false_eq_true, Nat.reduceLeDiff, Nat.reduceAdd, kdX, hx, lm, hs.l0 hI.r (show l < 3 by omega), W.le, lpF hi (by omega), ix (show i < 8 by omega), q1, q2, nIm1 (show g < 2 ^ 31 by omega), pk_mul, c94 hI hs hv hT (show 10000 ≤ 10000 by decide) gn, bf b, Bool.false_eq_true]
              rfl
        · have eb : brc σ v l i = asko σ v (nI n) (pn σ v) := by
            unfold brc
            rw [ek, if_neg (by decide), if_neg (by decide), en, show decide (nI 2 = nI 2) = true from by decide, Bool.true_or, Bool.and_true]
          rw [eb]
          simp only [s93_0, s93_1, s93_4, s93_5, s93_6, s93_7, s93_8, s93_11, s93_12, s93_13, s93_16, s93_19, s93_21, s93_22, s93_25, s93_27, s93_28, s93_30, s93_31, s93_33, s93_35, s93_36, s93_39, s93_42, s93_43, s93_46, s93_48, s93_49, s93_51, s93_52, s93_54, s93_55, s93_58, s93_60, s93_61_0, s93_61_1, s93_61_2, s93_61_3, s93_61_o, s93_92, s93_93, s93_94, s93_95, s93_97, s93_99, s93_102, s93_104, s93_107, s93_109, s93_110, s93_113, s93_114, s93_115, s93_116, s93_119, s93_121, s93_123, s93_124, s93_127, s93_130, s93_131, s93_134, s93_135, s93_137, s93_140, s93_141, s93_144, s93_145, s93_146, s93_148, s93_151, s93_153, s93_156, s93_157, s93_160, s93_161, s93_162, s93_164, s93_167, s93_170, s93_172, s93_174, s93_175, s93_176, s93_177, s93_180, s93_181, s93_184, s93_185, s93_187, s93_192, s93_195, s93_197, s93_198, s93_200, s93_201, s93_202, s93_204, s93_207, s93_210, s93_212, ↓reduceIte, Option.bind_some, Option.toList, List.cons_append, List.nil_append, bB_0, bB_z, z01_0, z01_1, n01, n00, pm_ro_some, reduceCtorEq, if_true, if_false, and_self, and_true, true_and, not_true, not_false_eq_true, Nat.reduceLeDiff, Nat.reduceAdd, kdX, hx, lm, hs.l0 hI.r (show l < 3 by omega), W.le, lpF hi (by omega), ix (show i < 8 by omega), q1, q2, hpv, ix hv, pm, c19 hI hs hv (nI n)]
        · have n8' : n < 8 := by
            have := L.2.2.2.2 (by rw [ek]; decide)
            rw [en] at this
            have := (pm_in_eq.mp this).2
            rw [nI_toInt (by omega)] at this
            omega
          have eb : brc σ v l i = (asko σ v (nI n) (pn σ v) && !T.testBit n) := by
            unfold brc
            rw [ek, if_neg (by decide), if_neg (by decide), en, show decide (nI 3 = nI 2) = false from by decide, Bool.false_or, bT n n8']
          rw [eb]
          by_cases b1 : asko σ v (nI n) (pn σ v) = true
          · by_cases b2 : T.testBit n = true
            · simp only [s93_0, s93_1, s93_4, s93_5, s93_6, s93_7, s93_8, s93_11, s93_12, s93_13, s93_16, s93_19, s93_21, s93_22, s93_25, s93_27, s93_28, s93_30, s93_31, s93_33, s93_35, s93_36, s93_39, s93_42, s93_43, s93_46, s93_48, s93_49, s93_51, s93_52, s93_54, s93_55, s93_58, s93_60, s93_61_0, s93_61_1, s93_61_2, s93_61_3, s93_61_o, s93_92, s93_93, s93_94, s93_95, s93_97, s93_99, s93_102, s93_104, s93_107, s93_109, s93_110, s93_113, s93_114, s93_115, s93_116, s93_119, s93_121, s93_123, s93_124, s93_127, s93_130, s93_131, s93_134, s93_135, s93_137, s93_140, s93_141, s93_144, s93_145, s93_146, s93_148, s93_151, s93_153, s93_156, s93_157, s93_160, s93_161, s93_162, s93_164, s93_167, s93_170, s93_172, s93_174, s93_175, s93_176, s93_177, s93_180, s93_181, s93_184, s93_185, s93_187, s93_192, s93_195, s93_197, s93_198, s93_200, s93_201, s93_202, s93_204, s93_207, s93_210, s93_212, ↓reduceIte, Option.bind_some, Option.toList, List.cons_append, List.nil_append, bB_0, bB_z, z01_0, z01_1, n01, n00, pm_ro_some, reduceCtorEq, if_true, if_false, and_self, and_true, true_and, not_true, not_false_eq_true, Nat.reduceLeDiff, Nat.reduceAdd, kdX, hx, lm, hs.l0 hI.r (show l < 3 by omega), W.le, lpF hi (by omega), ix (show i < 8 by omega), q1, q2, hpv, ix hv, pm, c19 hI hs hv (nI n), b1, bt0 (show T < 2 ^ 31 by omega) (show n < 31 by omega), b2, Bool.true_eq_false]
              rfl
            · simp only [s93_0, s93_1, s93_4, s93_5, s93_6, s93_7, s93_8, s93_11, s93_12, s93_13, s93_16, s93_19, s93_21, s93_22, s93_25, s93_27, s93_28, s93_30, s93_31, s93_33, s93_35, s93_36, s93_39, s93_42, s93_43, s93_46, s93_48, s93_49, s93_51, s93_52, s93_54, s93_55, s93_58, s93_60, s93_61_0, s93_61_1, s93_61_2, s93_61_3, s93_61_o, s93_92, s93_93, s93_94, s93_95, s93_97, s93_99, s93_102, s93_104, s93_107, s93_109, s93_110, s93_113, s93_114, s93_115, s93_116, s93_119, s93_121, s93_123, s93_124, s93_127, s93_130, s93_131, s93_134, s93_135, s93_137, s93_140, s93_141, s93_144, s93_145, s93_146, s93_148, s93_151, s93_153, s93_156, s93_157, s93_160, s93_161, s93_162, s93_164, s93_167, s93_170, s93_172, s93_174, s93_175, s93_176, s93_177, s93_180, s93_181, s93_184, s93_185, s93_187, s93_192, s93_195, s93_197, s93_198, s93_200, s93_201, s93_202, s93_204, s93_207, s93_210, s93_212, ↓reduceIte, Option.bind_some, Option.toList, List.cons_append, List.nil_append, bB_0, bB_z, z01_0, z01_1, n01, n00, pm_ro_some, reduceCtorEq, if_true, if_false, and_self, and_true, true_and, not_true, not_false_eq_true, Nat.reduceLeDiff, Nat.reduceAdd, kdX, hx, lm, hs.l0 hI.r (show l < 3 by omega), W.le, lpF hi (by omega), ix (show i < 8 by omega), q1, q2, hpv, ix hv, pm, c19 hI hs hv (nI n), b1, bt0 (show T < 2 ^ 31 by omega) (show n < 31 by omega), bf b2]
              rfl
          · simp only [s93_0, s93_1, s93_4, s93_5, s93_6, s93_7, s93_8, s93_11, s93_12, s93_13, s93_16, s93_19, s93_21, s93_22, s93_25, s93_27, s93_28, s93_30, s93_31, s93_33, s93_35, s93_36, s93_39, s93_42, s93_43, s93_46, s93_48, s93_49, s93_51, s93_52, s93_54, s93_55, s93_58, s93_60, s93_61_0, s93_61_1, s93_61_2, s93_61_3, s93_61_o, s93_92, s93_93, s93_94, s93_95, s93_97, s93_99, s93_102, s93_104, s93_107, s93_109, s93_110, s93_113, s93_114, s93_115, s93_116, s93_119, s93_121, s93_123, s93_124, s93_127, s93_130, s93_131, s93_134, s93_135, s93_137, s93_140, s93_141, s93_144, s93_145, s93_146, s93_148, s93_151, s93_153, s93_156, s93_157, s93_160, s93_161, s93_162, s93_164, s93_167, s93_170, s93_172, s93_174, s93_175, s93_176, s93_177, s93_180, s93_181, s93_184, s93_185, s93_187, s93_192, s93_195, s93_197, s93_198, s93_200, s93_201, s93_202, s93_204, s93_207, s93_210, s93_212, ↓reduceIte, Option.bind_some, Option.toList, List.cons_append, List.nil_append, bB_0, bB_z, z01_0, z01_1, n01, n00, pm_ro_some, reduceCtorEq, if_true, if_false, and_self, and_true, true_and, not_true, not_false_eq_true, Nat.reduceLeDiff, Nat.reduceAdd, kdX, hx, lm, hs.l0 hI.r (show l < 3 by omega), W.le, lpF hi (by omega), ix (show i < 8 by omega), q1, q2, hpv, ix hv, pm, c19 hI hs hv (nI n), bf b1, Bool.false_eq_true]
            rfl
      rw [seg, ← ih]
      have e : brs σ v l (i + 1) = if brc σ v l i = true then brs σ v l i ||| (nI 1 <<< (nI i &&& 31)) else brs σ v l i := rfl
      rw [e]
      by_cases b : brc σ v l i = true <;> simp only [s93_190, s93_192, s93_195, s93_197, s93_198, s93_200, s93_201, s93_202, s93_204, s93_207, ↓reduceIte, Option.bind_some, Option.toList, List.cons_append, List.nil_append, bB_0, bB_z, z01_0, z01_1, n01, n00, pm_ro_some, reduceCtorEq, if_true, if_false, and_self, and_true, true_and, not_true, not_false_eq_true, Nat.reduceLeDiff, Nat.reduceAdd, kdX, b, nI_add, Bool.false_eq_true]
  rw [← key 0 (by omega)]
  simp only [s93_0, s93_1, s93_4, s93_5, s93_6, s93_7, s93_8, s93_11, s93_12, s93_13, s93_16, s93_19, s93_21, s93_22, s93_25, s93_27, s93_28, s93_30, s93_31, ↓reduceIte, Option.bind_some, Option.toList, List.cons_append, List.nil_append, bB_0, bB_z, z01_0, z01_1, n01, n00, pm_ro_some, reduceCtorEq, if_true, if_false, and_self, and_true, true_and, not_true, not_false_eq_true, Nat.reduceLeDiff, Nat.reduceAdd, kdX, hx, hlv, ix (show l < 2 by omega), c22', lm, c8 hI hs hl]
  rfl
theorem c155 (hI : INV σ rm pp ll) (hs : SS σ im) {v l : Nat} (hv : v < 4) (hl : l < 2) : ∃ im', ev 155 0 [.ref 129, .int (nI v), .int (nI l), pm_u, pm_u, pm_u, pm_u, pm_u, pm_u] [] im rm = some (some (.int (brs σ v l (wn σ l))), im', rm) ∧ SS σ im' ∧ (∀ b i, ¬ (b = 129 ∧ 41 ≤ i ∧ i ≤ 44) ∧ ¬ (160 ≤ b ∧ b ≤ 162) → im' b i = im b i) := by
  have hm := hI.m
  have W := hI.l l hl
  have n8 := W.n8
  have G := lgm_or hI hl (wn σ l) (Nat.le_refl _)
  have z0 : ∀ x : Int32, x ||| nI 0 = x := fun x => by simp [nI]
  have key : ∀ i, i ≤ wn σ l → ∀ m : IM, SS σ m → (∀ b i, ¬ (b = 129 ∧ 41 ≤ i ∧ i ≤ 44) ∧ ¬ (160 ≤ b ∧ b ≤ 162) → m b i = im b i) → ∃ im', ev 155 12 [.ref 129, .int (nI v), .int (nI l), .int (brs σ v l i), .int (lgm σ l (wn σ l)), .int (nI i), pm_u, pm_u, pm_u] [] m rm = some (some (.int (brs σ v l (wn σ l))), im', rm) ∧ SS σ im' ∧ (∀ b i, ¬ (b = 129 ∧ 41 ≤ i ∧ i ≤ 44) ∧ ¬ (160 ≤ b ∧ b ≤ 162) → im' b i = im b i) := by
    refine dn ?_ ?_
    · intro m h1 h2
      exact ⟨m, by simp only [s155_0, s155_1, s155_2, s155_3, s155_4, s155_7, s155_9, s155_10, s155_12, s155_14, s155_15, s155_18, s155_19, s155_20, s155_23, s155_24, s155_27, s155_29, s155_30, s155_31, s155_33, s155_34, s155_35, s155_37, s155_38, s155_41, s155_43, s155_44, s155_45, s155_47, s155_48, s155_49, s155_51, s155_53, s155_56, s155_57, s155_58, s155_59, s155_61, s155_63, s155_66, s155_69, s155_71, s155_72, s155_75, s155_77, s155_78, s155_81, s155_82, s155_83, s155_84, s155_87, s155_89, s155_91, s155_92, s155_95, s155_98, s155_99, s155_102, s155_103, s155_106, s155_107, s155_108, s155_110, s155_113, s155_116, s155_118, s155_119, s155_122, s155_123, s155_124, s155_125, s155_127, s155_130, s155_133, s155_134, s155_137, s155_138, s155_140, s155_141, s155_143, s155_146, s155_147, s155_149, s155_150, s155_153, s155_154, s155_155, s155_156, s155_159, s155_162, s155_163, ↓reduceIte, Option.bind_some, Option.toList, List.cons_append, List.nil_append, bB_0, bB_z, z01_0, z01_1, n01, n00, pm_ro_some, reduceCtorEq, if_true, if_false, and_self, and_true, true_and, not_true, not_false_eq_true, Nat.reduceLeDiff, Nat.reduceAdd, kdM, hm, h1.m, ix (show l < 3 by omega), W.mn, lpT], h1, h2⟩
    · intro i hi ih m h1 h2
      have L := W.li i hi
      obtain ⟨k, hk, ek⟩ := pm_in_ex L.2.1 (by decide)
      obtain ⟨n, hn, en⟩ := pm_in_ex L.2.2.2.1 (by decide)
      have seg : ∃ m1, SS σ m1 ∧ (∀ b i, ¬ (b = 129 ∧ 41 ≤ i ∧ i ≤ 44) ∧ ¬ (160 ≤ b ∧ b ≤ 162) → m1 b i = im b i) ∧ ev 155 12 [.ref 129, .int (nI v), .int (nI l), .int (brs σ v l i), .int (lgm σ l (wn σ l)), .int (nI i), pm_u, pm_u, pm_u] [] m rm = ev 155 138 [.ref 129, .int (nI v), .int (nI l), .int (brs σ v l i), .int (lgm σ l (wn σ l)), .int (nI i), pm_u, pm_u, pm_u] [.int (bB (brc σ v l i))] m1 rm := by
        rcases (show k = 0 ∨ k = 1 ∨ k = 2 ∨ k = 3 by omega) with rfl | rfl | rfl | rfl
        · have eb : brc σ v l i = mor σ v (nI 0) 100 n 6 := by
            unfold brc
            rw [ek, if_pos rfl, en, nI_clamp (by omega)]
          obtain ⟨m1, A1, A2, A3⟩ := c154 hI h1 hv (show 100 ≤ 10000 by decide) (show n ≤ 998001 by omega) (nI 0)
          refine ⟨m1, A2, fun b i hb => by rw [A3 b i hb]; exact h2 b i hb, ?_⟩
          rw [eb]
          simp only [s155_0, s155_1, s155_2, s155_3, s155_4, s155_7, s155_9, s155_10, s155_12, s155_14, s155_15, s155_18, s155_19, s155_20, s155_23, s155_24, s155_27, s155_29, s155_30, s155_31, s155_33, s155_34, s155_35, s155_37, s155_38, s155_41, s155_43, s155_44, s155_45, s155_47, s155_48, s155_49, s155_51, s155_53, s155_56, s155_57, s155_58, s155_59, s155_61, s155_63, s155_66, s155_69, s155_71, s155_72, s155_75, s155_77, s155_78, s155_81, s155_82, s155_83, s155_84, s155_87, s155_89, s155_91, s155_92, s155_95, s155_98, s155_99, s155_102, s155_103, s155_106, s155_107, s155_108, s155_110, s155_113, s155_116, s155_118, s155_119, s155_122, s155_123, s155_124, s155_125, s155_127, s155_130, s155_133, s155_134, s155_137, s155_140, s155_141, s155_143, s155_146, s155_147, s155_149, s155_150, s155_153, s155_154, s155_155, s155_156, s155_159, s155_162, s155_163, ↓reduceIte, Option.bind_some, Option.toList, List.cons_append, List.nil_append, bB_0, bB_z, z01_0, z01_1, n01, n00, pm_ro_some, reduceCtorEq, if_true, if_false, and_self, and_true, true_and, not_true, not_false_eq_true, Nat.reduceLeDiff, Nat.reduceAdd, kdM, hm, h1.m, ix (show l < 3 by omega), W.mn, lpF hi (show wn σ l < 2 ^ 31 by omega), pk_mul, nI_add, ix (show 8 * l + i < 24 by omega), ek, en, A1]
        · rcases G with g | ⟨g, hg, eg⟩
          · have eb : brc σ v l i = false := by
              unfold brc
              rw [ek, if_neg (by decide), if_pos rfl, g]
              rfl
            refine ⟨m, h1, h2, ?_⟩
            rw [eb, g]
            simp only [s155_0, s155_1, s155_2, s155_3, s155_4, s155_7, s155_9, s155_10, s155_12, s155_14, s155_15, s155_18, s155_19, s155_20, s155_23, s155_24, s155_27, s155_29, s155_30, s155_31, s155_33, s155_34, s155_35, s155_37, s155_38, s155_41, s155_43, s155_44, s155_45, s155_47, s155_48, s155_49, s155_51, s155_53, s155_56, s155_57, s155_58, s155_59, s155_61, s155_63, s155_66, s155_69, s155_71, s155_72, s155_75, s155_77, s155_78, s155_81, s155_82, s155_83, s155_84, s155_87, s155_89, s155_91, s155_92, s155_95, s155_98, s155_99, s155_102, s155_103, s155_106, s155_107, s155_108, s155_110, s155_113, s155_116, s155_118, s155_119, s155_122, s155_123, s155_124, s155_125, s155_127, s155_130, s155_133, s155_134, s155_137, s155_140, s155_141, s155_143, s155_146, s155_147, s155_149, s155_150, s155_153, s155_154, s155_155, s155_156, s155_159, s155_162, s155_163, ↓reduceIte, Option.bind_some, Option.toList, List.cons_append, List.nil_append, bB_0, bB_z, z01_0, z01_1, n01, n00, pm_ro_some, reduceCtorEq, if_true, if_false, and_self, and_true, true_and, not_true, not_false_eq_true, Nat.reduceLeDiff, Nat.reduceAdd, kdM, hm, h1.m, ix (show l < 3 by omega), W.mn, lpF hi (show wn σ l < 2 ^ 31 by omega), pk_mul, nI_add, ix (show 8 * l + i < 24 by omega), ek, en]
            rfl
          · have gn : g * n ≤ 998001 := Nat.mul_le_mul (show g ≤ 999 by omega) (show n ≤ 999 by omega)
            have eb : brc σ v l i = mor σ v (nI 1) 10000 (g * n) 6 := by
              unfold brc
              rw [ek, if_neg (by decide), if_pos rfl, eg, en, nI_clamp (by omega), nI_clamp (by omega), show decide (nI g = -1) = false from decide_eq_false (by rw [nIm1 (by omega)]; exact id), Bool.not_false, Bool.true_and]
            obtain ⟨m1, A1, A2, A3⟩ := c154 hI h1 hv (show 10000 ≤ 10000 by decide) gn (nI 1)
            refine ⟨m1, A2, fun b i hb => by rw [A3 b i hb]; exact h2 b i hb, ?_⟩
            rw [eb, eg]
            by_cases b : mor σ v (nI 1) 10000 (g * n) 6 = true
            · simp only [s155_0, s155_1, s155_2, s155_3, s155_4, s155_7, s155_9, s155_10, s155_12, s155_14, s155_15, s155_18, s155_19, s155_20, s155_23, s155_24, s155_27, s155_29, s155_30, s155_31, s155_33, s155_34, s155_35, s155_37, s155_38, s155_41, s155_43, s155_44, s155_45, s155_47, s155_48, s155_49, s155_51, s155_53, s155_56, s155_57, s155_58, s155_59, s155_61, s155_63, s155_66, s155_69, s155_71, s155_72, s155_75, s155_77, s155_78, s155_81, s155_82, s155_83, s155_84, s155_87, s155_89, s155_91, s155_92, s155_95, s155_98, s155_99, s155_102, s155_103, s155_106, s155_107, s155_108, s155_110, s155_113, s155_116, s155_118, s155_119, s155_122, s155_123, s155_124, s155_125, s155_127, s155_130, s155_133, s155_134, s155_137, s155_140, s155_141, s155_143, s155_146, s155_147, s155_149, s155_150, s155_153, s155_154, s155_155, s155_156, s155_159, s155_162, s155_163, ↓reduceIte, Option.bind_some, Option.toList, List.cons_append, List.nil_append, bB_0, bB_z, z01_0, z01_1, n01, n00, pm_ro_some, reduceCtorEq, if_true, if_false, and_self, and_true, true_and, not_true, not_false_eq_true, Nat.reduceLeDiff, Nat.reduceAdd, kdM, hm, h1.m, ix (show l < 3 by omega), W.mn, lpF hi (show wn σ l < 2 ^ 31 by omega), pk_mul, nI_add, ix (show 8 * l + i < 24 by omega), ek, en, nIm1 (show g < 2 ^ 31 by omega), A1, b]
              rfl
            · simp only [s155_0, s155_1, s155_2, s155_3, s155_4, s155_7, s155_9, s155_10, s155_12, s155_14, s155_15, s155_18, s155_19, s155_20, s155_23, s155_24, s155_27, s155_29, s155_30, s155_31, s155_33, s155_34, s155_35, s155_37, s155_38, s155_41, s155_43, s155_44, s155_45, s155_47, s155_48, s155_49, s155_51, s155_53, s155_56, s155_57, s155_58, s155_59, s155_61, s155_63, s155_66, s155_69, s155_71, s155_72, s155_75, s155_77, s155_78, s155_81, s155_82, s155_83, s155_84, s155_87, s155_89, s155_91, s155_92, s155_95, s155_98, s155_99, s155_102, s155_103, s155_106, s155_107, s155_108, s155_110, s155_113, s155_116, s155_118, s155_119, s155_122, s155_123, s155_124, s155_125, s155_127, s155_130, s155_133, s155_134, s155_137, s155_140, s155_141, s155_143, s155_146, s155_147, s155_149, s155_150, s155_153, s155_154, s155_155, s155_156, s155_159, s155_162, s155_163, ↓reduceIte, Option.bind_some, Option.toList, List.cons_append, List.nil_append, bB_0, bB_z, z01_0, z01_1, n01, n00, pm_ro_some, reduceCtorEq, if_true, if_false, and_self, and_true, true_and, not_true, not_false_eq_true, Nat.reduceLeDiff, Nat.reduceAdd, kdM, hm, h1.m, ix (show l < 3 by omega), W.mn, lpF hi (show wn σ l < 2 ^ 31 by omega), pk_mul, nI_add, ix (show 8 * l + i < 24 by omega), ek, en, nIm1 (show g < 2 ^ 31 by omega), A1, bf b, Bool.false_eq_true]
              rfl
        · have eb : brc σ v l i = asko σ v (nI n) (pn σ v) := by
            unfold brc
            rw [ek, if_neg (by decide), if_neg (by decide), en, show decide (nI 2 = nI 2) = true from by decide, Bool.true_or, Bool.and_true]
          refine ⟨m, h1, h2, ?_⟩
          rw [eb]
          by_cases b1 : asko σ v (nI n) (pn σ v) = true
          · simp only [s155_0, s155_1, s155_2, s155_3, s155_4, s155_7, s155_9, s155_10, s155_12, s155_14, s155_15, s155_18, s155_19, s155_20, s155_23, s155_24, s155_27, s155_29, s155_30, s155_31, s155_33, s155_34, s155_35, s155_37, s155_38, s155_41, s155_43, s155_44, s155_45, s155_47, s155_48, s155_49, s155_51, s155_53, s155_56, s155_57, s155_58, s155_59, s155_61, s155_63, s155_66, s155_69, s155_71, s155_72, s155_75, s155_77, s155_78, s155_81, s155_82, s155_83, s155_84, s155_87, s155_89, s155_91, s155_92, s155_95, s155_98, s155_99, s155_102, s155_103, s155_106, s155_107, s155_108, s155_110, s155_113, s155_116, s155_118, s155_119, s155_122, s155_123, s155_124, s155_125, s155_127, s155_130, s155_133, s155_134, s155_137, s155_140, s155_141, s155_143, s155_146, s155_147, s155_149, s155_150, s155_153, s155_154, s155_155, s155_156, s155_159, s155_162, s155_163, ↓reduceIte, Option.bind_some, Option.toList, List.cons_append, List.nil_append, bB_0, bB_z, z01_0, z01_1, n01, n00, pm_ro_some, reduceCtorEq, if_true, if_false, and_self, and_true, true_and, not_true, not_false_eq_true, Nat.reduceLeDiff, Nat.reduceAdd, kdM, hm, h1.m, ix (show l < 3 by omega), W.mn, lpF hi (show wn σ l < 2 ^ 31 by omega), pk_mul, nI_add, ix (show 8 * l + i < 24 by omega), ek, en, c151 hI h1 hv, b1, show (nI 2 = nI 0) = False from by decide, show (nI 2 = nI 1) = False from by decide]
            rfl
          · simp only [s155_0, s155_1, s155_2, s155_3, s155_4, s155_7, s155_9, s155_10, s155_12, s155_14, s155_15, s155_18, s155_19, s155_20, s155_23, s155_24, s155_27, s155_29, s155_30, s155_31, s155_33, s155_34, s155_35, s155_37, s155_38, s155_41, s155_43, s155_44, s155_45, s155_47, s155_48, s155_49, s155_51, s155_53, s155_56, s155_57, s155_58, s155_59, s155_61, s155_63, s155_66, s155_69, s155_71, s155_72, s155_75, s155_77, s155_78, s155_81, s155_82, s155_83, s155_84, s155_87, s155_89, s155_91, s155_92, s155_95, s155_98, s155_99, s155_102, s155_103, s155_106, s155_107, s155_108, s155_110, s155_113, s155_116, s155_118, s155_119, s155_122, s155_123, s155_124, s155_125, s155_127, s155_130, s155_133, s155_134, s155_137, s155_140, s155_141, s155_143, s155_146, s155_147, s155_149, s155_150, s155_153, s155_154, s155_155, s155_156, s155_159, s155_162, s155_163, ↓reduceIte, Option.bind_some, Option.toList, List.cons_append, List.nil_append, bB_0, bB_z, z01_0, z01_1, n01, n00, pm_ro_some, reduceCtorEq, if_true, if_false, and_self, and_true, true_and, not_true, not_false_eq_true, Nat.reduceLeDiff, Nat.reduceAdd, kdM, hm, h1.m, ix (show l < 3 by omega), W.mn, lpF hi (show wn σ l < 2 ^ 31 by omega), pk_mul, nI_add, ix (show 8 * l + i < 24 by omega), ek, en, c151 hI h1 hv, bf b1, show (nI 2 = nI 0) = False from by decide, show (nI 2 = nI 1) = False from by decide, Bool.false_eq_true]
            rfl
        · have eb : brc σ v l i = (asko σ v (nI n) (pn σ v) && !wt σ (nI l) (nI v) (nI n) (qn σ)) := by
            unfold brc
            rw [ek, if_neg (by decide), if_neg (by decide), en, show decide (nI 3 = nI 2) = false from by decide, Bool.false_or]
          refine ⟨m, h1, h2, ?_⟩
          rw [eb]
          by_cases b1 : asko σ v (nI n) (pn σ v) = true
          · by_cases b2 : wt σ (nI l) (nI v) (nI n) (qn σ) = true
            · simp only [s155_0, s155_1, s155_2, s155_3, s155_4, s155_7, s155_9, s155_10, s155_12, s155_14, s155_15, s155_18, s155_19, s155_20, s155_23, s155_24, s155_27, s155_29, s155_30, s155_31, s155_33, s155_34, s155_35, s155_37, s155_38, s155_41, s155_43, s155_44, s155_45, s155_47, s155_48, s155_49, s155_51, s155_53, s155_56, s155_57, s155_58, s155_59, s155_61, s155_63, s155_66, s155_69, s155_71, s155_72, s155_75, s155_77, s155_78, s155_81, s155_82, s155_83, s155_84, s155_87, s155_89, s155_91, s155_92, s155_95, s155_98, s155_99, s155_102, s155_103, s155_106, s155_107, s155_108, s155_110, s155_113, s155_116, s155_118, s155_119, s155_122, s155_123, s155_124, s155_125, s155_127, s155_130, s155_133, s155_134, s155_137, s155_140, s155_141, s155_143, s155_146, s155_147, s155_149, s155_150, s155_153, s155_154, s155_155, s155_156, s155_159, s155_162, s155_163, ↓reduceIte, Option.bind_some, Option.toList, List.cons_append, List.nil_append, bB_0, bB_z, z01_0, z01_1, n01, n00, pm_ro_some, reduceCtorEq, if_true, if_false, and_self, and_true, true_and, not_true, not_false_eq_true, Nat.reduceLeDiff, Nat.reduceAdd, kdM, hm, h1.m, ix (show l < 3 by omega), W.mn, lpF hi (show wn σ l < 2 ^ 31 by omega), pk_mul, nI_add, ix (show 8 * l + i < 24 by omega), ek, en, c151 hI h1 hv, b1, show (nI 3 = nI 0) = False from by decide, show (nI 3 = nI 1) = False from by decide, show (nI 3 = nI 2) = False from by decide, c152 hI h1, b2]
              rfl
            · simp only [s155_0, s155_1, s155_2, s155_3, s155_4, s155_7, s155_9, s155_10, s155_12, s155_14, s155_15, s155_18, s155_19, s155_20, s155_23, s155_24, s155_27, s155_29, s155_30, s155_31, s155_33, s155_34, s155_35, s155_37, s155_38, s155_41, s155_43, s155_44, s155_45, s155_47, s155_48, s155_49, s155_51, s155_53, s155_56, s155_57, s155_58, s155_59, s155_61, s155_63, s155_66, s155_69, s155_71, s155_72, s155_75, s155_77, s155_78, s155_81, s155_82, s155_83, s155_84, s155_87, s155_89, s155_91, s155_92, s155_95, s155_98, s155_99, s155_102, s155_103, s155_106, s155_107, s155_108, s155_110, s155_113, s155_116, s155_118, s155_119, s155_122, s155_123, s155_124, s155_125, s155_127, s155_130, s155_133, s155_134, s155_137, s155_140, s155_141, s155_143, s155_146, s155_147, s155_149, s155_150, s155_153, s155_154, s155_155, s155_156, s155_159, s155_162, s155_163, ↓reduceIte, Option.bind_some, Option.toList, List.cons_append, List.nil_append, bB_0, bB_z, z01_0, z01_1, n01, n00, pm_ro_some, reduceCtorEq, if_true, if_false, and_self, and_true, true_and, not_true, not_false_eq_true, Nat.reduceLeDiff, Nat.reduceAdd, kdM, hm, h1.m, ix (show l < 3 by omega), W.mn, lpF hi (show wn σ l < 2 ^ 31 by omega), pk_mul, nI_add, ix (show 8 * l + i < 24 by omega), ek, en, c151 hI h1 hv, b1, show (nI 3 = nI 0) = False from by decide, show (nI 3 = nI 1) = False from by decide, show (nI 3 = nI 2) = False from by decide, c152 hI h1, bf b2, Bool.false_eq_true]
              rfl
          · simp only [s155_0, s155_1, s155_2, s155_3, s155_4, s155_7, s155_9, s155_10, s155_12, s155_14, s155_15, s155_18, s155_19, s155_20, s155_23, s155_24, s155_27, s155_29, s155_30, s155_31, s155_33, s155_34, s155_35, s155_37, s155_38, s155_41, s155_43, s155_44, s155_45, s155_47, s155_48, s155_49, s155_51, s155_53, s155_56, s155_57, s155_58, s155_59, s155_61, s155_63, s155_66, s155_69, s155_71, s155_72, s155_75, s155_77, s155_78, s155_81, s155_82, s155_83, s155_84, s155_87, s155_89, s155_91, s155_92, s155_95, s155_98, s155_99, s155_102, s155_103, s155_106, s155_107, s155_108, s155_110, s155_113, s155_116, s155_118, s155_119, s155_122, s155_123, s155_124, s155_125, s155_127, s155_130, s155_133, s155_134, s155_137, s155_140, s155_141, s155_143, s155_146, s155_147, s155_149, s155_150, s155_153, s155_154, s155_155, s155_156, s155_159, s155_162, s155_163, ↓reduceIte, Option.bind_some, Option.toList, List.cons_append, List.nil_append, bB_0, bB_z, z01_0, z01_1, n01, n00, pm_ro_some, reduceCtorEq, if_true, if_false, and_self, and_true, true_and, not_true, not_false_eq_true, Nat.reduceLeDiff, Nat.reduceAdd, kdM, hm, h1.m, ix (show l < 3 by omega), W.mn, lpF hi (show wn σ l < 2 ^ 31 by omega), pk_mul, nI_add, ix (show 8 * l + i < 24 by omega), ek, en, c151 hI h1 hv, bf b1, show (nI 3 = nI 0) = False from by decide, show (nI 3 = nI 1) = False from by decide, show (nI 3 = nI 2) = False from by decide, Bool.false_eq_true]
            rfl
      obtain ⟨m1, S1, S2, S3⟩ := seg
      obtain ⟨im', E1, E2⟩ := ih m1 S1 S2
      refine ⟨im', ?_, E2⟩
      rw [S3, ← E1]
      have e : brs σ v l (i + 1) = if brc σ v l i = true then brs σ v l i ||| (nI 1 <<< (nI i &&& 31)) else brs σ v l i := rfl
      rw [e]
      by_cases b : brc σ v l i = true <;> simp only [s155_138, s155_140, s155_141, s155_143, s155_146, s155_147, s155_149, s155_150, s155_153, s155_154, s155_155, s155_156, s155_159, ↓reduceIte, Option.bind_some, Option.toList, List.cons_append, List.nil_append, bB_0, bB_z, z01_0, z01_1, n01, n00, pm_ro_some, reduceCtorEq, if_true, if_false, and_self, and_true, true_and, not_true, not_false_eq_true, Nat.reduceLeDiff, Nat.reduceAdd, kdM, b, nI_add, z0, Bool.false_eq_true]
  obtain ⟨im', e1, e2⟩ := key 0 (by omega) im hs (fun _ _ _ => rfl)
  refine ⟨im', ?_, e2⟩
  rw [← e1]
  simp only [s155_0, s155_1, s155_2, s155_3, s155_4, s155_7, s155_9, s155_10, ↓reduceIte, Option.bind_some, Option.toList, List.cons_append, List.nil_append, bB_0, bB_z, z01_0, z01_1, n01, n00, pm_ro_some, reduceCtorEq, if_true, if_false, and_self, and_true, true_and, not_true, not_false_eq_true, Nat.reduceLeDiff, Nat.reduceAdd, kdM, c153 hI hs hl]
  rfl
theorem p60 (hI : INV im rm pp ll) (v l : Int32) : PAIR 60 [.ref 0, .int v, .int l] 156 [.ref 129, .int v, .int l] im rm := by
  have hx := hI.x
  have hm := hI.m
  by_cases g0 : pm_in v 4 = true
  rotate_left
  · exact PAIR.q hI (-2) ⟨im, by simp only [s60_0, s60_1, s60_2, s60_5, s60_8, s60_9, s60_10, s60_13, s60_16, s60_18, s60_19, s60_20, s60_21, s60_24, s60_25, s60_26, s60_27, s60_30, ↓reduceIte, Option.bind_some, Option.toList, List.cons_append, List.nil_append, bB_0, bB_z, z01_0, z01_1, n01, n00, pm_ro_some, reduceCtorEq, if_true, if_false, and_self, and_true, true_and, not_true, not_false_eq_true, Nat.reduceLeDiff, Nat.reduceAdd, kdX, b75_4, b75_2, g0, hx], SS.rf⟩ (fun im1 s1 => ⟨im1, by simp only [s156_0, s156_1, s156_4, s156_7, s156_8, s156_11, s156_14, s156_15, s156_16, s156_17, s156_20, s156_23, s156_25, ↓reduceIte, Option.bind_some, Option.toList, List.cons_append, List.nil_append, bB_0, bB_z, z01_0, z01_1, n01, n00, pm_ro_some, reduceCtorEq, if_true, if_false, and_self, and_true, true_and, not_true, not_false_eq_true, Nat.reduceLeDiff, Nat.reduceAdd, kdM, c106, c107, hm, g0], s1⟩)
  by_cases g1 : pm_in l 2 = true
  rotate_left
  · exact PAIR.q hI (-2) ⟨im, by simp only [s60_0, s60_1, s60_2, s60_5, s60_8, s60_9, s60_10, s60_13, s60_16, s60_18, s60_19, s60_20, s60_21, s60_24, s60_25, s60_26, s60_27, s60_30, ↓reduceIte, Option.bind_some, Option.toList, List.cons_append, List.nil_append, bB_0, bB_z, z01_0, z01_1, n01, n00, pm_ro_some, reduceCtorEq, if_true, if_false, and_self, and_true, true_and, not_true, not_false_eq_true, Nat.reduceLeDiff, Nat.reduceAdd, kdX, b75_4, b75_2, g0, g1, hx], SS.rf⟩ (fun im1 s1 => ⟨im1, by simp only [s156_0, s156_1, s156_4, s156_7, s156_8, s156_11, s156_14, s156_15, s156_16, s156_17, s156_20, s156_23, s156_25, ↓reduceIte, Option.bind_some, Option.toList, List.cons_append, List.nil_append, bB_0, bB_z, z01_0, z01_1, n01, n00, pm_ro_some, reduceCtorEq, if_true, if_false, and_self, and_true, true_and, not_true, not_false_eq_true, Nat.reduceLeDiff, Nat.reduceAdd, kdM, c106, c107, hm, g0, g1], s1⟩)
  obtain ⟨i, hi, rfl⟩ := pm_in_ex g0 (by decide)
  obtain ⟨j, hj, rfl⟩ := pm_in_ex g1 (by decide)
  obtain ⟨m1, A1, A2, A3, A4⟩ := c81 hI SS.rf hi
  refine PAIR.q hI (brs im i j (wn im j)) ⟨m1, by simp only [s60_0, s60_1, s60_2, s60_5, s60_8, s60_9, s60_10, s60_13, s60_16, s60_18, s60_19, s60_20, s60_21, s60_24, s60_25, s60_26, s60_27, s60_30, ↓reduceIte, Option.bind_some, Option.toList, List.cons_append, List.nil_append, bB_0, bB_z, z01_0, z01_1, n01, n00, pm_ro_some, reduceCtorEq, if_true, if_false, and_self, and_true, true_and, not_true, not_false_eq_true, Nat.reduceLeDiff, Nat.reduceAdd, kdX, b75_4, b75_2, g0, g1, hx, A1, c93 hI A2 hi hj A3], A2⟩ (fun im1 s1 => ?_)
  obtain ⟨n1, B1, B2, B3⟩ := c155 hI s1 hi hj
  exact ⟨n1, by simp only [s156_0, s156_1, s156_4, s156_7, s156_8, s156_11, s156_14, s156_15, s156_16, s156_17, s156_20, s156_23, s156_25, ↓reduceIte, Option.bind_some, Option.toList, List.cons_append, List.nil_append, bB_0, bB_z, z01_0, z01_1, n01, n00, pm_ro_some, reduceCtorEq, if_true, if_false, and_self, and_true, true_and, not_true, not_false_eq_true, Nat.reduceLeDiff, Nat.reduceAdd, kdM, c106, c107, hm, g0, g1, B1], B2⟩
end BRK
