-- needs: 43 38
/-! Totals, saves: both sides. -/
def aA (σ : IM) (v d : Nat) : Int32 := sA σ v d (tk σ d)
def uU (σ : IM) (v d : Nat) : Int32 := sU σ v d (tk σ d)
def TT (σ : IM) (v : Nat) (m : IM) : Prop := ∀ d, d < 6 → m (40 + v) d = aA σ v d ∧ m (45 + v) d = uU σ v d
def uor (σ : IM) (v : Nat) : Nat → Int32
  | 0 => nI 0
  | d + 1 => if σ 130 d = nI 1 then uor σ v d + uU σ v d else uor σ v d
section TOT
variable {im σ : IM} {rm : RM} {pp ll : Nat → Nat}
theorem kd_to {v : Nat} (h : v < 4) : (kd (40 + v) = 0 ∧ ln (40 + v) = 6) ∧ (kd (45 + v) = 0 ∧ ln (45 + v) = 6) := by
  rcases (show v = 0 ∨ v = 1 ∨ v = 2 ∨ v = 3 by omega) with rfl | rfl | rfl | rfl <;> exact ⟨⟨kd_at (by decide), ln_at (by decide)⟩, kd_at (by decide), ln_at (by decide)⟩
theorem INV.to (h : INV σ rm pp ll) {v : Nat} (hv : v < 4) : rm 39 v = some (40 + v) ∧ rm 44 v = some (45 + v) ∧ (kd (40 + v) = 0 ∧ ln (40 + v) = 6) ∧ (kd (45 + v) = 0 ∧ ln (45 + v) = 6) := ⟨h.x.2.2.2.2.2.2.1 v hv, h.x.2.2.2.2.2.2.2.1 v hv, kd_to hv⟩
theorem c81 (hI : INV σ rm pp ll) (hs : SS σ im) {v : Nat} (hv : v < 4) : ∃ im', ev 81 0 [.ref 0, .int (nI v), pm_u] [] im rm = some (none, im', rm) ∧ SS σ im' ∧ TT σ v im' ∧ (∀ b i, (b < 32 ∨ 39 ≤ b) → b ≠ 40 + v → b ≠ 45 + v → im' b i = im b i) := by
  have hx := hI.x
  have to := hI.to hv
  have key : ∀ j, j ≤ 6 → ∀ m : IM, SS σ m → (∀ d, d < j → m (40 + v) d = aA σ v d ∧ m (45 + v) d = uU σ v d) → (∀ b i, (b < 32 ∨ 39 ≤ b) → b ≠ 40 + v → b ≠ 45 + v → m b i = im b i) → ∃ im', ev 81 2 [.ref 0, .int (nI v), .int (nI j)] [] m rm = some (none, im', rm) ∧ SS σ im' ∧ TT σ v im' ∧ (∀ b i, (b < 32 ∨ 39 ≤ b) → b ≠ 40 + v → b ≠ 45 + v → im' b i = im b i) := by
    refine dn ?_ ?_
    · intro m h1 h2 h3
      exact ⟨m, by simp only [s81_0, s81_1, s81_2, s81_3, s81_5, s81_8, s81_9, s81_10, s81_11, s81_14, s81_15, s81_18, s81_19, s81_20, s81_21, s81_22, s81_25, s81_28, s81_29, s81_30, s81_33, s81_34, s81_35, s81_36, s81_37, s81_40, s81_43, s81_44, s81_47, s81_50, ↓reduceIte, Option.bind_some, Option.toList, List.cons_append, List.nil_append, bB_0, bB_z, z01_0, z01_1, n01, n00, pm_ro_some, reduceCtorEq, if_true, if_false, and_self, and_true, true_and, not_true, not_false_eq_true, Nat.reduceLeDiff, Nat.reduceAdd, kdX, lpT], h1, h2, h3⟩
    · intro j hj ih m h1 h2 h3
      obtain ⟨m1, A1, A2, A3, A4⟩ := c80 hI h1 hv hj
      obtain ⟨im', e1, e2⟩ := ih (pm_w2 (pm_w2 m1 (40 + v) j (aA σ v j)) (45 + v) j (uU σ v j)) ((A2.w (by omega)).w (by omega)) (fun d hd => by
        by_cases e : d = j
        · subst e
          simp (disch := omega) only [w2_n, w2_s, and_self]
        · simp (disch := omega) only [w2_n]
          rw [A4 _ _ (by omega), A4 _ _ (by omega)]
          exact h2 d (by omega)) (fun b i hb h4 h5 => by
        simp (disch := omega) only [w2_n]
        rw [A4 _ _ (by omega)]
        exact h3 b i hb h4 h5)
      refine ⟨im', ?_, e2⟩
      rw [← e1, s81_2]
      have q1 : m1 32 7 = aA σ v j := A3.2.2.2.1
      have q2 : m1 32 5 = uU σ v j := A3.2.1
      simp only [s81_0, s81_1, s81_3, s81_5, s81_8, s81_9, s81_10, s81_11, s81_14, s81_15, s81_18, s81_19, s81_20, s81_21, s81_22, s81_25, s81_28, s81_29, s81_30, s81_33, s81_34, s81_35, s81_36, s81_37, s81_40, s81_43, s81_44, s81_47, s81_50, ↓reduceIte, Option.bind_some, Option.toList, List.cons_append, List.nil_append, bB_0, bB_z, z01_0, z01_1, n01, n00, pm_ro_some, reduceCtorEq, if_true, if_false, and_self, and_true, true_and, not_true, not_false_eq_true, Nat.reduceLeDiff, Nat.reduceAdd, kdX, hx, to, ix hv, ix hj, lpF hj (by decide), A1, q1, q2, w2_a (show 32 ≠ 40 + v by omega), nI_add]
  obtain ⟨im', e1, e2⟩ := key 0 (by omega) im hs (fun d hd => absurd hd (by omega)) (fun _ _ _ _ _ => rfl)
  refine ⟨im', ?_, e2⟩
  rw [← e1]
  simp only [s81_0, s81_1]
theorem c82 (hI : INV σ rm pp ll) (hs : SS σ im) : ∃ im', ev 82 0 [.ref 0, pm_u] [] im rm = some (none, im', rm) ∧ SS σ im' ∧ (∀ v, v < 4 → TT σ v im') ∧ (∀ b i, (b < 32 ∨ 49 ≤ b) → im' b i = im b i) := by
  have hx := hI.x
  have key : ∀ j, j ≤ 4 → ∀ m : IM, SS σ m → (∀ v, v < j → TT σ v m) → (∀ b i, (b < 32 ∨ 49 ≤ b) → m b i = im b i) → ∃ im', ev 82 2 [.ref 0, .int (nI j)] [] m rm = some (none, im', rm) ∧ SS σ im' ∧ (∀ v, v < 4 → TT σ v im') ∧ (∀ b i, (b < 32 ∨ 49 ≤ b) → im' b i = im b i) := by
    refine dn ?_ ?_
    · intro m h1 h2 h3
      exact ⟨m, by simp only [s82_0, s82_1, s82_2, s82_3, s82_4, s82_7, s82_8, s82_9, s82_12, s82_15, s82_18, ↓reduceIte, Option.bind_some, Option.toList, List.cons_append, List.nil_append, bB_0, bB_z, z01_0, z01_1, n01, n00, pm_ro_some, reduceCtorEq, if_true, if_false, and_self, and_true, true_and, not_true, not_false_eq_true, Nat.reduceLeDiff, Nat.reduceAdd, kdX, lpT], h1, h2, h3⟩
    · intro j hj ih m h1 h2 h3
      obtain ⟨m1, A1, A2, A3, A4⟩ := c81 hI h1 hj
      obtain ⟨im', e1, e2⟩ := ih m1 A2 (fun v hv => by
        by_cases e : v = j
        · subst e; exact A3
        · intro d hd
          rw [A4 _ _ (by omega) (by omega) (by omega), A4 _ _ (by omega) (by omega) (by omega)]
          exact h2 v (by omega) d hd) (fun b i hb => by rw [A4 _ _ (by omega) (by omega) (by omega)]; exact h3 b i hb)
      refine ⟨im', ?_, e2⟩
      rw [← e1, s82_2]
      simp only [s82_0, s82_1, s82_3, s82_4, s82_7, s82_8, s82_9, s82_12, s82_15, s82_18, ↓reduceIte, Option.bind_some, Option.toList, List.cons_append, List.nil_append, bB_0, bB_z, z01_0, z01_1, n01, n00, pm_ro_some, reduceCtorEq, if_true, if_false, and_self, and_true, true_and, not_true, not_false_eq_true, Nat.reduceLeDiff, Nat.reduceAdd, kdX, hx, lpF hj (by decide), A1, nI_add]
  obtain ⟨im', e1, e2⟩ := key 0 (by omega) im hs (fun d hd => absurd hd (by omega)) (fun _ _ _ => rfl)
  refine ⟨im', ?_, e2⟩
  rw [← e1]
  simp only [s82_0, s82_1]
theorem c83 (hI : INV σ rm pp ll) (hs : SS σ im) {v : Nat} (hv : v < 4) (hT : TT σ v im) : ev 83 0 [.ref 0, .int (nI v), pm_u, pm_u] [] im rm = some (some (.int (uor σ v 6)), im, rm) := by
  have hx := hI.x
  have to := hI.to hv
  have key : ∀ j, j ≤ 6 → ev 83 4 [.ref 0, .int (nI v), .int (uor σ v j), .int (nI j)] [] im rm = some (some (.int (uor σ v 6)), im, rm) := by
    refine dn ?_ ?_
    · simp only [s83_0, s83_1, s83_2, s83_3, s83_4, s83_5, s83_7, s83_10, s83_11, s83_14, s83_15, s83_16, s83_19, s83_20, s83_23, s83_24, s83_25, s83_28, s83_29, s83_30, s83_31, s83_32, s83_33, s83_34, s83_37, s83_40, s83_41, ↓reduceIte, Option.bind_some, Option.toList, List.cons_append, List.nil_append, bB_0, bB_z, z01_0, z01_1, n01, n00, pm_ro_some, reduceCtorEq, if_true, if_false, and_self, and_true, true_and, not_true, not_false_eq_true, Nat.reduceLeDiff, Nat.reduceAdd, kdX, lpT]
    · intro j hj ih
      rw [← ih, s83_4]
      have D := hI.d j hj
      have dm := hI.dm hj
      by_cases g : σ 130 j = nI 1 <;> simp only [s83_0, s83_1, s83_2, s83_3, s83_5, s83_7, s83_10, s83_11, s83_14, s83_15, s83_16, s83_19, s83_20, s83_23, s83_24, s83_25, s83_28, s83_29, s83_30, s83_31, s83_32, s83_33, s83_34, s83_37, s83_40, s83_41, ↓reduceIte, Option.bind_some, Option.toList, List.cons_append, List.nil_append, bB_0, bB_z, z01_0, z01_1, n01, n00, pm_ro_some, reduceCtorEq, if_true, if_false, and_self, and_true, true_and, not_true, not_false_eq_true, Nat.reduceLeDiff, Nat.reduceAdd, kdX, hx, dm, to, ix hv, ix hj, lpF hj (by decide), hs.d0 hj, D.so, g, (hT j hj).2, uor, nI_add]
  rw [← key 0 (by omega)]
  simp only [s83_0, s83_1, s83_2, s83_3]
  rfl
theorem c159 (hI : INV σ rm pp ll) (hs : SS σ im) {v : Nat} (hv : v < 4) : ∃ im', ev 159 0 [.ref 129, .int (nI v), pm_u, pm_u] [] im rm = some (some (.int (uor σ v 6)), im', rm) ∧ SS σ im' ∧ (∀ b i, ¬ (b = 129 ∧ 41 ≤ i ∧ i ≤ 44) ∧ ¬ (160 ≤ b ∧ b ≤ 162) → im' b i = im b i) := by
  have hm := hI.m
  have P := hI.p v hv
  have key : ∀ j, j ≤ 6 → ∀ m : IM, SS σ m → (∀ b i, ¬ (b = 129 ∧ 41 ≤ i ∧ i ≤ 44) ∧ ¬ (160 ≤ b ∧ b ≤ 162) → m b i = im b i) → ∃ im', ev 159 4 [.ref 129, .int (nI v), .int (uor σ v j), .int (nI j)] [] m rm = some (some (.int (uor σ v 6)), im', rm) ∧ SS σ im' ∧ (∀ b i, ¬ (b = 129 ∧ 41 ≤ i ∧ i ≤ 44) ∧ ¬ (160 ≤ b ∧ b ≤ 162) → im' b i = im b i) := by
    refine dn ?_ ?_
    · intro m h1 h2
      exact ⟨m, by simp only [s159_0, s159_1, s159_2, s159_3, s159_4, s159_5, s159_7, s159_10, s159_11, s159_14, s159_15, s159_16, s159_17, s159_20, s159_21, s159_22, s159_23, s159_26, s159_27, s159_28, s159_31, s159_32, s159_33, s159_36, s159_39, s159_40, ↓reduceIte, Option.bind_some, Option.toList, List.cons_append, List.nil_append, bB_0, bB_z, z01_0, z01_1, n01, n00, pm_ro_some, reduceCtorEq, if_true, if_false, and_self, and_true, true_and, not_true, not_false_eq_true, Nat.reduceLeDiff, Nat.reduceAdd, kdM, lpT], h1, h2⟩
    · intro j hj ih m h1 h2
      by_cases g : σ 130 j = nI 1
      · obtain ⟨m1, A1, A2, A3, A4⟩ := c135 hI h1 P hv hj
        obtain ⟨im', e1, e2⟩ := ih m1 A2 (fun b i hb => by rw [A4 b i hb]; exact h2 b i hb)
        refine ⟨im', ?_, e2⟩
        rw [← e1, s159_4]
        have q2 : m1 129 41 = uU σ v j := A3.2.1
        simp only [s159_0, s159_1, s159_2, s159_3, s159_5, s159_7, s159_10, s159_11, s159_14, s159_15, s159_16, s159_17, s159_20, s159_21, s159_22, s159_23, s159_26, s159_27, s159_28, s159_31, s159_32, s159_33, s159_36, s159_39, s159_40, ↓reduceIte, Option.bind_some, Option.toList, List.cons_append, List.nil_append, bB_0, bB_z, z01_0, z01_1, n01, n00, pm_ro_some, reduceCtorEq, if_true, if_false, and_self, and_true, true_and, not_true, not_false_eq_true, Nat.reduceLeDiff, Nat.reduceAdd, kdM, hm, ix hj, lpF hj (by decide), h1.m, g, A1, q2, uor, nI_add]
      · obtain ⟨im', e1, e2⟩ := ih m h1 h2
        refine ⟨im', ?_, e2⟩
        rw [← e1, s159_4]
        simp only [s159_0, s159_1, s159_2, s159_3, s159_5, s159_7, s159_10, s159_11, s159_14, s159_15, s159_16, s159_17, s159_20, s159_21, s159_22, s159_23, s159_26, s159_27, s159_28, s159_31, s159_32, s159_33, s159_36, s159_39, s159_40, ↓reduceIte, Option.bind_some, Option.toList, List.cons_append, List.nil_append, bB_0, bB_z, z01_0, z01_1, n01, n00, pm_ro_some, reduceCtorEq, if_true, if_false, and_self, and_true, true_and, not_true, not_false_eq_true, Nat.reduceLeDiff, Nat.reduceAdd, kdM, hm, ix hj, lpF hj (by decide), h1.m, g, uor, nI_add]
  obtain ⟨im', e1, e2⟩ := key 0 (by omega) im hs (fun _ _ _ => rfl)
  refine ⟨im', ?_, e2⟩
  rw [← e1]
  simp only [s159_0, s159_1, s159_2, s159_3]
  rfl
theorem p63 (hI : INV im rm pp ll) (v w : Int32) : PAIR 63 [.ref 0, .int v, .int w] 160 [.ref 129, .int v, .int w] im rm := by
  have hx := hI.x
  have hm := hI.m
  by_cases g0 : pm_in v 4 = true
  rotate_left
  · exact PAIR.q hI (-2147483648) ⟨im, by simp only [s63_0, s63_1, s63_2, s63_5, s63_8, s63_9, s63_10, s63_13, s63_16, s63_19, s63_20, s63_21, s63_22, s63_25, s63_26, s63_27, s63_30, s63_31, s63_32, s63_35, s63_36, s63_37, s63_40, s63_41, ↓reduceIte, Option.bind_some, Option.toList, List.cons_append, List.nil_append, bB_0, bB_z, z01_0, z01_1, n01, n00, pm_ro_some, reduceCtorEq, if_true, if_false, and_self, and_true, true_and, not_true, not_false_eq_true, Nat.reduceLeDiff, Nat.reduceAdd, kdX, b75_4, g0, hx], SS.rf⟩ (fun im1 s1 => ⟨im1, by simp only [s160_0, s160_1, s160_4, s160_7, s160_8, s160_11, s160_14, s160_15, s160_16, s160_19, s160_20, s160_21, s160_24, s160_25, s160_28, s160_31, ↓reduceIte, Option.bind_some, Option.toList, List.cons_append, List.nil_append, bB_0, bB_z, z01_0, z01_1, n01, n00, pm_ro_some, reduceCtorEq, if_true, if_false, and_self, and_true, true_and, not_true, not_false_eq_true, Nat.reduceLeDiff, Nat.reduceAdd, kdM, c106, hm, g0], s1⟩)
  by_cases g1 : pm_in w 4 = true
  rotate_left
  · exact PAIR.q hI (-2147483648) ⟨im, by simp only [s63_0, s63_1, s63_2, s63_5, s63_8, s63_9, s63_10, s63_13, s63_16, s63_19, s63_20, s63_21, s63_22, s63_25, s63_26, s63_27, s63_30, s63_31, s63_32, s63_35, s63_36, s63_37, s63_40, s63_41, ↓reduceIte, Option.bind_some, Option.toList, List.cons_append, List.nil_append, bB_0, bB_z, z01_0, z01_1, n01, n00, pm_ro_some, reduceCtorEq, if_true, if_false, and_self, and_true, true_and, not_true, not_false_eq_true, Nat.reduceLeDiff, Nat.reduceAdd, kdX, b75_4, g0, g1, hx], SS.rf⟩ (fun im1 s1 => ⟨im1, by simp only [s160_0, s160_1, s160_4, s160_7, s160_8, s160_11, s160_14, s160_15, s160_16, s160_19, s160_20, s160_21, s160_24, s160_25, s160_28, s160_31, ↓reduceIte, Option.bind_some, Option.toList, List.cons_append, List.nil_append, bB_0, bB_z, z01_0, z01_1, n01, n00, pm_ro_some, reduceCtorEq, if_true, if_false, and_self, and_true, true_and, not_true, not_false_eq_true, Nat.reduceLeDiff, Nat.reduceAdd, kdM, c106, hm, g0, g1], s1⟩)
  obtain ⟨i, hi, rfl⟩ := pm_in_ex g0 (by decide)
  obtain ⟨j, hj, rfl⟩ := pm_in_ex g1 (by decide)
  obtain ⟨m1, A1, A2, A3, A4⟩ := c81 hI SS.rf hi
  obtain ⟨m2, B1, B2, B3, B4⟩ := c81 hI A2 hj
  have T : TT im i m2 := by
    by_cases e : i = j
    · subst e; exact B3
    · intro d hd
      rw [B4 _ _ (by omega) (by omega) (by omega), B4 _ _ (by omega) (by omega) (by omega)]
      exact A3 d hd
  refine PAIR.q hI (uor im j 6 - uor im i 6) ⟨m2, ?_, B2⟩ (fun im1 s1 => ?_)
  · simp only [s63_0, s63_1, s63_2, s63_5, s63_8, s63_9, s63_10, s63_13, s63_16, s63_19, s63_20, s63_21, s63_22, s63_25, s63_26, s63_27, s63_30, s63_31, s63_32, s63_35, s63_36, s63_37, s63_40, s63_41, ↓reduceIte, Option.bind_some, Option.toList, List.cons_append, List.nil_append, bB_0, bB_z, z01_0, z01_1, n01, n00, pm_ro_some, reduceCtorEq, if_true, if_false, and_self, and_true, true_and, not_true, not_false_eq_true, Nat.reduceLeDiff, Nat.reduceAdd, kdX, b75_4, g0, g1, hx, A1, B1, c83 hI B2 hj B3, c83 hI B2 hi T]
  · obtain ⟨n1, C1, C2, C3⟩ := c159 hI s1 hj
    obtain ⟨n2, D1, D2, D3⟩ := c159 hI C2 hi
    exact ⟨n2, by simp only [s160_0, s160_1, s160_4, s160_7, s160_8, s160_11, s160_14, s160_15, s160_16, s160_19, s160_20, s160_21, s160_24, s160_25, s160_28, s160_31, ↓reduceIte, Option.bind_some, Option.toList, List.cons_append, List.nil_append, bB_0, bB_z, z01_0, z01_1, n01, n00, pm_ro_some, reduceCtorEq, if_true, if_false, and_self, and_true, true_and, not_true, not_false_eq_true, Nat.reduceLeDiff, Nat.reduceAdd, kdM, c106, hm, g0, g1, C1, D1], D2⟩
end TOT
