-- needs: 65
/-! fault, program, law: both sides. -/
theorem pmc3 : pm_comp 3 = 4 := rfl
theorem pmc4 : pm_comp 4 = 1 := rfl
section PRG
variable {im : IM} {rm : RM} {pp ll : Nat → Nat}
theorem INV.tc (hI : INV im rm pp ll) : TXc (im 140) (tx im) im := ⟨hI.t.1, hI.t.2.2.2⟩
theorem INV.tm (hI : INV im rm pp ll) : TXm (im 140) (tx im) im := ⟨hI.t.2.1, fun _ _ => rfl⟩
theorem p48 (hI : INV im rm pp ll) (x : Int32) : PAIR 48 [.ref 0, .int x] 130 [.ref 129, .int x] im rm := by
  have hx := hI.x
  have hm := hI.m
  have hN := hI.t.2.2.1
  have h4 := hI.r.p 4 (by decide)
  have h2 := hI.r.l 2 (by decide)
  have pm := hI.pm (show 4 < 5 by decide)
  have lm := hI.lm (show 2 < 3 by decide)
  have hin := (inLs x).2.2.2.2.2.2.2.2.2.2.1
  by_cases e0 : x = nI 0
  · rw [e0] at hin ⊢
    obtain ⟨m1, A1, A2, A3⟩ := c26 (im := im) hI hN hI.tc
    have tm1 : TXm (im 140) (tx im) m1 := ⟨by rw [A3 _ _ (by omega) (by omega)]; exact hI.tm.1, fun i hi => A3 _ _ (by omega) (by omega)⟩
    obtain ⟨m2, B1, B2, B3⟩ := c1290 (rm := rm) hm hN tm1
    refine ⟨fv (RP (im 140) (tx im)), m1, rm, m2, rm, pp, ll, ?_, ?_, hI.df (fun b k q => ?_)⟩
    · simp only [s48_0, s48_1, s48_4, s48_5, s48_8, s48_9, s48_12, s48_15, s48_16, s48_17, s48_18, s48_21, s48_22, s48_25, s48_26, s48_29, s48_32, s48_35, s48_37, ↓reduceIte, Option.bind_some, Option.toList, List.cons_append, List.nil_append, bB_0, bB_z, z01_0, z01_1, n01, n00, pm_ro_some, reduceCtorEq, if_true, if_false, and_self, and_true, true_and, not_true, not_false_eq_true, Nat.reduceLeDiff, Nat.reduceAdd, kdX, hx, pm, A1]
    · simp only [s130_0, s130_1, s130_2, s130_3, s130_4, s130_7, s130_10, s130_11, s130_12, s130_15, s130_18, s130_20, ↓reduceIte, Option.bind_some, Option.toList, List.cons_append, List.nil_append, bB_0, bB_z, z01_0, z01_1, n01, n00, pm_ro_some, reduceCtorEq, if_true, if_false, and_self, and_true, true_and, not_true, not_false_eq_true, Nat.reduceLeDiff, Nat.reduceAdd, kdM, c104, hin, ix (show 0 < 2 by decide), B1]
    · rw [B3 b k (by omega) (by omega) (by omega) (by omega) (by omega) (by omega), A3 b k (by omega) (by omega)]
  by_cases e1 : x = nI 1
  · rw [e1] at hin ⊢
    obtain ⟨m1, A1, A2, A3⟩ := c27 (im := im) hI hN hI.tc
    have tm1 : TXm (im 140) (tx im) m1 := ⟨by rw [A3 _ _ (by omega) (by omega)]; exact hI.tm.1, fun i hi => A3 _ _ (by omega) (by omega)⟩
    obtain ⟨m2, B1, B2, B3⟩ := c1291 (rm := rm) hm hN tm1
    refine ⟨fv (RW (im 140) (tx im)), m1, rm, m2, rm, pp, ll, ?_, ?_, hI.df (fun b k q => ?_)⟩
    · simp only [s48_0, s48_1, s48_4, s48_5, s48_8, s48_9, s48_12, s48_15, s48_16, s48_17, s48_18, s48_21, s48_22, s48_25, s48_26, s48_29, s48_32, s48_35, s48_37, ↓reduceIte, Option.bind_some, Option.toList, List.cons_append, List.nil_append, bB_0, bB_z, z01_0, z01_1, n01, n00, pm_ro_some, reduceCtorEq, if_true, if_false, and_self, and_true, true_and, not_true, not_false_eq_true, Nat.reduceLeDiff, Nat.reduceAdd, kdX, hx, lm, A1]
    · simp only [s130_0, s130_1, s130_2, s130_3, s130_4, s130_7, s130_10, s130_11, s130_12, s130_15, s130_18, s130_20, ↓reduceIte, Option.bind_some, Option.toList, List.cons_append, List.nil_append, bB_0, bB_z, z01_0, z01_1, n01, n00, pm_ro_some, reduceCtorEq, if_true, if_false, and_self, and_true, true_and, not_true, not_false_eq_true, Nat.reduceLeDiff, Nat.reduceAdd, kdM, c104, hin, ix (show 1 < 2 by decide), B1]
    · rw [B3 b k (by omega) (by omega) (by omega) (by omega) (by omega) (by omega), A3 b k (by omega) (by omega)]
  have e2 : pm_in x 2 = false := by
    apply bf
    intro q
    obtain ⟨j, hj, e⟩ := pm_in_ex q (by decide)
    rcases (show j = 0 ∨ j = 1 by omega) with r | r
    · exact e0 (by rw [e, r])
    · exact e1 (by rw [e, r])
  exact PAIR.q hI (-3) ⟨im, by simp only [s48_0, s48_1, s48_4, s48_5, s48_8, s48_9, s48_12, s48_15, s48_16, s48_17, s48_18, s48_21, s48_22, s48_25, s48_26, s48_29, s48_32, s48_35, s48_37, ↓reduceIte, Option.bind_some, Option.toList, List.cons_append, List.nil_append, bB_0, bB_z, z01_0, z01_1, n01, n00, pm_ro_some, reduceCtorEq, if_true, if_false, and_self, and_true, true_and, not_true, not_false_eq_true, Nat.reduceLeDiff, Nat.reduceAdd, kdX, e0, e1], SS.rf⟩ (fun im1 s1 => ⟨im1, by simp only [s130_0, s130_1, s130_2, s130_3, s130_4, s130_7, s130_10, s130_11, s130_12, s130_15, s130_18, s130_20, ↓reduceIte, Option.bind_some, Option.toList, List.cons_append, List.nil_append, bB_0, bB_z, z01_0, z01_1, n01, n00, pm_ro_some, reduceCtorEq, if_true, if_false, and_self, and_true, true_and, not_true, not_false_eq_true, Nat.reduceLeDiff, Nat.reduceAdd, kdM, c104, hin, e2, Bool.false_eq_true], s1⟩)
theorem p49 (hI : INV im rm pp ll) (x : Int32) : PAIR 49 [.ref 0, .int x, pm_u] 131 [.ref 129, .int x, pm_u, pm_u] im rm := by
  have hx := hI.x
  have hm := hI.m
  have hN := hI.t.2.2.1
  have h4 := hI.r.p 4 (by decide)
  have h2 := hI.r.l 2 (by decide)
  have pm := hI.pm (show 4 < 5 by decide)
  by_cases hg : pm_in x 4 = true
  rotate_left
  · exact PAIR.q hI (-2) ⟨im, by simp only [s49_0, s49_1, s49_2, s49_5, s49_8, s49_10, ↓reduceIte, Option.bind_some, Option.toList, List.cons_append, List.nil_append, bB_0, bB_z, z01_0, z01_1, n01, n00, pm_ro_some, reduceCtorEq, if_true, if_false, and_self, and_true, true_and, not_true, not_false_eq_true, Nat.reduceLeDiff, Nat.reduceAdd, kdX, c75 x (show 4 < 2 ^ 31 by decide), hg], SS.rf⟩ (fun im1 s1 => ⟨im1, by simp only [s131_0, s131_1, s131_4, s131_7, s131_9, ↓reduceIte, Option.bind_some, Option.toList, List.cons_append, List.nil_append, bB_0, bB_z, z01_0, z01_1, n01, n00, pm_ro_some, reduceCtorEq, if_true, if_false, and_self, and_true, true_and, not_true, not_false_eq_true, Nat.reduceLeDiff, Nat.reduceAdd, kdM, c106, hg], s1⟩)
  obtain ⟨v, hv, rfl⟩ := pm_in_ex hg (by decide)
  have iv := ix hv
  obtain ⟨m1, A1, A2, A3⟩ := c26 (im := im) hI hN hI.tc
  have oR : oT (im 140) (tx im) (RP (im 140) (tx im)).2.2 := lgo_o LPt_o 6 0
  have fd := fv_d oR hN
  by_cases g : (RP (im 140) (tx im)).1 = true
  rotate_left
  · have e : (fv (RP (im 140) (tx im)) = -1) = False := by rw [fd]; exact eq_false g
    have tm1 : TXm (im 140) (tx im) m1 := ⟨by rw [A3 _ _ (by omega) (by omega)]; exact hI.tm.1, fun i hi => A3 _ _ (by omega) (by omega)⟩
    obtain ⟨m2, B1, B2, B3⟩ := c1290 (rm := rm) hm hN tm1
    refine ⟨-4, m1, rm, m2, rm, pp, ll, ?_, ?_, hI.df (fun b k q => ?_)⟩
    · simp only [s49_0, s49_1, s49_2, s49_5, s49_8, s49_10, s49_11, s49_12, s49_15, s49_16, s49_19, s49_22, s49_23, s49_26, s49_28, ↓reduceIte, Option.bind_some, Option.toList, List.cons_append, List.nil_append, bB_0, bB_z, z01_0, z01_1, n01, n00, pm_ro_some, reduceCtorEq, if_true, if_false, and_self, and_true, true_and, not_true, not_false_eq_true, Nat.reduceLeDiff, Nat.reduceAdd, kdX, hx, pm, c75 _ (show 4 < 2 ^ 31 by decide), iv, A1, e]
    · simp only [s131_0, s131_1, s131_4, s131_7, s131_9, s131_10, s131_11, s131_12, s131_15, s131_16, s131_19, s131_21, ↓reduceIte, Option.bind_some, Option.toList, List.cons_append, List.nil_append, bB_0, bB_z, z01_0, z01_1, n01, n00, pm_ro_some, reduceCtorEq, if_true, if_false, and_self, and_true, true_and, not_true, not_false_eq_true, Nat.reduceLeDiff, Nat.reduceAdd, kdM, c106, iv, B1, e]
    · rw [B3 b k (by omega) (by omega) (by omega) (by omega) (by omega) (by omega), A3 b k (by omega) (by omega)]
  have e : fv (RP (im 140) (tx im)) = -1 := by rw [fd]; exact g
  rw [e] at A1
  obtain ⟨a0, G⟩ := A2 g
  generalize hc : (RP (im 140) (tx im)).2.1 = c at a0 G
  have hc6 : c ≤ 6 := by rw [← hc]; exact lgo_n 6 0
  generalize hw : pm_w2 m1 4 0 (nI 0) = w
  have ew : ∀ b k, ¬ (b = 4 ∧ k = 0) → w b k = m1 b k := fun b k q => by rw [← hw, w2_n q]
  have w0 : w (pp 4) 0 = nI c := by rw [ew _ _ (by omega)]; exact a0
  have tw : TXm (im 140) (tx im) w := ⟨by rw [ew _ _ (by omega), A3 _ _ (by omega) (by omega)]; exact hI.tm.1, fun i hi => by rw [ew _ _ (by omega)]; exact A3 _ _ (by omega) (by omega)⟩
  have hm1 : rmM (pm_w2 (pm_w2 rm 2 v (some (pp 4))) 0 11 (some (pp v))) := rmM.sp hm
  have vp := hx.2.2.2.1 v hv
  have E1 : ev 49 0 [.ref 0, .int (nI v), pm_u] [] im rm = some (some (.int (nI c)), w, pm_w2 (pm_w2 rm 2 v (some (pp 4))) 0 11 (some (pp v))) := by
    simp only [s49_0, s49_1, s49_2, s49_5, s49_8, s49_10, s49_11, s49_12, s49_15, s49_16, s49_19, s49_22, s49_23, s49_26, s49_28, s49_29, s49_30, s49_33, s49_34, s49_35, s49_36, s49_37, s49_40, s49_41, s49_42, s49_45, s49_46, s49_47, s49_48, s49_51, s49_52, s49_55, s49_56, s49_59, s49_60, s49_63, s49_64, s49_65, s49_68, ↓reduceIte, Option.bind_some, Option.toList, List.cons_append, List.nil_append, bB_0, bB_z, z01_0, z01_1, n01, n00, pm_ro_some, reduceCtorEq, if_true, if_false, and_self, and_true, true_and, not_true, not_false_eq_true, Nat.reduceLeDiff, Nat.reduceAdd, kdX, w2_a, w2_i, w2_s, ne_eq, Nat.reduceEqDiff, hx, pm, pmc3, pmc4, c75 _ (show 4 < 2 ^ 31 by decide), iv, vp, A1, hw, w0]
  generalize hrr : pm_w2 (pm_w2 rm 2 v (some (pp 4))) 0 11 (some (pp v)) = r1 at hm1 E1
  obtain ⟨m2, B1, B2, B3⟩ := c1290 (rm := r1) hm1 hN tw
  rw [e] at B1
  obtain ⟨b0, H⟩ := B2 g
  rw [hc] at b0 H
  generalize hz : pm_w2 m2 141 v (nI c) = z
  have z0 : z 141 v = nI c := by rw [← hz, w2_s]
  have ez : ∀ b k, ¬ (b = 141 ∧ k = v) → z b k = m2 b k := fun b k q => by rw [← hz, w2_n q]
  obtain ⟨m3, C1, CL, CT, CF⟩ := cp131 (rm := r1) hm1 hv hc6 z0
  have c0 : m3 141 v = nI c := by rw [CF _ _ (by omega) (by omega)]; exact z0
  generalize hy : pm_w2 m3 129 11 (nI 0) = y
  have ey : ∀ b k, ¬ (b = 129 ∧ k = 11) → y b k = m3 b k := fun b k q => by rw [← hy, w2_n q]
  have y0 : y 141 v = nI c := by rw [ey _ _ (by omega)]; exact c0
  have E2 : ev 131 0 [.ref 129, .int (nI v), pm_u, pm_u] [] w r1 = some (some (.int (nI c)), y, r1) := by
    simp only [s131_0, s131_1, s131_4, s131_7, s131_9, s131_10, s131_11, s131_12, s131_15, s131_16, s131_19, s131_21, s131_22, s131_23, s131_26, s131_27, s131_28, s131_31, s131_32, s131_33, s131_34, s131_35, s131_189, s131_190, s131_191, s131_194, s131_195, s131_198, s131_199, s131_200, ↓reduceIte, Option.bind_some, Option.toList, List.cons_append, List.nil_append, bB_0, bB_z, z01_0, z01_1, n01, n00, pm_ro_some, reduceCtorEq, if_true, if_false, and_self, and_true, true_and, not_true, not_false_eq_true, Nat.reduceLeDiff, Nat.reduceAdd, kdM, hm1, c106, iv, B1, ix (show 4 < 5 by decide), ix (show v < 5 by omega), b0, hz, C1, hy, y0]
  have EE : ∀ b k, ¬ (b = 4 ∧ (k = 0 ∨ k = 2 ∨ k = 3)) → ¬ (pp 4 ≤ b ∧ b ≤ pp 4 + 5) → ¬ (b = 129 ∧ (k = 11 ∨ (34 ≤ k ∧ k ≤ 37))) → ¬ ((b = 142 ∨ b = 143) ∧ (24 ≤ k ∨ (6 * v ≤ k ∧ k < 6 * v + 6))) → ¬ (144 ≤ b ∧ b ≤ 146 ∧ (96 ≤ k ∨ (24 * v ≤ k ∧ k < 24 * v + 24))) → ¬ (b = 141 ∧ (k = 4 ∨ k = v)) → ¬ (b = 147 ∧ k = 2) → ¬ ((b = 148 ∨ b = 149) ∧ 16 ≤ k) → y b k = im b k := fun b k q1 q2 q3 q4 q5 q6 q7 q8 => by
    rw [ey b k (by omega), CF b k (by omega) (by omega), ez b k (by omega), B3 b k (by omega) (by omega) (by omega) (by omega) (by omega) (by omega), ew b k (by omega), A3 b k (by omega) (by omega)]
  have dX : ∀ b k, pp 4 ≤ b → b ≤ pp 4 + 5 → y b k = m1 b k := fun b k q1 q2 => by
    rw [ey b k (by omega), CF b k (by omega) (by omega), ez b k (by omega), B3 b k (by omega) (by omega) (by omega) (by omega) (by omega) (by omega), ew b k (by omega)]
  subst hrr
  refine ⟨nI c, w, _, y, _, _, _, E1, E2, hI.np hv (fun b k q => EE b k (by omega) (by omega) (by omega) (by omega) (by omega) (by omega) (by omega) (by omega)) ⟨?_, ?_⟩ (IP_of (B := im 140) (N := tx im) hc6 y0 ?_ ?_ ?_)⟩
  · rw [ey _ _ (by omega), CF _ _ (by omega) (by omega), ez _ _ (by omega), B3 _ _ (by omega) (by omega) (by omega) (by omega) (by omega) (by omega), ← hw, w2_s]
  · rw [← hy, w2_s]
  · rw [dX _ _ (by omega) (by omega)]; exact a0
  · intro i hi
    exact gP_c (G i hi) (fun b k b1 b2 b3 b4 => dX b k (by omega) (by omega))
  · intro i hi
    have l := CL i hi
    refine cL_c (oT_l LPt_o i) (x := m2 142 (24 + i)) (y := m2 143 (24 + i)) (f := fun k => m2 144 (k + 96 - 24 * v)) (g := fun k => m2 145 (k + 96 - 24 * v)) (h := fun k => m2 146 (k + 96 - 24 * v)) ?_ ?_ ?_ ?_
    · obtain ⟨u1, u2, u3, u4⟩ := H i hi
      refine ⟨u1, u2, u3, fun j hj => ?_⟩
      have := u4 j hj
      rw [show 4 * (24 + i) + j = 24 * v + 4 * i + j + 96 - 24 * v by omega] at this
      exact this
    · rw [ey _ _ (by omega), l.1, ez _ _ (by omega)]
    · rw [ey _ _ (by omega), l.2, ez _ _ (by omega)]
    · intro j hj
      have t := CT (4 * i + j) (by omega)
      rw [ey _ _ (by omega), ey _ _ (by omega), ey _ _ (by omega), Nat.add_assoc, t.1, t.2.1, t.2.2, ez _ _ (by omega), ez _ _ (by omega), ez _ _ (by omega)]
      show m2 144 (96 + (4 * i + j)) = m2 144 (24 * v + (4 * i + j) + 96 - 24 * v) ∧ m2 145 (96 + (4 * i + j)) = m2 145 (24 * v + (4 * i + j) + 96 - 24 * v) ∧ m2 146 (96 + (4 * i + j)) = m2 146 (24 * v + (4 * i + j) + 96 - 24 * v)
      rw [show 24 * v + (4 * i + j) + 96 - 24 * v = 96 + (4 * i + j) by omega]
      exact ⟨rfl, rfl, rfl⟩
theorem p50 (hI : INV im rm pp ll) (x : Int32) : PAIR 50 [.ref 0, .int x, pm_u] 132 [.ref 129, .int x, pm_u] im rm := by
  have hx := hI.x
  have hm := hI.m
  have hN := hI.t.2.2.1
  have h4 := hI.r.p 4 (by decide)
  have h2 := hI.r.l 2 (by decide)
  have pm := hI.lm (show 2 < 3 by decide)
  by_cases hg : pm_in x 2 = true
  rotate_left
  · exact PAIR.q hI (-2) ⟨im, by simp only [s50_0, s50_1, s50_2, s50_5, s50_8, s50_10, ↓reduceIte, Option.bind_some, Option.toList, List.cons_append, List.nil_append, bB_0, bB_z, z01_0, z01_1, n01, n00, pm_ro_some, reduceCtorEq, if_true, if_false, and_self, and_true, true_and, not_true, not_false_eq_true, Nat.reduceLeDiff, Nat.reduceAdd, kdX, c75 x (show 2 < 2 ^ 31 by decide), hg], SS.rf⟩ (fun im1 s1 => ⟨im1, by simp only [s132_0, s132_1, s132_4, s132_7, s132_9, ↓reduceIte, Option.bind_some, Option.toList, List.cons_append, List.nil_append, bB_0, bB_z, z01_0, z01_1, n01, n00, pm_ro_some, reduceCtorEq, if_true, if_false, and_self, and_true, true_and, not_true, not_false_eq_true, Nat.reduceLeDiff, Nat.reduceAdd, kdM, c107, hg], s1⟩)
  obtain ⟨v, hv, rfl⟩ := pm_in_ex hg (by decide)
  have iv := ix hv
  obtain ⟨m1, A1, A2, A3⟩ := c27 (im := im) hI hN hI.tc
  have oR : oT (im 140) (tx im) (RW (im 140) (tx im)).2.2 := lgo_o LWt_o 8 0
  have fd := fv_d oR hN
  by_cases g : (RW (im 140) (tx im)).1 = true
  rotate_left
  · have e : (fv (RW (im 140) (tx im)) = -1) = False := by rw [fd]; exact eq_false g
    have tm1 : TXm (im 140) (tx im) m1 := ⟨by rw [A3 _ _ (by omega) (by omega)]; exact hI.tm.1, fun i hi => A3 _ _ (by omega) (by omega)⟩
    obtain ⟨m2, B1, B2, B3⟩ := c1291 (rm := rm) hm hN tm1
    refine ⟨-4, m1, rm, m2, rm, pp, ll, ?_, ?_, hI.df (fun b k q => ?_)⟩
    · simp only [s50_0, s50_1, s50_2, s50_5, s50_8, s50_10, s50_11, s50_12, s50_15, s50_16, s50_19, s50_22, s50_23, s50_26, s50_28, ↓reduceIte, Option.bind_some, Option.toList, List.cons_append, List.nil_append, bB_0, bB_z, z01_0, z01_1, n01, n00, pm_ro_some, reduceCtorEq, if_true, if_false, and_self, and_true, true_and, not_true, not_false_eq_true, Nat.reduceLeDiff, Nat.reduceAdd, kdX, hx, pm, c75 _ (show 2 < 2 ^ 31 by decide), iv, A1, e]
    · simp only [s132_0, s132_1, s132_4, s132_7, s132_9, s132_10, s132_11, s132_12, s132_15, s132_16, s132_19, s132_21, ↓reduceIte, Option.bind_some, Option.toList, List.cons_append, List.nil_append, bB_0, bB_z, z01_0, z01_1, n01, n00, pm_ro_some, reduceCtorEq, if_true, if_false, and_self, and_true, true_and, not_true, not_false_eq_true, Nat.reduceLeDiff, Nat.reduceAdd, kdM, c107, iv, B1, e]
    · rw [B3 b k (by omega) (by omega) (by omega) (by omega) (by omega) (by omega), A3 b k (by omega) (by omega)]
  have e : fv (RW (im 140) (tx im)) = -1 := by rw [fd]; exact g
  rw [e] at A1
  obtain ⟨a0, G⟩ := A2 g
  generalize hc : (RW (im 140) (tx im)).2.1 = c at a0 G
  have hc6 : c ≤ 8 := by rw [← hc]; exact lgo_n 8 0
  generalize hw : pm_w2 m1 4 0 (nI 0) = w
  have ew : ∀ b k, ¬ (b = 4 ∧ k = 0) → w b k = m1 b k := fun b k q => by rw [← hw, w2_n q]
  have w0 : w (ll 2) 0 = nI c := by rw [ew _ _ (by omega)]; exact a0
  have tw : TXm (im 140) (tx im) w := ⟨by rw [ew _ _ (by omega), A3 _ _ (by omega) (by omega)]; exact hI.tm.1, fun i hi => by rw [ew _ _ (by omega)]; exact A3 _ _ (by omega) (by omega)⟩
  have hm1 : rmM (pm_w2 (pm_w2 rm 3 v (some (ll 2))) 0 12 (some (ll v))) := rmM.sl hm
  have vp := hx.2.2.2.2.1 v hv
  have E1 : ev 50 0 [.ref 0, .int (nI v), pm_u] [] im rm = some (some (.int (nI c)), w, pm_w2 (pm_w2 rm 3 v (some (ll 2))) 0 12 (some (ll v))) := by
    simp only [s50_0, s50_1, s50_2, s50_5, s50_8, s50_10, s50_11, s50_12, s50_15, s50_16, s50_19, s50_22, s50_23, s50_26, s50_28, s50_29, s50_30, s50_33, s50_34, s50_35, s50_36, s50_37, s50_40, s50_41, s50_42, s50_45, s50_46, s50_47, s50_48, s50_51, s50_52, s50_55, s50_56, s50_59, s50_60, s50_63, s50_64, s50_65, s50_68, ↓reduceIte, Option.bind_some, Option.toList, List.cons_append, List.nil_append, bB_0, bB_z, z01_0, z01_1, n01, n00, pm_ro_some, reduceCtorEq, if_true, if_false, and_self, and_true, true_and, not_true, not_false_eq_true, Nat.reduceLeDiff, Nat.reduceAdd, kdX, w2_a, w2_i, w2_s, ne_eq, Nat.reduceEqDiff, hx, pm, pmc3, pmc4, c75 _ (show 2 < 2 ^ 31 by decide), iv, vp, A1, hw, w0]
  generalize hrr : pm_w2 (pm_w2 rm 3 v (some (ll 2))) 0 12 (some (ll v)) = r1 at hm1 E1
  obtain ⟨m2, B1, B2, B3⟩ := c1291 (rm := r1) hm1 hN tw
  rw [e] at B1
  obtain ⟨b0, H⟩ := B2 g
  rw [hc] at b0 H
  generalize hz : pm_w2 m2 147 v (nI c) = z
  have z0 : z 147 v = nI c := by rw [← hz, w2_s]
  have ez : ∀ b k, ¬ (b = 147 ∧ k = v) → z b k = m2 b k := fun b k q => by rw [← hz, w2_n q]
  obtain ⟨m3, C1, CL, CF⟩ := cp132 (rm := r1) hm1 hv hc6 z0
  have c0 : m3 147 v = nI c := by rw [CF _ _ (by omega)]; exact z0
  generalize hy : pm_w2 m3 129 11 (nI 0) = y
  have ey : ∀ b k, ¬ (b = 129 ∧ k = 11) → y b k = m3 b k := fun b k q => by rw [← hy, w2_n q]
  have y0 : y 147 v = nI c := by rw [ey _ _ (by omega)]; exact c0
  have E2 : ev 132 0 [.ref 129, .int (nI v), pm_u] [] w r1 = some (some (.int (nI c)), y, r1) := by
    simp only [s132_0, s132_1, s132_4, s132_7, s132_9, s132_10, s132_11, s132_12, s132_15, s132_16, s132_19, s132_21, s132_22, s132_23, s132_26, s132_27, s132_28, s132_31, s132_32, s132_33, s132_34, s132_35, s132_92, s132_93, s132_94, s132_97, s132_98, s132_101, s132_102, s132_103, ↓reduceIte, Option.bind_some, Option.toList, List.cons_append, List.nil_append, bB_0, bB_z, z01_0, z01_1, n01, n00, pm_ro_some, reduceCtorEq, if_true, if_false, and_self, and_true, true_and, not_true, not_false_eq_true, Nat.reduceLeDiff, Nat.reduceAdd, kdM, hm1, c107, iv, B1, ix (show 2 < 3 by decide), ix (show v < 3 by omega), b0, hz, C1, hy, y0]
  have EE : ∀ b k, ¬ (b = 4 ∧ (k = 0 ∨ k = 2 ∨ k = 3)) → ¬ (ll 2 ≤ b ∧ b ≤ ll 2 + 2) → ¬ (b = 129 ∧ (k = 11 ∨ (34 ≤ k ∧ k ≤ 37))) → ¬ ((b = 142 ∨ b = 143) ∧ 24 ≤ k) → ¬ (144 ≤ b ∧ b ≤ 146 ∧ 96 ≤ k) → ¬ (b = 141 ∧ k = 4) → ¬ (b = 147 ∧ (k = 2 ∨ k = v)) → ¬ ((b = 148 ∨ b = 149) ∧ (16 ≤ k ∨ (8 * v ≤ k ∧ k < 8 * v + 8))) → y b k = im b k := fun b k q1 q2 q3 q4 q5 q6 q7 q8 => by
    rw [ey b k (by omega), CF b k (by omega), ez b k (by omega), B3 b k (by omega) (by omega) (by omega) (by omega) (by omega) (by omega), ew b k (by omega), A3 b k (by omega) (by omega)]
  have dX : ∀ b k, ll 2 ≤ b → b ≤ ll 2 + 2 → y b k = m1 b k := fun b k q1 q2 => by
    rw [ey b k (by omega), CF b k (by omega), ez b k (by omega), B3 b k (by omega) (by omega) (by omega) (by omega) (by omega) (by omega), ew b k (by omega)]
  subst hrr
  refine ⟨nI c, w, _, y, _, _, _, E1, E2, hI.nl hv (fun b k q => EE b k (by omega) (by omega) (by omega) (by omega) (by omega) (by omega) (by omega) (by omega)) ⟨?_, ?_⟩ (IL_of (B := im 140) (N := tx im) hc6 y0 ?_ ?_ ?_)⟩
  · rw [ey _ _ (by omega), CF _ _ (by omega), ez _ _ (by omega), B3 _ _ (by omega) (by omega) (by omega) (by omega) (by omega) (by omega), ← hw, w2_s]
  · rw [← hy, w2_s]
  · rw [dX _ _ (by omega) (by omega)]; exact a0
  · intro i hi
    exact gW_c (G i hi) (fun b k b1 b2 b3 => dX b k (by omega) (by omega))
  · intro i hi
    have l := CL i hi
    rw [ey _ _ (by omega), ey _ _ (by omega), l.1, l.2, ez _ _ (by omega), ez _ _ (by omega)]
    exact H i hi
end PRG
