-- needs: 35 37
/-! set, both sides. -/
theorem inG (x : Int32) {lo hi : Nat} (h1 : lo < 2 ^ 31) (h2 : hi < 2 ^ 31) : decide (lN lo ≤ x.toInt64 ∧ x.toInt64 ≤ lN hi) = decide (¬ x < nI lo ∧ x ≤ nI hi) := by
  apply Bool.eq_iff_iff.mpr
  rw [decide_eq_true_eq, decide_eq_true_eq, i64_le, i64_le, i32_lt, i32_le, lN_toInt h1, lN_toInt h2, nI_toInt h1, nI_toInt h2, Int32.toInt_toInt64]
  omega
theorem c78 {im : IM} {rm : RM} {a j n : Nat} (hk : kd a = 0) (hl : ln a = n) (hn : n < 2 ^ 31) (hj : j < n) (v : Int32) : ev 78 0 [.ref a, .int (nI j), .int v, pm_u] [] im rm = some (some (.int (im a j)), pm_w2 im a j v, rm) := by
  simp only [s78_0, s78_1, s78_2, s78_3, s78_4, s78_5, s78_6, s78_7, s78_8, s78_9, ↓reduceIte, Option.bind_some, Option.toList, List.cons_append, List.nil_append, bB_0, bB_z, z01_0, z01_1, n01, n00, pm_ro_some, reduceCtorEq, if_true, if_false, and_self, and_true, true_and, not_true, not_false_eq_true, Nat.reduceLeDiff, Nat.reduceAdd, hk, hl, ix hj hn]
theorem p44 {im : IM} {rm : RM} {pp ll : Nat → Nat} (hI : INV im rm pp ll) (w x : Int32) : PAIR 44 [.ref 0, .int w, .int x, pm_u, pm_u] 112 [.ref 129, .int w, .int x, pm_u] im rm := by
  have hx := hI.x
  have hm := hI.m
  by_cases g0 : pm_in w 4 = true
  rotate_left
  · exact PAIR.q hI (-3) ⟨im, by simp only [s44_0, s44_1, s44_2, s44_5, s44_6, s44_9, s44_12, s44_13, s44_16, s44_17, s44_17_t1, s44_17_t2, s44_18, s44_21, s44_22, s44_25, s44_26, s44_26_t1, s44_26_t2, s44_27, s44_30, s44_32, s44_33, s44_34, s44_37, s44_38, s44_39, s44_42, s44_43, s44_44, s44_48, s44_50, s44_53, s44_54, s44_57, s44_59, s44_60, s44_61, s44_64, s44_65, s44_65_t1, s44_65_t2, s44_66, s44_69, s44_72, s44_75, s44_76, ↓reduceIte, Option.bind_some, Option.toList, List.cons_append, List.nil_append, bB_0, bB_z, z01_0, z01_1, n01, n00, pm_ro_some, reduceCtorEq, if_true, if_false, and_self, and_true, true_and, not_true, not_false_eq_true, Nat.reduceLeDiff, Nat.reduceAdd, kdX, b75_4, kdE, tabL, hx, g0], SS.rf⟩ (fun im1 s1 => ⟨im1, by simp only [s112_0, s112_1, s112_4, s112_7, s112_8, s112_9, s112_10, s112_11, s112_14, s112_17, s112_20, s112_21, s112_22, s112_25, s112_28, s112_31, s112_32, s112_33, s112_36, s112_39, s112_42, s112_43, s112_44, s112_47, s112_50, s112_53, s112_56, s112_59, s112_62, s112_64, s112_65, s112_66, s112_69, s112_70, s112_71, s112_72, s112_73, s112_76, s112_77, s112_78, s112_79, s112_80, ↓reduceIte, Option.bind_some, Option.toList, List.cons_append, List.nil_append, bB_0, bB_z, z01_0, z01_1, n01, n00, pm_ro_some, reduceCtorEq, if_true, if_false, and_self, and_true, true_and, not_true, not_false_eq_true, Nat.reduceLeDiff, Nat.reduceAdd, kdM, c106, c104, hm, g0], s1⟩)
  obtain ⟨j, hj, rfl⟩ := pm_in_ex g0 (by decide)
  have main : ∀ lo hi : Nat, lo < 2 ^ 31 → hi < 2 ^ 31 → (pm_tabs.getD 1 []).getD j 0 = nI lo → (pm_tabs.getD 2 []).getD j 0 = nI hi → (∀ (im1 : IM), ev 112 0 [.ref 129, .int (nI j), .int x, pm_u] [] im1 rm = if decide (lN lo ≤ x.toInt64 ∧ x.toInt64 ≤ lN hi) = true then some (some (.int (im1 139 j)), pm_w2 im1 139 j x, rm) else some (some (.int (-3)), im1, rm)) → (∀ im2 : IM, im2 139 j = x → (∀ i, i < 4 → i ≠ j → im2 139 i = im 139 i) → ¬ x < nI lo → x ≤ nI hi → pm_in (im2 139 0) 10000 = true ∧ pm_in (im2 139 1) 1000 = true ∧ pm_in (im2 139 2) 100000 = true ∧ pm_in (im2 139 3) 101 = true) → PAIR 44 [.ref 0, .int (nI j), .int x, pm_u, pm_u] 112 [.ref 129, .int (nI j), .int x, pm_u] im rm := by
    intro lo hi hlo hhi t1 t2 hM hR
    rw [inG x hlo hhi] at hM
    have hc := ix hj
    by_cases g1 : x < nI lo
    · exact PAIR.q hI (-3) ⟨im, by simp only [s44_0, s44_1, s44_2, s44_5, s44_6, s44_9, s44_12, s44_13, s44_16, s44_17, s44_17_t1, s44_17_t2, s44_18, s44_21, s44_22, s44_25, s44_26, s44_26_t1, s44_26_t2, s44_27, s44_30, s44_32, s44_33, s44_34, s44_37, s44_38, s44_39, s44_42, s44_43, s44_44, s44_48, s44_50, s44_53, s44_54, s44_57, s44_59, s44_60, s44_61, s44_64, s44_65, s44_65_t1, s44_65_t2, s44_66, s44_69, s44_72, s44_75, s44_76, ↓reduceIte, Option.bind_some, Option.toList, List.cons_append, List.nil_append, bB_0, bB_z, z01_0, z01_1, n01, n00, pm_ro_some, reduceCtorEq, if_true, if_false, and_self, and_true, true_and, not_true, not_false_eq_true, Nat.reduceLeDiff, Nat.reduceAdd, kdX, b75_4, kdE, tabL, hx, g0, hc, t1, g1], SS.rf⟩ (fun im1 s1 => ⟨im1, by rw [hM, if_neg (by simp [g1])], s1⟩)
    by_cases g2 : x ≤ nI hi
    rotate_left
    · exact PAIR.q hI (-3) ⟨im, by simp only [s44_0, s44_1, s44_2, s44_5, s44_6, s44_9, s44_12, s44_13, s44_16, s44_17, s44_17_t1, s44_17_t2, s44_18, s44_21, s44_22, s44_25, s44_26, s44_26_t1, s44_26_t2, s44_27, s44_30, s44_32, s44_33, s44_34, s44_37, s44_38, s44_39, s44_42, s44_43, s44_44, s44_48, s44_50, s44_53, s44_54, s44_57, s44_59, s44_60, s44_61, s44_64, s44_65, s44_65_t1, s44_65_t2, s44_66, s44_69, s44_72, s44_75, s44_76, ↓reduceIte, Option.bind_some, Option.toList, List.cons_append, List.nil_append, bB_0, bB_z, z01_0, z01_1, n01, n00, pm_ro_some, reduceCtorEq, if_true, if_false, and_self, and_true, true_and, not_true, not_false_eq_true, Nat.reduceLeDiff, Nat.reduceAdd, kdX, b75_4, kdE, tabL, hx, g0, hc, t1, t2, g1, g2], SS.rf⟩ (fun im1 s1 => ⟨im1, by rw [hM, if_neg (by simp [g2])], s1⟩)
    generalize hp : pm_w2 im 11 j x = im0
    have key : ∀ i, i ≤ 6 → ∀ m : IM, (∀ b k, ¬ (∃ d, d < 6 ∧ b = dr d + 7) → m b k = im0 b k) → (∀ d, d < i → ∀ t, t < tk im d → m (dr d + 7) t = sotf (im0 (dr d + 2)) (im0 11 1) t) → ∃ im1, ev 44 46 [.ref 0, pm_u, pm_u, .int (im 11 j), .int (nI i)] [] m rm = some (some (.int (im 11 j)), im1, rm) ∧ (∀ b k, ¬ (∃ d, d < 6 ∧ b = dr d + 7) → im1 b k = im0 b k) ∧ (∀ d, d < 6 → ∀ t, t < tk im d → im1 (dr d + 7) t = sotf (im0 (dr d + 2)) (im0 11 1) t) := by
      refine dn ?_ ?_
      · intro m h1 h2
        refine ⟨m, ?_, h1, h2⟩
        simp only [s44_0, s44_1, s44_2, s44_5, s44_6, s44_9, s44_12, s44_13, s44_16, s44_17, s44_17_t1, s44_17_t2, s44_18, s44_21, s44_22, s44_25, s44_26, s44_26_t1, s44_26_t2, s44_27, s44_30, s44_32, s44_33, s44_34, s44_37, s44_38, s44_39, s44_42, s44_43, s44_44, s44_46, s44_48, s44_50, s44_53, s44_54, s44_57, s44_59, s44_60, s44_61, s44_64, s44_65, s44_65_t1, s44_65_t2, s44_66, s44_69, s44_72, s44_75, s44_76, ↓reduceIte, Option.bind_some, Option.toList, List.cons_append, List.nil_append, bB_0, bB_z, z01_0, z01_1, n01, n00, pm_ro_some, reduceCtorEq, if_true, if_false, and_self, and_true, true_and, not_true, not_false_eq_true, Nat.reduceLeDiff, Nat.reduceAdd, kdX, lpT]
      · intro i hi ih m h1 h2
        have D := hI.d i hi
        have dm := hI.dm hi
        have hne : ∀ k, k ≠ 7 → ¬ (k ≥ 8) → ¬ (∃ d, d < 6 ∧ dr i + k = dr d + 7) := by
          rintro k k1 k2 ⟨d, h1, h2⟩
          unfold dr at h2
          omega
        have q2 : m (dr i) 2 = nI (tk im i) := by
          rw [h1 (dr i) 2 (hne 0 (by omega) (by omega)), ← hp, w2_a (by unfold dr; omega)]
          exact D.le
        have q3 : m 11 1 = im0 11 1 := h1 _ _ (by rintro ⟨d, h1, h2⟩; unfold dr at h2; omega)
        obtain ⟨m', B1, B2, B3⟩ := c4 (im := m) (n := tk im i) (rm := rm) dm.2.2.1 ⟨dm.2.1.2.1, dm.2.1.2.2.2.2.2.2⟩ (kd_da hi (by omega) (by omega)) (kd_da hi (by omega) (by omega)) D.n40 q2 (m 11 1)
        obtain ⟨im1, e1, e2⟩ := ih m' (fun b k hb => by
          rw [B3 b k (fun q => hb ⟨i, hi, q⟩)]; exact h1 b k hb) (fun d hd t ht => by
          by_cases e : d = i
          · subst e
            rw [B2 t ht, q3]
            exact sotf_cg t (fun k hk => h1 _ _ (hne 2 (by omega) (by omega)))
          · rw [B3 _ _ (by unfold dr; omega)]; exact h2 d (by omega) t ht)
        refine ⟨im1, ?_, e2⟩
        rw [← e1, s44_46]
        simp only [s44_0, s44_1, s44_2, s44_5, s44_6, s44_9, s44_12, s44_13, s44_16, s44_17, s44_17_t1, s44_17_t2, s44_18, s44_21, s44_22, s44_25, s44_26, s44_26_t1, s44_26_t2, s44_27, s44_30, s44_32, s44_33, s44_34, s44_37, s44_38, s44_39, s44_42, s44_43, s44_44, s44_48, s44_50, s44_53, s44_54, s44_57, s44_59, s44_60, s44_61, s44_64, s44_65, s44_65_t1, s44_65_t2, s44_66, s44_69, s44_72, s44_75, s44_76, ↓reduceIte, Option.bind_some, Option.toList, List.cons_append, List.nil_append, bB_0, bB_z, z01_0, z01_1, n01, n00, pm_ro_some, reduceCtorEq, if_true, if_false, and_self, and_true, true_and, not_true, not_false_eq_true, Nat.reduceLeDiff, Nat.reduceAdd, kdX, hx, dm, ix hi, lpF hi (by decide), ix (show 1 < 4 by omega), B1, nI_add]
    obtain ⟨im1, A1, A2, A3⟩ := key 0 (by omega) im0 (fun _ _ _ => rfl) (fun d hd => absurd hd (by omega))
    have n7 : ∀ b, b < 51 ∨ 99 ≤ b → ¬ (∃ d, d < 6 ∧ b = dr d + 7) := by
      rintro b hb ⟨d, h1, h2⟩
      unfold dr at h2
      omega
    have f0 : ∀ b k, ¬ (b = 11 ∧ k = j) → im0 b k = im b k := fun b k hb => by rw [← hp, w2_n hb]
    have w1 : im1 139 j = im 139 j := by rw [A2 _ _ (n7 _ (by omega)), f0 _ _ (by omega)]
    refine ⟨im 11 j, im1, rm, pm_w2 im1 139 j x, rm, pp, ll, ?_, ?_, ?_⟩
    · simp only [s44_0, s44_1, s44_2, s44_5, s44_6, s44_9, s44_12, s44_13, s44_16, s44_17, s44_17_t1, s44_17_t2, s44_18, s44_21, s44_22, s44_25, s44_26, s44_26_t1, s44_26_t2, s44_27, s44_30, s44_32, s44_33, s44_34, s44_37, s44_38, s44_39, s44_42, s44_43, s44_44, s44_48, s44_50, s44_53, s44_54, s44_57, s44_59, s44_60, s44_61, s44_64, s44_65, s44_65_t1, s44_65_t2, s44_66, s44_69, s44_72, s44_75, s44_76, ↓reduceIte, Option.bind_some, Option.toList, List.cons_append, List.nil_append, bB_0, bB_z, z01_0, z01_1, n01, n00, pm_ro_some, reduceCtorEq, if_true, if_false, and_self, and_true, true_and, not_true, not_false_eq_true, Nat.reduceLeDiff, Nat.reduceAdd, kdX, b75_4, kdE, tabL, hx, g0, hc, t1, t2, g1, g2, c78 (j := j) kdX.2.2.2.2.2.2.2.2.2.2.2.1 (show ln 11 = 4 by simp only [kdX]) (by decide) hj, hp, A1]
    · rw [hM, if_pos (by simp [g1, g2]), w1, hI.s.1 j hj]
    · generalize hw : pm_w2 im1 139 j x = im2
      have E : ∀ b k, (b < 51 ∨ 99 ≤ b) → ¬ (b = 11 ∧ k = j) → ¬ (b = 139 ∧ k = j) → im2 b k = im b k := by
        intro b k h1 h2 h3
        rw [← hw, w2_n h3, A2 _ _ (n7 _ h1), f0 _ _ h2]
      have v1 : im2 11 j = x := by rw [← hw, w2_a (by omega), A2 _ _ (n7 _ (by omega)), ← hp, w2_s]
      have v2 : im2 139 j = x := by rw [← hw, w2_s]
      have s4 : ∀ i, i < 4 → im2 11 i = im2 139 i := by
        intro i hi
        by_cases e : i = j
        · rw [e, v1, v2]
        · rw [E 11 i (by omega) (by omega) (by omega), E 139 i (by omega) (by omega) (by omega)]; exact hI.s.1 i hi
      refine ⟨?_, ⟨s4, hR im2 v2 (fun i h1 h2 => E 139 i (by omega) (by omega) (by omega)) g1 g2⟩, ?_, ?_, ?_, ?_, ?_, ?_, ?_, ?_, hI.r, hI.x, hI.m⟩
      · intro d hd
        have D := hI.d d hd
        have hdr : dr d = 51 + 8 * d := rfl
        have et : tk im2 d = tk im d := by unfold tk; rw [E 132 d (by omega) (by omega) (by omega)]
        have o : ∀ k i, k < 7 → im2 (dr d + k) i = im (dr d + k) i := by
          intro k i hk
          rw [← hw, w2_a (by omega), A2 _ _ (by rintro ⟨d', h1, h2⟩; unfold dr at h2; omega), f0 _ _ (by omega)]
        have o0 : ∀ i, im2 (dr d) i = im (dr d) i := fun i => o 0 i (by omega)
        have F : ∀ b k, 130 ≤ b → b ≠ 139 → im2 b k = im b k := fun b k h1 h2 => E b k (by omega) (by omega) (by omega)
        refine ⟨?_, ?_, ?_, ?_, ?_, ?_, ?_, ?_, ?_, ?_, ?_⟩
        · rw [o0, F 130 d (by omega) (by omega)]; exact D.so
        · rw [o0, F 131 d (by omega) (by omega)]; exact D.st
        · rw [o0, et]; exact D.le
        · rw [o0, F 155 d (by omega) (by omega)]; exact D.lc
        · rw [F 130 d (by omega) (by omega)]; exact D.so2
        · rw [F 131 d (by omega) (by omega)]; exact D.st4
        · rw [F 155 d (by omega) (by omega)]; exact D.lc9
        · rw [F 132 d (by omega) (by omega), et]; exact D.mn
        · rw [et]; exact D.n40
        · intro t ht
          rw [et] at ht
          have R := D.row t ht
          rw [o 1 t (by omega), o 2 t (by omega), o 3 t (by omega), o 4 t (by omega), o 5 t (by omega), o 6 t (by omega), F 133 _ (by omega) (by omega), F 134 _ (by omega) (by omega), F 135 _ (by omega) (by omega), F 136 _ (by omega) (by omega), F 137 _ (by omega) (by omega), trs_cg (σ := im) (fun s hs => F 135 _ (by omega) (by omega))]
          refine ⟨R.1, R.2.1, R.2.2.1, R.2.2.2.1, R.2.2.2.2.1, R.2.2.2.2.2.1, ?_⟩
          rw [← hw, w2_a (by omega), A3 d hd t ht, hw]
          unfold sot
          rw [← s4 1 (by omega), show im2 11 1 = im0 11 1 by rw [← hw, w2_a (by omega), A2 _ _ (n7 _ (by omega))]]
          refine sotf_cg t (fun k hk => ?_)
          rw [f0 _ _ (by omega), F 134 _ (by omega) (by omega)]
          exact (D.row k (by omega)).2.1
        · intro t ht
          rw [et] at ht
          rw [F 133 _ (by omega) (by omega), F 134 _ (by omega) (by omega), F 135 _ (by omega) (by omega), F 136 _ (by omega) (by omega), F 137 _ (by omega) (by omega)]
          exact D.rng t ht
      · exact hI.o.cg (fun a i q => E a i (by omega) (by omega) (by omega))
      · exact hI.t.cg (fun a i q => E a i (by omega) (by omega) (by omega))
      · intro v hv
        have := hI.r.p v (by omega)
        exact (hI.p v hv).cg (fun k i hk => E _ _ (by omega) (by omega) (by omega)) (E _ _ (by omega) (by omega) (by omega)) (fun i hi => ⟨E _ _ (by omega) (by omega) (by omega), E _ _ (by omega) (by omega) (by omega)⟩) (fun i hi => ⟨E _ _ (by omega) (by omega) (by omega), E _ _ (by omega) (by omega) (by omega), E _ _ (by omega) (by omega) (by omega)⟩)
      · intro v hv
        have := hI.r.l v (by omega)
        exact (hI.l v hv).cg (fun k i hk => E _ _ (by omega) (by omega) (by omega)) (E _ _ (by omega) (by omega) (by omega)) (fun i hi => ⟨E _ _ (by omega) (by omega) (by omega), E _ _ (by omega) (by omega) (by omega)⟩)
      · exact hI.e.cg (fun a i q => E a i (by omega) (by omega) (by omega))
      · exact hI.c.cg (fun a i q => E a i (by omega) (by omega) (by omega))
      · exact hI.n.cg (fun a i q => E a i (by omega) (by omega) (by omega))
      · exact hI.q.cg (fun a i q => E a i (by omega) (by omega) (by omega))
  have S := hI.s
  have rg : ∀ n : Nat, n + 1 < 2 ^ 31 → ¬ x < nI 0 → x ≤ nI n → pm_in x (n + 1) = true := by
    intro n hn h1 h2
    rw [← in_le x hn]
    simp only [decide_eq_true_eq]
    exact ⟨Int32.not_lt.mp h1, h2⟩
  rcases (show j = 0 ∨ j = 1 ∨ j = 2 ∨ j = 3 by omega) with rfl | rfl | rfl | rfl
  · refine main 0 9999 (by decide) (by decide) (by decide) (by decide) (fun im1 => ?_) (fun im2 h1 h2 h3 h4 => ?_)
    · by_cases q : decide (lN 0 ≤ x.toInt64 ∧ x.toInt64 ≤ lN 9999) = true <;> simp only [s112_0, s112_1, s112_4, s112_7, s112_8, s112_9, s112_10, s112_11, s112_14, s112_17, s112_20, s112_21, s112_22, s112_25, s112_28, s112_31, s112_32, s112_33, s112_36, s112_39, s112_42, s112_43, s112_44, s112_47, s112_50, s112_53, s112_56, s112_59, s112_62, s112_64, s112_65, s112_66, s112_69, s112_70, s112_71, s112_72, s112_73, s112_76, s112_77, s112_78, s112_79, s112_80, ↓reduceIte, Option.bind_some, Option.toList, List.cons_append, List.nil_append, bB_0, bB_z, z01_0, z01_1, n01, n00, pm_ro_some, reduceCtorEq, if_true, if_false, and_self, and_true, true_and, not_true, not_false_eq_true, Nat.reduceLeDiff, Nat.reduceAdd, kdM, c106, c104, hm, g0, q, ix (show 0 < 4 by omega), show (nI 0 = nI 1) = False from by decide]
    · rw [h1, h2 1 (by omega) (by omega), h2 2 (by omega) (by omega), h2 3 (by omega) (by omega)]
      exact ⟨rg 9999 (by decide) h3 h4, S.2.2⟩
  · refine main 20 999 (by decide) (by decide) (by decide) (by decide) (fun im1 => ?_) (fun im2 h1 h2 h3 h4 => ?_)
    · by_cases q : decide (lN 20 ≤ x.toInt64 ∧ x.toInt64 ≤ lN 999) = true <;> simp only [s112_0, s112_1, s112_4, s112_7, s112_8, s112_9, s112_10, s112_11, s112_14, s112_17, s112_20, s112_21, s112_22, s112_25, s112_28, s112_31, s112_32, s112_33, s112_36, s112_39, s112_42, s112_43, s112_44, s112_47, s112_50, s112_53, s112_56, s112_59, s112_62, s112_64, s112_65, s112_66, s112_69, s112_70, s112_71, s112_72, s112_73, s112_76, s112_77, s112_78, s112_79, s112_80, ↓reduceIte, Option.bind_some, Option.toList, List.cons_append, List.nil_append, bB_0, bB_z, z01_0, z01_1, n01, n00, pm_ro_some, reduceCtorEq, if_true, if_false, and_self, and_true, true_and, not_true, not_false_eq_true, Nat.reduceLeDiff, Nat.reduceAdd, kdM, c106, c104, hm, g0, q, ix (show 1 < 4 by omega), show (nI 1 = nI 0) = False from by decide]
    · rw [h1, h2 0 (by omega) (by omega), h2 2 (by omega) (by omega), h2 3 (by omega) (by omega)]
      refine ⟨S.2.1, rg 999 (by decide) (fun q => h3 ?_) h4, S.2.2.2⟩
      exact Int32.lt_trans q (by decide)
  · refine main 0 99999 (by decide) (by decide) (by decide) (by decide) (fun im1 => ?_) (fun im2 h1 h2 h3 h4 => ?_)
    · by_cases q : decide (lN 0 ≤ x.toInt64 ∧ x.toInt64 ≤ lN 99999) = true <;> simp only [s112_0, s112_1, s112_4, s112_7, s112_8, s112_9, s112_10, s112_11, s112_14, s112_17, s112_20, s112_21, s112_22, s112_25, s112_28, s112_31, s112_32, s112_33, s112_36, s112_39, s112_42, s112_43, s112_44, s112_47, s112_50, s112_53, s112_56, s112_59, s112_62, s112_64, s112_65, s112_66, s112_69, s112_70, s112_71, s112_72, s112_73, s112_76, s112_77, s112_78, s112_79, s112_80, ↓reduceIte, Option.bind_some, Option.toList, List.cons_append, List.nil_append, bB_0, bB_z, z01_0, z01_1, n01, n00, pm_ro_some, reduceCtorEq, if_true, if_false, and_self, and_true, true_and, not_true, not_false_eq_true, Nat.reduceLeDiff, Nat.reduceAdd, kdM, c106, c104, hm, g0, q, ix (show 2 < 4 by omega), show (nI 2 = nI 0) = False from by decide, show (nI 2 = nI 1) = False from by decide]
    · rw [h1, h2 0 (by omega) (by omega), h2 1 (by omega) (by omega), h2 3 (by omega) (by omega)]
      exact ⟨S.2.1, S.2.2.1, rg 99999 (by decide) h3 h4, S.2.2.2.2⟩
  · refine main 0 100 (by decide) (by decide) (by decide) (by decide) (fun im1 => ?_) (fun im2 h1 h2 h3 h4 => ?_)
    · by_cases q : decide (lN 0 ≤ x.toInt64 ∧ x.toInt64 ≤ lN 100) = true <;> simp only [s112_0, s112_1, s112_4, s112_7, s112_8, s112_9, s112_10, s112_11, s112_14, s112_17, s112_20, s112_21, s112_22, s112_25, s112_28, s112_31, s112_32, s112_33, s112_36, s112_39, s112_42, s112_43, s112_44, s112_47, s112_50, s112_53, s112_56, s112_59, s112_62, s112_64, s112_65, s112_66, s112_69, s112_70, s112_71, s112_72, s112_73, s112_76, s112_77, s112_78, s112_79, s112_80, ↓reduceIte, Option.bind_some, Option.toList, List.cons_append, List.nil_append, bB_0, bB_z, z01_0, z01_1, n01, n00, pm_ro_some, reduceCtorEq, if_true, if_false, and_self, and_true, true_and, not_true, not_false_eq_true, Nat.reduceLeDiff, Nat.reduceAdd, kdM, c106, c104, hm, g0, q, ix (show 3 < 4 by omega), show (nI 3 = nI 0) = False from by decide, show (nI 3 = nI 1) = False from by decide, show (nI 3 = nI 2) = False from by decide]
    · rw [h1, h2 0 (by omega) (by omega), h2 1 (by omega) (by omega), h2 2 (by omega) (by omega)]
      exact ⟨S.2.1, S.2.2.1, S.2.2.2.1, rg 100 (by decide) h3 h4⟩
