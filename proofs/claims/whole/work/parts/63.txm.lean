-- needs: 62
/-! A whole text: the model. -/
theorem stb0 : pm_stb 0 = [nI 59] := by decide
theorem isW0 (B : Nat → Int32) (T : Nat × Nat) : (isW B (pm_stb 0) T = true) = (T.2 - T.1 = 1 ∧ B T.1 = nI 59) := by
  rw [stb0]
  show ((decide (T.2 - T.1 = 1) && (true && decide (B (T.1 + 0) = nI 59))) = true) = _
  rw [Bool.true_and, Nat.add_zero, Bool.and_eq_true, decide_eq_true_eq, decide_eq_true_eq]
section TXM
variable {im σ : IM} {rm : RM} {pp ll : Nat → Nat} {B : Nat → Int32} {N : Nat} {T : Nat × Nat}
theorem c1280 {m m1 : IM} {b : Bool} (h : ev 126 0 [.ref 129, pm_u, pm_u] [] m rm = some (some (.int (bB b)), m1, rm)) : ev 128 0 [.ref 129, .int (nI 0)] [] m rm = some (some (.int (bB b)), m1, rm) := by
  simp only [s128_0, s128_1, s128_4, s128_5, s128_8, s128_11, s128_12, s128_15, ↓reduceIte, Option.bind_some, Option.toList, List.cons_append, List.nil_append, bB_0, bB_z, z01_0, z01_1, n01, n00, pm_ro_some, reduceCtorEq, if_true, if_false, and_self, and_true, true_and, not_true, not_false_eq_true, Nat.reduceLeDiff, Nat.reduceAdd, kdM, h]
theorem st1290 (hm : rmM rm) (hN : N ≤ 160) {m : IM} (c : MK B N m T) (o : oT B N T) {k : Nat} (hk : k ≤ 6) (c4 : m 141 4 = nI k) (hs : ¬ (k < 6 ∧ isW B (pm_stb 0) T = true)) (i : Nat) : ev 129 36 [.ref 129, .int (nI 0), pm_u] [] m rm = some (some (.int (fv (decide (T.1 = N), i, T))), m, rm) := by
  obtain ⟨t, t1, t2, t3⟩ := c
  obtain ⟨o1, o2, o3, o4⟩ := o
  rw [isW0] at hs
  by_cases e : T.1 = N
  · rw [decide_eq_true e]
    simp only [s129_36, s129_37, s129_40, s129_41, s129_44, s129_135, s129_136, ↓reduceIte, Option.bind_some, Option.toList, List.cons_append, List.nil_append, bB_0, bB_z, z01_0, z01_1, n01, n00, pm_ro_some, reduceCtorEq, if_true, if_false, and_self, and_true, true_and, not_true, not_false_eq_true, Nat.reduceLeDiff, Nat.reduceAdd, kdM, t2, t.1, e, lpT] <;> rfl
  · have e' : T.1 < N := by omega
    rw [decide_eq_false e]
    by_cases a : T.2 - T.1 = 1
    · by_cases b : B T.1 = nI 59
      · have e6 : k = 6 := by
          by_cases q : k < 6
          · exact absurd ⟨q, a, b⟩ hs
          · omega
        subst e6
        simp only [s129_36, s129_37, s129_40, s129_41, s129_44, s129_47, s129_48, s129_51, s129_52, s129_55, s129_56, s129_57, s129_60, s129_61, s129_64, s129_65, s129_68, s129_69, s129_71, s129_74, s129_75, s129_78, s129_79, s129_82, s129_83, s129_84, s129_86, s129_89, s129_92, s129_93, s129_96, s129_97, s129_98, s129_100, s129_103, s129_104, s129_107, s129_108, s129_109, s129_110, s129_123, s129_124, s129_127, s129_128, s129_131, ↓reduceIte, Option.bind_some, Option.toList, List.cons_append, List.nil_append, bB_0, bB_z, z01_0, z01_1, n01, n00, pm_ro_some, reduceCtorEq, if_true, if_false, and_self, and_true, true_and, not_true, not_false_eq_true, Nat.reduceLeDiff, Nat.reduceAdd, kdM, hm, t2, t3, t.1, lpF e' (show N < 2 ^ 31 by omega), nI_sbn o1, a, ix (show T.1 < 160 by omega), t.2 T.1 e', b, ix (show 4 < 5 by decide), c4, lpT] <;> rfl
      · simp only [s129_36, s129_37, s129_40, s129_41, s129_44, s129_47, s129_48, s129_51, s129_52, s129_55, s129_56, s129_57, s129_60, s129_61, s129_64, s129_65, s129_68, s129_69, s129_71, s129_107, s129_108, s129_109, s129_110, s129_123, s129_124, s129_127, s129_128, s129_131, ↓reduceIte, Option.bind_some, Option.toList, List.cons_append, List.nil_append, bB_0, bB_z, z01_0, z01_1, n01, n00, pm_ro_some, reduceCtorEq, if_true, if_false, and_self, and_true, true_and, not_true, not_false_eq_true, Nat.reduceLeDiff, Nat.reduceAdd, kdM, hm, t2, t3, t.1, lpF e' (show N < 2 ^ 31 by omega), nI_sbn o1, a, ix (show T.1 < 160 by omega), t.2 T.1 e', b] <;> rfl
    · simp only [s129_36, s129_37, s129_40, s129_41, s129_44, s129_47, s129_48, s129_51, s129_52, s129_55, s129_56, s129_57, s129_107, s129_108, s129_109, s129_110, s129_123, s129_124, s129_127, s129_128, s129_131, ↓reduceIte, Option.bind_some, Option.toList, List.cons_append, List.nil_append, bB_0, bB_z, z01_0, z01_1, n01, n00, pm_ro_some, reduceCtorEq, if_true, if_false, and_self, and_true, true_and, not_true, not_false_eq_true, Nat.reduceLeDiff, Nat.reduceAdd, kdM, hm, t2, t3, t.1, lpF e' (show N < 2 ^ 31 by omega), nI_sbn o1, nI_eqq (show T.2 - T.1 < 2 ^ 31 by omega) (show 1 < 2 ^ 31 by decide), a] <;> rfl
theorem go1290 (hm : rmM rm) (hN : N ≤ 160) {m : IM} (c : MK B N m T) (o : oT B N T) {k : Nat} (hk : k < 6) (c4 : m 141 4 = nI k) (hs : isW B (pm_stb 0) T = true) : ev 129 36 [.ref 129, .int (nI 0), pm_u] [] m rm = ev 129 113 [.ref 129, .int (nI 0), .int (nI 1)] [] m rm := by
  obtain ⟨t, t1, t2, t3⟩ := c
  obtain ⟨o1, o2, o3, o4⟩ := o
  rw [isW0] at hs
  have e' : T.1 < N := by omega
  simp only [s129_36, s129_37, s129_40, s129_41, s129_44, s129_47, s129_48, s129_51, s129_52, s129_55, s129_56, s129_57, s129_60, s129_61, s129_64, s129_65, s129_68, s129_69, s129_71, s129_74, s129_75, s129_78, s129_79, s129_82, s129_83, s129_84, s129_86, s129_89, s129_92, s129_93, s129_96, s129_97, s129_98, s129_100, s129_103, s129_104, s129_107, s129_108, s129_109, s129_110, ↓reduceIte, Option.bind_some, Option.toList, List.cons_append, List.nil_append, bB_0, bB_z, z01_0, z01_1, n01, n00, pm_ro_some, reduceCtorEq, if_true, if_false, and_self, and_true, true_and, not_true, not_false_eq_true, Nat.reduceLeDiff, Nat.reduceAdd, kdM, hm, t2, t3, t.1, lpF e' (show N < 2 ^ 31 by omega), nI_sbn o1, hs.1, ix (show T.1 < 160 by omega), t.2 T.1 e', hs.2, ix (show 4 < 5 by decide), c4, lpF hk (show 6 < 2 ^ 31 by decide)]
theorem c1290 (hm : rmM rm) (hN : N ≤ 160) (h : TXm B N im) : ∃ im', ev 129 0 [.ref 129, .int (nI 0), pm_u] [] im rm = some (some (.int (fv (RP B N))), im', rm) ∧ ((RP B N).1 = true → im' 141 4 = nI (RP B N).2.1 ∧ ∀ j, j < (RP B N).2.1 → hP B N j im') ∧ FM im im' := by
  have loop : ∀ n k, k + n = 5 → ∀ m : IM, MK B N m (LPt B N (lst B N (LPt B N) (t0 B N) k)).2 → m 141 4 = nI (k + 1) → (∀ j, j < k + 1 → hP B N j m) → FM im m → ∃ im', ev 129 36 [.ref 129, .int (nI 0), pm_u] [] m rm = some (some (.int (fv (lgx B N (LPt B N) (t0 B N) k n))), im', rm) ∧ ((lgx B N (LPt B N) (t0 B N) k n).1 = true → im' 141 4 = nI (lgx B N (LPt B N) (t0 B N) k n).2.1 ∧ ∀ j, j < (lgx B N (LPt B N) (t0 B N) k n).2.1 → hP B N j im') ∧ FM im im' := by
    intro n
    induction n with
    | zero =>
      intro k hk m c1 c4 c2 f1
      have oL := LPt_o _ (oT_l (L := LPt B N) LPt_o k)
      have e : lgx B N (LPt B N) (t0 B N) k 0 = (decide ((LPt B N (lst B N (LPt B N) (t0 B N) k)).2.1 = N), k + 1, (LPt B N (lst B N (LPt B N) (t0 B N) k)).2) := if_neg (fun q => absurd q.1 (by omega))
      rw [e]
      exact ⟨m, st1290 hm hN c1 oL (show k + 1 ≤ 6 by omega) c4 (fun q => absurd q.1 (by omega)) (k + 1), fun _ => ⟨c4, c2⟩, f1⟩
    | succ n ih =>
      intro k hk m c1 c4 c2 f1
      have oL := LPt_o _ (oT_l (L := LPt B N) LPt_o k)
      have ok := oT_l (L := LPt B N) LPt_o (k + 1)
      by_cases ga : isW B (pm_stb 0) (LPt B N (lst B N (LPt B N) (t0 B N) k)).2 = true
      rotate_left
      · have e : lgx B N (LPt B N) (t0 B N) k (n + 1) = (decide ((LPt B N (lst B N (LPt B N) (t0 B N) k)).2.1 = N), k + 1, (LPt B N (lst B N (LPt B N) (t0 B N) k)).2) := if_neg (fun q => ga q.2)
        rw [e]
        exact ⟨m, st1290 hm hN c1 oL (show k + 1 ≤ 6 by omega) c4 (fun q => ga q.2) (k + 1), fun _ => ⟨c4, c2⟩, f1⟩
      have e : lgx B N (LPt B N) (t0 B N) k (n + 1) = lgo B N (LPt B N) (t0 B N) (k + 1) (n + 1) := if_pos ⟨by omega, ga⟩
      rw [e, lgo_s, go1290 hm hN c1 oL (show k + 1 < 6 by omega) c4 ga]
      obtain ⟨m1, G1, G2, G3, G4⟩ := gM (rm := rm) hm hN c1 oL
      have G2' : MK B N m1 (lst B N (LPt B N) (t0 B N) (k + 1)) := G2
      have q4 : m1 141 4 = nI (k + 1) := by rw [G4 _ _ (by omega)]; exact c4
      obtain ⟨m2, A1, A2, A3, A4⟩ := c126 (rm := rm) hm hN G2' ok (show k + 1 < 6 by omega) q4
      have A1' := c1280 A1
      have f2 : FM im m2 := fun b j q1 q2 q3 q4 q5 q6 => by rw [A4 b j q1 (by omega) (by omega) (by omega), G4 b j q1]; exact f1 b j q1 q2 q3 q4 q5 q6
      by_cases g : (LPt B N (lst B N (LPt B N) (t0 B N) (k + 1))).1 = true
      · rw [if_pos g]
        have g' : (lnp B N (lst B N (LPt B N) (t0 B N) (k + 1))).1 = true := g
        rw [g'] at A1'
        obtain ⟨im', E1, E2⟩ := ih (k + 1) (by omega) m2 A2 (A3 g').2 (fun j hj => by
          by_cases q : j = k + 1
          · rw [q]; exact (A3 g').1
          · exact hP_c (c2 j (by omega)) (fun b i b1 b2 b3 b4 => by rw [A4 b i (by omega) (by omega) (by omega) (by omega), G4 b i (by omega)])) f2
        refine ⟨im', ?_, E2⟩
        rw [← E1]
        simp only [s129_113, s129_114, s129_117, s129_118, s129_119, s129_122, s129_123, s129_124, s129_127, s129_128, s129_131, s129_132, ↓reduceIte, Option.bind_some, Option.toList, List.cons_append, List.nil_append, bB_0, bB_z, z01_0, z01_1, n01, n00, pm_ro_some, reduceCtorEq, if_true, if_false, and_self, and_true, true_and, not_true, not_false_eq_true, Nat.reduceLeDiff, Nat.reduceAdd, kdM, G1, A1', bB, cond_true]
      · rw [if_neg g]
        rw [show (lnp B N (lst B N (LPt B N) (t0 B N) (k + 1))).1 = false from bf g] at A1'
        have s := A2.2.2.1
        refine ⟨m2, ?_, fun q => (by cases q), f2⟩
        simp only [s129_113, s129_114, s129_117, s129_118, s129_119, s129_122, s129_123, s129_124, s129_127, s129_128, s129_131, ↓reduceIte, Option.bind_some, Option.toList, List.cons_append, List.nil_append, bB_0, bB_z, z01_0, z01_1, n01, n00, pm_ro_some, reduceCtorEq, if_true, if_false, and_self, and_true, true_and, not_true, not_false_eq_true, Nat.reduceLeDiff, Nat.reduceAdd, kdM, G1, A1', bB, cond_false, s] <;> rfl
  generalize hw : pm_w2 (pm_w2 (pm_w2 im 129 34 (nI 0)) 141 4 (nI 0)) 147 2 (nI 0) = w
  have ew : ∀ b k, ¬ (b = 129 ∧ k = 34) → ¬ (b = 141 ∧ k = 4) → ¬ (b = 147 ∧ k = 2) → w b k = im b k := fun b k q1 q2 q3 => by rw [← hw, w2_n q3, w2_n q2, w2_n q1]
  have w1 : w 129 34 = nI 0 := by rw [← hw, w2_a (by omega), w2_a (by omega), w2_s]
  have w2 : w 141 4 = nI 0 := by rw [← hw]; rw [w2_a (by omega), w2_s]
  have tw : TXm B N w := ⟨by rw [ew _ _ (by omega) (by omega) (by omega)]; exact h.1, fun i hi => by rw [ew _ _ (by omega) (by omega) (by omega)]; exact h.2 i hi⟩
  obtain ⟨m1, A1, A2, A7, A3⟩ := c120 (rm := rm) hm hN tw (Nat.zero_le N) w1
  have c1 : MK B N m1 (t0 B N) := ⟨tw.f A3, A2⟩
  have q4 : m1 141 4 = nI 0 := by rw [A3 _ _ (by omega)]; exact w2
  obtain ⟨m2, D1, D2, D3, D4⟩ := c126 (rm := rm) hm hN c1 oT_0 (show 0 < 6 by decide) q4
  have D1' := c1280 D1
  have f2 : FM im m2 := fun b j q1 q2 q3 q4 q5 q6 => by rw [D4 b j q1 (by omega) (by omega) (by omega), A3 b j q1, ew b j (by omega) q4 q5]
  rw [show RP B N = lgo B N (LPt B N) (t0 B N) 0 (5 + 1) from rfl, lgo_s]
  by_cases g : (LPt B N (lst B N (LPt B N) (t0 B N) 0)).1 = true
  · rw [if_pos g]
    have g' : (lnp B N (t0 B N)).1 = true := g
    rw [g'] at D1'
    obtain ⟨im', E1, E2⟩ := loop 5 0 rfl m2 D2 (D3 g').2 (fun j hj => by
      rw [show j = 0 by omega]
      exact (D3 g').1) f2
    refine ⟨im', ?_, E2⟩
    rw [← E1]
    simp only [s129_0, s129_1, s129_2, s129_5, s129_6, s129_9, s129_10, s129_11, s129_12, s129_13, s129_16, s129_17, s129_18, s129_19, s129_20, s129_23, s129_24, s129_25, s129_28, ↓reduceIte, Option.bind_some, Option.toList, List.cons_append, List.nil_append, bB_0, bB_z, z01_0, z01_1, n01, n00, pm_ro_some, reduceCtorEq, if_true, if_false, and_self, and_true, true_and, not_true, not_false_eq_true, Nat.reduceLeDiff, Nat.reduceAdd, kdM, hm, ix (show 4 < 5 by decide), ix (show 2 < 3 by decide), hw, A1, D1', bB, cond_true]
  · rw [if_neg g]
    rw [show (lnp B N (t0 B N)).1 = false from bf g] at D1'
    have s := D2.2.2.1
    refine ⟨m2, ?_, fun q => (by cases q), f2⟩
    simp only [s129_0, s129_1, s129_2, s129_5, s129_6, s129_9, s129_10, s129_11, s129_12, s129_13, s129_16, s129_17, s129_18, s129_19, s129_20, s129_23, s129_24, s129_25, s129_28, s129_31, s129_32, s129_35, ↓reduceIte, Option.bind_some, Option.toList, List.cons_append, List.nil_append, bB_0, bB_z, z01_0, z01_1, n01, n00, pm_ro_some, reduceCtorEq, if_true, if_false, and_self, and_true, true_and, not_true, not_false_eq_true, Nat.reduceLeDiff, Nat.reduceAdd, kdM, hm, ix (show 4 < 5 by decide), ix (show 2 < 3 by decide), hw, A1, D1', bB, cond_false, s] <;> rfl
theorem c1281 {m m1 : IM} {b : Bool} (h : ev 127 0 [.ref 129, pm_u, pm_u] [] m rm = some (some (.int (bB b)), m1, rm)) : ev 128 0 [.ref 129, .int (nI 1)] [] m rm = some (some (.int (bB b)), m1, rm) := by
  simp only [s128_0, s128_1, s128_4, s128_5, s128_8, s128_11, s128_12, s128_15, ↓reduceIte, Option.bind_some, Option.toList, List.cons_append, List.nil_append, bB_0, bB_z, z01_0, z01_1, n01, n00, pm_ro_some, reduceCtorEq, if_true, if_false, and_self, and_true, true_and, not_true, not_false_eq_true, Nat.reduceLeDiff, Nat.reduceAdd, kdM, h]
theorem st1291 (hm : rmM rm) (hN : N ≤ 160) {m : IM} (c : MK B N m T) (o : oT B N T) {k : Nat} (hk : k ≤ 8) (c4 : m 147 2 = nI k) (hs : ¬ (k < 8 ∧ isW B (pm_stb 0) T = true)) (i : Nat) : ev 129 36 [.ref 129, .int (nI 1), pm_u] [] m rm = some (some (.int (fv (decide (T.1 = N), i, T))), m, rm) := by
  obtain ⟨t, t1, t2, t3⟩ := c
  obtain ⟨o1, o2, o3, o4⟩ := o
  rw [isW0] at hs
  by_cases e : T.1 = N
  · rw [decide_eq_true e]
    simp only [s129_36, s129_37, s129_40, s129_41, s129_44, s129_135, s129_136, ↓reduceIte, Option.bind_some, Option.toList, List.cons_append, List.nil_append, bB_0, bB_z, z01_0, z01_1, n01, n00, pm_ro_some, reduceCtorEq, if_true, if_false, and_self, and_true, true_and, not_true, not_false_eq_true, Nat.reduceLeDiff, Nat.reduceAdd, kdM, t2, t.1, e, lpT] <;> rfl
  · have e' : T.1 < N := by omega
    rw [decide_eq_false e]
    by_cases a : T.2 - T.1 = 1
    · by_cases b : B T.1 = nI 59
      · have e6 : k = 8 := by
          by_cases q : k < 8
          · exact absurd ⟨q, a, b⟩ hs
          · omega
        subst e6
        simp only [s129_36, s129_37, s129_40, s129_41, s129_44, s129_47, s129_48, s129_51, s129_52, s129_55, s129_56, s129_57, s129_60, s129_61, s129_64, s129_65, s129_68, s129_69, s129_71, s129_74, s129_75, s129_78, s129_79, s129_82, s129_83, s129_84, s129_86, s129_89, s129_92, s129_93, s129_96, s129_97, s129_98, s129_100, s129_103, s129_104, s129_107, s129_108, s129_109, s129_110, s129_123, s129_124, s129_127, s129_128, s129_131, ↓reduceIte, Option.bind_some, Option.toList, List.cons_append, List.nil_append, bB_0, bB_z, z01_0, z01_1, n01, n00, pm_ro_some, reduceCtorEq, if_true, if_false, and_self, and_true, true_and, not_true, not_false_eq_true, Nat.reduceLeDiff, Nat.reduceAdd, kdM, hm, t2, t3, t.1, lpF e' (show N < 2 ^ 31 by omega), nI_sbn o1, a, ix (show T.1 < 160 by omega), t.2 T.1 e', b, ix (show 2 < 3 by decide), c4, lpT] <;> rfl
      · simp only [s129_36, s129_37, s129_40, s129_41, s129_44, s129_47, s129_48, s129_51, s129_52, s129_55, s129_56, s129_57, s129_60, s129_61, s129_64, s129_65, s129_68, s129_69, s129_71, s129_107, s129_108, s129_109, s129_110, s129_123, s129_124, s129_127, s129_128, s129_131, ↓reduceIte, Option.bind_some, Option.toList, List.cons_append, List.nil_append, bB_0, bB_z, z01_0, z01_1, n01, n00, pm_ro_some, reduceCtorEq, if_true, if_false, and_self, and_true, true_and, not_true, not_false_eq_true, Nat.reduceLeDiff, Nat.reduceAdd, kdM, hm, t2, t3, t.1, lpF e' (show N < 2 ^ 31 by omega), nI_sbn o1, a, ix (show T.1 < 160 by omega), t.2 T.1 e', b] <;> rfl
    · simp only [s129_36, s129_37, s129_40, s129_41, s129_44, s129_47, s129_48, s129_51, s129_52, s129_55, s129_56, s129_57, s129_107, s129_108, s129_109, s129_110, s129_123, s129_124, s129_127, s129_128, s129_131, ↓reduceIte, Option.bind_some, Option.toList, List.cons_append, List.nil_append, bB_0, bB_z, z01_0, z01_1, n01, n00, pm_ro_some, reduceCtorEq, if_true, if_false, and_self, and_true, true_and, not_true, not_false_eq_true, Nat.reduceLeDiff, Nat.reduceAdd, kdM, hm, t2, t3, t.1, lpF e' (show N < 2 ^ 31 by omega), nI_sbn o1, nI_eqq (show T.2 - T.1 < 2 ^ 31 by omega) (show 1 < 2 ^ 31 by decide), a] <;> rfl
theorem go1291 (hm : rmM rm) (hN : N ≤ 160) {m : IM} (c : MK B N m T) (o : oT B N T) {k : Nat} (hk : k < 8) (c4 : m 147 2 = nI k) (hs : isW B (pm_stb 0) T = true) : ev 129 36 [.ref 129, .int (nI 1), pm_u] [] m rm = ev 129 113 [.ref 129, .int (nI 1), .int (nI 1)] [] m rm := by
  obtain ⟨t, t1, t2, t3⟩ := c
  obtain ⟨o1, o2, o3, o4⟩ := o
  rw [isW0] at hs
  have e' : T.1 < N := by omega
  simp only [s129_36, s129_37, s129_40, s129_41, s129_44, s129_47, s129_48, s129_51, s129_52, s129_55, s129_56, s129_57, s129_60, s129_61, s129_64, s129_65, s129_68, s129_69, s129_71, s129_74, s129_75, s129_78, s129_79, s129_82, s129_83, s129_84, s129_86, s129_89, s129_92, s129_93, s129_96, s129_97, s129_98, s129_100, s129_103, s129_104, s129_107, s129_108, s129_109, s129_110, ↓reduceIte, Option.bind_some, Option.toList, List.cons_append, List.nil_append, bB_0, bB_z, z01_0, z01_1, n01, n00, pm_ro_some, reduceCtorEq, if_true, if_false, and_self, and_true, true_and, not_true, not_false_eq_true, Nat.reduceLeDiff, Nat.reduceAdd, kdM, hm, t2, t3, t.1, lpF e' (show N < 2 ^ 31 by omega), nI_sbn o1, hs.1, ix (show T.1 < 160 by omega), t.2 T.1 e', hs.2, ix (show 2 < 3 by decide), c4, lpF hk (show 8 < 2 ^ 31 by decide)]
theorem c1291 (hm : rmM rm) (hN : N ≤ 160) (h : TXm B N im) : ∃ im', ev 129 0 [.ref 129, .int (nI 1), pm_u] [] im rm = some (some (.int (fv (RW B N))), im', rm) ∧ ((RW B N).1 = true → im' 147 2 = nI (RW B N).2.1 ∧ ∀ j, j < (RW B N).2.1 → hW B N j im') ∧ FM im im' := by
  have loop : ∀ n k, k + n = 7 → ∀ m : IM, MK B N m (LWt B N (lst B N (LWt B N) (t0 B N) k)).2 → m 147 2 = nI (k + 1) → (∀ j, j < k + 1 → hW B N j m) → FM im m → ∃ im', ev 129 36 [.ref 129, .int (nI 1), pm_u] [] m rm = some (some (.int (fv (lgx B N (LWt B N) (t0 B N) k n))), im', rm) ∧ ((lgx B N (LWt B N) (t0 B N) k n).1 = true → im' 147 2 = nI (lgx B N (LWt B N) (t0 B N) k n).2.1 ∧ ∀ j, j < (lgx B N (LWt B N) (t0 B N) k n).2.1 → hW B N j im') ∧ FM im im' := by
    intro n
    induction n with
    | zero =>
      intro k hk m c1 c4 c2 f1
      have oL := LWt_o _ (oT_l (L := LWt B N) LWt_o k)
      have e : lgx B N (LWt B N) (t0 B N) k 0 = (decide ((LWt B N (lst B N (LWt B N) (t0 B N) k)).2.1 = N), k + 1, (LWt B N (lst B N (LWt B N) (t0 B N) k)).2) := if_neg (fun q => absurd q.1 (by omega))
      rw [e]
      exact ⟨m, st1291 hm hN c1 oL (show k + 1 ≤ 8 by omega) c4 (fun q => absurd q.1 (by omega)) (k + 1), fun _ => ⟨c4, c2⟩, f1⟩
    | succ n ih =>
      intro k hk m c1 c4 c2 f1
      have oL := LWt_o _ (oT_l (L := LWt B N) LWt_o k)
      have ok := oT_l (L := LWt B N) LWt_o (k + 1)
      by_cases ga : isW B (pm_stb 0) (LWt B N (lst B N (LWt B N) (t0 B N) k)).2 = true
      rotate_left
      · have e : lgx B N (LWt B N) (t0 B N) k (n + 1) = (decide ((LWt B N (lst B N (LWt B N) (t0 B N) k)).2.1 = N), k + 1, (LWt B N (lst B N (LWt B N) (t0 B N) k)).2) := if_neg (fun q => ga q.2)
        rw [e]
        exact ⟨m, st1291 hm hN c1 oL (show k + 1 ≤ 8 by omega) c4 (fun q => ga q.2) (k + 1), fun _ => ⟨c4, c2⟩, f1⟩
      have e : lgx B N (LWt B N) (t0 B N) k (n + 1) = lgo B N (LWt B N) (t0 B N) (k + 1) (n + 1) := if_pos ⟨by omega, ga⟩
      rw [e, lgo_s, go1291 hm hN c1 oL (show k + 1 < 8 by omega) c4 ga]
      obtain ⟨m1, G1, G2, G3, G4⟩ := gM (rm := rm) hm hN c1 oL
      have G2' : MK B N m1 (lst B N (LWt B N) (t0 B N) (k + 1)) := G2
      have q4 : m1 147 2 = nI (k + 1) := by rw [G4 _ _ (by omega)]; exact c4
      obtain ⟨m2, A1, A2, A3, A4⟩ := c127 (rm := rm) hm hN G2' ok (show k + 1 < 8 by omega) q4
      have A1' := c1281 A1
      have f2 : FM im m2 := fun b j q1 q2 q3 q4 q5 q6 => by rw [A4 b j q1 (by omega) (by omega), G4 b j q1]; exact f1 b j q1 q2 q3 q4 q5 q6
      by_cases g : (LWt B N (lst B N (LWt B N) (t0 B N) (k + 1))).1 = true
      · rw [if_pos g]
        have g' : (lwp B N (lst B N (LWt B N) (t0 B N) (k + 1))).1 = true := g
        rw [g'] at A1'
        obtain ⟨im', E1, E2⟩ := ih (k + 1) (by omega) m2 A2 (A3 g').2 (fun j hj => by
          by_cases q : j = k + 1
          · rw [q]; exact (A3 g').1
          · exact hW_c (c2 j (by omega)) (fun b i b1 b2 b3 => by rw [A4 b i (by omega) (by omega) (by omega), G4 b i (by omega)])) f2
        refine ⟨im', ?_, E2⟩
        rw [← E1]
        simp only [s129_113, s129_114, s129_117, s129_118, s129_119, s129_122, s129_123, s129_124, s129_127, s129_128, s129_131, s129_132, ↓reduceIte, Option.bind_some, Option.toList, List.cons_append, List.nil_append, bB_0, bB_z, z01_0, z01_1, n01, n00, pm_ro_some, reduceCtorEq, if_true, if_false, and_self, and_true, true_and, not_true, not_false_eq_true, Nat.reduceLeDiff, Nat.reduceAdd, kdM, G1, A1', bB, cond_true]
      · rw [if_neg g]
        rw [show (lwp B N (lst B N (LWt B N) (t0 B N) (k + 1))).1 = false from bf g] at A1'
        have s := A2.2.2.1
        refine ⟨m2, ?_, fun q => (by cases q), f2⟩
        simp only [s129_113, s129_114, s129_117, s129_118, s129_119, s129_122, s129_123, s129_124, s129_127, s129_128, s129_131, ↓reduceIte, Option.bind_some, Option.toList, List.cons_append, List.nil_append, bB_0, bB_z, z01_0, z01_1, n01, n00, pm_ro_some, reduceCtorEq, if_true, if_false, and_self, and_true, true_and, not_true, not_false_eq_true, Nat.reduceLeDiff, Nat.reduceAdd, kdM, G1, A1', bB, cond_false, s] <;> rfl
  generalize hw : pm_w2 (pm_w2 (pm_w2 im 129 34 (nI 0)) 141 4 (nI 0)) 147 2 (nI 0) = w
  have ew : ∀ b k, ¬ (b = 129 ∧ k = 34) → ¬ (b = 141 ∧ k = 4) → ¬ (b = 147 ∧ k = 2) → w b k = im b k := fun b k q1 q2 q3 => by rw [← hw, w2_n q3, w2_n q2, w2_n q1]
  have w1 : w 129 34 = nI 0 := by rw [← hw, w2_a (by omega), w2_a (by omega), w2_s]
  have w2 : w 147 2 = nI 0 := by rw [← hw]; rw [w2_s]
  have tw : TXm B N w := ⟨by rw [ew _ _ (by omega) (by omega) (by omega)]; exact h.1, fun i hi => by rw [ew _ _ (by omega) (by omega) (by omega)]; exact h.2 i hi⟩
  obtain ⟨m1, A1, A2, A7, A3⟩ := c120 (rm := rm) hm hN tw (Nat.zero_le N) w1
  have c1 : MK B N m1 (t0 B N) := ⟨tw.f A3, A2⟩
  have q4 : m1 147 2 = nI 0 := by rw [A3 _ _ (by omega)]; exact w2
  obtain ⟨m2, D1, D2, D3, D4⟩ := c127 (rm := rm) hm hN c1 oT_0 (show 0 < 8 by decide) q4
  have D1' := c1281 D1
  have f2 : FM im m2 := fun b j q1 q2 q3 q4 q5 q6 => by rw [D4 b j q1 (by omega) (by omega), A3 b j q1, ew b j (by omega) q4 q5]
  rw [show RW B N = lgo B N (LWt B N) (t0 B N) 0 (7 + 1) from rfl, lgo_s]
  by_cases g : (LWt B N (lst B N (LWt B N) (t0 B N) 0)).1 = true
  · rw [if_pos g]
    have g' : (lwp B N (t0 B N)).1 = true := g
    rw [g'] at D1'
    obtain ⟨im', E1, E2⟩ := loop 7 0 rfl m2 D2 (D3 g').2 (fun j hj => by
      rw [show j = 0 by omega]
      exact (D3 g').1) f2
    refine ⟨im', ?_, E2⟩
    rw [← E1]
    simp only [s129_0, s129_1, s129_2, s129_5, s129_6, s129_9, s129_10, s129_11, s129_12, s129_13, s129_16, s129_17, s129_18, s129_19, s129_20, s129_23, s129_24, s129_25, s129_28, ↓reduceIte, Option.bind_some, Option.toList, List.cons_append, List.nil_append, bB_0, bB_z, z01_0, z01_1, n01, n00, pm_ro_some, reduceCtorEq, if_true, if_false, and_self, and_true, true_and, not_true, not_false_eq_true, Nat.reduceLeDiff, Nat.reduceAdd, kdM, hm, ix (show 4 < 5 by decide), ix (show 2 < 3 by decide), hw, A1, D1', bB, cond_true]
  · rw [if_neg g]
    rw [show (lwp B N (t0 B N)).1 = false from bf g] at D1'
    have s := D2.2.2.1
    refine ⟨m2, ?_, fun q => (by cases q), f2⟩
    simp only [s129_0, s129_1, s129_2, s129_5, s129_6, s129_9, s129_10, s129_11, s129_12, s129_13, s129_16, s129_17, s129_18, s129_19, s129_20, s129_23, s129_24, s129_25, s129_28, s129_31, s129_32, s129_35, ↓reduceIte, Option.bind_some, Option.toList, List.cons_append, List.nil_append, bB_0, bB_z, z01_0, z01_1, n01, n00, pm_ro_some, reduceCtorEq, if_true, if_false, and_self, and_true, true_and, not_true, not_false_eq_true, Nat.reduceLeDiff, Nat.reduceAdd, kdM, hm, ix (show 4 < 5 by decide), ix (show 2 < 3 by decide), hw, A1, D1', bB, cond_false, s] <;> rfl
end TXM
