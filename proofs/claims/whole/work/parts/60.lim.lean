-- needs: 59
/-! A program's line in a text: the model. -/
section LIM
variable {im σ : IM} {rm : RM} {pp ll : Nat → Nat} {B : Nat → Int32} {N : Nat} {T : Nat × Nat}
theorem MK.f {m m' : IM} {T' : Nat × Nat} (h : MK B N m T) (f : frM m m') (t : tkM m' T'.1 T'.2) : MK B N m' T' := ⟨h.1.f f, t⟩
theorem c126 (hm : rmM rm) (hN : N ≤ 160) (h : MK B N im T) (o : oT B N T) {i : Nat} (hi : i < 6) (hc : im 141 4 = nI i) : ∃ im', ev 126 0 [.ref 129, pm_u, pm_u] [] im rm = some (some (.int (bB (lnp B N T).1)), im', rm) ∧ MK B N im' (lnp B N T).2.2 ∧ ((lnp B N T).1 = true → cL B N T (im' 142 (24 + i)) (im' 143 (24 + i)) (im' 144) (im' 145) (im' 146) (4 * (24 + i)) ∧ im' 141 4 = nI (i + 1)) ∧ (∀ b k, ¬ (b = 129 ∧ 34 ≤ k ∧ k ≤ 37) → ¬ ((b = 142 ∨ b = 143) ∧ k = 24 + i) → ¬ (144 ≤ b ∧ b ≤ 146 ∧ 4 * (24 + i) ≤ k ∧ k < 4 * (24 + i) + 4) → ¬ (b = 141 ∧ k = 4) → im' b k = im b k) := by
  generalize hl : 24 + i = l
  have hF0 : ∀ m : IM, (∀ b k, ¬ (b = 129 ∧ 34 ≤ k ∧ k ≤ 37) → ¬ ((b = 142 ∨ b = 143) ∧ k = l) → ¬ (144 ≤ b ∧ b ≤ 146 ∧ 4 * l ≤ k ∧ k < 4 * l + 4) → ¬ (b = 141 ∧ k = 4) → m b k = im b k) = (∀ b k, ¬ (b = 129 ∧ 34 ≤ k ∧ k ≤ 37) → ¬ ((b = 142 ∨ b = 143) ∧ k = l) → ¬ (144 ≤ b ∧ b ≤ 146 ∧ 4 * l ≤ k ∧ k < 4 * l + 4) → ¬ (b = 141 ∧ k = 4) → m b k = im b k) := fun m => rfl
  generalize hF : (fun (m : IM) => ∀ b k, ¬ (b = 129 ∧ 34 ≤ k ∧ k ≤ 37) → ¬ ((b = 142 ∨ b = 143) ∧ k = l) → ¬ (144 ≤ b ∧ b ≤ 146 ∧ 4 * l ≤ k ∧ k < 4 * l + 4) → ¬ (b = 141 ∧ k = 4) → m b k = im b k) = F
  have hFe : ∀ m : IM, F m = ∀ b k, ¬ (b = 129 ∧ 34 ≤ k ∧ k ≤ 37) → ¬ ((b = 142 ∨ b = 143) ∧ k = l) → ¬ (144 ≤ b ∧ b ≤ 146 ∧ 4 * l ≤ k ∧ k < 4 * l + 4) → ¬ (b = 141 ∧ k = 4) → m b k = im b k := fun m => by rw [← hF]
  have Ff : ∀ m m' : IM, F m → frM m m' → F m' := fun m m' q f => by
    rw [hFe] at q ⊢
    intro b k q1 q2 q3 q4
    rw [f b k q1]
    exact q b k q1 q2 q3 q4
  suffices S : ∃ im', ev 126 0 [.ref 129, pm_u, pm_u] [] im rm = some (some (.int (bB (lnp B N T).1)), im', rm) ∧ MK B N im' (lnp B N T).2.2 ∧ ((lnp B N T).1 = true → cL B N T (im' 142 l) (im' 143 l) (im' 144) (im' 145) (im' 146) (4 * l) ∧ im' 141 4 = nI (i + 1)) ∧ F im' by
    obtain ⟨im', S1, S2, S3, S4⟩ := S
    rw [hFe] at S4
    exact ⟨im', S1, S2, S3, S4⟩
  have hq := ix (show l < 30 by omega)
  have o1 := oT_n o
  have o2 := oT_n o1
  have o3 : oT B N (linT B N T) := oT_n o2
  -- the end: one line more
  have fin : ∀ m : IM, m 141 4 = nI i → F m → ev 126 100 [.ref 129, pm_u, pm_u] [] m rm = some (some (.int (nI 1)), pm_w2 m 141 4 (nI (i + 1)), rm) := by
    intro m h1 _
    simp only [s126_100, s126_101, s126_104, s126_105, s126_106, s126_107, s126_108, s126_109, s126_110, s126_111, ↓reduceIte, Option.bind_some, Option.toList, List.cons_append, List.nil_append, bB_0, bB_z, z01_0, z01_1, n01, n00, pm_ro_some, reduceCtorEq, if_true, if_false, and_self, and_true, true_and, not_true, not_false_eq_true, Nat.reduceLeDiff, Nat.reduceAdd, kdM, hm, ix (show 4 < 5 by decide), h1, nI_add]
  have Fw : ∀ (m : IM) (x : Int32), F m → F (pm_w2 m 141 4 x) := fun m x q => by
    rw [hFe] at q ⊢
    intro b k q1 q2 q3 q4
    rw [w2_n q4]
    exact q b k q1 q2 q3 q4
  have tests : ∀ n k, k + n = 4 → 0 < n → ∀ m : IM, MK B N m (qt B N (linT B N T) k) → cK B N (linT B N T) (m 144) (m 145) (m 146) (4 * l) k → m 143 l = nI k → m 141 4 = nI i → F m → ∃ im', ev 126 56 [.ref 129, .int (nI l), .int (nI 1)] [] m rm = some (some (.int (bB (tlo B N (linT B N T) k n).1)), im', rm) ∧ MK B N im' (tlo B N (linT B N T) k n).2.2 ∧ ((tlo B N (linT B N T) k n).1 = true → im' 143 l = nI (tlo B N (linT B N T) k n).2.1 ∧ cK B N (linT B N T) (im' 144) (im' 145) (im' 146) (4 * l) (tlo B N (linT B N T) k n).2.1 ∧ im' 141 4 = nI (i + 1)) ∧ F im' ∧ im' 142 l = m 142 l := by
    intro n
    induction n with
    | zero => intro k _ q; exact absurd q (by omega)
    | succ n ih =>
      intro k hk _ m c1 c2 c3 c4 f1
      have ok := oT_q o3 k
      obtain ⟨m1, A1, A2, A3, A4⟩ := c125 (rm := rm) hm hN c1 ok (show l < 30 by omega) (show k < 4 by omega) c3
      have fA : F m1 := by
        rw [hFe] at f1 ⊢
        intro b j q1 q2 q3 q4
        rw [A4 b j q1 (by omega) (by omega)]
        exact f1 b j q1 q2 q3 q4
      unfold tlo
      by_cases g : okT B N (qt B N (linT B N T) k) = true
      rotate_left
      · rw [if_neg g]
        rw [bf g] at A1
        refine ⟨m1, ?_, A2, fun q => (by cases q), fA, A4 _ _ (by omega) (by omega) (by omega)⟩
        simp only [s126_56, s126_57, s126_60, s126_61, s126_62, s126_65, s126_68, s126_69, ↓reduceIte, Option.bind_some, Option.toList, List.cons_append, List.nil_append, bB_0, bB_z, z01_0, z01_1, n01, n00, pm_ro_some, reduceCtorEq, if_true, if_false, and_self, and_true, true_and, not_true, not_false_eq_true, Nat.reduceLeDiff, Nat.reduceAdd, kdM, A1, bB, cond_false]
      rw [if_pos g]
      rw [g] at A1
      have s4 : m1 141 4 = nI i := by rw [A4 _ _ (by omega) (by omega) (by omega)]; exact c4
      have s3 := (A3 g).2
      have kw : cK B N (linT B N T) (m1 144) (m1 145) (m1 146) (4 * l) (k + 1) := cK_s c2 g (A3 g).1 (fun j hj => ⟨A4 _ _ (by omega) (by omega) (by omega), A4 _ _ (by omega) (by omega) (by omega), A4 _ _ (by omega) (by omega) (by omega)⟩)
      have w1 : m1 142 l = m 142 l := A4 _ _ (by omega) (by omega) (by omega)
      have seg : ev 126 56 [.ref 129, .int (nI l), .int (nI 1)] [] m rm = ev 126 77 [.ref 129, .int (nI l), pm_u] [.int (nI 4), .int (nI (k + 1))] m1 rm := by
        simp only [s126_56, s126_57, s126_60, s126_61, s126_62, s126_65, s126_68, s126_69, s126_70, s126_71, s126_74, s126_75, s126_76, ↓reduceIte, Option.bind_some, Option.toList, List.cons_append, List.nil_append, bB_0, bB_z, z01_0, z01_1, n01, n00, pm_ro_some, reduceCtorEq, if_true, if_false, and_self, and_true, true_and, not_true, not_false_eq_true, Nat.reduceLeDiff, Nat.reduceAdd, kdM, hm, hq, A1, bB, cond_true, s3]
      rw [seg]
      have stop : ∀ (m2 : IM), m2 141 4 = nI i → F m2 → ev 126 95 [.ref 129, .int (nI l), pm_u] [] m2 rm = some (some (.int (nI 1)), pm_w2 m2 141 4 (nI (i + 1)), rm) := fun m2 q1 q2 => by
        rw [← fin m2 q1 q2]
        simp only [s126_95, s126_96, s126_97, s126_56, s126_57, ↓reduceIte, Option.bind_some, Option.toList, List.cons_append, List.nil_append, bB_0, bB_z, z01_0, z01_1, n01, n00, pm_ro_some, reduceCtorEq, if_true, if_false, and_self, and_true, true_and, not_true, not_false_eq_true, Nat.reduceLeDiff, Nat.reduceAdd, kdM]
      by_cases g4 : k + 1 < 4
      rotate_left
      · rw [if_neg (fun q => g4 q.1)]
        refine ⟨pm_w2 m1 141 4 (nI (i + 1)), ?_, A2.w (by omega) (by omega), fun _ => ⟨by rw [w2_a (by omega)]; exact s3, cK_c kw (fun j hj => ⟨w2_a (by omega), w2_a (by omega), w2_a (by omega)⟩), w2_s _ _ _ _⟩, Fw _ _ fA, by rw [w2_a (by omega)]; exact w1⟩
        rw [s126_77, if_pos (nI_le (show 4 ≤ k + 1 by omega) (by omega)), stop m1 s4 fA]
        rfl
      obtain ⟨m2, D1, D2, _, D3⟩ := c122 (rm := rm) hm hN A2 (oT_a ok) wAnd
      by_cases ga : isW B (pm_stb 3) (aft B N (qt B N (linT B N T) k)) = true
      · rw [if_pos ⟨g4, ga⟩]
        rw [ga] at D1 D2
        obtain ⟨im', E1, E2, E3, E4, E5⟩ := ih (k + 1) (by omega) (by omega) m2 D2 (cK_c kw (fun j hj => ⟨D3 _ _ (by omega), D3 _ _ (by omega), D3 _ _ (by omega)⟩)) (by rw [D3 _ _ (by omega)]; exact s3) (by rw [D3 _ _ (by omega)]; exact s4) (Ff _ _ fA D3)
        refine ⟨im', ?_, E2, E3, E4, by rw [E5, D3 _ _ (by omega)]; exact w1⟩
        rw [← E1]
        simp only [s126_77, s126_80, s126_81, s126_84, s126_85, s126_88, s126_91, s126_92, s126_95, s126_96, s126_97, ↓reduceIte, Option.bind_some, Option.toList, List.cons_append, List.nil_append, bB_0, bB_z, z01_0, z01_1, n01, n00, pm_ro_some, reduceCtorEq, if_true, if_false, and_self, and_true, true_and, not_true, not_false_eq_true, Nat.reduceLeDiff, Nat.reduceAdd, kdM, lpF g4 (show 4 < 2 ^ 31 by decide), D1, bB, cond_true]
      · rw [if_neg (fun q => ga q.2)]
        rw [bf ga, cond_false] at D2
        rw [bf ga] at D1
        have s4' : m2 141 4 = nI i := by rw [D3 _ _ (by omega)]; exact s4
        refine ⟨pm_w2 m2 141 4 (nI (i + 1)), ?_, D2.w (by omega) (by omega), fun _ => ⟨by rw [w2_a (by omega), D3 _ _ (by omega)]; exact s3, cK_c kw (fun j hj => ⟨by rw [w2_a (by omega)]; exact D3 _ _ (by omega), by rw [w2_a (by omega)]; exact D3 _ _ (by omega), by rw [w2_a (by omega)]; exact D3 _ _ (by omega)⟩), w2_s _ _ _ _⟩, Fw _ _ (Ff _ _ fA D3), by rw [w2_a (by omega), D3 _ _ (by omega)]; exact w1⟩
        have st := stop m2 s4' (Ff _ _ fA D3)
        simp only [s126_77, s126_80, s126_81, s126_84, s126_85, s126_88, ↓reduceIte, Option.bind_some, Option.toList, List.cons_append, List.nil_append, bB_0, bB_z, z01_0, z01_1, n01, n00, pm_ro_some, reduceCtorEq, if_true, if_false, and_self, and_true, true_and, not_true, not_false_eq_true, Nat.reduceLeDiff, Nat.reduceAdd, kdM, lpF g4 (show 4 < 2 ^ 31 by decide), D1, bB, cond_true, cond_false, st]
  generalize hw0 : pm_w2 im 143 l (nI 0) = w0
  have c0 : MK B N w0 T := by rw [← hw0]; exact h.w (by omega) (by omega)
  have f0 : F w0 := by
    rw [hFe]
    intro b k q1 q2 q3 q4
    rw [← hw0, w2_n (by omega)]
  have W0 : w0 143 l = nI 0 := by rw [← hw0, w2_s]
  have W4 : w0 141 4 = nI i := by rw [← hw0, w2_a (by omega)]; exact hc
  obtain ⟨m1, A1, A2, _, A3⟩ := c122 (rm := rm) hm hN c0 o wMap
  have cl : ∀ x y f g h q, cL B N T x y f g h q = (nok B 3 (nx B N T) = true ∧ x = nuv B (nx B N T) ∧ y = nI (lnp B N T).2.1 ∧ cK B N (linT B N T) f g h q (lnp B N T).2.1) := fun _ _ _ _ _ _ => rfl
  simp only [cl]
  unfold lnp
  have pre : ev 126 0 [.ref 129, pm_u, pm_u] [] im rm = ev 126 25 [.ref 129, .int (nI l), pm_u] [.int (bB (isW B (pm_stb 1) T))] m1 rm := by
    simp only [s126_0, s126_2, s126_3, s126_6, s126_7, s126_8, s126_9, s126_10, s126_11, s126_14, s126_15, s126_16, s126_17, s126_18, s126_21, s126_22, ↓reduceIte, Option.bind_some, Option.toList, List.cons_append, List.nil_append, bB_0, bB_z, z01_0, z01_1, n01, n00, pm_ro_some, reduceCtorEq, if_true, if_false, and_self, and_true, true_and, not_true, not_false_eq_true, Nat.reduceLeDiff, Nat.reduceAdd, kdM, hm, ix (show 4 < 5 by decide), hc, nI_add, hl, hq, hw0, A1]
  rw [pre]
  by_cases g1 : isW B (pm_stb 1) T = true
  rotate_left
  · rw [if_neg g1]
    rw [bf g1] at A2 ⊢
    refine ⟨m1, ?_, A2, fun q => (by cases q), Ff _ _ f0 A3⟩
    simp only [s126_25, s126_28, s126_29, s126_30, s126_33, s126_36, s126_37, ↓reduceIte, Option.bind_some, Option.toList, List.cons_append, List.nil_append, bB_0, bB_z, z01_0, z01_1, n01, n00, pm_ro_some, reduceCtorEq, if_true, if_false, and_self, and_true, true_and, not_true, not_false_eq_true, Nat.reduceLeDiff, Nat.reduceAdd, kdM, bB, cond_false]
  rw [if_pos g1]
  rw [g1, cond_true] at A2
  rw [g1]
  obtain ⟨m2, B1, B2, B4, B3⟩ := c123 (rm := rm) hm hN A2 o1 (show 3 ≤ 999 by decide)
  by_cases g2 : nok B 3 (nx B N T) = true
  rotate_left
  · rw [if_neg g2]
    rw [bf g2] at B1 B2
    refine ⟨m2, ?_, B2, fun q => (by cases q), Ff _ _ (Ff _ _ f0 A3) B3⟩
    simp only [s126_25, s126_28, s126_29, s126_30, s126_33, s126_36, s126_37, ↓reduceIte, Option.bind_some, Option.toList, List.cons_append, List.nil_append, bB_0, bB_z, z01_0, z01_1, n01, n00, pm_ro_some, reduceCtorEq, if_true, if_false, and_self, and_true, true_and, not_true, not_false_eq_true, Nat.reduceLeDiff, Nat.reduceAdd, kdM, bB, cond_true, cond_false, B1]
  rw [if_pos g2]
  rw [g2] at B1
  rw [g2, cond_true] at B2
  have q37 := B4 g2
  generalize hw2 : pm_w2 m2 142 l (nuv B (nx B N T)) = w2
  have W2 : w2 142 l = nuv B (nx B N T) := by rw [← hw2, w2_s]
  have W23 : w2 143 l = nI 0 := by rw [← hw2, w2_a (by omega), B3 _ _ (by omega), A3 _ _ (by omega)]; exact W0
  have W24 : w2 141 4 = nI i := by rw [← hw2, w2_a (by omega), B3 _ _ (by omega), A3 _ _ (by omega)]; exact W4
  have C2 : MK B N w2 (nx B N (nx B N T)) := by rw [← hw2]; exact B2.w (by omega) (by omega)
  have f2 : F w2 := by
    have := Ff _ _ (Ff _ _ f0 A3) B3
    rw [hFe] at this ⊢
    intro b k q1 q2 q3 q4
    rw [← hw2, w2_n (by omega)]
    exact this b k q1 q2 q3 q4
  obtain ⟨m3, D1, D2, _, D3⟩ := c122 (rm := rm) hm hN C2 o2 wWhen
  have seg : ev 126 25 [.ref 129, .int (nI l), pm_u] [.int (bB true)] m1 rm = ev 126 56 [.ref 129, .int (nI l), .int (bB (isW B (pm_stb 2) (nx B N (nx B N T))))] [] m3 rm := by
    simp only [s126_25, s126_28, s126_29, s126_30, s126_33, s126_36, s126_37, s126_38, s126_39, s126_42, s126_43, s126_44, s126_47, s126_48, s126_49, s126_51, s126_52, s126_55, ↓reduceIte, Option.bind_some, Option.toList, List.cons_append, List.nil_append, bB_0, bB_z, z01_0, z01_1, n01, n00, pm_ro_some, reduceCtorEq, if_true, if_false, and_self, and_true, true_and, not_true, not_false_eq_true, Nat.reduceLeDiff, Nat.reduceAdd, kdM, hm, show bB true = nI 1 from rfl, B1, q37, hq, hw2, D1]
  rw [seg]
  by_cases g3 : isW B (pm_stb 2) (nx B N (nx B N T)) = true
  · rw [if_pos g3]
    rw [g3, cond_true] at D2
    rw [g3]
    obtain ⟨im', E1, E2, E3, E4, E5⟩ := tests 4 0 rfl (by decide) m3 D2 (fun j hj => absurd hj (by omega)) (by rw [D3 _ _ (by omega)]; exact W23) (by rw [D3 _ _ (by omega)]; exact W24) (Ff _ _ f2 D3)
    refine ⟨im', E1, E2, fun q => ⟨⟨g2, ?_, (E3 q).1, (E3 q).2.1⟩, (E3 q).2.2⟩, E4⟩
    rw [E5, D3 _ _ (by omega)]
    exact W2
  · rw [if_neg g3]
    rw [bf g3, cond_false] at D2
    rw [bf g3]
    have s4' : m3 141 4 = nI i := by rw [D3 _ _ (by omega)]; exact W24
    refine ⟨pm_w2 m3 141 4 (nI (i + 1)), ?_, D2.w (by omega) (by omega), fun _ => ⟨⟨g2, by rw [w2_a (by omega), D3 _ _ (by omega)]; exact W2, by rw [w2_a (by omega), D3 _ _ (by omega)]; exact W23, fun j hj => absurd hj (by simp)⟩, w2_s _ _ _ _⟩, Fw _ _ (Ff _ _ f2 D3)⟩
    have st := fin m3 s4' (Ff _ _ f2 D3)
    simp only [s126_56, s126_57, ↓reduceIte, Option.bind_some, Option.toList, List.cons_append, List.nil_append, bB_0, bB_z, z01_0, z01_1, n01, n00, pm_ro_some, reduceCtorEq, if_true, if_false, and_self, and_true, true_and, not_true, not_false_eq_true, Nat.reduceLeDiff, Nat.reduceAdd, kdM, bB, cond_true, cond_false, st]
end LIM
