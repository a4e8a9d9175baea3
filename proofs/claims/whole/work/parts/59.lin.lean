-- needs: 58
/-! A program's line in a text: both sides. -/
/-- the token at which test k begins, if the first one begins at T -/
def qt (B : Nat → Int32) (N : Nat) (T : Nat × Nat) : Nat → Nat × Nat
  | 0 => T
  | k + 1 => nx B N (aft B N (qt B N T k))
theorem oT_q {B : Nat → Int32} {N : Nat} {T : Nat × Nat} (h : oT B N T) : ∀ k, oT B N (qt B N T k) := by
  intro k
  induction k with
  | zero => exact h
  | succ k ih => exact oT_n (oT_a ih)
/-- tests from the k-th on: do they hold, how many are there, at which token it ends -/
def tlo (B : Nat → Int32) (N : Nat) (T : Nat × Nat) : Nat → Nat → Bool × Nat × (Nat × Nat)
  | k, 0 => (true, k, qt B N T k)
  | k, n + 1 => if okT B N (qt B N T k) = true then (if k + 1 < 4 ∧ isW B (pm_stb 3) (aft B N (qt B N T k)) = true then tlo B N T (k + 1) n else (true, k + 1, aft B N (qt B N T k))) else (false, k, aft B N (qt B N T k))
def linT (B : Nat → Int32) (N : Nat) (T : Nat × Nat) : Nat × Nat := nx B N (nx B N (nx B N T))
def lnp (B : Nat → Int32) (N : Nat) (T : Nat × Nat) : Bool × Nat × (Nat × Nat) :=
  if isW B (pm_stb 1) T = true then (if nok B 3 (nx B N T) = true then (if isW B (pm_stb 2) (nx B N (nx B N T)) = true then tlo B N (linT B N T) 0 4 else (true, 0, nx B N (nx B N T))) else (false, 0, nx B N T)) else (false, 0, T)
theorem tlo_o {B : Nat → Int32} {N : Nat} {T : Nat × Nat} (h : oT B N T) : ∀ n k, oT B N (tlo B N T k n).2.2 ∧ (k + n = 4 → (tlo B N T k n).2.1 ≤ 4) := by
  intro n
  induction n with
  | zero => intro k; exact ⟨oT_q h k, fun q => by show k ≤ 4; omega⟩
  | succ n ih =>
    intro k
    unfold tlo
    split
    · split
      · exact ⟨(ih (k + 1)).1, fun q => (ih (k + 1)).2 (by omega)⟩
      · exact ⟨oT_a (oT_q h k), fun q => by show k + 1 ≤ 4; omega⟩
    · exact ⟨oT_a (oT_q h k), fun q => by show k ≤ 4; omega⟩
theorem lnp_o {B : Nat → Int32} {N : Nat} {T : Nat × Nat} (h : oT B N T) : oT B N (lnp B N T).2.2 ∧ (lnp B N T).2.1 ≤ 4 := by
  unfold lnp
  split
  · split
    · split
      · have := tlo_o (oT_n (oT_n (oT_n h))) 4 0
        exact ⟨this.1, this.2 rfl⟩
      · exact ⟨oT_n (oT_n h), Nat.zero_le _⟩
    · exact ⟨oT_n h, Nat.zero_le _⟩
  · exact ⟨h, Nat.zero_le _⟩
/-- the first k tests, as they must lie in three rows from q on -/
def cK (B : Nat → Int32) (N : Nat) (T : Nat × Nat) (f g h : Nat → Int32) (q k : Nat) : Prop := ∀ j, j < k → okT B N (qt B N T j) = true ∧ cT B N (qt B N T j) (f (q + j)) (g (q + j)) (h (q + j))
theorem cK_s {B : Nat → Int32} {N : Nat} {T : Nat × Nat} {f g h f' g' h' : Nat → Int32} {q k : Nat} (c : cK B N T f g h q k) (o : okT B N (qt B N T k) = true) (n : cT B N (qt B N T k) (f' (q + k)) (g' (q + k)) (h' (q + k))) (e : ∀ j, j < k → f' (q + j) = f (q + j) ∧ g' (q + j) = g (q + j) ∧ h' (q + j) = h (q + j)) : cK B N T f' g' h' q (k + 1) := by
  intro j hj
  by_cases e2 : j = k
  · subst e2; exact ⟨o, n⟩
  · have := e j (by omega)
    rw [this.1, this.2.1, this.2.2]
    exact c j (by omega)
theorem cK_c {B : Nat → Int32} {N : Nat} {T : Nat × Nat} {f g h f' g' h' : Nat → Int32} {q k : Nat} (c : cK B N T f g h q k) (e : ∀ j, j < k → f' (q + j) = f (q + j) ∧ g' (q + j) = g (q + j) ∧ h' (q + j) = h (q + j)) : cK B N T f' g' h' q k := by
  intro j hj
  have := e j hj
  rw [this.1, this.2.1, this.2.2]
  exact c j hj
/-- the line that begins at T, as it must lie: its map, how many tests, the tests -/
def cL (B : Nat → Int32) (N : Nat) (T : Nat × Nat) (x y : Int32) (f g h : Nat → Int32) (q : Nat) : Prop := nok B 3 (nx B N T) = true ∧ x = nuv B (nx B N T) ∧ y = nI (lnp B N T).2.1 ∧ cK B N (linT B N T) f g h q (lnp B N T).2.1
section LIN
variable {im σ : IM} {rm : RM} {pp ll : Nat → Nat} {B : Nat → Int32} {N : Nat} {T : Nat × Nat}
theorem c28 (hI : INV σ rm pp ll) (hN : N ≤ 160) (h : CC B N im T) (o : oT B N T) {i : Nat} (hi : i < 6) : ∃ im', ev 28 0 [.ref 4, .ref (pp 4), .int (nI i), pm_u, pm_u] [] im rm = some (some (.int (bB (lnp B N T).1)), im', rm) ∧ CC B N im' (lnp B N T).2.2 ∧ ((lnp B N T).1 = true → cL B N T (im' (pp 4 + 1) i) (im' (pp 4 + 2) i) (im' (pp 4 + 3)) (im' (pp 4 + 4)) (im' (pp 4 + 5)) (4 * i)) ∧ (∀ b k, ¬ (b = 4 ∧ (k = 2 ∨ k = 3)) → ¬ ((b = pp 4 + 1 ∨ b = pp 4 + 2) ∧ k = i) → ¬ (pp 4 + 3 ≤ b ∧ b ≤ pp 4 + 5 ∧ 4 * i ≤ k ∧ k < 4 * i + 4) → im' b k = im b k) := by
  have hx := hI.x
  have pm := hI.pm (show 4 < 5 by decide)
  have ha := hI.r.p 4 (by decide)
  generalize hF : (fun (m : IM) => ∀ b k, ¬ (b = 4 ∧ (k = 2 ∨ k = 3)) → ¬ ((b = pp 4 + 1 ∨ b = pp 4 + 2) ∧ k = i) → ¬ (pp 4 + 3 ≤ b ∧ b ≤ pp 4 + 5 ∧ 4 * i ≤ k ∧ k < 4 * i + 4) → m b k = im b k) = F
  have hFe : ∀ m : IM, F m = ∀ b k, ¬ (b = 4 ∧ (k = 2 ∨ k = 3)) → ¬ ((b = pp 4 + 1 ∨ b = pp 4 + 2) ∧ k = i) → ¬ (pp 4 + 3 ≤ b ∧ b ≤ pp 4 + 5 ∧ 4 * i ≤ k ∧ k < 4 * i + 4) → m b k = im b k := fun m => by rw [← hF]
  have Ff : ∀ m m' : IM, F m → frC m m' → F m' := fun m m' q f => by
    rw [hFe] at q ⊢
    intro b k q1 q2 q3
    rw [f b k q1]
    exact q b k q1 q2 q3
  have F0 : F im := by rw [hFe]; intro b k _ _ _; rfl
  rw [show (∃ im', ev 28 0 [.ref 4, .ref (pp 4), .int (nI i), pm_u, pm_u] [] im rm = some (some (.int (bB (lnp B N T).1)), im', rm) ∧ CC B N im' (lnp B N T).2.2 ∧ ((lnp B N T).1 = true → cL B N T (im' (pp 4 + 1) i) (im' (pp 4 + 2) i) (im' (pp 4 + 3)) (im' (pp 4 + 4)) (im' (pp 4 + 5)) (4 * i)) ∧ (∀ b k, ¬ (b = 4 ∧ (k = 2 ∨ k = 3)) → ¬ ((b = pp 4 + 1 ∨ b = pp 4 + 2) ∧ k = i) → ¬ (pp 4 + 3 ≤ b ∧ b ≤ pp 4 + 5 ∧ 4 * i ≤ k ∧ k < 4 * i + 4) → im' b k = im b k)) = (∃ im', ev 28 0 [.ref 4, .ref (pp 4), .int (nI i), pm_u, pm_u] [] im rm = some (some (.int (bB (lnp B N T).1)), im', rm) ∧ CC B N im' (lnp B N T).2.2 ∧ ((lnp B N T).1 = true → cL B N T (im' (pp 4 + 1) i) (im' (pp 4 + 2) i) (im' (pp 4 + 3)) (im' (pp 4 + 4)) (im' (pp 4 + 5)) (4 * i)) ∧ F im') from by simp only [hFe]]
  have o1 := oT_n o
  have o2 := oT_n o1
  have o3 : oT B N (linT B N T) := oT_n o2
  have hq := ix (show i < 6 by omega)
  -- the tests
  have tests : ∀ n k, k + n = 4 → 0 < n → ∀ m : IM, CC B N m (qt B N (linT B N T) k) → cK B N (linT B N T) (m (pp 4 + 3)) (m (pp 4 + 4)) (m (pp 4 + 5)) (4 * i) k → F m → ∃ im', ev 28 51 [.ref 4, .ref (pp 4), .int (nI i), .int (nI 1), .int (nI k)] [] m rm = some (some (.int (bB (tlo B N (linT B N T) k n).1)), im', rm) ∧ CC B N im' (tlo B N (linT B N T) k n).2.2 ∧ ((tlo B N (linT B N T) k n).1 = true → im' (pp 4 + 2) i = nI (tlo B N (linT B N T) k n).2.1 ∧ cK B N (linT B N T) (im' (pp 4 + 3)) (im' (pp 4 + 4)) (im' (pp 4 + 5)) (4 * i) (tlo B N (linT B N T) k n).2.1) ∧ F im' ∧ im' (pp 4 + 1) i = m (pp 4 + 1) i := by
    intro n
    induction n with
    | zero => intro k _ q; exact absurd q (by omega)
    | succ n ih =>
      intro k hk _ m c1 c2 f1
      have ok := oT_q o3 k
      obtain ⟨m1, A1, A2, A3, A4⟩ := c29 hI hN c1 ok (show 4 * i + k < 24 by omega)
      have fA : F m1 := by
        rw [hFe] at f1 ⊢
        intro b j q1 q2 q3
        rw [A4 b j q1 (by omega)]
        exact f1 b j q1 q2 q3
      unfold tlo
      by_cases g : okT B N (qt B N (linT B N T) k) = true
      rotate_left
      · rw [if_neg g]
        rw [bf g] at A1
        refine ⟨m1, ?_, A2, fun q => (by cases q), fA, A4 _ _ (by omega) (by omega)⟩
        simp only [s28_51, s28_52, s28_55, s28_57, s28_58, s28_61, s28_62, s28_63, s28_64, s28_65, s28_66, s28_68, s28_69, s28_72, s28_75, s28_76, ↓reduceIte, Option.bind_some, Option.toList, List.cons_append, List.nil_append, bB_0, bB_z, z01_0, z01_1, n01, n00, pm_ro_some, reduceCtorEq, if_true, if_false, and_self, and_true, true_and, not_true, not_false_eq_true, Nat.reduceLeDiff, Nat.reduceAdd, kdX, lpF (show k < 4 by omega) (show 4 < 2 ^ 31 by decide), pk_mul, nI_add, A1, bB, cond_false]
      rw [if_pos g]
      rw [g] at A1
      generalize hw : pm_w2 m1 (pp 4 + 2) i (nI (k + 1)) = w
      have W : w (pp 4 + 2) i = nI (k + 1) := by rw [← hw, w2_s]
      have cw : CC B N w (aft B N (qt B N (linT B N T) k)) := by rw [← hw]; exact A2.w (by omega) (by omega)
      have ew : ∀ b j, b ≠ pp 4 + 2 → w b j = m1 b j := fun b j q => by rw [← hw, w2_a q]
      have fw : F w := by
        rw [hFe] at fA ⊢
        intro b j q1 q2 q3
        rw [← hw, w2_n (by omega)]
        exact fA b j q1 q2 q3
      have kw : cK B N (linT B N T) (w (pp 4 + 3)) (w (pp 4 + 4)) (w (pp 4 + 5)) (4 * i) (k + 1) := by
        refine cK_s c2 g ?_ (fun j hj => ?_)
        · rw [ew _ _ (by omega), ew _ _ (by omega), ew _ _ (by omega)]; exact A3 g
        · rw [ew _ _ (by omega), ew _ _ (by omega), ew _ _ (by omega), A4 _ _ (by omega) (by omega), A4 _ _ (by omega) (by omega), A4 _ _ (by omega) (by omega)]; exact ⟨rfl, rfl, rfl⟩
      have w1 : w (pp 4 + 1) i = m (pp 4 + 1) i := by rw [ew _ _ (by omega), A4 _ _ (by omega) (by omega)]
      have seg : ev 28 51 [.ref 4, .ref (pp 4), .int (nI i), .int (nI 1), .int (nI k)] [] m rm = ev 28 94 [.ref 4, .ref (pp 4), .int (nI i), pm_u, .int (nI k)] [.int (nI 4), .int (nI (k + 1))] w rm := by
        simp only [s28_51, s28_52, s28_55, s28_57, s28_58, s28_61, s28_62, s28_63, s28_64, s28_65, s28_66, s28_68, s28_69, s28_72, s28_75, s28_76, s28_77, s28_78, s28_81, s28_82, s28_84, s28_85, s28_86, s28_87, s28_88, s28_91, s28_92, s28_93, ↓reduceIte, Option.bind_some, Option.toList, List.cons_append, List.nil_append, bB_0, bB_z, z01_0, z01_1, n01, n00, pm_ro_some, reduceCtorEq, if_true, if_false, and_self, and_true, true_and, not_true, not_false_eq_true, Nat.reduceLeDiff, Nat.reduceAdd, kdX, pm, hq, lpF (show k < 4 by omega) (show 4 < 2 ^ 31 by decide), pk_mul, nI_add, A1, bB, cond_true, hw, W]
      rw [seg]
      by_cases g4 : k + 1 < 4
      rotate_left
      · rw [if_neg (fun q => g4 q.1)]
        refine ⟨w, ?_, cw, fun _ => ⟨W, kw⟩, fw, w1⟩
        simp only [s28_94, s28_110, s28_111, s28_112, s28_115, s28_118, s28_119, s28_51, s28_52, ↓reduceIte, Option.bind_some, Option.toList, List.cons_append, List.nil_append, bB_0, bB_z, z01_0, z01_1, n01, n00, pm_ro_some, reduceCtorEq, if_true, if_false, and_self, and_true, true_and, not_true, not_false_eq_true, Nat.reduceLeDiff, Nat.reduceAdd, kdX, lpG (show 4 ≤ k + 1 by omega) (show k + 1 < 2 ^ 31 by omega), bB, cond_true]
      obtain ⟨m2, D1, D2, D3⟩ := c38 (rm := rm) hx hN cw (oT_a ok) (show 3 < 18 by decide)
      have D1' : ev 38 0 [.ref 4, .ref 1000003] [] w rm = some (some (.int (bB (isW B (pm_stb 3) (aft B N (qt B N (linT B N T) k))))), m2, rm) := D1
      by_cases ga : isW B (pm_stb 3) (aft B N (qt B N (linT B N T) k)) = true
      · rw [if_pos ⟨g4, ga⟩]
        rw [ga] at D1' D2
        obtain ⟨im', E1, E2, E3, E4, E5⟩ := ih (k + 1) (by omega) (by omega) m2 D2 (cK_c kw (fun j hj => ⟨D3 _ _ (by omega), D3 _ _ (by omega), D3 _ _ (by omega)⟩)) (Ff _ _ fw D3)
        refine ⟨im', ?_, E2, E3, E4, by rw [E5, D3 _ _ (by omega)]; exact w1⟩
        rw [← E1]
        simp only [s28_94, s28_97, s28_98, s28_100, s28_103, s28_106, s28_107, s28_110, s28_111, s28_112, s28_115, ↓reduceIte, Option.bind_some, Option.toList, List.cons_append, List.nil_append, bB_0, bB_z, z01_0, z01_1, n01, n00, pm_ro_some, reduceCtorEq, if_true, if_false, and_self, and_true, true_and, not_true, not_false_eq_true, Nat.reduceLeDiff, Nat.reduceAdd, kdX, lpF g4 (show 4 < 2 ^ 31 by decide), D1', bB, cond_true, nI_add]
      · rw [if_neg (fun q => ga q.2)]
        rw [bf ga] at D1' D2
        refine ⟨m2, ?_, D2, fun _ => ⟨by rw [D3 _ _ (by omega)]; exact W, cK_c kw (fun j hj => ⟨D3 _ _ (by omega), D3 _ _ (by omega), D3 _ _ (by omega)⟩)⟩, Ff _ _ fw D3, by rw [D3 _ _ (by omega)]; exact w1⟩
        simp only [s28_94, s28_97, s28_98, s28_100, s28_103, s28_106, s28_107, s28_110, s28_111, s28_112, s28_115, s28_118, s28_119, s28_51, s28_52, ↓reduceIte, Option.bind_some, Option.toList, List.cons_append, List.nil_append, bB_0, bB_z, z01_0, z01_1, n01, n00, pm_ro_some, reduceCtorEq, if_true, if_false, and_self, and_true, true_and, not_true, not_false_eq_true, Nat.reduceLeDiff, Nat.reduceAdd, kdX, lpF g4 (show 4 < 2 ^ 31 by decide), D1', bB, cond_true, cond_false]
  -- up to the tests
  generalize hw0 : pm_w2 im (pp 4 + 2) i (nI 0) = w0
  have c0 : CC B N w0 T := by rw [← hw0]; exact h.w (by omega) (by omega)
  have f0 : F w0 := by
    rw [hFe]
    intro b k q1 q2 q3
    rw [← hw0, w2_n (by omega)]
  have W0 : w0 (pp 4 + 2) i = nI 0 := by rw [← hw0, w2_s]
  obtain ⟨m1, A1, A2, A3⟩ := c38 (rm := rm) hx hN c0 o (show 1 < 18 by decide)
  have A1' : ev 38 0 [.ref 4, .ref 1000001] [] w0 rm = some (some (.int (bB (isW B (pm_stb 1) T))), m1, rm) := A1
  have cl : ∀ x y f g h q, cL B N T x y f g h q = (nok B 3 (nx B N T) = true ∧ x = nuv B (nx B N T) ∧ y = nI (lnp B N T).2.1 ∧ cK B N (linT B N T) f g h q (lnp B N T).2.1) := fun _ _ _ _ _ _ => rfl
  simp only [cl]
  unfold lnp
  by_cases g1 : isW B (pm_stb 1) T = true
  rotate_left
  · rw [if_neg g1]
    rw [bf g1] at A1' A2
    refine ⟨m1, ?_, A2, fun q => (by cases q), Ff _ _ f0 A3⟩
    simp only [s28_0, s28_1, s28_4, s28_5, s28_6, s28_7, s28_8, s28_10, s28_13, s28_16, s28_17, ↓reduceIte, Option.bind_some, Option.toList, List.cons_append, List.nil_append, bB_0, bB_z, z01_0, z01_1, n01, n00, pm_ro_some, reduceCtorEq, if_true, if_false, and_self, and_true, true_and, not_true, not_false_eq_true, Nat.reduceLeDiff, Nat.reduceAdd, kdX, pm, hq, hw0, A1', bB, cond_false]
  rw [if_pos g1]
  rw [g1] at A1' A2
  obtain ⟨m2, B1, B2, B3⟩ := c39 (rm := rm) hx hN A2 o1 (show 3 ≤ 999 by decide)
  rw [cond_true] at A2 B1 B2
  generalize hw2 : pm_w2 m2 (pp 4 + 1) i (if nok B 3 (nx B N T) = true then nuv B (nx B N T) else -1) = w2
  have W2 : w2 (pp 4 + 1) i = if nok B 3 (nx B N T) = true then nuv B (nx B N T) else -1 := by rw [← hw2, w2_s]
  have W22 : w2 (pp 4 + 2) i = nI 0 := by rw [← hw2, w2_a (by omega), B3 _ _ (by omega), A3 _ _ (by omega)]; exact W0
  have C2 := B2.w (a := pp 4 + 1) (i := i) (x := if nok B 3 (nx B N T) = true then nuv B (nx B N T) else -1) (by omega) (by omega)
  rw [hw2] at C2
  have f2 : F w2 := by
    have := Ff _ _ (Ff _ _ f0 A3) B3
    rw [hFe] at this ⊢
    intro b k q1 q2 q3
    rw [← hw2, w2_n (by omega)]
    exact this b k q1 q2 q3
  by_cases g2 : nok B 3 (nx B N T) = true
  rotate_left
  · rw [if_neg g2]
    rw [if_neg g2] at W2 hw2 B1
    rw [bf g2] at C2
    refine ⟨w2, ?_, C2, fun q => (by cases q), f2⟩
    simp only [s28_0, s28_1, s28_4, s28_5, s28_6, s28_7, s28_8, s28_10, s28_13, s28_16, s28_17, s28_18, s28_19, s28_22, s28_23, s28_24, s28_25, s28_28, s28_29, s28_30, s28_33, s28_34, s28_35, s28_36, s28_39, s28_40, ↓reduceIte, Option.bind_some, Option.toList, List.cons_append, List.nil_append, bB_0, bB_z, z01_0, z01_1, n01, n00, pm_ro_some, reduceCtorEq, if_true, if_false, and_self, and_true, true_and, not_true, not_false_eq_true, Nat.reduceLeDiff, Nat.reduceAdd, kdX, pm, hq, hw0, A1', bB, cond_true, cond_false, B1, hw2, W2]
  rw [if_pos g2]
  rw [if_pos g2] at W2 hw2 B1
  rw [g2, cond_true] at C2
  have V := nuN_e o1 (show isD B (nx B N T) = true by unfold nok at g2; rw [Bool.and_eq_true] at g2; exact g2.1)
  obtain ⟨m3, D1, D2, D3⟩ := c38 (rm := rm) hx hN C2 o2 (show 2 < 18 by decide)
  have D1' : ev 38 0 [.ref 4, .ref 1000002] [] w2 rm = some (some (.int (bB (isW B (pm_stb 2) (nx B N (nx B N T))))), m3, rm) := D1
  have seg : ev 28 0 [.ref 4, .ref (pp 4), .int (nI i), pm_u, pm_u] [] im rm = ev 28 51 [.ref 4, .ref (pp 4), .int (nI i), .int (bB (isW B (pm_stb 2) (nx B N (nx B N T)))), .int (nI 0)] [] m3 rm := by
    rw [V.1] at W2 hw2 B1
    simp only [s28_0, s28_1, s28_4, s28_5, s28_6, s28_7, s28_8, s28_10, s28_13, s28_16, s28_17, s28_18, s28_19, s28_22, s28_23, s28_24, s28_25, s28_28, s28_29, s28_30, s28_33, s28_34, s28_35, s28_36, s28_39, s28_40, s28_41, s28_42, s28_44, s28_47, s28_48, s28_49, ↓reduceIte, Option.bind_some, Option.toList, List.cons_append, List.nil_append, bB_0, bB_z, z01_0, z01_1, n01, n00, pm_ro_some, reduceCtorEq, if_true, if_false, and_self, and_true, true_and, not_true, not_false_eq_true, Nat.reduceLeDiff, Nat.reduceAdd, kdX, pm, hq, hw0, A1', show bB true = nI 1 from rfl, B1, hw2, W2, nIm1 (show nuN B (nx B N T) < 2 ^ 31 by omega), D1']
  rw [seg]
  by_cases g3 : isW B (pm_stb 2) (nx B N (nx B N T)) = true
  · rw [if_pos g3]
    rw [g3, cond_true] at D2
    rw [g3]
    obtain ⟨im', E1, E2, E3, E4, E5⟩ := tests 4 0 rfl (by decide) m3 D2 (fun j hj => absurd hj (by omega)) (Ff _ _ f2 D3)
    refine ⟨im', E1, E2, fun q => ⟨g2, ?_, (E3 q).1, (E3 q).2⟩, E4⟩
    rw [E5, D3 _ _ (by omega)]
    exact W2
  · rw [if_neg g3]
    rw [bf g3, cond_false] at D2
    rw [bf g3]
    refine ⟨m3, ?_, D2, fun _ => ⟨g2, by rw [D3 _ _ (by omega)]; exact W2, by rw [D3 _ _ (by omega)]; exact W22, fun j hj => absurd hj (by simp)⟩, Ff _ _ f2 D3⟩
    simp only [s28_51, s28_52, s28_118, s28_119, ↓reduceIte, Option.bind_some, Option.toList, List.cons_append, List.nil_append, bB_0, bB_z, z01_0, z01_1, n01, n00, pm_ro_some, reduceCtorEq, if_true, if_false, and_self, and_true, true_and, not_true, not_false_eq_true, Nat.reduceLeDiff, Nat.reduceAdd, kdX, bB, cond_true, cond_false]
end LIN
