-- needs: 61
/-! A whole text: pure words; the class. -/
def lst (B : Nat → Int32) (N : Nat) (L : Nat × Nat → Bool × (Nat × Nat)) (T : Nat × Nat) : Nat → Nat × Nat
  | 0 => T
  | k + 1 => nx B N (L (lst B N L T k)).2
/-- lines from the k-th on, n at most: do they hold, how many are there, at which token it ends -/
def lgo (B : Nat → Int32) (N : Nat) (L : Nat × Nat → Bool × (Nat × Nat)) (T : Nat × Nat) : Nat → Nat → Bool × Nat × (Nat × Nat)
  | k, 0 => (false, k, lst B N L T k)
  | k, n + 1 => if (L (lst B N L T k)).1 = true then (if 0 < n ∧ isW B (pm_stb 0) (L (lst B N L T k)).2 = true then lgo B N L T (k + 1) n else (decide ((L (lst B N L T k)).2.1 = N), k + 1, (L (lst B N L T k)).2)) else (false, k, (L (lst B N L T k)).2)
def lgx (B : Nat → Int32) (N : Nat) (L : Nat × Nat → Bool × (Nat × Nat)) (T : Nat × Nat) (k n : Nat) : Bool × Nat × (Nat × Nat) := if 0 < n ∧ isW B (pm_stb 0) (L (lst B N L T k)).2 = true then lgo B N L T (k + 1) n else (decide ((L (lst B N L T k)).2.1 = N), k + 1, (L (lst B N L T k)).2)
theorem lgo_s (B : Nat → Int32) (N : Nat) (L : Nat × Nat → Bool × (Nat × Nat)) (T : Nat × Nat) (k n : Nat) : lgo B N L T k (n + 1) = if (L (lst B N L T k)).1 = true then lgx B N L T k n else (false, k, (L (lst B N L T k)).2) := rfl
theorem lgo_n {B : Nat → Int32} {N : Nat} {L : Nat × Nat → Bool × (Nat × Nat)} {T : Nat × Nat} : ∀ n k, (lgo B N L T k n).2.1 ≤ k + n := by
  intro n
  induction n with
  | zero => intro k; exact Nat.le_refl _
  | succ n ih =>
    intro k
    have h := ih (k + 1)
    unfold lgo
    split
    · split
      · omega
      · show k + 1 ≤ k + (n + 1); omega
    · show k ≤ k + (n + 1); omega
/-- the place of the fault, or NONE -/
def fv (R : Bool × Nat × (Nat × Nat)) : Int32 := if R.1 = true then -1 else nI R.2.2.1
def LPt (B : Nat → Int32) (N : Nat) (T : Nat × Nat) : Bool × (Nat × Nat) := ((lnp B N T).1, (lnp B N T).2.2)
def LWt (B : Nat → Int32) (N : Nat) (T : Nat × Nat) : Bool × (Nat × Nat) := lwp B N T
def t0 (B : Nat → Int32) (N : Nat) : Nat × Nat := (tS B N 0, tE B N 0)
def RP (B : Nat → Int32) (N : Nat) : Bool × Nat × (Nat × Nat) := lgo B N (LPt B N) (t0 B N) 0 6
def RW (B : Nat → Int32) (N : Nat) : Bool × Nat × (Nat × Nat) := lgo B N (LWt B N) (t0 B N) 0 8
theorem oT_0 {B : Nat → Int32} {N : Nat} : oT B N (t0 B N) := vT_n B (Nat.zero_le N)
theorem oT_l {B : Nat → Int32} {N : Nat} {L : Nat × Nat → Bool × (Nat × Nat)} (hL : ∀ T, oT B N T → oT B N (L T).2) : ∀ k, oT B N (lst B N L (t0 B N) k) := by
  intro k
  induction k with
  | zero => exact oT_0
  | succ k ih => exact oT_n (hL _ ih)
theorem LPt_o {B : Nat → Int32} {N : Nat} : ∀ T, oT B N T → oT B N (LPt B N T).2 := fun _ h => (lnp_o h).1
theorem LWt_o {B : Nat → Int32} {N : Nat} : ∀ T, oT B N T → oT B N (LWt B N T).2 := fun _ h => lwp_o h
theorem fv_d {B : Nat → Int32} {N : Nat} {R : Bool × Nat × (Nat × Nat)} (o : oT B N R.2.2) (hN : N ≤ 160) : (fv R = -1) = (R.1 = true) := by
  have h1 := o.1
  have h2 := o.2.1
  unfold fv
  by_cases h : R.1 = true
  · rw [if_pos h, eq_true h, eq_self]
  · rw [if_neg h, nIm1 (show R.2.2.1 < 2 ^ 31 by omega), eq_false h]
theorem lgo_o {B : Nat → Int32} {N : Nat} {L : Nat × Nat → Bool × (Nat × Nat)} (hL : ∀ T, oT B N T → oT B N (L T).2) : ∀ n k, oT B N (lgo B N L (t0 B N) k n).2.2 := by
  intro n
  induction n with
  | zero => intro k; exact oT_l hL k
  | succ n ih =>
    intro k
    unfold lgo
    split
    · split
      · exact ih (k + 1)
      · exact hL _ (oT_l hL k)
    · exact hL _ (oT_l hL k)
/-- a line as it must lie: in the class, in the model -/
def gP (B : Nat → Int32) (N a j : Nat) (m : IM) : Prop := cL B N (lst B N (LPt B N) (t0 B N) j) (m (a + 1) j) (m (a + 2) j) (m (a + 3)) (m (a + 4)) (m (a + 5)) (4 * j)
def hP (B : Nat → Int32) (N j : Nat) (m : IM) : Prop := cL B N (lst B N (LPt B N) (t0 B N) j) (m 142 (24 + j)) (m 143 (24 + j)) (m 144) (m 145) (m 146) (4 * (24 + j))
def gW (B : Nat → Int32) (N a j : Nat) (m : IM) : Prop := cW B N (lst B N (LWt B N) (t0 B N) j) (m (a + 1) j) (m (a + 2) j)
def hW (B : Nat → Int32) (N j : Nat) (m : IM) : Prop := cW B N (lst B N (LWt B N) (t0 B N) j) (m 148 (16 + j)) (m 149 (16 + j))
theorem cL_c {B : Nat → Int32} {N : Nat} {T : Nat × Nat} {x y x' y' : Int32} {f g h f' g' h' : Nat → Int32} {q : Nat} (o : oT B N T) (c : cL B N T x y f g h q) (e1 : x' = x) (e2 : y' = y) (e : ∀ j, j < 4 → f' (q + j) = f (q + j) ∧ g' (q + j) = g (q + j) ∧ h' (q + j) = h (q + j)) : cL B N T x' y' f' g' h' q := by
  subst e1 e2
  obtain ⟨c1, c2, c3, c4⟩ := c
  have n4 := (lnp_o o).2
  exact ⟨c1, c2, c3, cK_c c4 (fun j hj => e j (by omega))⟩
theorem gP_c {B : Nat → Int32} {N a j : Nat} {m m' : IM} (h : gP B N a j m) (e : ∀ b k, a + 1 ≤ b → b ≤ a + 5 → (b ≤ a + 2 → k = j) → (a + 3 ≤ b → 4 * j ≤ k ∧ k < 4 * j + 4) → m' b k = m b k) : gP B N a j m' :=
  cL_c (oT_l LPt_o j) h (e _ _ (by omega) (by omega) (by omega) (by omega)) (e _ _ (by omega) (by omega) (by omega) (by omega)) (fun k hk => ⟨e _ _ (by omega) (by omega) (by omega) (by omega), e _ _ (by omega) (by omega) (by omega) (by omega), e _ _ (by omega) (by omega) (by omega) (by omega)⟩)
theorem hP_c {B : Nat → Int32} {N j : Nat} {m m' : IM} (h : hP B N j m) (e : ∀ b k, 142 ≤ b → b ≤ 146 → (b ≤ 143 → k = 24 + j) → (144 ≤ b → 4 * (24 + j) ≤ k ∧ k < 4 * (24 + j) + 4) → m' b k = m b k) : hP B N j m' :=
  cL_c (oT_l LPt_o j) h (e _ _ (by omega) (by omega) (by omega) (by omega)) (e _ _ (by omega) (by omega) (by omega) (by omega)) (fun k hk => ⟨e _ _ (by omega) (by omega) (by omega) (by omega), e _ _ (by omega) (by omega) (by omega) (by omega), e _ _ (by omega) (by omega) (by omega) (by omega)⟩)
theorem gW_c {B : Nat → Int32} {N a j : Nat} {m m' : IM} (h : gW B N a j m) (e : ∀ b k, a + 1 ≤ b → b ≤ a + 2 → k = j → m' b k = m b k) : gW B N a j m' := by
  unfold gW at *
  rw [e _ _ (by omega) (by omega) rfl, e _ _ (by omega) (by omega) rfl]
  exact h
theorem hW_c {B : Nat → Int32} {N j : Nat} {m m' : IM} (h : hW B N j m) (e : ∀ b k, 148 ≤ b → b ≤ 149 → k = 16 + j → m' b k = m b k) : hW B N j m' := by
  unfold hW at *
  rw [e _ _ (by omega) (by omega) rfl, e _ _ (by omega) (by omega) rfl]
  exact h
def FC (a t : Nat) (im im' : IM) : Prop := ∀ b k, ¬ (b = 4 ∧ (k = 2 ∨ k = 3)) → ¬ (a ≤ b ∧ b ≤ a + t) → im' b k = im b k
def FM (im im' : IM) : Prop := ∀ b k, ¬ (b = 129 ∧ 34 ≤ k ∧ k ≤ 37) → ¬ ((b = 142 ∨ b = 143) ∧ 24 ≤ k) → ¬ (144 ≤ b ∧ b ≤ 146 ∧ 96 ≤ k) → ¬ (b = 141 ∧ k = 4) → ¬ (b = 147 ∧ k = 2) → ¬ ((b = 148 ∨ b = 149) ∧ 16 ≤ k) → im' b k = im b k
section TXC
variable {im σ : IM} {rm : RM} {pp ll : Nat → Nat} {B : Nat → Int32} {N : Nat} {T : Nat × Nat}
theorem fin26 (hN : N ≤ 160) {m : IM} (c : CC B N m T) (o : oT B N T) (a : Nat) (q : Int32) (n : Nat) : ev 26 13 [.ref 4, .ref a, .int (nI 0), .int q] [] m rm = some (some (.int (fv (decide (T.1 = N), n, T))), m, rm) := by
  have e1 := c.2.1
  have e2 := c.1.1
  have e3 := nI_eqq (show T.1 < 2 ^ 31 by have := o.1; have := o.2.1; omega) (show N < 2 ^ 31 by omega)
  by_cases e : T.1 = N
  · rw [decide_eq_true e]
    simp only [s26_13, s26_14, s26_74, s26_75, s26_78, s26_79, s26_82, s26_85, s26_86, s26_89, s26_90, s26_93, ↓reduceIte, Option.bind_some, Option.toList, List.cons_append, List.nil_append, bB_0, bB_z, z01_0, z01_1, n01, n00, pm_ro_some, reduceCtorEq, if_true, if_false, and_self, and_true, true_and, not_true, not_false_eq_true, Nat.reduceLeDiff, Nat.reduceAdd, kdX, e1, e2, e3, e] <;> rfl
  · rw [decide_eq_false e]
    simp only [s26_13, s26_14, s26_74, s26_75, s26_78, s26_79, s26_82, s26_85, s26_86, s26_89, s26_90, s26_93, ↓reduceIte, Option.bind_some, Option.toList, List.cons_append, List.nil_append, bB_0, bB_z, z01_0, z01_1, n01, n00, pm_ro_some, reduceCtorEq, if_true, if_false, and_self, and_true, true_and, not_true, not_false_eq_true, Nat.reduceLeDiff, Nat.reduceAdd, kdX, e1, e2, e3, e] <;> rfl
theorem c26 (hI : INV σ rm pp ll) (hN : N ≤ 160) (h : TXc B N im) : ∃ im', ev 26 0 [.ref 4, .ref (pp 4), pm_u, pm_u] [] im rm = some (some (.int (fv (RP B N))), im', rm) ∧ ((RP B N).1 = true → im' (pp 4) 0 = nI (RP B N).2.1 ∧ ∀ j, j < (RP B N).2.1 → gP B N (pp 4) j im') ∧ FC (pp 4) 5 im im' := by
  have hx := hI.x
  have pm := hI.pm (show 4 < 5 by decide)
  have ha := hI.r.p 4 (by decide)
  have key : ∀ n k, k + n = 6 → 0 < n → ∀ m : IM, CC B N m (lst B N (LPt B N) (t0 B N) k) → (∀ j, j < k → gP B N (pp 4) j m) → FC (pp 4) 5 im m → ∃ im', ev 26 13 [.ref 4, .ref (pp 4), .int (nI 1), .int (nI k)] [] m rm = some (some (.int (fv (lgo B N (LPt B N) (t0 B N) k n))), im', rm) ∧ ((lgo B N (LPt B N) (t0 B N) k n).1 = true → im' (pp 4) 0 = nI (lgo B N (LPt B N) (t0 B N) k n).2.1 ∧ ∀ j, j < (lgo B N (LPt B N) (t0 B N) k n).2.1 → gP B N (pp 4) j im') ∧ FC (pp 4) 5 im im' := by
    intro n
    induction n with
    | zero => intro k _ q; exact absurd q (by omega)
    | succ n ih =>
      intro k hk _ m c1 c2 f1
      have ok := oT_l (L := LPt B N) LPt_o k
      have oL := LPt_o _ ok
      obtain ⟨m1, A1, A2, A3, A4⟩ := c28 hI hN c1 ok (show k < 6 by omega)
      have fA : FC (pp 4) 5 im m1 := fun b j q1 q2 => by rw [A4 b j q1 (by omega) (by omega)]; exact f1 b j q1 q2
      unfold lgo
      by_cases g : (LPt B N (lst B N (LPt B N) (t0 B N) k)).1 = true
      rotate_left
      · rw [if_neg g]
        rw [show (lnp B N (lst B N (LPt B N) (t0 B N) k)).1 = false from bf g] at A1
        have s := A2.2.1
        refine ⟨m1, ?_, fun q => (by cases q), fA⟩
        simp only [s26_13, s26_14, s26_17, s26_18, s26_20, s26_23, s26_24, s26_25, s26_26, s26_29, s26_32, s26_33, s26_36, ↓reduceIte, Option.bind_some, Option.toList, List.cons_append, List.nil_append, bB_0, bB_z, z01_0, z01_1, n01, n00, pm_ro_some, reduceCtorEq, if_true, if_false, and_self, and_true, true_and, not_true, not_false_eq_true, Nat.reduceLeDiff, Nat.reduceAdd, kdX, lpF (show k < 6 by omega) (show 6 < 2 ^ 31 by decide), A1, bB, cond_false, s] <;> rfl
      rw [if_pos g]
      have g' : (lnp B N (lst B N (LPt B N) (t0 B N) k)).1 = true := g
      rw [g'] at A1
      generalize hw : pm_w2 m1 (pp 4) 0 (nI (k + 1)) = w
      have W : w (pp 4) 0 = nI (k + 1) := by rw [← hw, w2_s]
      have ew : ∀ b j, b ≠ pp 4 → w b j = m1 b j := fun b j q => by rw [← hw, w2_a q]
      have cw : CC B N w (LPt B N (lst B N (LPt B N) (t0 B N) k)).2 := by rw [← hw]; exact CC.w A2 (by omega) (by omega)
      have fw : FC (pp 4) 5 im w := fun b j q1 q2 => by rw [ew b j (by omega)]; exact fA b j q1 q2
      have kw : ∀ j, j < k + 1 → gP B N (pp 4) j w := by
        intro j hj
        by_cases e : j = k
        · rw [e]
          exact gP_c (m := m1) (A3 g') (fun b i b1 b2 b3 b4 => ew b i (by omega))
        · exact gP_c (c2 j (by omega)) (fun b i b1 b2 b3 b4 => by rw [ew b i (by omega)]; exact A4 b i (by omega) (by omega) (by omega))
      have seg : ev 26 13 [.ref 4, .ref (pp 4), .int (nI 1), .int (nI k)] [] m rm = ev 26 50 [.ref 4, .ref (pp 4), pm_u, .int (nI k)] [.int (nI 6), .int (nI (k + 1))] w rm := by
        simp only [s26_13, s26_14, s26_17, s26_18, s26_20, s26_23, s26_24, s26_25, s26_26, s26_29, s26_32, s26_33, s26_36, s26_37, s26_38, s26_39, s26_40, s26_41, s26_44, s26_45, s26_48, ↓reduceIte, Option.bind_some, Option.toList, List.cons_append, List.nil_append, bB_0, bB_z, z01_0, z01_1, n01, n00, pm_ro_some, reduceCtorEq, if_true, if_false, and_self, and_true, true_and, not_true, not_false_eq_true, Nat.reduceLeDiff, Nat.reduceAdd, kdX, pm, lpF (show k < 6 by omega) (show 6 < 2 ^ 31 by decide), A1, bB, cond_true, nI_add, hw, W]
      rw [seg]
      by_cases g6 : 0 < n
      rotate_left
      · rw [if_neg (fun q => g6 q.1)]
        have F := fin26 (rm := rm) hN cw oL (pp 4) (nI (k + 1)) (k + 1)
        refine ⟨w, ?_, fun _ => ⟨W, kw⟩, fw⟩
        simp only [s26_50, s26_66, s26_67, s26_68, s26_71, ↓reduceIte, Option.bind_some, Option.toList, List.cons_append, List.nil_append, bB_0, bB_z, z01_0, z01_1, n01, n00, pm_ro_some, reduceCtorEq, if_true, if_false, and_self, and_true, true_and, not_true, not_false_eq_true, Nat.reduceLeDiff, Nat.reduceAdd, kdX, lpG (show 6 ≤ k + 1 by omega) (show k + 1 < 2 ^ 31 by omega), nI_add, F]
      obtain ⟨m2, D1, D2, D3⟩ := c38 (rm := rm) hx hN cw oL (show 0 < 18 by decide)
      have D1' : ev 38 0 [.ref 4, .ref 1000000] [] w rm = some (some (.int (bB (isW B (pm_stb 0) (LPt B N (lst B N (LPt B N) (t0 B N) k)).2))), m2, rm) := D1
      have k2 : ∀ j, j < k + 1 → gP B N (pp 4) j m2 := fun j hj => gP_c (kw j hj) (fun b i b1 b2 b3 b4 => D3 b i (by omega))
      have f2 : FC (pp 4) 5 im m2 := fun b j q1 q2 => by rw [D3 b j q1]; exact fw b j q1 q2
      by_cases ga : isW B (pm_stb 0) (LPt B N (lst B N (LPt B N) (t0 B N) k)).2 = true
      · rw [if_pos ⟨g6, ga⟩]
        rw [ga] at D1' D2
        obtain ⟨im', E1, E2⟩ := ih (k + 1) (by omega) g6 m2 D2 k2 f2
        refine ⟨im', ?_, E2⟩
        rw [← E1]
        simp only [s26_50, s26_53, s26_54, s26_56, s26_59, s26_62, s26_63, s26_66, s26_67, s26_68, s26_71, ↓reduceIte, Option.bind_some, Option.toList, List.cons_append, List.nil_append, bB_0, bB_z, z01_0, z01_1, n01, n00, pm_ro_some, reduceCtorEq, if_true, if_false, and_self, and_true, true_and, not_true, not_false_eq_true, Nat.reduceLeDiff, Nat.reduceAdd, kdX, lpF (show k + 1 < 6 by omega) (show 6 < 2 ^ 31 by decide), D1', bB, cond_true, nI_add]
      · rw [if_neg (fun q => ga q.2)]
        rw [bf ga] at D1'
        rw [bf ga, cond_false] at D2
        have F := fin26 (rm := rm) hN D2 oL (pp 4) (nI (k + 1)) (k + 1)
        refine ⟨m2, ?_, fun _ => ⟨by rw [D3 _ _ (by omega)]; exact W, k2⟩, f2⟩
        simp only [s26_50, s26_53, s26_54, s26_56, s26_59, s26_62, s26_63, s26_66, s26_67, s26_68, s26_71, ↓reduceIte, Option.bind_some, Option.toList, List.cons_append, List.nil_append, bB_0, bB_z, z01_0, z01_1, n01, n00, pm_ro_some, reduceCtorEq, if_true, if_false, and_self, and_true, true_and, not_true, not_false_eq_true, Nat.reduceLeDiff, Nat.reduceAdd, kdX, lpF (show k + 1 < 6 by omega) (show 6 < 2 ^ 31 by decide), D1', bB, cond_false, nI_add, F]
  obtain ⟨m1, A1, A2, A3⟩ := c34 (rm := rm) hx hN h
  generalize hw : pm_w2 m1 (pp 4) 0 (nI 0) = w
  have cw : CC B N w (t0 B N) := by
    rw [← hw]
    have c1 : CC B N m1 (t0 B N) := ⟨h.f A3, A2⟩
    exact c1.w (by omega) (by omega)
  have fw : FC (pp 4) 5 im w := fun b j q1 q2 => by rw [← hw, w2_a (by omega)]; exact A3 b j q1
  obtain ⟨im', E1, E2, E3⟩ := key 6 0 rfl (by decide) w cw (fun j hj => absurd hj (by omega)) fw
  refine ⟨im', ?_, E2, E3⟩
  rw [show RP B N = lgo B N (LPt B N) (t0 B N) 0 6 from rfl, ← E1]
  simp only [s26_0, s26_1, s26_4, s26_5, s26_6, s26_9, s26_10, s26_11, s26_12, ↓reduceIte, Option.bind_some, Option.toList, List.cons_append, List.nil_append, bB_0, bB_z, z01_0, z01_1, n01, n00, pm_ro_some, reduceCtorEq, if_true, if_false, and_self, and_true, true_and, not_true, not_false_eq_true, Nat.reduceLeDiff, Nat.reduceAdd, kdX, pm, A1, hw]
theorem fin27 (hN : N ≤ 160) {m : IM} (c : CC B N m T) (o : oT B N T) (a : Nat) (q : Int32) (n : Nat) : ev 27 13 [.ref 4, .ref a, .int (nI 0), .int q] [] m rm = some (some (.int (fv (decide (T.1 = N), n, T))), m, rm) := by
  have e1 := c.2.1
  have e2 := c.1.1
  have e3 := nI_eqq (show T.1 < 2 ^ 31 by have := o.1; have := o.2.1; omega) (show N < 2 ^ 31 by omega)
  by_cases e : T.1 = N
  · rw [decide_eq_true e]
    simp only [s27_13, s27_14, s27_74, s27_75, s27_78, s27_79, s27_82, s27_85, s27_86, s27_89, s27_90, s27_93, ↓reduceIte, Option.bind_some, Option.toList, List.cons_append, List.nil_append, bB_0, bB_z, z01_0, z01_1, n01, n00, pm_ro_some, reduceCtorEq, if_true, if_false, and_self, and_true, true_and, not_true, not_false_eq_true, Nat.reduceLeDiff, Nat.reduceAdd, kdX, e1, e2, e3, e] <;> rfl
  · rw [decide_eq_false e]
    simp only [s27_13, s27_14, s27_74, s27_75, s27_78, s27_79, s27_82, s27_85, s27_86, s27_89, s27_90, s27_93, ↓reduceIte, Option.bind_some, Option.toList, List.cons_append, List.nil_append, bB_0, bB_z, z01_0, z01_1, n01, n00, pm_ro_some, reduceCtorEq, if_true, if_false, and_self, and_true, true_and, not_true, not_false_eq_true, Nat.reduceLeDiff, Nat.reduceAdd, kdX, e1, e2, e3, e] <;> rfl
theorem c27 (hI : INV σ rm pp ll) (hN : N ≤ 160) (h : TXc B N im) : ∃ im', ev 27 0 [.ref 4, .ref (ll 2), pm_u, pm_u] [] im rm = some (some (.int (fv (RW B N))), im', rm) ∧ ((RW B N).1 = true → im' (ll 2) 0 = nI (RW B N).2.1 ∧ ∀ j, j < (RW B N).2.1 → gW B N (ll 2) j im') ∧ FC (ll 2) 2 im im' := by
  have hx := hI.x
  have pm := hI.lm (show 2 < 3 by decide)
  have ha := hI.r.l 2 (by decide)
  have key : ∀ n k, k + n = 8 → 0 < n → ∀ m : IM, CC B N m (lst B N (LWt B N) (t0 B N) k) → (∀ j, j < k → gW B N (ll 2) j m) → FC (ll 2) 2 im m → ∃ im', ev 27 13 [.ref 4, .ref (ll 2), .int (nI 1), .int (nI k)] [] m rm = some (some (.int (fv (lgo B N (LWt B N) (t0 B N) k n))), im', rm) ∧ ((lgo B N (LWt B N) (t0 B N) k n).1 = true → im' (ll 2) 0 = nI (lgo B N (LWt B N) (t0 B N) k n).2.1 ∧ ∀ j, j < (lgo B N (LWt B N) (t0 B N) k n).2.1 → gW B N (ll 2) j im') ∧ FC (ll 2) 2 im im' := by
    intro n
    induction n with
    | zero => intro k _ q; exact absurd q (by omega)
    | succ n ih =>
      intro k hk _ m c1 c2 f1
      have ok := oT_l (L := LWt B N) LWt_o k
      have oL := LWt_o _ ok
      obtain ⟨m1, A1, A2, A3, A4⟩ := c30 hI hN c1 ok (show k < 8 by omega)
      have fA : FC (ll 2) 2 im m1 := fun b j q1 q2 => by rw [A4 b j q1 (by omega)]; exact f1 b j q1 q2
      unfold lgo
      by_cases g : (LWt B N (lst B N (LWt B N) (t0 B N) k)).1 = true
      rotate_left
      · rw [if_neg g]
        rw [show (lwp B N (lst B N (LWt B N) (t0 B N) k)).1 = false from bf g] at A1
        have s := A2.2.1
        refine ⟨m1, ?_, fun q => (by cases q), fA⟩
        simp only [s27_13, s27_14, s27_17, s27_18, s27_20, s27_23, s27_24, s27_25, s27_26, s27_29, s27_32, s27_33, s27_36, ↓reduceIte, Option.bind_some, Option.toList, List.cons_append, List.nil_append, bB_0, bB_z, z01_0, z01_1, n01, n00, pm_ro_some, reduceCtorEq, if_true, if_false, and_self, and_true, true_and, not_true, not_false_eq_true, Nat.reduceLeDiff, Nat.reduceAdd, kdX, lpF (show k < 8 by omega) (show 8 < 2 ^ 31 by decide), A1, bB, cond_false, s] <;> rfl
      rw [if_pos g]
      have g' : (lwp B N (lst B N (LWt B N) (t0 B N) k)).1 = true := g
      rw [g'] at A1
      generalize hw : pm_w2 m1 (ll 2) 0 (nI (k + 1)) = w
      have W : w (ll 2) 0 = nI (k + 1) := by rw [← hw, w2_s]
      have ew : ∀ b j, b ≠ ll 2 → w b j = m1 b j := fun b j q => by rw [← hw, w2_a q]
      have cw : CC B N w (LWt B N (lst B N (LWt B N) (t0 B N) k)).2 := by rw [← hw]; exact CC.w A2 (by omega) (by omega)
      have fw : FC (ll 2) 2 im w := fun b j q1 q2 => by rw [ew b j (by omega)]; exact fA b j q1 q2
      have kw : ∀ j, j < k + 1 → gW B N (ll 2) j w := by
        intro j hj
        by_cases e : j = k
        · rw [e]
          exact gW_c (m := m1) (A3 g') (fun b i b1 b2 b3 => ew b i (by omega))
        · exact gW_c (c2 j (by omega)) (fun b i b1 b2 b3 => by rw [ew b i (by omega)]; exact A4 b i (by omega) (by omega))
      have seg : ev 27 13 [.ref 4, .ref (ll 2), .int (nI 1), .int (nI k)] [] m rm = ev 27 50 [.ref 4, .ref (ll 2), pm_u, .int (nI k)] [.int (nI 8), .int (nI (k + 1))] w rm := by
        simp only [s27_13, s27_14, s27_17, s27_18, s27_20, s27_23, s27_24, s27_25, s27_26, s27_29, s27_32, s27_33, s27_36, s27_37, s27_38, s27_39, s27_40, s27_41, s27_44, s27_45, s27_48, ↓reduceIte, Option.bind_some, Option.toList, List.cons_append, List.nil_append, bB_0, bB_z, z01_0, z01_1, n01, n00, pm_ro_some, reduceCtorEq, if_true, if_false, and_self, and_true, true_and, not_true, not_false_eq_true, Nat.reduceLeDiff, Nat.reduceAdd, kdX, pm, lpF (show k < 8 by omega) (show 8 < 2 ^ 31 by decide), A1, bB, cond_true, nI_add, hw, W]
      rw [seg]
      by_cases g6 : 0 < n
      rotate_left
      · rw [if_neg (fun q => g6 q.1)]
        have F := fin27 (rm := rm) hN cw oL (ll 2) (nI (k + 1)) (k + 1)
        refine ⟨w, ?_, fun _ => ⟨W, kw⟩, fw⟩
        simp only [s27_50, s27_66, s27_67, s27_68, s27_71, ↓reduceIte, Option.bind_some, Option.toList, List.cons_append, List.nil_append, bB_0, bB_z, z01_0, z01_1, n01, n00, pm_ro_some, reduceCtorEq, if_true, if_false, and_self, and_true, true_and, not_true, not_false_eq_true, Nat.reduceLeDiff, Nat.reduceAdd, kdX, lpG (show 8 ≤ k + 1 by omega) (show k + 1 < 2 ^ 31 by omega), nI_add, F]
      obtain ⟨m2, D1, D2, D3⟩ := c38 (rm := rm) hx hN cw oL (show 0 < 18 by decide)
      have D1' : ev 38 0 [.ref 4, .ref 1000000] [] w rm = some (some (.int (bB (isW B (pm_stb 0) (LWt B N (lst B N (LWt B N) (t0 B N) k)).2))), m2, rm) := D1
      have k2 : ∀ j, j < k + 1 → gW B N (ll 2) j m2 := fun j hj => gW_c (kw j hj) (fun b i b1 b2 b3 => D3 b i (by omega))
      have f2 : FC (ll 2) 2 im m2 := fun b j q1 q2 => by rw [D3 b j q1]; exact fw b j q1 q2
      by_cases ga : isW B (pm_stb 0) (LWt B N (lst B N (LWt B N) (t0 B N) k)).2 = true
      · rw [if_pos ⟨g6, ga⟩]
        rw [ga] at D1' D2
        obtain ⟨im', E1, E2⟩ := ih (k + 1) (by omega) g6 m2 D2 k2 f2
        refine ⟨im', ?_, E2⟩
        rw [← E1]
        simp only [s27_50, s27_53, s27_54, s27_56, s27_59, s27_62, s27_63, s27_66, s27_67, s27_68, s27_71, ↓reduceIte, Option.bind_some, Option.toList, List.cons_append, List.nil_append, bB_0, bB_z, z01_0, z01_1, n01, n00, pm_ro_some, reduceCtorEq, if_true, if_false, and_self, and_true, true_and, not_true, not_false_eq_true, Nat.reduceLeDiff, Nat.reduceAdd, kdX, lpF (show k + 1 < 8 by omega) (show 8 < 2 ^ 31 by decide), D1', bB, cond_true, nI_add]
      · rw [if_neg (fun q => ga q.2)]
        rw [bf ga] at D1'
        rw [bf ga, cond_false] at D2
        have F := fin27 (rm := rm) hN D2 oL (ll 2) (nI (k + 1)) (k + 1)
        refine ⟨m2, ?_, fun _ => ⟨by rw [D3 _ _ (by omega)]; exact W, k2⟩, f2⟩
        simp only [s27_50, s27_53, s27_54, s27_56, s27_59, s27_62, s27_63, s27_66, s27_67, s27_68, s27_71, ↓reduceIte, Option.bind_some, Option.toList, List.cons_append, List.nil_append, bB_0, bB_z, z01_0, z01_1, n01, n00, pm_ro_some, reduceCtorEq, if_true, if_false, and_self, and_true, true_and, not_true, not_false_eq_true, Nat.reduceLeDiff, Nat.reduceAdd, kdX, lpF (show k + 1 < 8 by omega) (show 8 < 2 ^ 31 by decide), D1', bB, cond_false, nI_add, F]
  obtain ⟨m1, A1, A2, A3⟩ := c34 (rm := rm) hx hN h
  generalize hw : pm_w2 m1 (ll 2) 0 (nI 0) = w
  have cw : CC B N w (t0 B N) := by
    rw [← hw]
    have c1 : CC B N m1 (t0 B N) := ⟨h.f A3, A2⟩
    exact c1.w (by omega) (by omega)
  have fw : FC (ll 2) 2 im w := fun b j q1 q2 => by rw [← hw, w2_a (by omega)]; exact A3 b j q1
  obtain ⟨im', E1, E2, E3⟩ := key 8 0 rfl (by decide) w cw (fun j hj => absurd hj (by omega)) fw
  refine ⟨im', ?_, E2, E3⟩
  rw [show RW B N = lgo B N (LWt B N) (t0 B N) 0 8 from rfl, ← E1]
  simp only [s27_0, s27_1, s27_4, s27_5, s27_6, s27_9, s27_10, s27_11, s27_12, ↓reduceIte, Option.bind_some, Option.toList, List.cons_append, List.nil_append, bB_0, bB_z, z01_0, z01_1, n01, n00, pm_ro_some, reduceCtorEq, if_true, if_false, and_self, and_true, true_and, not_true, not_false_eq_true, Nat.reduceLeDiff, Nat.reduceAdd, kdX, pm, A1, hw]
end TXC
