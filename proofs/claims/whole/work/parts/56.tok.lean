-- needs: 55
/-! Tokens: both sides. -/
def srt (x : Int32) : Nat := if nI 97 ≤ x ∧ x ≤ nI 122 then 1 else if nI 48 ≤ x ∧ x ≤ nI 57 then 2 else 0
def skp (B : Nat → Int32) : Nat → Nat → Nat
  | i, 0 => i
  | i, n + 1 => if B i = nI 32 then skp B (i + 1) n else i
def rnn (B : Nat → Int32) (x : Int32) : Nat → Nat → Nat
  | i, 0 => i
  | i, n + 1 => if 0 < srt x ∧ srt (B i) = srt x then rnn B x (i + 1) n else i
def tS (B : Nat → Int32) (N p : Nat) : Nat := skp B p (N - p)
def tE (B : Nat → Int32) (N p : Nat) : Nat := if tS B N p < N then rnn B (B (tS B N p)) (tS B N p + 1) (N - (tS B N p + 1)) else N
theorem skp_le (B : Nat → Int32) : ∀ n i, i ≤ skp B i n ∧ skp B i n ≤ i + n := by
  intro n
  induction n with
  | zero => intro i; exact ⟨Nat.le_refl _, Nat.le_refl _⟩
  | succ n ih =>
    intro i
    have := ih (i + 1)
    unfold skp
    split <;> omega
theorem rnn_le (B : Nat → Int32) (x : Int32) : ∀ n i, i ≤ rnn B x i n ∧ rnn B x i n ≤ i + n ∧ ∀ k, i ≤ k → k < rnn B x i n → srt (B k) = srt x := by
  intro n
  induction n with
  | zero => intro i; exact ⟨Nat.le_refl _, Nat.le_refl _, fun k h1 h2 => by have h3 : k < i := h2; omega⟩
  | succ n ih =>
    intro i
    have h := ih (i + 1)
    unfold rnn
    by_cases g : 0 < srt x ∧ srt (B i) = srt x
    · rw [if_pos g]
      refine ⟨by omega, by omega, fun k h1 h2 => ?_⟩
      by_cases e : k = i
      · rw [e]; exact g.2
      · exact h.2.2 k (by omega) h2
    · rw [if_neg g]
      exact ⟨Nat.le_refl _, by omega, fun k h1 h2 => by omega⟩
/-- what a token is: it lies in the text, it is empty only at the end, its bytes are of one row -/
def vT (B : Nat → Int32) (N s e : Nat) : Prop := s ≤ e ∧ e ≤ N ∧ (s < N → s < e) ∧ (∀ k, s ≤ k → k < e → srt (B k) = srt (B s))
theorem vT_n (B : Nat → Int32) {N p : Nat} (h : p ≤ N) : vT B N (tS B N p) (tE B N p) := by
  have h1 := skp_le B (N - p) p
  have h2 : tS B N p ≤ N := by unfold tS; omega
  have h0 : p ≤ tS B N p := h1.1
  unfold tE
  by_cases g : tS B N p < N
  · rw [if_pos g]
    have h3 := rnn_le B (B (tS B N p)) (N - (tS B N p + 1)) (tS B N p + 1)
    refine ⟨by omega, by omega, fun _ => by omega, fun k k1 k2 => ?_⟩
    by_cases e : k = tS B N p
    · rw [e]
    · exact h3.2.2 k (by omega) k2
  · rw [if_neg g]
    exact ⟨h2, Nat.le_refl _, fun q => absurd q g, fun k k1 k2 => by omega⟩
def TXc (B : Nat → Int32) (N : Nat) (m : IM) : Prop := m 4 0 = nI N ∧ (∀ i, i < N → m 5 i = B i)
def TXm (B : Nat → Int32) (N : Nat) (m : IM) : Prop := m 129 11 = nI N ∧ (∀ i, i < N → m 140 i = B i)
def tkC (m : IM) (s e : Nat) : Prop := m 4 2 = nI s ∧ m 4 3 = nI e
def tkM (m : IM) (s e : Nat) : Prop := m 129 34 = nI e ∧ m 129 35 = nI s ∧ m 129 36 = nI e
def frC (m m' : IM) : Prop := ∀ b k, ¬ (b = 4 ∧ (k = 2 ∨ k = 3)) → m' b k = m b k
def frM (m m' : IM) : Prop := ∀ b k, ¬ (b = 129 ∧ 34 ≤ k ∧ k ≤ 37) → m' b k = m b k
theorem frC.tr {a b c : IM} (h : frC a b) (h' : frC b c) : frC a c := fun x k q => (h' x k q).trans (h x k q)
theorem frM.tr {a b c : IM} (h : frM a b) (h' : frM b c) : frM a c := fun x k q => (h' x k q).trans (h x k q)
theorem frC.w {a b : IM} (h : frC a b) {k : Nat} (hk : k = 2 ∨ k = 3) (x : Int32) : frC a (pm_w2 b 4 k x) := fun c j q => by
  rw [w2_n (fun e => q ⟨e.1, by rw [e.2]; exact hk⟩)]; exact h c j q
theorem frM.w {a b : IM} (h : frM a b) {k : Nat} (hk : 34 ≤ k ∧ k ≤ 37) (x : Int32) : frM a (pm_w2 b 129 k x) := fun c j q => by
  rw [w2_n (fun e => q ⟨e.1, by rw [e.2]; exact hk⟩)]; exact h c j q
theorem frC.rf {a : IM} : frC a a := fun _ _ _ => rfl
theorem frM.rf {a : IM} : frM a a := fun _ _ _ => rfl
theorem TXc.f {B : Nat → Int32} {N : Nat} {m m' : IM} (h : TXc B N m) (f : frC m m') : TXc B N m' := ⟨by rw [f _ _ (by omega)]; exact h.1, fun i hi => by rw [f _ _ (by omega)]; exact h.2 i hi⟩
theorem TXm.f {B : Nat → Int32} {N : Nat} {m m' : IM} (h : TXm B N m) (f : frM m m') : TXm B N m' := ⟨by rw [f _ _ (by omega)]; exact h.1, fun i hi => by rw [f _ _ (by omega)]; exact h.2 i hi⟩
def ltr (x : Int32) : Bool := decide (nI 97 ≤ x ∧ x ≤ nI 122)
def dgt (x : Int32) : Bool := decide (nI 48 ≤ x ∧ x ≤ nI 57)
theorem onerow (x y : Int32) : (ltr x && ltr y || dgt x && dgt y) = decide (0 < srt x ∧ srt y = srt x) := by
  have e1 : (nI 97).toInt = 97 := by decide
  have e2 : (nI 122).toInt = 122 := by decide
  have e3 : (nI 48).toInt = 48 := by decide
  have e4 : (nI 57).toInt = 57 := by decide
  apply Bool.eq_iff_iff.mpr
  rw [Bool.or_eq_true, Bool.and_eq_true, Bool.and_eq_true, decide_eq_true_eq]
  unfold ltr dgt srt
  rw [decide_eq_true_eq, decide_eq_true_eq, decide_eq_true_eq, decide_eq_true_eq]
  simp only [i32_le, e1, e2, e3, e4]
  by_cases a : 97 ≤ x.toInt ∧ x.toInt ≤ 122 <;> by_cases b : 48 ≤ x.toInt ∧ x.toInt ≤ 57 <;> by_cases c : 97 ≤ y.toInt ∧ y.toInt ≤ 122 <;> by_cases d : 48 ≤ y.toInt ∧ y.toInt ≤ 57 <;> simp only [a, b, c, d, if_true, if_false, and_self, and_true, true_and, and_false, false_and, or_true, true_or, or_false, false_or] <;> first | omega | decide | (simp; done)
section TOK
variable {im σ : IM} {rm : RM} {pp ll : Nat → Nat} {B : Nat → Int32} {N : Nat}
theorem lt_le (x : Int32) (n : Nat) : (x < nI n) = ¬ (nI n ≤ x) := propext Int32.not_le.symm
theorem gt_le (x : Int32) (n : Nat) : (nI n < x) = ¬ (x ≤ nI n) := propext Int32.not_le.symm
theorem c36 (x y : Int32) : ev 36 0 [.int x, .int y, pm_u, pm_u] [] im rm = some (some (.int (bB (decide (0 < srt x ∧ srt y = srt x)))), im, rm) := by
  have s1 : ev 36 0 [.int x, .int y, pm_u, pm_u] [] im rm = ev 36 30 [.int x, .int y, .int (bB (ltr x && ltr y)), pm_u] [] im rm := by
    unfold ltr
    by_cases a : nI 97 ≤ x <;> by_cases b : x ≤ nI 122 <;> by_cases c : nI 97 ≤ y <;> by_cases d : y ≤ nI 122 <;> simp only [s36_0, s36_1, s36_3, s36_6, s36_7, s36_9, s36_12, s36_13, s36_15, s36_18, s36_19, s36_21, s36_24, s36_25, s36_28, s36_29, ↓reduceIte, Option.bind_some, Option.toList, List.cons_append, List.nil_append, bB_0, bB_z, z01_0, z01_1, n01, n00, pm_ro_some, reduceCtorEq, if_true, if_false, and_self, and_true, true_and, not_true, not_false_eq_true, Nat.reduceLeDiff, Nat.reduceAdd, lt_le, gt_le, a, b, c, d, decide_true, decide_false, Bool.and_self, Bool.and_true, Bool.and_false, Bool.true_and, Bool.false_and, bB, cond_true, cond_false, and_false, false_and]
  have s2 : ∀ z : Int32, ev 36 30 [.int x, .int y, .int z, pm_u] [] im rm = ev 36 60 [pm_u, pm_u, .int z, .int (bB (dgt x && dgt y))] [] im rm := by
    intro z
    unfold dgt
    by_cases a : nI 48 ≤ x <;> by_cases b : x ≤ nI 57 <;> by_cases c : nI 48 ≤ y <;> by_cases d : y ≤ nI 57 <;> simp only [s36_30, s36_31, s36_33, s36_36, s36_37, s36_39, s36_42, s36_43, s36_45, s36_48, s36_49, s36_51, s36_54, s36_55, s36_58, s36_59, ↓reduceIte, Option.bind_some, Option.toList, List.cons_append, List.nil_append, bB_0, bB_z, z01_0, z01_1, n01, n00, pm_ro_some, reduceCtorEq, if_true, if_false, and_self, and_true, true_and, not_true, not_false_eq_true, Nat.reduceLeDiff, Nat.reduceAdd, lt_le, gt_le, a, b, c, d, decide_true, decide_false, Bool.and_self, Bool.and_true, Bool.and_false, Bool.true_and, Bool.false_and, bB, cond_true, cond_false, and_false, false_and]
  rw [s1, s2, ← onerow]
  cases (ltr x && ltr y) <;> cases (dgt x && dgt y) <;> simp only [s36_60, s36_61, s36_64, s36_65, s36_68, s36_69, s36_72, s36_73, ↓reduceIte, Option.bind_some, Option.toList, List.cons_append, List.nil_append, bB_0, bB_z, z01_0, z01_1, n01, n00, pm_ro_some, reduceCtorEq, if_true, if_false, and_self, and_true, true_and, not_true, not_false_eq_true, Nat.reduceLeDiff, Nat.reduceAdd, bB, cond_true, cond_false, Bool.or_self, Bool.or_true, Bool.true_or]
theorem c119 (x : Int32) : ev 119 0 [.int x] [] im rm = some (some (.int (nI (srt x))), im, rm) := by
  unfold srt
  by_cases a : nI 97 ≤ x <;> by_cases b : x ≤ nI 122 <;> by_cases c : nI 48 ≤ x <;> by_cases d : x ≤ nI 57 <;> simp only [s119_0, s119_1, s119_3, s119_6, s119_7, s119_9, s119_12, s119_13, s119_16, s119_17, s119_19, s119_22, s119_23, s119_25, s119_28, s119_29, s119_32, s119_33, ↓reduceIte, Option.bind_some, Option.toList, List.cons_append, List.nil_append, bB_0, bB_z, z01_0, z01_1, n01, n00, pm_ro_some, reduceCtorEq, if_true, if_false, and_self, and_true, true_and, not_true, not_false_eq_true, Nat.reduceLeDiff, Nat.reduceAdd, lt_le, gt_le, a, b, c, d, and_false, false_and]
theorem c35 (hx : rmX rm pp ll) (hN : N ≤ 160) (h : TXc B N im) {p : Nat} (hp : p ≤ N) (hq : im 4 3 = nI p) : ∃ im', ev 35 0 [.ref 4] [] im rm = some (none, im', rm) ∧ tkC im' (tS B N p) (tE B N p) ∧ frC im im' := by
  have l1 : ∀ n i, i + n = N → ∀ m : IM, m 4 2 = nI i → frC im m → ∃ m', ev 35 8 [.ref 4] [] m rm = ev 35 46 [.ref 4] [] m' rm ∧ m' 4 2 = nI (skp B i n) ∧ frC im m' := by
    intro n
    induction n with
    | zero =>
      intro i hi m h1 h2
      have t := h.f h2
      refine ⟨m, ?_, h1, h2⟩
      rw [show i = N by omega] at h1
      simp only [s35_8, s35_9, s35_12, s35_13, s35_16, ↓reduceIte, Option.bind_some, Option.toList, List.cons_append, List.nil_append, bB_0, bB_z, z01_0, z01_1, n01, n00, pm_ro_some, reduceCtorEq, if_true, if_false, and_self, and_true, true_and, not_true, not_false_eq_true, Nat.reduceLeDiff, Nat.reduceAdd, kdX, h1, t.1, lpT]
    | succ n ih =>
      intro i hi m h1 h2
      have t := h.f h2
      unfold skp
      by_cases g : B i = nI 32
      · rw [if_pos g]
        obtain ⟨m', E1, E2, E3⟩ := ih (i + 1) (by omega) (pm_w2 m 4 2 (nI (i + 1))) (w2_s _ _ _ _) (h2.w (Or.inl rfl) _)
        refine ⟨m', ?_, E2, E3⟩
        rw [← E1, s35_8]
        simp only [s35_9, s35_12, s35_13, s35_16, s35_19, s35_20, s35_23, s35_24, s35_27, s35_28, s35_30, s35_33, s35_34, s35_35, s35_38, s35_39, s35_40, s35_43, ↓reduceIte, Option.bind_some, Option.toList, List.cons_append, List.nil_append, bB_0, bB_z, z01_0, z01_1, n01, n00, pm_ro_some, reduceCtorEq, if_true, if_false, and_self, and_true, true_and, not_true, not_false_eq_true, Nat.reduceLeDiff, Nat.reduceAdd, kdX, hx, h1, t.1, lpF (show i < N by omega) (show N < 2 ^ 31 by omega), ix (show i < 160 by omega), t.2 i (by omega), g, nI_add]
      · rw [if_neg g]
        refine ⟨m, ?_, h1, h2⟩
        simp only [s35_8, s35_9, s35_12, s35_13, s35_16, s35_19, s35_20, s35_23, s35_24, s35_27, s35_28, s35_30, ↓reduceIte, Option.bind_some, Option.toList, List.cons_append, List.nil_append, bB_0, bB_z, z01_0, z01_1, n01, n00, pm_ro_some, reduceCtorEq, if_true, if_false, and_self, and_true, true_and, not_true, not_false_eq_true, Nat.reduceLeDiff, Nat.reduceAdd, kdX, hx, h1, t.1, lpF (show i < N by omega) (show N < 2 ^ 31 by omega), ix (show i < 160 by omega), t.2 i (by omega), g]
  have l2 : ∀ s n i, i + n = N → (n ≠ 0 → s < N) → ∀ m : IM, m 4 2 = nI s → m 4 3 = nI i → frC im m → ∃ m', ev 35 63 [.ref 4] [] m rm = some (none, m', rm) ∧ tkC m' s (rnn B (B s) i n) ∧ frC im m' := by
    intro s n
    induction n with
    | zero =>
      intro i hi _ m h1 h2 h3
      have t := h.f h3
      refine ⟨m, ?_, ⟨h1, h2⟩, h3⟩
      rw [show i = N by omega] at h2
      simp only [s35_63, s35_64, s35_67, s35_68, s35_71, s35_111, ↓reduceIte, Option.bind_some, Option.toList, List.cons_append, List.nil_append, bB_0, bB_z, z01_0, z01_1, n01, n00, pm_ro_some, reduceCtorEq, if_true, if_false, and_self, and_true, true_and, not_true, not_false_eq_true, Nat.reduceLeDiff, Nat.reduceAdd, kdX, h2, t.1, lpT]
    | succ n ih =>
      intro i hi hs m h1 h2 h3
      have t := h.f h3
      have hs' := hs (by omega)
      unfold rnn
      by_cases g : 0 < srt (B s) ∧ srt (B i) = srt (B s)
      · rw [if_pos g]
        obtain ⟨m', E1, E2, E3⟩ := ih (i + 1) (by omega) (fun _ => hs') (pm_w2 m 4 3 (nI (i + 1))) (by rw [w2_i (by omega)]; exact h1) (w2_s _ _ _ _) (h3.w (Or.inr rfl) _)
        refine ⟨m', ?_, E2, E3⟩
        rw [← E1, s35_63]
        simp only [s35_64, s35_67, s35_68, s35_71, s35_74, s35_75, s35_78, s35_79, s35_82, s35_83, s35_84, s35_87, s35_88, s35_91, s35_92, s35_95, s35_98, s35_99, s35_100, s35_103, s35_104, s35_105, s35_108, ↓reduceIte, Option.bind_some, Option.toList, List.cons_append, List.nil_append, bB_0, bB_z, z01_0, z01_1, n01, n00, pm_ro_some, reduceCtorEq, if_true, if_false, and_self, and_true, true_and, not_true, not_false_eq_true, Nat.reduceLeDiff, Nat.reduceAdd, kdX, hx, h1, h2, t.1, lpF (show i < N by omega) (show N < 2 ^ 31 by omega), ix (show i < 160 by omega), ix (show s < 160 by omega), t.2 i (by omega), t.2 s hs', c36, g, decide_true, nI_add]
      · rw [if_neg g]
        refine ⟨m, ?_, ⟨h1, h2⟩, h3⟩
        simp only [s35_63, s35_64, s35_67, s35_68, s35_71, s35_74, s35_75, s35_78, s35_79, s35_82, s35_83, s35_84, s35_87, s35_88, s35_91, s35_92, s35_95, s35_111, ↓reduceIte, Option.bind_some, Option.toList, List.cons_append, List.nil_append, bB_0, bB_z, z01_0, z01_1, n01, n00, pm_ro_some, reduceCtorEq, if_true, if_false, and_self, and_true, true_and, not_true, not_false_eq_true, Nat.reduceLeDiff, Nat.reduceAdd, kdX, hx, h1, h2, t.1, lpF (show i < N by omega) (show N < 2 ^ 31 by omega), ix (show i < 160 by omega), ix (show s < 160 by omega), t.2 i (by omega), t.2 s hs', c36, g, decide_false, Bool.false_eq_true]
  obtain ⟨m1, A1, A2, A3⟩ := l1 (N - p) p (by omega) (pm_w2 im 4 2 (nI p)) (w2_s _ _ _ _) (frC.rf.w (Or.inl rfl) _)
  have hs := skp_le B (N - p) p
  have t1 := h.f A3
  have eS : skp B p (N - p) = tS B N p := rfl
  rw [eS] at A2 hs
  have fin : ∃ im', ev 35 46 [.ref 4] [] m1 rm = some (none, im', rm) ∧ tkC im' (tS B N p) (tE B N p) ∧ frC im im' := by
    unfold tE
    by_cases g : tS B N p < N
    · rw [if_pos g]
      obtain ⟨m', E1, E2, E3⟩ := l2 (tS B N p) (N - (tS B N p + 1)) (tS B N p + 1) (by omega) (fun _ => g) (pm_w2 m1 4 3 (nI (tS B N p + 1))) (by rw [w2_i (by omega)]; exact A2) (w2_s _ _ _ _) (A3.w (Or.inr rfl) _)
      refine ⟨m', ?_, E2, E3⟩
      rw [← E1]
      simp only [s35_46, s35_47, s35_48, s35_51, s35_52, s35_53, s35_54, s35_57, s35_60, ↓reduceIte, Option.bind_some, Option.toList, List.cons_append, List.nil_append, bB_0, bB_z, z01_0, z01_1, n01, n00, pm_ro_some, reduceCtorEq, if_true, if_false, and_self, and_true, true_and, not_true, not_false_eq_true, Nat.reduceLeDiff, Nat.reduceAdd, kdX, A2, t1.1, c176, nI_add, lpG (show tS B N p + 1 ≤ N by omega) (show N < 2 ^ 31 by omega)]
    · rw [if_neg g]
      obtain ⟨m', E1, E2, E3⟩ := l2 (tS B N p) 0 N (by omega) (fun q => absurd rfl q) (pm_w2 m1 4 3 (nI N)) (by rw [w2_i (by omega)]; exact A2) (w2_s _ _ _ _) (A3.w (Or.inr rfl) _)
      refine ⟨m', ?_, E2, E3⟩
      rw [← E1]
      simp only [s35_46, s35_47, s35_48, s35_51, s35_52, s35_53, s35_54, s35_57, s35_60, ↓reduceIte, Option.bind_some, Option.toList, List.cons_append, List.nil_append, bB_0, bB_z, z01_0, z01_1, n01, n00, pm_ro_some, reduceCtorEq, if_true, if_false, and_self, and_true, true_and, not_true, not_false_eq_true, Nat.reduceLeDiff, Nat.reduceAdd, kdX, A2, t1.1, c176, nI_add, lpF (show N < tS B N p + 1 by omega) (show tS B N p + 1 < 2 ^ 31 by omega)]
  obtain ⟨im', E1, E2⟩ := fin
  refine ⟨im', ?_, E2⟩
  rw [← E1, ← A1]
  simp only [s35_0, s35_1, s35_2, s35_5, ↓reduceIte, Option.bind_some, Option.toList, List.cons_append, List.nil_append, bB_0, bB_z, z01_0, z01_1, n01, n00, pm_ro_some, reduceCtorEq, if_true, if_false, and_self, and_true, true_and, not_true, not_false_eq_true, Nat.reduceLeDiff, Nat.reduceAdd, kdX, hq]
theorem c34 (hx : rmX rm pp ll) (hN : N ≤ 160) (h : TXc B N im) : ∃ im', ev 34 0 [.ref 4] [] im rm = some (none, im', rm) ∧ tkC im' (tS B N 0) (tE B N 0) ∧ frC im im' := by
  have f0 : frC im (pm_w2 im 4 3 (nI 0)) := frC.rf.w (Or.inr rfl) _
  obtain ⟨im', E1, E2, E3⟩ := c35 (im := pm_w2 im 4 3 (nI 0)) hx hN (h.f f0) (Nat.zero_le N) (w2_s _ _ _ _)
  exact ⟨im', by simp only [s34_0, s34_1, s34_2, s34_5, s34_6, s34_9, ↓reduceIte, Option.bind_some, Option.toList, List.cons_append, List.nil_append, bB_0, bB_z, z01_0, z01_1, n01, n00, pm_ro_some, reduceCtorEq, if_true, if_false, and_self, and_true, true_and, not_true, not_false_eq_true, Nat.reduceLeDiff, Nat.reduceAdd, kdX, E1], E2, f0.tr E3⟩
theorem c120 (hm : rmM rm) (hN : N ≤ 160) (h : TXm B N im) {p : Nat} (hp : p ≤ N) (hq : im 129 34 = nI p) : ∃ im', ev 120 0 [.ref 129] [] im rm = some (none, im', rm) ∧ tkM im' (tS B N p) (tE B N p) ∧ im' 129 37 = im 129 37 ∧ frM im im' := by
  have l1 : ∀ n i, i + n = N → ∀ m : IM, m 129 34 = nI i → m 129 37 = im 129 37 → frM im m → ∃ m', ev 120 0 [.ref 129] [] m rm = ev 120 38 [.ref 129] [] m' rm ∧ m' 129 34 = nI (skp B i n) ∧ m' 129 37 = im 129 37 ∧ frM im m' := by
    intro n
    induction n with
    | zero =>
      intro i hi m h1 h7 h2
      have t := h.f h2
      refine ⟨m, ?_, h1, h7, h2⟩
      rw [show i = N by omega] at h1
      simp only [s120_0, s120_1, s120_4, s120_5, s120_8, ↓reduceIte, Option.bind_some, Option.toList, List.cons_append, List.nil_append, bB_0, bB_z, z01_0, z01_1, n01, n00, pm_ro_some, reduceCtorEq, if_true, if_false, and_self, and_true, true_and, not_true, not_false_eq_true, Nat.reduceLeDiff, Nat.reduceAdd, kdM, h1, t.1, lpT]
    | succ n ih =>
      intro i hi m h1 h7 h2
      have t := h.f h2
      unfold skp
      by_cases g : B i = nI 32
      · rw [if_pos g]
        obtain ⟨m', E1, E2, E3⟩ := ih (i + 1) (by omega) (pm_w2 m 129 34 (nI (i + 1))) (w2_s _ _ _ _) (by rw [w2_i (by omega)]; exact h7) (h2.w (by omega) _)
        refine ⟨m', ?_, E2, E3⟩
        rw [← E1, s120_0]
        simp only [s120_1, s120_4, s120_5, s120_8, s120_11, s120_12, s120_15, s120_16, s120_19, s120_20, s120_22, s120_25, s120_26, s120_27, s120_30, s120_31, s120_32, s120_35, ↓reduceIte, Option.bind_some, Option.toList, List.cons_append, List.nil_append, bB_0, bB_z, z01_0, z01_1, n01, n00, pm_ro_some, reduceCtorEq, if_true, if_false, and_self, and_true, true_and, not_true, not_false_eq_true, Nat.reduceLeDiff, Nat.reduceAdd, kdM, hm, h1, t.1, lpF (show i < N by omega) (show N < 2 ^ 31 by omega), ix (show i < 160 by omega), t.2 i (by omega), g, nI_add]
      · rw [if_neg g]
        refine ⟨m, ?_, h1, h7, h2⟩
        simp only [s120_0, s120_1, s120_4, s120_5, s120_8, s120_11, s120_12, s120_15, s120_16, s120_19, s120_20, s120_22, ↓reduceIte, Option.bind_some, Option.toList, List.cons_append, List.nil_append, bB_0, bB_z, z01_0, z01_1, n01, n00, pm_ro_some, reduceCtorEq, if_true, if_false, and_self, and_true, true_and, not_true, not_false_eq_true, Nat.reduceLeDiff, Nat.reduceAdd, kdM, hm, h1, t.1, lpF (show i < N by omega) (show N < 2 ^ 31 by omega), ix (show i < 160 by omega), t.2 i (by omega), g]
  have l2 : ∀ s n i, i + n = N → (n ≠ 0 → s < N) → ∀ m : IM, m 129 35 = nI s → m 129 34 = nI i → m 129 37 = im 129 37 → frM im m → ∃ m', ev 120 71 [.ref 129] [] m rm = some (none, m', rm) ∧ tkM m' s (rnn B (B s) i n) ∧ m' 129 37 = im 129 37 ∧ frM im m' := by
    intro s n
    induction n with
    | zero =>
      intro i hi _ m h1 h2 h7 h3
      have t := h.f h3
      refine ⟨pm_w2 m 129 36 (nI i), ?_, ⟨by rw [w2_i (by omega)]; exact h2, by rw [w2_i (by omega)]; exact h1, w2_s _ _ _ _⟩, by rw [w2_i (by omega)]; exact h7, h3.w (by omega) _⟩
      rw [show i = N by omega] at h2 ⊢
      simp only [s120_71, s120_72, s120_75, s120_76, s120_79, s120_137, s120_138, s120_139, s120_142, s120_145, ↓reduceIte, Option.bind_some, Option.toList, List.cons_append, List.nil_append, bB_0, bB_z, z01_0, z01_1, n01, n00, pm_ro_some, reduceCtorEq, if_true, if_false, and_self, and_true, true_and, not_true, not_false_eq_true, Nat.reduceLeDiff, Nat.reduceAdd, kdM, h2, t.1, lpT]
    | succ n ih =>
      intro i hi hs m h1 h2 h7 h3
      have t := h.f h3
      have hs' := hs (by omega)
      have sl : ∀ x : Int32, srt x ≤ 2 := fun x => by unfold srt; split <;> (try split) <;> omega
      have a1 := sl (B s)
      have a2 := sl (B i)
      have stop : ¬ (0 < srt (B s) ∧ srt (B i) = srt (B s)) → ev 120 71 [.ref 129] [] m rm = some (none, pm_w2 m 129 36 (nI i), rm) := by
        intro g
        by_cases z : 0 < srt (B s)
        · have z2 : ¬ srt (B i) = srt (B s) := fun q => g ⟨z, q⟩
          simp only [s120_71, s120_72, s120_75, s120_76, s120_79, s120_82, s120_83, s120_86, s120_87, s120_90, s120_91, s120_94, s120_97, s120_98, s120_101, s120_102, s120_105, s120_106, s120_109, s120_110, s120_113, s120_114, s120_117, s120_118, s120_121, s120_137, s120_138, s120_139, s120_142, s120_145, ↓reduceIte, Option.bind_some, Option.toList, List.cons_append, List.nil_append, bB_0, bB_z, z01_0, z01_1, n01, n00, pm_ro_some, reduceCtorEq, if_true, if_false, and_self, and_true, true_and, not_true, not_false_eq_true, Nat.reduceLeDiff, Nat.reduceAdd, kdM, hm, h1, h2, t.1, lpF (show i < N by omega) (show N < 2 ^ 31 by omega), ix (show i < 160 by omega), ix (show s < 160 by omega), t.2 i (by omega), t.2 s hs', c119, lpF z (show srt (B s) < 2 ^ 31 by omega), nI_eqq (show srt (B i) < 2 ^ 31 by omega) (show srt (B s) < 2 ^ 31 by omega), z2]
        · have z2 : srt (B s) = 0 := by omega
          simp only [s120_71, s120_72, s120_75, s120_76, s120_79, s120_82, s120_83, s120_86, s120_87, s120_90, s120_91, s120_94, s120_137, s120_138, s120_139, s120_142, s120_145, ↓reduceIte, Option.bind_some, Option.toList, List.cons_append, List.nil_append, bB_0, bB_z, z01_0, z01_1, n01, n00, pm_ro_some, reduceCtorEq, if_true, if_false, and_self, and_true, true_and, not_true, not_false_eq_true, Nat.reduceLeDiff, Nat.reduceAdd, kdM, hm, h1, h2, t.1, lpF (show i < N by omega) (show N < 2 ^ 31 by omega), ix (show s < 160 by omega), t.2 s hs', c119, z2, lpT]
      unfold rnn
      by_cases g : 0 < srt (B s) ∧ srt (B i) = srt (B s)
      · rw [if_pos g]
        obtain ⟨m', E1, E2, E3⟩ := ih (i + 1) (by omega) (fun _ => hs') (pm_w2 m 129 34 (nI (i + 1))) (by rw [w2_i (by omega)]; exact h1) (w2_s _ _ _ _) (by rw [w2_i (by omega)]; exact h7) (h3.w (by omega) _)
        refine ⟨m', ?_, E2, E3⟩
        rw [← E1, s120_71]
        simp only [s120_72, s120_75, s120_76, s120_79, s120_82, s120_83, s120_86, s120_87, s120_90, s120_91, s120_94, s120_97, s120_98, s120_101, s120_102, s120_105, s120_106, s120_109, s120_110, s120_113, s120_114, s120_117, s120_118, s120_121, s120_124, s120_125, s120_126, s120_129, s120_130, s120_131, s120_134, ↓reduceIte, Option.bind_some, Option.toList, List.cons_append, List.nil_append, bB_0, bB_z, z01_0, z01_1, n01, n00, pm_ro_some, reduceCtorEq, if_true, if_false, and_self, and_true, true_and, not_true, not_false_eq_true, Nat.reduceLeDiff, Nat.reduceAdd, kdM, hm, h1, h2, t.1, lpF (show i < N by omega) (show N < 2 ^ 31 by omega), ix (show i < 160 by omega), ix (show s < 160 by omega), t.2 i (by omega), t.2 s hs', c119, lpF g.1 (show srt (B s) < 2 ^ 31 by omega), g.2, nI_add]
      · rw [if_neg g]
        exact ⟨pm_w2 m 129 36 (nI i), stop g, ⟨by rw [w2_i (by omega)]; exact h2, by rw [w2_i (by omega)]; exact h1, w2_s _ _ _ _⟩, by rw [w2_i (by omega)]; exact h7, h3.w (by omega) _⟩
  obtain ⟨m1, A1, A2, A7, A3⟩ := l1 (N - p) p (by omega) im hq rfl frM.rf
  have hs := skp_le B (N - p) p
  have t1 := h.f A3
  have eS : skp B p (N - p) = tS B N p := rfl
  rw [eS] at A2 hs
  rw [A1]
  have w34 : ∀ x, pm_w2 m1 129 35 x 129 34 = nI (tS B N p) := fun x => by rw [w2_i (by omega)]; exact A2
  have w11 : ∀ x, pm_w2 m1 129 35 x 129 11 = nI N := fun x => by rw [w2_i (by omega)]; exact t1.1
  unfold tE
  by_cases g : tS B N p < N
  · rw [if_pos g]
    obtain ⟨m', E1, E2, E3⟩ := l2 (tS B N p) (N - (tS B N p + 1)) (tS B N p + 1) (by omega) (fun _ => g) (pm_w2 (pm_w2 m1 129 35 (nI (tS B N p))) 129 34 (nI (tS B N p + 1))) (by rw [w2_i (by omega), w2_s]) (w2_s _ _ _ _) (by rw [w2_i (by omega), w2_i (by omega)]; exact A7) ((A3.w (by omega) _).w (by omega) _)
    refine ⟨m', ?_, E2, E3⟩
    rw [← E1]
    simp only [s120_38, s120_39, s120_40, s120_43, s120_46, s120_47, s120_48, s120_51, s120_52, s120_55, s120_56, s120_59, s120_62, s120_63, s120_66, s120_67, s120_68, ↓reduceIte, Option.bind_some, Option.toList, List.cons_append, List.nil_append, bB_0, bB_z, z01_0, z01_1, n01, n00, pm_ro_some, reduceCtorEq, if_true, if_false, and_self, and_true, true_and, not_true, not_false_eq_true, Nat.reduceLeDiff, Nat.reduceAdd, kdM, A2, w34, w11, lpF g (show N < 2 ^ 31 by omega), nI_add]
  · rw [if_neg g]
    have e : tS B N p = N := by omega
    obtain ⟨m', E1, E2, E3⟩ := l2 (tS B N p) 0 N (by omega) (fun q => absurd rfl q) (pm_w2 (pm_w2 m1 129 35 (nI (tS B N p))) 129 34 (nI N)) (by rw [w2_i (by omega), w2_s]) (w2_s _ _ _ _) (by rw [w2_i (by omega), w2_i (by omega)]; exact A7) ((A3.w (by omega) _).w (by omega) _)
    refine ⟨m', ?_, E2, E3⟩
    rw [← E1]
    rw [e] at A2 w34 ⊢
    simp only [s120_38, s120_39, s120_40, s120_43, s120_46, s120_47, s120_48, s120_51, s120_52, s120_55, s120_56, s120_59, s120_62, s120_63, s120_66, s120_67, s120_68, ↓reduceIte, Option.bind_some, Option.toList, List.cons_append, List.nil_append, bB_0, bB_z, z01_0, z01_1, n01, n00, pm_ro_some, reduceCtorEq, if_true, if_false, and_self, and_true, true_and, not_true, not_false_eq_true, Nat.reduceLeDiff, Nat.reduceAdd, kdM, A2, w34, w11, lpT, nI_add, Nat.add_zero]
end TOK
