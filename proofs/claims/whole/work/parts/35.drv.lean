-- needs: 34
/-! tick, set, reading: both sides. -/
theorem b76 {im : IM} {rm : RM} (x : Int32) : ev 76 0 [.int x, .int (nI 159)] [] im rm = some (some (.int (bB (pm_in x 160))), im, rm) ∧ ev 76 0 [.int x, .int (nI 99)] [] im rm = some (some (.int (bB (pm_in x 100))), im, rm) ∧ ev 76 0 [.int x, .int (nI 30)] [] im rm = some (some (.int (bB (pm_in x 31))), im, rm) ∧ ev 76 0 [.int x, .int (nI 60)] [] im rm = some (some (.int (bB (pm_in x 61))), im, rm) ∧ ev 76 0 [.int x, .int (nI 61)] [] im rm = some (some (.int (bB (pm_in x 62))), im, rm) ∧ ev 76 0 [.int x, .int (nI 999)] [] im rm = some (some (.int (bB (pm_in x 1000))), im, rm) ∧ ev 76 0 [.int x, .int (nI 9999)] [] im rm = some (some (.int (bB (pm_in x 10000))), im, rm) ∧ ev 76 0 [.int x, .int (nI 99999)] [] im rm = some (some (.int (bB (pm_in x 100000))), im, rm) ∧ ev 76 0 [.int x, .int (nI 200)] [] im rm = some (some (.int (bB (pm_in x 201))), im, rm) :=
  ⟨c76 x (by decide), c76 x (by decide), c76 x (by decide), c76 x (by decide), c76 x (by decide), c76 x (by decide), c76 x (by decide), c76 x (by decide), c76 x (by decide)⟩
theorem inLs (x : Int32) : decide (lN 0 ≤ x.toInt64 ∧ x.toInt64 ≤ lN 159) = pm_in x 160 ∧ decide (lN 0 ≤ x.toInt64 ∧ x.toInt64 ≤ lN 99) = pm_in x 100 ∧ decide (lN 0 ≤ x.toInt64 ∧ x.toInt64 ≤ lN 30) = pm_in x 31 ∧ decide (lN 0 ≤ x.toInt64 ∧ x.toInt64 ≤ lN 60) = pm_in x 61 ∧ decide (lN 0 ≤ x.toInt64 ∧ x.toInt64 ≤ lN 61) = pm_in x 62 ∧ decide (lN 0 ≤ x.toInt64 ∧ x.toInt64 ≤ lN 999) = pm_in x 1000 ∧ decide (lN 0 ≤ x.toInt64 ∧ x.toInt64 ≤ lN 9999) = pm_in x 10000 ∧ decide (lN 0 ≤ x.toInt64 ∧ x.toInt64 ≤ lN 99999) = pm_in x 100000 ∧ decide (lN 0 ≤ x.toInt64 ∧ x.toInt64 ≤ lN 200) = pm_in x 201 ∧ decide (lN 0 ≤ x.toInt64 ∧ x.toInt64 ≤ lN 7) = pm_in x 8 ∧ decide (lN 0 ≤ x.toInt64 ∧ x.toInt64 ≤ lN 1) = pm_in x 2 ∧ decide (lN 0 ≤ x.toInt64 ∧ x.toInt64 ≤ lN 2) = pm_in x 3 ∧ decide (lN 0 ≤ x.toInt64 ∧ x.toInt64 ≤ lN 4) = pm_in x 5 ∧ decide (lN 0 ≤ x.toInt64 ∧ x.toInt64 ≤ lN 15) = pm_in x 16 :=
  ⟨inL x 159 (by decide), inL x 99 (by decide), inL x 30 (by decide), inL x 60 (by decide), inL x 61 (by decide), inL x 999 (by decide), inL x 9999 (by decide), inL x 99999 (by decide), inL x 200 (by decide), inL x 7 (by decide), inL x 1 (by decide), inL x 2 (by decide), inL x 4 (by decide), inL x 15 (by decide)⟩
/-- the answers of the two sides are one, and what must hold holds again -/
def PAIR (k : Nat) (lv : List Value) (k' : Nat) (lv' : List Value) (im : IM) (rm : RM) : Prop := ∃ x im1 rm1 im2 rm2 pp ll, ev k 0 lv [] im rm = some (some (.int x), im1, rm1) ∧ ev k' 0 lv' [] im1 rm1 = some (some (.int x), im2, rm2) ∧ INV im2 rm2 pp ll
theorem PAIR.q {k k' : Nat} {lv lv' : List Value} {im : IM} {rm : RM} {pp ll : Nat → Nat} (hI : INV im rm pp ll) (x : Int32) (h1 : ∃ im1, ev k 0 lv [] im rm = some (some (.int x), im1, rm) ∧ SS im im1) (h2 : ∀ im1, SS im im1 → ∃ im2, ev k' 0 lv' [] im1 rm = some (some (.int x), im2, rm) ∧ SS im im2) : PAIR k lv k' lv' im rm := by
  obtain ⟨im1, e1, s1⟩ := h1
  obtain ⟨im2, e2, s2⟩ := h2 im1 s1
  exact ⟨x, im1, rm, im2, rm, pp, ll, e1, e2, hI.ss s2⟩
section DRV
variable {im σ : IM} {rm : RM} {pp ll : Nat → Nat}
theorem c5 {a t : Nat} (hk : kd a = 10) (hr : rm a 5 = some (a + 2) ∧ rm a 10 = some (a + 7)) (hk2 : kd (a + 2) = 0 ∧ ln (a + 2) = 40) (hk7 : kd (a + 7) = 0 ∧ ln (a + 7) = 40) (ht : t < 40) (trap : Int32) : ev 5 0 [.ref a, .int (nI t), .int trap] [] im rm = some (some (.int (bB (decide (trap < im (a + 7) t + im (a + 2) t / nI 8)))), im, rm) := by
  by_cases h : trap < im (a + 7) t + im (a + 2) t / nI 8
  · simp only [s5_0, s5_1, s5_4, s5_5, s5_6, s5_7, s5_10, s5_11, s5_12, s5_14, s5_15, s5_16, s5_17, s5_20, s5_21, s5_24, s5_25, ↓reduceIte, Option.bind_some, Option.toList, List.cons_append, List.nil_append, bB_0, bB_z, z01_0, z01_1, n01, n00, pm_ro_some, reduceCtorEq, if_true, if_false, and_self, and_true, true_and, not_true, not_false_eq_true, Nat.reduceLeDiff, Nat.reduceAdd, hk, hr, hk2, hk7, ix ht, nz8, Int32.not_le.mpr h, h, decide_true]
    rfl
  · simp only [s5_0, s5_1, s5_4, s5_5, s5_6, s5_7, s5_10, s5_11, s5_12, s5_14, s5_15, s5_16, s5_17, s5_20, s5_21, s5_24, s5_25, ↓reduceIte, Option.bind_some, Option.toList, List.cons_append, List.nil_append, bB_0, bB_z, z01_0, z01_1, n01, n00, pm_ro_some, reduceCtorEq, if_true, if_false, and_self, and_true, true_and, not_true, not_false_eq_true, Nat.reduceLeDiff, Nat.reduceAdd, hk, hr, hk2, hk7, ix ht, nz8, Int32.not_lt.mp h, h, decide_false]
    rfl
theorem c4 {a n : Nat} (hk : kd a = 10) (hr : rm a 5 = some (a + 2) ∧ rm a 10 = some (a + 7)) (hk2 : kd (a + 2) = 0 ∧ ln (a + 2) = 40) (hk7 : kd (a + 7) = 0 ∧ ln (a + 7) = 40) (hn : n ≤ 40) (hl : im a 2 = nI n) (trap : Int32) : ∃ im', ev 4 0 [.ref a, .int trap, pm_u, pm_u] [] im rm = some (none, im', rm) ∧ (∀ t, t < n → im' (a + 7) t = sotf (im (a + 2)) trap t) ∧ (∀ b i, b ≠ a + 7 → im' b i = im b i) := by
  have key : ∀ i, i ≤ n → ∀ m : IM, (∀ t, t < i → m (a + 7) t = sotf (im (a + 2)) trap t) → (∀ b j, b ≠ a + 7 → m b j = im b j) → ∃ im', ev 4 4 [.ref a, .int trap, .int (sotf (im (a + 2)) trap i), .int (nI i)] [] m rm = some (none, im', rm) ∧ (∀ t, t < n → im' (a + 7) t = sotf (im (a + 2)) trap t) ∧ (∀ b i, b ≠ a + 7 → im' b i = im b i) := by
    refine dn ?_ ?_
    · intro m h1 h2
      refine ⟨m, ?_, h1, h2⟩
      simp only [s4_0, s4_1, s4_2, s4_3, s4_4, s4_5, s4_6, s4_9, s4_12, s4_13, s4_16, s4_17, s4_18, s4_19, s4_20, s4_21, s4_22, s4_25, s4_28, s4_29, s4_32, s4_33, s4_34, s4_37, s4_38, s4_39, s4_41, s4_42, s4_43, s4_44, s4_47, s4_50, ↓reduceIte, Option.bind_some, Option.toList, List.cons_append, List.nil_append, bB_0, bB_z, z01_0, z01_1, n01, n00, pm_ro_some, reduceCtorEq, if_true, if_false, and_self, and_true, true_and, not_true, not_false_eq_true, Nat.reduceLeDiff, Nat.reduceAdd, hk, h2 a 2 (by omega), hl, lpT]
    · intro i hi ih m h1 h2
      obtain ⟨im', e1, e2⟩ := ih (pm_w2 m (a + 7) i (sotf (im (a + 2)) trap i)) (fun t ht => by
        by_cases e : t = i
        · rw [e, w2_s]
        · rw [w2_i e]; exact h1 t (by omega)) (fun b j hb => by rw [w2_a hb]; exact h2 b j hb)
      refine ⟨im', ?_, e2⟩
      rw [← e1]
      have hA : ∀ j, pm_w2 m (a + 7) i (sotf (im (a + 2)) trap i) (a + 2) j = im (a + 2) j := fun j => by rw [w2_a (by omega)]; exact h2 _ _ (by omega)
      have hB := c5 (rm := rm) (im := pm_w2 m (a + 7) i (sotf (im (a + 2)) trap i)) hk hr hk2 hk7 (show i < 40 by omega) trap
      rw [s4_4]
      by_cases hb : trap < sotf (im (a + 2)) trap i + im (a + 2) i / nI 8 <;>
      simp only [s4_0, s4_1, s4_2, s4_3, s4_5, s4_6, s4_9, s4_12, s4_13, s4_16, s4_17, s4_18, s4_19, s4_20, s4_21, s4_22, s4_25, s4_28, s4_29, s4_32, s4_33, s4_34, s4_37, s4_38, s4_39, s4_41, s4_42, s4_43, s4_44, s4_47, s4_50, ↓reduceIte, Option.bind_some, Option.toList, List.cons_append, List.nil_append, bB_0, bB_z, z01_0, z01_1, n01, n00, pm_ro_some, reduceCtorEq, if_true, if_false, and_self, and_true, true_and, not_true, not_false_eq_true, Nat.reduceLeDiff, Nat.reduceAdd, hk, hr, hk2, hk7, h2 a 2 (by omega), hl, lpF hi (by omega), ix (show i < 40 by omega), hB, hA, w2_s, nI_add, sotf, hb, decide_true, decide_false, nz8, Bool.false_eq_true]
  obtain ⟨im', e1, e2⟩ := key 0 (by omega) im (fun t ht => by omega) (fun _ _ _ => rfl)
  refine ⟨im', ?_, e2⟩
  rw [← e1]
  simp only [s4_0, s4_1, s4_2, s4_3, sotf]
theorem c3 {a n : Nat} (hk : kd a = 10) (hr : rm a 4 = some (a + 1) ∧ rm a 5 = some (a + 2) ∧ rm a 6 = some (a + 3) ∧ rm a 7 = some (a + 4) ∧ rm a 8 = some (a + 5) ∧ rm a 9 = some (a + 6) ∧ rm a 10 = some (a + 7)) (hq : ∀ j, 1 ≤ j → j ≤ 7 → kd (a + j) = 0 ∧ ln (a + j) = 40) (hn : n < 40) (hl : im a 2 = nI n) (x1 x2 x3 x4 x5 : Int32) : ev 3 0 [.ref a, .int x1, .int x2, .int x3, .int x4, .int x5] [] im rm = some (none, pm_w2 (pm_w2 (pm_w2 (pm_w2 (pm_w2 (pm_w2 (pm_w2 im (a + 1) n x1) (a + 2) n x2) (a + 3) n x3) (a + 4) n x4) (a + 5) n x5) (a + 6) n (iab x3 + (if n = 0 then nI 0 else im (a + 6) (n - 1)))) a 2 (nI (n + 1)), rm) := by
  have hw : ∀ (f : IM) (j i : Nat) (v : Int32), 1 ≤ j → pm_w2 f (a + j) i v a 2 = f a 2 := fun f j i v hj => w2_a (by omega)
  have hw6 : ∀ (f : IM) (j i : Nat) (v : Int32) (k : Nat), j < 6 → pm_w2 f (a + j) i v (a + 6) k = f (a + 6) k := fun f j i v k hj => w2_a (by omega)
  have e : (nI n = nI 0) = (n = 0) := by
    apply propext
    constructor
    · intro h
      have := congrArg Int32.toNatClampNeg h
      rw [nI_clamp (by omega), nI_clamp (by omega)] at this
      exact this
    · intro h; rw [h]
  by_cases h0 : n = 0
  · subst h0
    simp only [s3_0, s3_1, s3_4, s3_6, s3_9, s3_10, s3_11, s3_14, s3_15, s3_18, s3_19, s3_20, s3_21, s3_24, s3_25, s3_28, s3_29, s3_30, s3_31, s3_34, s3_35, s3_38, s3_39, s3_40, s3_41, s3_44, s3_45, s3_48, s3_50, s3_51, s3_52, s3_55, s3_56, s3_59, s3_61, s3_62, s3_63, s3_66, s3_67, s3_70, s3_71, s3_74, s3_75, s3_78, s3_81, s3_82, s3_85, s3_86, s3_89, s3_90, s3_93, s3_94, s3_95, s3_96, s3_97, s3_98, s3_99, s3_100, s3_103, s3_104, s3_105, s3_108, ↓reduceIte, Option.bind_some, Option.toList, List.cons_append, List.nil_append, bB_0, bB_z, z01_0, z01_1, n01, n00, pm_ro_some, reduceCtorEq, if_true, if_false, and_self, and_true, true_and, not_true, not_false_eq_true, Nat.reduceLeDiff, Nat.reduceAdd, hk, hr, hq 1 (by omega) (by omega), hq 2 (by omega) (by omega), hq 3 (by omega) (by omega), hq 4 (by omega) (by omega), hq 5 (by omega) (by omega), hq 6 (by omega) (by omega), hl, hw _ 1 _ _ (by omega), hw _ 2 _ _ (by omega), hw _ 3 _ _ (by omega), hw _ 4 _ _ (by omega), hw _ 5 _ _ (by omega), hw _ 6 _ _ (by omega), ix hn, lpF hn (by omega), c174, e, nI_add]
  · have hs : nI n - nI 1 = nI (n - 1) := by
      have := nI_add (n - 1) 1
      rw [show n - 1 + 1 = n by omega] at this
      rw [← this]
      simp
    simp only [s3_0, s3_1, s3_4, s3_6, s3_9, s3_10, s3_11, s3_14, s3_15, s3_18, s3_19, s3_20, s3_21, s3_24, s3_25, s3_28, s3_29, s3_30, s3_31, s3_34, s3_35, s3_38, s3_39, s3_40, s3_41, s3_44, s3_45, s3_48, s3_50, s3_51, s3_52, s3_55, s3_56, s3_59, s3_61, s3_62, s3_63, s3_66, s3_67, s3_70, s3_71, s3_74, s3_75, s3_78, s3_81, s3_82, s3_85, s3_86, s3_89, s3_90, s3_93, s3_94, s3_95, s3_96, s3_97, s3_98, s3_99, s3_100, s3_103, s3_104, s3_105, s3_108, ↓reduceIte, Option.bind_some, Option.toList, List.cons_append, List.nil_append, bB_0, bB_z, z01_0, z01_1, n01, n00, pm_ro_some, reduceCtorEq, if_true, if_false, and_self, and_true, true_and, not_true, not_false_eq_true, Nat.reduceLeDiff, Nat.reduceAdd, hk, hr, hq 1 (by omega) (by omega), hq 2 (by omega) (by omega), hq 3 (by omega) (by omega), hq 4 (by omega) (by omega), hq 5 (by omega) (by omega), hq 6 (by omega) (by omega), hl, hw _ 1 _ _ (by omega), hw _ 2 _ _ (by omega), hw _ 3 _ _ (by omega), hw _ 4 _ _ (by omega), hw _ 5 _ _ (by omega), hw _ 6 _ _ (by omega), hw6 _ 1 _ _ _ (by omega), hw6 _ 2 _ _ _ (by omega), hw6 _ 3 _ _ _ (by omega), hw6 _ 4 _ _ _ (by omega), hw6 _ 5 _ _ _ (by omega), ix hn, ix (show n - 1 < 40 by omega), lpF hn (by omega), c174, e, h0, hs, nI_add]
theorem nI_eqq {a b : Nat} (ha : a < 2 ^ 31) (hb : b < 2 ^ 31) : (nI a = nI b) = (a = b) := by
  apply propext
  constructor
  · intro h
    have := congrArg Int32.toNatClampNeg h
    rw [nI_clamp ha, nI_clamp hb] at this
    exact this
  · intro h; rw [h]
theorem in9 (x : Int32) : decide ((-9 : Int64) ≤ x.toInt64 ∧ x.toInt64 ≤ lN 9) = decide (¬ x < -9 ∧ ¬ nI 9 < x) := by
  apply Bool.eq_iff_iff.mpr
  rw [decide_eq_true_eq, decide_eq_true_eq, i64_le, i64_le, i32_lt, i32_lt, Int32.toInt_toInt64, show ((-9 : Int64)).toInt = -9 from by decide, show ((-9 : Int32)).toInt = -9 from by decide, show (lN 9).toInt = 9 from by decide, show (nI 9).toInt = 9 from by decide]
  omega
theorem INV.dm {d : Nat} (h : INV im rm pp ll) (hd : d < 6) : rm 1 d = some (dr d) ∧ (rm (dr d) 4 = some (dr d + 1) ∧ rm (dr d) 5 = some (dr d + 2) ∧ rm (dr d) 6 = some (dr d + 3) ∧ rm (dr d) 7 = some (dr d + 4) ∧ rm (dr d) 8 = some (dr d + 5) ∧ rm (dr d) 9 = some (dr d + 6) ∧ rm (dr d) 10 = some (dr d + 7)) ∧ kd (dr d) = 10 ∧ (kd (dr d + 1) = 0 ∧ ln (dr d + 1) = 40) ∧ (kd (dr d + 2) = 0 ∧ ln (dr d + 2) = 40) ∧ (kd (dr d + 3) = 0 ∧ ln (dr d + 3) = 40) ∧ (kd (dr d + 4) = 0 ∧ ln (dr d + 4) = 40) ∧ (kd (dr d + 5) = 0 ∧ ln (dr d + 5) = 40) ∧ (kd (dr d + 6) = 0 ∧ ln (dr d + 6) = 40) ∧ (kd (dr d + 7) = 0 ∧ ln (dr d + 7) = 40) :=
  ⟨h.x.2.2.1 d hd, h.x.2.2.2.2.2.2.2.2.1 d hd, kd_dr hd, kd_da hd (by omega) (by omega), kd_da hd (by omega) (by omega), kd_da hd (by omega) (by omega), kd_da hd (by omega) (by omega), kd_da hd (by omega) (by omega), kd_da hd (by omega) (by omega), kd_da hd (by omega) (by omega)⟩
end DRV
