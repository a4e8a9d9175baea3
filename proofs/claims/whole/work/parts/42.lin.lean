-- needs: 39
/-! lines, both sides. -/
/-- test q of version v by readings R -/
def tst (σ : IM) (v : Nat) (R : Nat → Int32) (q : Nat) : Bool := if σ 145 (24 * v + q) = nI 1 then decide (σ 146 (24 * v + q) < R (σ 144 (24 * v + q)).toNatClampNeg) else decide (R (σ 144 (24 * v + q)).toNatClampNeg < σ 146 (24 * v + q))
/-- the first k tests of line i hold -/
def tkn (σ : IM) (v : Nat) (R : Nat → Int32) (i : Nat) : Nat → Bool
  | 0 => true
  | k + 1 => tkn σ v R i k && tst σ v R (4 * i + k)
theorem tkn_f {σ : IM} {v i : Nat} {R : Nat → Int32} {j : Nat} (h : tkn σ v R i j = false) : ∀ n, tkn σ v R i (j + n) = false := by
  intro n
  induction n with
  | zero => exact h
  | succ n ih => show (tkn σ v R i (j + n) && tst σ v R (4 * i + (j + n))) = false; rw [ih, Bool.false_and]
def linf (p : Nat → Bool) : Nat → Nat → Int32
  | _, 0 => -1
  | i, n + 1 => if p i = true then nI i else linf p (i + 1) n
theorem linf_or (p : Nat → Bool) : ∀ n i, linf p i n = -1 ∨ ∃ j, i ≤ j ∧ j < i + n ∧ linf p i n = nI j := by
  intro n
  induction n with
  | zero => intro i; exact Or.inl rfl
  | succ n ih =>
    intro i
    unfold linf
    by_cases h : p i = true
    · rw [if_pos h]; exact Or.inr ⟨i, by omega, by omega, rfl⟩
    · rw [if_neg h]
      rcases ih (i + 1) with h1 | ⟨j, h1, h2, h3⟩
      · exact Or.inl h1
      · exact Or.inr ⟨j, by omega, by omega, h3⟩
/-- the line that is taken -/
def lin (σ : IM) (v : Nat) (R : Nat → Int32) : Int32 := linf (fun i => tkn σ v R i (tn σ v i)) 0 (pn σ v)
def mpo (σ : IM) (v : Nat) (R : Nat → Int32) : Int32 := if lin σ v R = -1 then nI 0 else σ 142 (6 * v + (lin σ v R).toNatClampNeg)
theorem lin_or (σ : IM) (v : Nat) (R : Nat → Int32) : lin σ v R = -1 ∨ ∃ j, j < pn σ v ∧ lin σ v R = nI j := by
  rcases linf_or (fun i => tkn σ v R i (tn σ v i)) (pn σ v) 0 with h | ⟨j, _, h2, h3⟩
  · exact Or.inl h
  · exact Or.inr ⟨j, by omega, h3⟩
theorem nIm1 {j : Nat} (h : j < 2 ^ 31) : (nI j = -1) = False := by
  apply eq_false
  intro q
  have := congrArg Int32.toInt q
  rw [nI_toInt h, show ((-1 : Int32)).toInt = -1 from by decide] at this
  omega
theorem nI_sb (a b : Nat) : nI (a + b) - nI a = nI b := by
  rw [← nI_add, Int32.add_comm (nI a)]
  simp
section LIN
variable {im σ : IM} {rm : RM} {pp ll : Nat → Nat}
theorem kd_pp (h : PR pp ll) {v : Nat} (hv : v < 5) : kd (pp v) = 14 ∧ (kd (pp v + 1) = 0 ∧ ln (pp v + 1) = 6) ∧ (kd (pp v + 2) = 0 ∧ ln (pp v + 2) = 6) ∧ (kd (pp v + 3) = 0 ∧ ln (pp v + 3) = 24) ∧ (kd (pp v + 4) = 1 ∧ ln (pp v + 4) = 24) ∧ (kd (pp v + 5) = 0 ∧ ln (pp v + 5) = 24) := by
  rcases h.p v hv with e | e | e | e | e <;> rw [e] <;> exact ⟨kd_at (by decide), ⟨kd_at (by decide), ln_at (by decide)⟩, ⟨kd_at (by decide), ln_at (by decide)⟩, ⟨kd_at (by decide), ln_at (by decide)⟩, ⟨kd_at (by decide), ln_at (by decide)⟩, kd_at (by decide), ln_at (by decide)⟩
theorem INV.pm {v : Nat} (h : INV σ rm pp ll) (hv : v < 5) : (rm (pp v) 1 = some (pp v + 1) ∧ rm (pp v) 2 = some (pp v + 2) ∧ rm (pp v) 3 = some (pp v + 3) ∧ rm (pp v) 4 = some (pp v + 4) ∧ rm (pp v) 5 = some (pp v + 5)) ∧ kd (pp v) = 14 ∧ (kd (pp v + 1) = 0 ∧ ln (pp v + 1) = 6) ∧ (kd (pp v + 2) = 0 ∧ ln (pp v + 2) = 6) ∧ (kd (pp v + 3) = 0 ∧ ln (pp v + 3) = 24) ∧ (kd (pp v + 4) = 1 ∧ ln (pp v + 4) = 24) ∧ (kd (pp v + 5) = 0 ∧ ln (pp v + 5) = 24) := ⟨h.x.2.2.2.2.2.2.2.2.2.1 v hv, kd_pp h.r hv⟩
theorem SS.p {v : Nat} (hs : SS σ im) (h : PR pp ll) (hv : v < 5) (j : Nat) (hj : j ≤ 5) (i : Nat) : im (pp v + j) i = σ (pp v + j) i := by
  have := h.p v hv
  exact hs.1 _ _ (by omega) (by omega)
theorem SS.p0 {v : Nat} (hs : SS σ im) (h : PR pp ll) (hv : v < 5) (i : Nat) : im (pp v) i = σ (pp v) i := hs.p h hv 0 (by omega) i
theorem c17 (hI : INV σ rm pp ll) (hs : SS σ im) {R : Nat → Int32} (hR : ∀ r, r < 8 → im 38 r = R r) {v i : Nat} (hv : v < 4) (hi : i < pn σ v) : ev 17 0 [.ref (pp v), .int (nI i), .ref 38, pm_u, pm_u, pm_u] [] im rm = some (some (.int (bB (tkn σ v R i (tn σ v i)))), im, rm) := by
  have P := hI.p v hv
  have pm := hI.pm (show v < 5 by omega)
  have n6 := P.n6
  have L := P.li i hi
  have t4 := L.2.2.2.2
  have key : ∀ k, k ≤ tn σ v i → tkn σ v R i k = true → ev 17 7 [.ref (pp v), .int (nI i), .ref 38, .int (nI (4 * i)), .int (nI (4 * i + k)), pm_u] [] im rm = some (some (.int (bB (tkn σ v R i (tn σ v i)))), im, rm) := by
    refine dn ?_ ?_
    · intro h
      rw [h]
      simp only [s17_0, s17_1, s17_2, s17_3, s17_4, s17_5, s17_7, s17_9, s17_10, s17_11, s17_14, s17_15, s17_16, s17_17, s17_20, s17_21, s17_22, s17_25, s17_27, s17_28, s17_29, s17_31, s17_32, s17_35, s17_37, s17_38, s17_41, s17_43, s17_44, s17_47, s17_49, s17_50, s17_53, s17_56, s17_58, s17_59, s17_62, s17_64, s17_65, s17_68, s17_69, s17_70, s17_73, s17_76, s17_77, ↓reduceIte, Option.bind_some, Option.toList, List.cons_append, List.nil_append, bB_0, bB_z, z01_0, z01_1, n01, n00, pm_ro_some, reduceCtorEq, if_true, if_false, and_self, and_true, true_and, not_true, not_false_eq_true, Nat.reduceLeDiff, Nat.reduceAdd, kdX, pm, hs.p hI.r (show v < 5 by omega) 2 (by omega), ix (show i < 6 by omega), L.2.2.1, nI_add, lpT]
      rfl
    · intro k hk ih h
      have te := P.te i hi k hk
      obtain ⟨r, hr, er⟩ := pm_in_ex te.2.1 (by decide)
      have q3 := hs.p hI.r (show v < 5 by omega) 3 (by omega) (4 * i + k)
      have q4 := hs.p hI.r (show v < 5 by omega) 4 (by omega) (4 * i + k)
      have q5 := hs.p hI.r (show v < 5 by omega) 5 (by omega) (4 * i + k)
      rw [te.1, er] at q3
      rw [te.2.2.1] at q4
      rw [te.2.2.2.2.1] at q5
      have ab : σ 145 (24 * v + (4 * i + k)) = nI 0 ∨ σ 145 (24 * v + (4 * i + k)) = nI 1 := by
        obtain ⟨b, hb, eb⟩ := pm_in_ex te.2.2.2.1 (by decide)
        rw [eb]
        rcases (show b = 0 ∨ b = 1 by omega) with rfl | rfl
        · exact Or.inl rfl
        · exact Or.inr rfl
      have et : tkn σ v R i (k + 1) = tst σ v R (4 * i + k) := by
        show (tkn σ v R i k && tst σ v R (4 * i + k)) = _
        rw [h, Bool.true_and]
      have fin : tst σ v R (4 * i + k) = false → tkn σ v R i (tn σ v i) = false := by
        intro q
        have := tkn_f (et.trans q) (tn σ v i - (k + 1))
        rw [show k + 1 + (tn σ v i - (k + 1)) = tn σ v i by omega] at this
        exact this
      rw [s17_7]
      rcases ab with ab | ab
      · by_cases h2 : R r < σ 146 (24 * v + (4 * i + k))
        · have T : tst σ v R (4 * i + k) = true := by
            unfold tst
            rw [ab, er, nI_clamp (by omega), if_neg (by decide)]
            exact decide_eq_true h2
          rw [← ih (et.trans T)]
          simp only [s17_0, s17_1, s17_2, s17_3, s17_4, s17_5, s17_9, s17_10, s17_11, s17_14, s17_15, s17_16, s17_17, s17_20, s17_21, s17_22, s17_25, s17_27, s17_28, s17_29, s17_31, s17_32, s17_35, s17_37, s17_38, s17_41, s17_43, s17_44, s17_47, s17_49, s17_50, s17_53, s17_56, s17_58, s17_59, s17_62, s17_64, s17_65, s17_68, s17_69, s17_70, s17_73, s17_76, s17_77, ↓reduceIte, Option.bind_some, Option.toList, List.cons_append, List.nil_append, bB_0, bB_z, z01_0, z01_1, n01, n00, pm_ro_some, reduceCtorEq, if_true, if_false, and_self, and_true, true_and, not_true, not_false_eq_true, Nat.reduceLeDiff, Nat.reduceAdd, kdX, pm, hs.p hI.r (show v < 5 by omega) 2 (by omega), ix (show i < 6 by omega), L.2.2.1, nI_add, lpF (show 4 * i + k < 4 * i + tn σ v i by omega) (by omega), ix (show 4 * i + k < 24 by omega), q3, q4, q5, ix hr, hR r hr, ab, h2, Nat.add_assoc]
        · have T : tst σ v R (4 * i + k) = false := by
            unfold tst
            rw [ab, er, nI_clamp (by omega), if_neg (by decide)]
            exact decide_eq_false h2
          rw [fin T]
          simp only [s17_0, s17_1, s17_2, s17_3, s17_4, s17_5, s17_9, s17_10, s17_11, s17_14, s17_15, s17_16, s17_17, s17_20, s17_21, s17_22, s17_25, s17_27, s17_28, s17_29, s17_31, s17_32, s17_35, s17_37, s17_38, s17_41, s17_43, s17_44, s17_47, s17_49, s17_50, s17_53, s17_56, s17_58, s17_59, s17_62, s17_64, s17_65, s17_68, s17_69, s17_70, s17_73, s17_76, s17_77, ↓reduceIte, Option.bind_some, Option.toList, List.cons_append, List.nil_append, bB_0, bB_z, z01_0, z01_1, n01, n00, pm_ro_some, reduceCtorEq, if_true, if_false, and_self, and_true, true_and, not_true, not_false_eq_true, Nat.reduceLeDiff, Nat.reduceAdd, kdX, pm, hs.p hI.r (show v < 5 by omega) 2 (by omega), ix (show i < 6 by omega), L.2.2.1, nI_add, lpF (show 4 * i + k < 4 * i + tn σ v i by omega) (by omega), ix (show 4 * i + k < 24 by omega), q3, q4, q5, ix hr, hR r hr, ab, h2]
          rfl
      · by_cases h2 : σ 146 (24 * v + (4 * i + k)) < R r
        · have T : tst σ v R (4 * i + k) = true := by
            unfold tst
            rw [ab, er, nI_clamp (by omega), if_pos rfl]
            exact decide_eq_true h2
          rw [← ih (et.trans T)]
          simp only [s17_0, s17_1, s17_2, s17_3, s17_4, s17_5, s17_9, s17_10, s17_11, s17_14, s17_15, s17_16, s17_17, s17_20, s17_21, s17_22, s17_25, s17_27, s17_28, s17_29, s17_31, s17_32, s17_35, s17_37, s17_38, s17_41, s17_43, s17_44, s17_47, s17_49, s17_50, s17_53, s17_56, s17_58, s17_59, s17_62, s17_64, s17_65, s17_68, s17_69, s17_70, s17_73, s17_76, s17_77, ↓reduceIte, Option.bind_some, Option.toList, List.cons_append, List.nil_append, bB_0, bB_z, z01_0, z01_1, n01, n00, pm_ro_some, reduceCtorEq, if_true, if_false, and_self, and_true, true_and, not_true, not_false_eq_true, Nat.reduceLeDiff, Nat.reduceAdd, kdX, pm, hs.p hI.r (show v < 5 by omega) 2 (by omega), ix (show i < 6 by omega), L.2.2.1, nI_add, lpF (show 4 * i + k < 4 * i + tn σ v i by omega) (by omega), ix (show 4 * i + k < 24 by omega), q3, q4, q5, ix hr, hR r hr, ab, h2, Nat.add_assoc]
        · have T : tst σ v R (4 * i + k) = false := by
            unfold tst
            rw [ab, er, nI_clamp (by omega), if_pos rfl]
            exact decide_eq_false h2
          rw [fin T]
          simp only [s17_0, s17_1, s17_2, s17_3, s17_4, s17_5, s17_9, s17_10, s17_11, s17_14, s17_15, s17_16, s17_17, s17_20, s17_21, s17_22, s17_25, s17_27, s17_28, s17_29, s17_31, s17_32, s17_35, s17_37, s17_38, s17_41, s17_43, s17_44, s17_47, s17_49, s17_50, s17_53, s17_56, s17_58, s17_59, s17_62, s17_64, s17_65, s17_68, s17_69, s17_70, s17_73, s17_76, s17_77, ↓reduceIte, Option.bind_some, Option.toList, List.cons_append, List.nil_append, bB_0, bB_z, z01_0, z01_1, n01, n00, pm_ro_some, reduceCtorEq, if_true, if_false, and_self, and_true, true_and, not_true, not_false_eq_true, Nat.reduceLeDiff, Nat.reduceAdd, kdX, pm, hs.p hI.r (show v < 5 by omega) 2 (by omega), ix (show i < 6 by omega), L.2.2.1, nI_add, lpF (show 4 * i + k < 4 * i + tn σ v i by omega) (by omega), ix (show 4 * i + k < 24 by omega), q3, q4, q5, ix hr, hR r hr, ab, h2]
          rfl
  rw [← key 0 (by omega) rfl]
  simp only [s17_0, s17_1, s17_2, s17_3, s17_4, s17_5, pk_mul, Nat.add_zero]
theorem c16 (hI : INV σ rm pp ll) (hs : SS σ im) {R : Nat → Int32} (hR : ∀ r, r < 8 → im 38 r = R r) {v : Nat} (hv : v < 4) : ev 16 0 [.ref (pp v), .ref 38, pm_u] [] im rm = some (some (.int (lin σ v R)), im, rm) := by
  have P := hI.p v hv
  have pm := hI.pm (show v < 5 by omega)
  have n6 := P.n6
  have key : ∀ i, i ≤ pn σ v → ev 16 2 [.ref (pp v), .ref 38, .int (nI i)] [] im rm = some (some (.int (linf (fun i => tkn σ v R i (tn σ v i)) i (pn σ v - i))), im, rm) := by
    refine dn ?_ ?_
    · rw [show pn σ v - pn σ v = 0 by omega]
      simp only [s16_0, s16_1, s16_2, s16_3, s16_4, s16_7, s16_10, s16_11, s16_12, s16_13, s16_16, s16_19, s16_20, s16_21, s16_24, s16_27, s16_28, ↓reduceIte, Option.bind_some, Option.toList, List.cons_append, List.nil_append, bB_0, bB_z, z01_0, z01_1, n01, n00, pm_ro_some, reduceCtorEq, if_true, if_false, and_self, and_true, true_and, not_true, not_false_eq_true, Nat.reduceLeDiff, Nat.reduceAdd, kdX, pm, hs.p0 hI.r (show v < 5 by omega), P.le, lpT]
      rfl
    · intro i hi ih
      rw [show pn σ v - i = (pn σ v - (i + 1)) + 1 by omega]
      unfold linf
      rw [s16_2]
      by_cases h : tkn σ v R i (tn σ v i) = true
      · simp only [s16_0, s16_1, s16_3, s16_4, s16_7, s16_10, s16_11, s16_12, s16_13, s16_16, s16_19, s16_20, s16_21, s16_24, s16_27, s16_28, ↓reduceIte, Option.bind_some, Option.toList, List.cons_append, List.nil_append, bB_0, bB_z, z01_0, z01_1, n01, n00, pm_ro_some, reduceCtorEq, if_true, if_false, and_self, and_true, true_and, not_true, not_false_eq_true, Nat.reduceLeDiff, Nat.reduceAdd, kdX, pm, hs.p0 hI.r (show v < 5 by omega), P.le, lpF hi (by omega), c17 hI hs hR hv hi, h]
      · rw [if_neg h, ← ih]
        simp only [s16_0, s16_1, s16_3, s16_4, s16_7, s16_10, s16_11, s16_12, s16_13, s16_16, s16_19, s16_20, s16_21, s16_24, s16_27, s16_28, ↓reduceIte, Option.bind_some, Option.toList, List.cons_append, List.nil_append, bB_0, bB_z, z01_0, z01_1, n01, n00, pm_ro_some, reduceCtorEq, if_true, if_false, and_self, and_true, true_and, not_true, not_false_eq_true, Nat.reduceLeDiff, Nat.reduceAdd, kdX, pm, hs.p0 hI.r (show v < 5 by omega), P.le, lpF hi (by omega), c17 hI hs hR hv hi, h, nI_add]
  have k0 := key 0 (by omega)
  simp only [s16_0, s16_1]
  exact k0
theorem c18 (hI : INV σ rm pp ll) (hs : SS σ im) (R : Nat → Int32) {v : Nat} (hv : v < 4) : ev 18 0 [.ref (pp v), .int (lin σ v R)] [] im rm = some (some (.int (mpo σ v R)), im, rm) := by
  have P := hI.p v hv
  have pm := hI.pm (show v < 5 by omega)
  have n6 := P.n6
  unfold mpo
  rcases lin_or σ v R with h | ⟨j, hj, h⟩
  · rw [h]
    simp only [s18_0, s18_1, s18_2, s18_5, s18_6, s18_9, s18_10, s18_13, s18_14, s18_15, ↓reduceIte, Option.bind_some, Option.toList, List.cons_append, List.nil_append, bB_0, bB_z, z01_0, z01_1, n01, n00, pm_ro_some, reduceCtorEq, if_true, if_false, and_self, and_true, true_and, not_true, not_false_eq_true, Nat.reduceLeDiff, Nat.reduceAdd, kdX]
  · rw [h]
    simp only [s18_0, s18_1, s18_2, s18_5, s18_6, s18_9, s18_10, s18_13, s18_14, s18_15, ↓reduceIte, Option.bind_some, Option.toList, List.cons_append, List.nil_append, bB_0, bB_z, z01_0, z01_1, n01, n00, pm_ro_some, reduceCtorEq, if_true, if_false, and_self, and_true, true_and, not_true, not_false_eq_true, Nat.reduceLeDiff, Nat.reduceAdd, kdX, nIm1 (show j < 2 ^ 31 by omega), pm, ix (show j < 6 by omega), hs.p hI.r (show v < 5 by omega) 1 (by omega), (P.li j hj).1]
theorem mpo_rg {a v : Nat} (P : IP σ a v) (R : Nat → Int32) : pm_in (mpo σ v R) 4 = true := by
  unfold mpo
  rcases lin_or σ v R with h | ⟨j, hj, h⟩
  · rw [if_pos h]; decide
  · have n6 := P.n6
    rw [h, if_neg (by rw [nIm1 (by omega)]; exact id), nI_clamp (by omega)]
    exact (P.li j hj).2.1
theorem c133 {a : Nat} (hm : rmM rm) (hs : SS σ im) {v d t : Nat} (P : IP σ a v) (hv : v < 4) (hd : d < 6) (ht : t < 40) : ev 133 0 [.ref 129, .int (nI v), .int (nI d), .int (nI t), pm_u, pm_u, pm_u, pm_u] [] im rm = some (some (.int (lin σ v (rdg σ d t))), im, rm) := by
  have n6 := P.n6
  generalize hR : rdg σ d t = R
  have inner : ∀ i, i < pn σ v → ∀ k, k ≤ tn σ v i → ev 133 31 [.ref 129, .int (nI v), .int (nI d), .int (nI t), .int (nI (6 * v + i)), .int (bB (tkn σ v R i k)), .int (nI (4 * (6 * v + i) + k)), pm_u] [] im rm = ev 133 119 [.ref 129, .int (nI v), .int (nI d), .int (nI t), .int (nI (6 * v + i)), .int (bB (tkn σ v R i (tn σ v i))), pm_u, pm_u] [] im rm := by
    intro i hi
    have L := P.li i hi
    have t4 := L.2.2.2.2
    refine dn ?_ ?_
    · simp only [s133_0, s133_2, s133_3, s133_4, s133_6, s133_8, s133_10, s133_11, s133_12, s133_13, s133_16, s133_17, s133_18, s133_19, s133_22, s133_23, s133_25, s133_26, s133_28, s133_29, s133_31, s133_33, s133_34, s133_36, s133_37, s133_38, s133_41, s133_43, s133_44, s133_45, s133_48, s133_49, s133_50, s133_51, s133_52, s133_55, s133_57, s133_58, s133_61, s133_63, s133_65, s133_68, s133_69, s133_72, s133_74, s133_75, s133_76, s133_79, s133_81, s133_82, s133_85, s133_87, s133_88, s133_91, s133_94, s133_96, s133_97, s133_100, s133_102, s133_103, s133_106, s133_107, s133_110, s133_111, s133_113, s133_116, s133_121, s133_124, s133_126, s133_128, s133_129, s133_130, s133_131, s133_132, s133_135, s133_138, s133_139, ↓reduceIte, Option.bind_some, Option.toList, List.cons_append, List.nil_append, bB_0, bB_z, z01_0, z01_1, n01, n00, pm_ro_some, reduceCtorEq, if_true, if_false, and_self, and_true, true_and, not_true, not_false_eq_true, Nat.reduceLeDiff, Nat.reduceAdd, kdM, hm, hs.m, pk_mul, ix (show 6 * v + i < 30 by omega), L.2.2.2.1, nI_add, lpT]
    · intro k hk ih
      have te := P.te i hi k hk
      rw [show 24 * v + (4 * i + k) = 4 * (6 * v + i) + k by omega] at te
      obtain ⟨r, hr, er⟩ := pm_in_ex te.2.1 (by decide)
      have ab : σ 145 (4 * (6 * v + i) + k) = nI 0 ∨ σ 145 (4 * (6 * v + i) + k) = nI 1 := by
        obtain ⟨b, hb, eb⟩ := pm_in_ex te.2.2.2.1 (by decide)
        rw [eb]
        rcases (show b = 0 ∨ b = 1 by omega) with rfl | rfl
        · exact Or.inl rfl
        · exact Or.inr rfl
      have et : tkn σ v R i (k + 1) = (tkn σ v R i k && tst σ v R (4 * i + k)) := rfl
      have eT : tst σ v R (4 * i + k) = if σ 145 (4 * (6 * v + i) + k) = nI 1 then decide (σ 146 (4 * (6 * v + i) + k) < R r) else decide (R r < σ 146 (4 * (6 * v + i) + k)) := by
        unfold tst
        rw [show 24 * v + (4 * i + k) = 4 * (6 * v + i) + k by omega, er, nI_clamp (by omega)]
      rw [← ih, et, eT, s133_31]
      have c := c115 hm hs hd ht hr
      rw [hR] at c
      by_cases h : tkn σ v R i k = true
      · rcases ab with ab | ab
        · by_cases h2 : R r < σ 146 (4 * (6 * v + i) + k)
          · simp only [s133_0, s133_2, s133_3, s133_4, s133_6, s133_8, s133_10, s133_11, s133_12, s133_13, s133_16, s133_17, s133_18, s133_19, s133_22, s133_23, s133_25, s133_26, s133_28, s133_29, s133_33, s133_34, s133_36, s133_37, s133_38, s133_41, s133_43, s133_44, s133_45, s133_48, s133_49, s133_50, s133_51, s133_52, s133_55, s133_57, s133_58, s133_61, s133_63, s133_65, s133_68, s133_69, s133_72, s133_74, s133_75, s133_76, s133_79, s133_81, s133_82, s133_85, s133_87, s133_88, s133_91, s133_94, s133_96, s133_97, s133_100, s133_102, s133_103, s133_106, s133_107, s133_110, s133_111, s133_113, s133_116, s133_121, s133_124, s133_126, s133_128, s133_129, s133_130, s133_131, s133_132, s133_135, s133_138, s133_139, ↓reduceIte, Option.bind_some, Option.toList, List.cons_append, List.nil_append, bB_0, bB_z, z01_0, z01_1, n01, n00, pm_ro_some, reduceCtorEq, if_true, if_false, and_self, and_true, true_and, not_true, not_false_eq_true, Nat.reduceLeDiff, Nat.reduceAdd, kdM, hm, hs.m, pk_mul, ix (show 6 * v + i < 30 by omega), L.2.2.2.1, nI_add, lpF (show 4 * (6 * v + i) + k < 4 * (6 * v + i) + tn σ v i by omega) (by omega), ix (show 4 * (6 * v + i) + k < 120 by omega), er, c, h, ab, show (nI 0 = nI 1) = False from by decide, h2, Int32.not_le.mpr h2, decide_true, Bool.and_true, Nat.add_assoc, bB, cond_false, cond_true]
          · simp only [s133_0, s133_2, s133_3, s133_4, s133_6, s133_8, s133_10, s133_11, s133_12, s133_13, s133_16, s133_17, s133_18, s133_19, s133_22, s133_23, s133_25, s133_26, s133_28, s133_29, s133_33, s133_34, s133_36, s133_37, s133_38, s133_41, s133_43, s133_44, s133_45, s133_48, s133_49, s133_50, s133_51, s133_52, s133_55, s133_57, s133_58, s133_61, s133_63, s133_65, s133_68, s133_69, s133_72, s133_74, s133_75, s133_76, s133_79, s133_81, s133_82, s133_85, s133_87, s133_88, s133_91, s133_94, s133_96, s133_97, s133_100, s133_102, s133_103, s133_106, s133_107, s133_110, s133_111, s133_113, s133_116, s133_121, s133_124, s133_126, s133_128, s133_129, s133_130, s133_131, s133_132, s133_135, s133_138, s133_139, ↓reduceIte, Option.bind_some, Option.toList, List.cons_append, List.nil_append, bB_0, bB_z, z01_0, z01_1, n01, n00, pm_ro_some, reduceCtorEq, if_true, if_false, and_self, and_true, true_and, not_true, not_false_eq_true, Nat.reduceLeDiff, Nat.reduceAdd, kdM, hm, hs.m, pk_mul, ix (show 6 * v + i < 30 by omega), L.2.2.2.1, nI_add, lpF (show 4 * (6 * v + i) + k < 4 * (6 * v + i) + tn σ v i by omega) (by omega), ix (show 4 * (6 * v + i) + k < 120 by omega), er, c, h, ab, show (nI 0 = nI 1) = False from by decide, h2, Int32.not_lt.mp h2, decide_false, Bool.and_false, Nat.add_assoc, bB, cond_false, cond_true]
        · by_cases h2 : σ 146 (4 * (6 * v + i) + k) < R r
          · simp only [s133_0, s133_2, s133_3, s133_4, s133_6, s133_8, s133_10, s133_11, s133_12, s133_13, s133_16, s133_17, s133_18, s133_19, s133_22, s133_23, s133_25, s133_26, s133_28, s133_29, s133_33, s133_34, s133_36, s133_37, s133_38, s133_41, s133_43, s133_44, s133_45, s133_48, s133_49, s133_50, s133_51, s133_52, s133_55, s133_57, s133_58, s133_61, s133_63, s133_65, s133_68, s133_69, s133_72, s133_74, s133_75, s133_76, s133_79, s133_81, s133_82, s133_85, s133_87, s133_88, s133_91, s133_94, s133_96, s133_97, s133_100, s133_102, s133_103, s133_106, s133_107, s133_110, s133_111, s133_113, s133_116, s133_121, s133_124, s133_126, s133_128, s133_129, s133_130, s133_131, s133_132, s133_135, s133_138, s133_139, ↓reduceIte, Option.bind_some, Option.toList, List.cons_append, List.nil_append, bB_0, bB_z, z01_0, z01_1, n01, n00, pm_ro_some, reduceCtorEq, if_true, if_false, and_self, and_true, true_and, not_true, not_false_eq_true, Nat.reduceLeDiff, Nat.reduceAdd, kdM, hm, hs.m, pk_mul, ix (show 6 * v + i < 30 by omega), L.2.2.2.1, nI_add, lpF (show 4 * (6 * v + i) + k < 4 * (6 * v + i) + tn σ v i by omega) (by omega), ix (show 4 * (6 * v + i) + k < 120 by omega), er, c, h, ab, h2, Int32.not_le.mpr h2, decide_true, Bool.and_true, Nat.add_assoc, bB, cond_false, cond_true]
          · simp only [s133_0, s133_2, s133_3, s133_4, s133_6, s133_8, s133_10, s133_11, s133_12, s133_13, s133_16, s133_17, s133_18, s133_19, s133_22, s133_23, s133_25, s133_26, s133_28, s133_29, s133_33, s133_34, s133_36, s133_37, s133_38, s133_41, s133_43, s133_44, s133_45, s133_48, s133_49, s133_50, s133_51, s133_52, s133_55, s133_57, s133_58, s133_61, s133_63, s133_65, s133_68, s133_69, s133_72, s133_74, s133_75, s133_76, s133_79, s133_81, s133_82, s133_85, s133_87, s133_88, s133_91, s133_94, s133_96, s133_97, s133_100, s133_102, s133_103, s133_106, s133_107, s133_110, s133_111, s133_113, s133_116, s133_121, s133_124, s133_126, s133_128, s133_129, s133_130, s133_131, s133_132, s133_135, s133_138, s133_139, ↓reduceIte, Option.bind_some, Option.toList, List.cons_append, List.nil_append, bB_0, bB_z, z01_0, z01_1, n01, n00, pm_ro_some, reduceCtorEq, if_true, if_false, and_self, and_true, true_and, not_true, not_false_eq_true, Nat.reduceLeDiff, Nat.reduceAdd, kdM, hm, hs.m, pk_mul, ix (show 6 * v + i < 30 by omega), L.2.2.2.1, nI_add, lpF (show 4 * (6 * v + i) + k < 4 * (6 * v + i) + tn σ v i by omega) (by omega), ix (show 4 * (6 * v + i) + k < 120 by omega), er, c, h, ab, h2, Int32.not_lt.mp h2, decide_false, Bool.and_false, Nat.add_assoc, bB, cond_false, cond_true]
      · simp only [s133_0, s133_2, s133_3, s133_4, s133_6, s133_8, s133_10, s133_11, s133_12, s133_13, s133_16, s133_17, s133_18, s133_19, s133_22, s133_23, s133_25, s133_26, s133_28, s133_29, s133_33, s133_34, s133_36, s133_37, s133_38, s133_41, s133_43, s133_44, s133_45, s133_48, s133_49, s133_50, s133_51, s133_52, s133_55, s133_57, s133_58, s133_61, s133_63, s133_65, s133_68, s133_69, s133_72, s133_74, s133_75, s133_76, s133_79, s133_81, s133_82, s133_85, s133_87, s133_88, s133_91, s133_94, s133_96, s133_97, s133_100, s133_102, s133_103, s133_106, s133_107, s133_110, s133_111, s133_113, s133_116, s133_121, s133_124, s133_126, s133_128, s133_129, s133_130, s133_131, s133_132, s133_135, s133_138, s133_139, ↓reduceIte, Option.bind_some, Option.toList, List.cons_append, List.nil_append, bB_0, bB_z, z01_0, z01_1, n01, n00, pm_ro_some, reduceCtorEq, if_true, if_false, and_self, and_true, true_and, not_true, not_false_eq_true, Nat.reduceLeDiff, Nat.reduceAdd, kdM, hm, hs.m, pk_mul, ix (show 6 * v + i < 30 by omega), L.2.2.2.1, nI_add, lpF (show 4 * (6 * v + i) + k < 4 * (6 * v + i) + tn σ v i by omega) (by omega), ix (show 4 * (6 * v + i) + k < 120 by omega), er, c, bf h, Bool.false_and, Nat.add_assoc, bB, cond_false, cond_true]
  have key : ∀ i, i ≤ pn σ v → ev 133 6 [.ref 129, .int (nI v), .int (nI d), .int (nI t), .int (nI (6 * v + i)), pm_u, pm_u, pm_u] [] im rm = some (some (.int (linf (fun i => tkn σ v R i (tn σ v i)) i (pn σ v - i))), im, rm) := by
    refine dn ?_ ?_
    · rw [show pn σ v - pn σ v = 0 by omega]
      simp only [s133_0, s133_2, s133_3, s133_4, s133_6, s133_8, s133_10, s133_11, s133_12, s133_13, s133_16, s133_17, s133_18, s133_19, s133_22, s133_23, s133_25, s133_26, s133_28, s133_29, s133_31, s133_33, s133_34, s133_36, s133_37, s133_38, s133_41, s133_43, s133_44, s133_45, s133_48, s133_49, s133_50, s133_51, s133_52, s133_55, s133_57, s133_58, s133_61, s133_63, s133_65, s133_68, s133_69, s133_72, s133_74, s133_75, s133_76, s133_79, s133_81, s133_82, s133_85, s133_87, s133_88, s133_91, s133_94, s133_96, s133_97, s133_100, s133_102, s133_103, s133_106, s133_107, s133_110, s133_111, s133_113, s133_116, s133_119, s133_121, s133_124, s133_126, s133_128, s133_129, s133_130, s133_131, s133_132, s133_135, s133_138, s133_139, ↓reduceIte, Option.bind_some, Option.toList, List.cons_append, List.nil_append, bB_0, bB_z, z01_0, z01_1, n01, n00, pm_ro_some, reduceCtorEq, if_true, if_false, and_self, and_true, true_and, not_true, not_false_eq_true, Nat.reduceLeDiff, Nat.reduceAdd, kdM, hm, hs.m, pk_mul, ix (show v < 5 by omega), P.mn, nI_add, lpT]
      rfl
    · intro i hi ih
      rw [show pn σ v - i = (pn σ v - (i + 1)) + 1 by omega]
      unfold linf
      have I0 := inner i hi 0 (by omega)
      rw [show tkn σ v R i 0 = true from rfl, Nat.add_zero] at I0
      have I1 : bB true = nI 1 := rfl
      rw [I1] at I0
      rw [s133_6]
      by_cases h : tkn σ v R i (tn σ v i) = true
      · simp only [s133_0, s133_2, s133_3, s133_4, s133_8, s133_10, s133_11, s133_12, s133_13, s133_16, s133_17, s133_18, s133_19, s133_22, s133_23, s133_25, s133_26, s133_28, s133_29, s133_33, s133_34, s133_36, s133_37, s133_38, s133_41, s133_43, s133_44, s133_45, s133_48, s133_49, s133_50, s133_51, s133_52, s133_55, s133_57, s133_58, s133_61, s133_63, s133_65, s133_68, s133_69, s133_72, s133_74, s133_75, s133_76, s133_79, s133_81, s133_82, s133_85, s133_87, s133_88, s133_91, s133_94, s133_96, s133_97, s133_100, s133_102, s133_103, s133_106, s133_107, s133_110, s133_111, s133_113, s133_116, s133_119, s133_121, s133_124, s133_126, s133_128, s133_129, s133_130, s133_131, s133_132, s133_135, s133_138, s133_139, ↓reduceIte, Option.bind_some, Option.toList, List.cons_append, List.nil_append, bB_0, bB_z, z01_0, z01_1, n01, n00, pm_ro_some, reduceCtorEq, if_true, if_false, and_self, and_true, true_and, not_true, not_false_eq_true, Nat.reduceLeDiff, Nat.reduceAdd, kdM, hm, hs.m, pk_mul, ix (show v < 5 by omega), P.mn, nI_add, lpF (show 6 * v + i < 6 * v + pn σ v by omega) (by omega), I0, h, nI_sb]
      · rw [if_neg h, ← ih]
        simp only [s133_0, s133_2, s133_3, s133_4, s133_8, s133_10, s133_11, s133_12, s133_13, s133_16, s133_17, s133_18, s133_19, s133_22, s133_23, s133_25, s133_26, s133_28, s133_29, s133_33, s133_34, s133_36, s133_37, s133_38, s133_41, s133_43, s133_44, s133_45, s133_48, s133_49, s133_50, s133_51, s133_52, s133_55, s133_57, s133_58, s133_61, s133_63, s133_65, s133_68, s133_69, s133_72, s133_74, s133_75, s133_76, s133_79, s133_81, s133_82, s133_85, s133_87, s133_88, s133_91, s133_94, s133_96, s133_97, s133_100, s133_102, s133_103, s133_106, s133_107, s133_110, s133_111, s133_113, s133_116, s133_119, s133_121, s133_124, s133_126, s133_128, s133_129, s133_130, s133_131, s133_132, s133_135, s133_138, s133_139, ↓reduceIte, Option.bind_some, Option.toList, List.cons_append, List.nil_append, bB_0, bB_z, z01_0, z01_1, n01, n00, pm_ro_some, reduceCtorEq, if_true, if_false, and_self, and_true, true_and, not_true, not_false_eq_true, Nat.reduceLeDiff, Nat.reduceAdd, kdM, hm, hs.m, pk_mul, ix (show v < 5 by omega), P.mn, nI_add, lpF (show 6 * v + i < 6 * v + pn σ v by omega) (by omega), I0, h, Nat.add_assoc]
  have k0 := key 0 (by omega)
  rw [Nat.add_zero] at k0
  simp only [s133_0, s133_2, s133_3, s133_4, pk_mul]
  exact k0
theorem c134 {a : Nat} (hm : rmM rm) (hs : SS σ im) {v d t : Nat} (P : IP σ a v) (hv : v < 4) (hd : d < 6) (ht : t < 40) : ev 134 0 [.ref 129, .int (nI v), .int (nI d), .int (nI t), pm_u] [] im rm = some (some (.int (mpo σ v (rdg σ d t))), im, rm) := by
  have n6 := P.n6
  have c := c133 hm hs P hv hd ht
  unfold mpo
  rcases lin_or σ v (rdg σ d t) with h | ⟨j, hj, h⟩
  · rw [h] at c ⊢
    simp only [s134_0, s134_1, s134_2, s134_3, s134_4, s134_7, s134_9, s134_11, s134_12, s134_15, s134_16, s134_19, s134_20, s134_23, s134_25, s134_26, s134_27, s134_29, s134_30, s134_31, ↓reduceIte, Option.bind_some, Option.toList, List.cons_append, List.nil_append, bB_0, bB_z, z01_0, z01_1, n01, n00, pm_ro_some, reduceCtorEq, if_true, if_false, and_self, and_true, true_and, not_true, not_false_eq_true, Nat.reduceLeDiff, Nat.reduceAdd, kdM, c]
  · rw [h] at c ⊢
    simp only [s134_0, s134_1, s134_2, s134_3, s134_4, s134_7, s134_9, s134_11, s134_12, s134_15, s134_16, s134_19, s134_20, s134_23, s134_25, s134_26, s134_27, s134_29, s134_30, s134_31, ↓reduceIte, Option.bind_some, Option.toList, List.cons_append, List.nil_append, bB_0, bB_z, z01_0, z01_1, n01, n00, pm_ro_some, reduceCtorEq, if_true, if_false, and_self, and_true, true_and, not_true, not_false_eq_true, Nat.reduceLeDiff, Nat.reduceAdd, kdM, c, hm, hs.m, pk_mul, nI_add, nIm1 (show j < 2 ^ 31 by omega), ix (show 6 * v + j < 30 by omega), nI_clamp (show j < 2 ^ 31 by omega)]
end LIN
