-- needs: 53
/-! looks: both sides. -/
def cg (σ : IM) (h d : Nat) : Nat → Nat
  | 0 => 0
  | v + 1 => if h * tk σ d < 100 * aN σ v d then cg σ h d v ||| 2 ^ v else cg σ h d v
theorem cg_lt (σ : IM) (h d : Nat) : ∀ v, cg σ h d v < 2 ^ v := by
  intro v
  induction v with
  | zero => exact (by decide : (0 : Nat) < 1)
  | succ v ih =>
    have h1 : (2 : Nat) ^ v < 2 ^ (v + 1) := Nat.pow_lt_pow_right (by decide) (by omega)
    unfold cg
    split
    · exact Nat.or_lt_two_pow (by omega) h1
    · omega
def lcN (σ : IM) (S : Nat) : Nat → Nat
  | 0 => 0
  | d + 1 => if S.testBit d = true then lcN σ S d + (σ 155 d).toNatClampNeg else lcN σ S d
theorem t6 : ∀ k, k < 6 → (63 : Nat).testBit k = true := by decide
theorem un_all6 (P : Nat → Nat) : ∀ k, k ≤ 6 → un P 63 k = pa P k := by
  intro k
  induction k with
  | zero => intro _; rfl
  | succ k ih => intro hk; unfold un pa; rw [t6 k (by omega), if_pos rfl, ih (by omega)]
theorem un_lt4 {P : Nat → Nat} (hP : ∀ k, P k < 16) (S : Nat) : ∀ k, un P S k < 16 := by
  intro k
  induction k with
  | zero => exact (by decide : (0 : Nat) < 16)
  | succ k ih =>
    unfold un
    split
    · exact Nat.or_lt_two_pow (n := 4) ih (hP k)
    · exact ih
theorem pa_lt4 {P : Nat → Nat} (hP : ∀ k, P k < 16) : ∀ k, pa P k < 16 := by
  intro k
  induction k with
  | zero => exact (by decide : (0 : Nat) < 16)
  | succ k ih => exact Nat.or_lt_two_pow (n := 4) ih (hP k)
/-- S catches all, and b comes ahead of S -/
def lkl (C : Nat → Nat) (b S : Nat) : Prop := C b < C S ∨ (C b = C S ∧ b ≤ S)
def lkb (U C : Nat → Nat) (G b : Nat) : Prop := b < 64 ∧ U b = G ∧ ∀ S, S < 64 → U S = G → lkl C b S
theorem lkb_u {U C : Nat → Nat} {G b b' : Nat} (h : lkb U C G b) (h' : lkb U C G b') : b = b' := by
  have h1 := h.2.2 b' h'.1 h'.2.1
  have h2 := h'.2.2 b h.1 h.2.1
  unfold lkl at h1 h2
  omega
def bdn (U C : Nat → Nat) (G : Nat) : Nat → Nat
  | 0 => 63
  | n + 1 => if U (63 - n) = G ∧ C (63 - n) ≤ C (bdn U C G n) then 63 - n else bdn U C G n
theorem bdn_i {U C : Nat → Nat} {G : Nat} (h63 : U 63 = G) : ∀ n, n ≤ 64 → bdn U C G n < 64 ∧ U (bdn U C G n) = G ∧ 63 - n ≤ bdn U C G n ∧ ∀ S, S < 64 → 64 - n ≤ S → U S = G → lkl C (bdn U C G n) S := by
  intro n
  induction n with
  | zero => intro _; exact ⟨(by decide : 63 < 64), h63, Nat.le_refl _, fun S h1 h2 => absurd h1 (by omega)⟩
  | succ n ih =>
    intro hn
    obtain ⟨h1, h2, h3, h4⟩ := ih (by omega)
    have e : bdn U C G (n + 1) = if U (63 - n) = G ∧ C (63 - n) ≤ C (bdn U C G n) then 63 - n else bdn U C G n := rfl
    by_cases g : U (63 - n) = G ∧ C (63 - n) ≤ C (bdn U C G n)
    · rw [if_pos g] at e
      rw [e]
      refine ⟨by omega, g.1, by omega, fun S q1 q2 q3 => ?_⟩
      by_cases q : S = 63 - n
      · rw [q]; exact Or.inr ⟨rfl, Nat.le_refl _⟩
      · have := h4 S q1 (by omega) q3
        unfold lkl at this ⊢
        omega
    · rw [if_neg g] at e
      rw [e]
      refine ⟨h1, h2, by omega, fun S q1 q2 q3 => ?_⟩
      by_cases q : S = 63 - n
      · rw [q] at q3 ⊢
        have : ¬ C (63 - n) ≤ C (bdn U C G n) := fun q5 => g ⟨q3, q5⟩
        exact Or.inl (by omega)
      · exact h4 S q1 (by omega) q3
theorem bdn_b {U C : Nat → Nat} {G : Nat} (h63 : U 63 = G) : lkb U C G (bdn U C G 64) := by
  obtain ⟨h1, h2, h3, h4⟩ := bdn_i (C := C) h63 64 (Nat.le_refl _)
  exact ⟨h1, h2, fun S q1 q2 => h4 S q1 (by omega) q2⟩
theorem bdn_lt (U C : Nat → Nat) (G : Nat) : ∀ n, bdn U C G n < 64 := by
  intro n
  induction n with
  | zero => exact (by decide : 63 < 64)
  | succ n ih => unfold bdn; split <;> omega
def LI (U C : Nat → Nat) (G n b c : Nat) : Prop := (b = 0 ∧ c = 268435456 ∧ ∀ S, S < n → U S ≠ G) ∨ (b < n ∧ U b = G ∧ c = C b ∧ ∀ S, S < n → U S = G → lkl C b S)
theorem LI_s {U C : Nat → Nat} {G n b c : Nat} (h : LI U C G n b c) (hC : C n < 268435456) : LI U C G (n + 1) (if U n = G ∧ C n < c then n else b) (if U n = G ∧ C n < c then C n else c) := by
  by_cases g : U n = G ∧ C n < c
  · rw [if_pos g, if_pos g]
    refine Or.inr ⟨by omega, g.1, rfl, fun S q1 q2 => ?_⟩
    by_cases q : S = n
    · rw [q]; exact Or.inr ⟨rfl, Nat.le_refl _⟩
    · rcases h with h | h
      · exact absurd q2 (h.2.2 S (by omega))
      · have := h.2.2.2 S (by omega) q2
        have g2 := g.2
        rw [h.2.2.1] at g2
        unfold lkl at this ⊢
        omega
  · rw [if_neg g, if_neg g]
    rcases h with h | h
    · refine Or.inl ⟨h.1, h.2.1, fun S q1 q2 => ?_⟩
      by_cases q : S = n
      · rw [q] at q2
        exact g ⟨q2, by omega⟩
      · exact h.2.2 S (by omega) q2
    · refine Or.inr ⟨by omega, h.2.1, h.2.2.1, fun S q1 q2 => ?_⟩
      by_cases q : S = n
      · rw [q] at q2 ⊢
        have : ¬ C n < c := fun q5 => g ⟨q2, q5⟩
        rw [h.2.2.1] at this
        unfold lkl
        omega
      · exact h.2.2.2 S (by omega) q2
theorem LI_e {U C : Nat → Nat} {G b c : Nat} (h63 : U 63 = G) (h : LI U C G 64 b c) : b = bdn U C G 64 ∧ c = C (bdn U C G 64) := by
  rcases h with h | h
  · exact absurd h63 (h.2.2 63 (by decide))
  · have e := lkb_u ⟨h.1, h.2.1, h.2.2.2⟩ (bdn_b (C := C) h63)
    exact ⟨e, by rw [← e]; exact h.2.2.1⟩
section LOO
variable {im σ : IM} {rm : RM} {pp ll : Nat → Nat}
theorem cost_e (hI : INV σ rm pp ll) {d : Nat} (hd : d < 6) : σ 155 d = nI (σ 155 d).toNatClampNeg ∧ (σ 155 d).toNatClampNeg ≤ 99 := by
  obtain ⟨x, hx, ex⟩ := pm_in_ex (hI.d d hd).lc9 (by decide)
  rw [ex, nI_clamp (by omega)]
  exact ⟨rfl, by omega⟩
theorem lcN_le (hI : INV σ rm pp ll) (S : Nat) : ∀ d, d ≤ 6 → lcN σ S d ≤ 99 * d := by
  intro d
  induction d with
  | zero => intro _; exact Nat.le_refl _
  | succ d ih =>
    intro hd
    have := ih (by omega)
    have := (cost_e hI (show d < 6 by omega)).2
    unfold lcN
    split <;> omega
theorem c98 (hI : INV σ rm pp ll) (hs : SS σ im) (hT : ∀ v, v < 4 → TT σ v im) {h : Nat} (hh : h ≤ 99999) : ∃ im', ev 98 0 [.ref 0, .int (nI h), pm_u, pm_u] [] im rm = some (none, im', rm) ∧ SS σ im' ∧ (∀ d, d < 6 → im' 49 d = nI (cg σ h d 4)) := by
  have hx := hI.x
  have inner : ∀ d, d < 6 → ∀ v, v ≤ 4 → ∀ m : IM, SS σ m → (∀ b i, b ≠ 49 → m b i = im b i) → (∀ e, e < d → m 49 e = nI (cg σ h e 4)) → m 49 d = nI (cg σ h d v) → ∃ m', ev 98 17 [.ref 0, .int (nI h), .int (nI d), .int (nI v)] [] m rm = ev 98 65 [.ref 0, .int (nI h), .int (nI d), pm_u] [] m' rm ∧ SS σ m' ∧ (∀ b i, b ≠ 49 → m' b i = im b i) ∧ (∀ e, e < d + 1 → m' 49 e = nI (cg σ h e 4)) := by
    intro d hd
    have D := hI.d d hd
    have dm := hI.dm hd
    have n40 := D.n40
    have b2 : h * tk σ d ≤ 99999 * 40 := Nat.mul_le_mul hh n40
    refine dn ?_ ?_
    · intro m h1 h2 h3 h4
      refine ⟨m, by simp only [s98_17, s98_18, s98_19, ↓reduceIte, Option.bind_some, Option.toList, List.cons_append, List.nil_append, bB_0, bB_z, z01_0, z01_1, n01, n00, pm_ro_some, reduceCtorEq, if_true, if_false, and_self, and_true, true_and, not_true, not_false_eq_true, Nat.reduceLeDiff, Nat.reduceAdd, kdX, lpT], h1, h2, fun e he => ?_⟩
      by_cases q : e = d
      · rw [q]; exact h4
      · exact h3 e (by omega)
    · intro v hv ih m h1 h2 h3 h4
      have A := aN_e hI hv hd
      have T := (hT v hv d hd).1
      rw [A.1, ← h2 _ _ (show 40 + v ≠ 49 by omega)] at T
      rw [s98_17]
      by_cases g : h * tk σ d < 100 * aN σ v d
      · obtain ⟨m', E1, E2⟩ := ih (pm_w2 m 49 d (nI (cg σ h d v ||| 2 ^ v))) (h1.w (by omega)) (fun b i hb => by rw [w2_a hb]; exact h2 b i hb) (fun e he => by rw [w2_i (by omega)]; exact h3 e he) (by rw [w2_s]; simp only [cg, g, if_true])
        refine ⟨m', ?_, E2⟩
        rw [← E1]
        simp only [s98_18, s98_19, s98_22, s98_24, s98_25, s98_28, s98_29, s98_30, s98_31, s98_32, s98_33, s98_34, s98_35, s98_38, s98_39, s98_40, s98_43, s98_44, s98_47, s98_48, s98_51, s98_52, s98_53, s98_54, s98_55, s98_56, s98_57, s98_58, s98_59, s98_62, ↓reduceIte, Option.bind_some, Option.toList, List.cons_append, List.nil_append, bB_0, bB_z, z01_0, z01_1, n01, n00, pm_ro_some, reduceCtorEq, if_true, if_false, and_self, and_true, true_and, not_true, not_false_eq_true, Nat.reduceLeDiff, Nat.reduceAdd, kdX, hx, dm, hI.to hv, ix hv, ix hd, lpF hv (show 4 < 2 ^ 31 by decide), T, h1.d0 hd, D.le, pk_mul, lpF g (show 100 * aN σ v d < 2 ^ 31 by omega), h4, shl1 (show v < 31 by omega), or_nI, nI_add]
      · obtain ⟨m', E1, E2⟩ := ih m h1 h2 h3 (by rw [h4]; simp only [cg, g, if_false])
        refine ⟨m', ?_, E2⟩
        rw [← E1]
        simp only [s98_18, s98_19, s98_22, s98_24, s98_25, s98_28, s98_29, s98_30, s98_31, s98_32, s98_33, s98_34, s98_35, s98_38, s98_39, s98_40, s98_43, s98_44, s98_47, s98_48, s98_51, s98_52, s98_53, s98_54, s98_55, s98_56, s98_57, s98_58, s98_59, s98_62, ↓reduceIte, Option.bind_some, Option.toList, List.cons_append, List.nil_append, bB_0, bB_z, z01_0, z01_1, n01, n00, pm_ro_some, reduceCtorEq, if_true, if_false, and_self, and_true, true_and, not_true, not_false_eq_true, Nat.reduceLeDiff, Nat.reduceAdd, kdX, hx, dm, hI.to hv, ix hv, ix hd, lpF hv (show 4 < 2 ^ 31 by decide), T, h1.d0 hd, D.le, pk_mul, lpG (show 100 * aN σ v d ≤ h * tk σ d by omega) (show h * tk σ d < 2 ^ 31 by omega), nI_add]
  have outer : ∀ d, d ≤ 6 → ∀ m : IM, SS σ m → (∀ b i, b ≠ 49 → m b i = im b i) → (∀ e, e < d → m 49 e = nI (cg σ h e 4)) → ∃ im', ev 98 2 [.ref 0, .int (nI h), .int (nI d), pm_u] [] m rm = some (none, im', rm) ∧ SS σ im' ∧ (∀ d, d < 6 → im' 49 d = nI (cg σ h d 4)) := by
    refine dn ?_ ?_
    · intro m h1 h2 h3
      exact ⟨m, by simp only [s98_2, s98_3, s98_5, s98_71, ↓reduceIte, Option.bind_some, Option.toList, List.cons_append, List.nil_append, bB_0, bB_z, z01_0, z01_1, n01, n00, pm_ro_some, reduceCtorEq, if_true, if_false, and_self, and_true, true_and, not_true, not_false_eq_true, Nat.reduceLeDiff, Nat.reduceAdd, kdX, lpT], h1, h3⟩
    · intro d hd ih m h1 h2 h3
      obtain ⟨m1, I1, I2, I3, I4⟩ := inner d hd 0 (by omega) (pm_w2 m 49 d (nI 0)) (h1.w (by omega)) (fun b i hb => by rw [w2_a hb]; exact h2 b i hb) (fun e he => by rw [w2_i (by omega)]; exact h3 e he) (w2_s _ _ _ _)
      obtain ⟨im', E1, E2⟩ := ih m1 I2 I3 I4
      refine ⟨im', ?_, E2⟩
      rw [← E1, s98_2]
      simp only [s98_3, s98_5, s98_8, s98_9, s98_12, s98_13, s98_14, s98_15, s98_16, ↓reduceIte, Option.bind_some, Option.toList, List.cons_append, List.nil_append, bB_0, bB_z, z01_0, z01_1, n01, n00, pm_ro_some, reduceCtorEq, if_true, if_false, and_self, and_true, true_and, not_true, not_false_eq_true, Nat.reduceLeDiff, Nat.reduceAdd, kdX, hx, ix hd, lpF hd (show 6 < 2 ^ 31 by decide), I1, s98_65, s98_68, nI_add]
  obtain ⟨im', E1, E2⟩ := outer 0 (by omega) im hs (fun _ _ _ => rfl) (fun e he => absurd he (by omega))
  refine ⟨im', ?_, E2⟩
  rw [← E1]
  simp only [s98_0, s98_1]
theorem c99 (hx : rmX rm pp ll) {P : Nat → Nat} (h : ∀ d, d < 6 → im 49 d = nI (P d)) {S : Nat} (hS : S < 64) : ev 99 0 [.ref 0, .int (nI S), pm_u, pm_u] [] im rm = some (some (.int (nI (un P S 6))), im, rm) := by
  have key : ∀ d, d ≤ 6 → ev 99 4 [.ref 0, .int (nI S), .int (nI (un P S d)), .int (nI d)] [] im rm = some (some (.int (nI (un P S 6))), im, rm) := by
    refine dn ?_ ?_
    · simp only [s99_0, s99_1, s99_2, s99_3, s99_4, s99_5, s99_7, s99_10, s99_11, s99_12, s99_13, s99_14, s99_15, s99_16, s99_19, s99_20, s99_21, s99_24, s99_25, s99_26, s99_27, s99_28, s99_31, s99_34, s99_35, ↓reduceIte, Option.bind_some, Option.toList, List.cons_append, List.nil_append, bB_0, bB_z, z01_0, z01_1, n01, n00, pm_ro_some, reduceCtorEq, if_true, if_false, and_self, and_true, true_and, not_true, not_false_eq_true, Nat.reduceLeDiff, Nat.reduceAdd, kdX, lpT]
    · intro d hd ih
      rw [← ih, s99_4]
      by_cases g : S.testBit d = true <;> simp only [s99_0, s99_1, s99_2, s99_3, s99_5, s99_7, s99_10, s99_11, s99_12, s99_13, s99_14, s99_15, s99_16, s99_19, s99_20, s99_21, s99_24, s99_25, s99_26, s99_27, s99_28, s99_31, s99_34, s99_35, ↓reduceIte, Option.bind_some, Option.toList, List.cons_append, List.nil_append, bB_0, bB_z, z01_0, z01_1, n01, n00, pm_ro_some, reduceCtorEq, if_true, if_false, and_self, and_true, true_and, not_true, not_false_eq_true, Nat.reduceLeDiff, Nat.reduceAdd, kdX, hx, ix hd, lpF hd (show 6 < 2 ^ 31 by decide), btc (show S < 2 ^ 31 by omega) (show d < 31 by omega), g, h d hd, or_nI, nI_add, un, Bool.false_eq_true]
  rw [← key 0 (by omega)]
  simp only [s99_0, s99_1, s99_2, s99_3]
  rfl
theorem c100 (hI : INV σ rm pp ll) (hs : SS σ im) {S : Nat} (hS : S < 64) : ev 100 0 [.ref 0, .int (nI S), pm_u, pm_u] [] im rm = some (some (.int (nI (lcN σ S 6))), im, rm) := by
  have hx := hI.x
  have key : ∀ d, d ≤ 6 → ev 100 4 [.ref 0, .int (nI S), .int (nI (lcN σ S d)), .int (nI d)] [] im rm = some (some (.int (nI (lcN σ S 6))), im, rm) := by
    refine dn ?_ ?_
    · simp only [s100_0, s100_1, s100_2, s100_3, s100_4, s100_5, s100_7, s100_10, s100_11, s100_12, s100_13, s100_14, s100_15, s100_16, s100_19, s100_20, s100_21, s100_24, s100_25, s100_26, s100_29, s100_30, s100_31, s100_34, s100_37, s100_38, ↓reduceIte, Option.bind_some, Option.toList, List.cons_append, List.nil_append, bB_0, bB_z, z01_0, z01_1, n01, n00, pm_ro_some, reduceCtorEq, if_true, if_false, and_self, and_true, true_and, not_true, not_false_eq_true, Nat.reduceLeDiff, Nat.reduceAdd, kdX, lpT]
    · intro d hd ih
      have D := hI.d d hd
      have dm := hI.dm hd
      have q : im (dr d) 3 = nI (σ 155 d).toNatClampNeg := by rw [hs.d0 hd, D.lc]; exact (cost_e hI hd).1
      rw [← ih, s100_4]
      by_cases g : S.testBit d = true <;> simp only [s100_0, s100_1, s100_2, s100_3, s100_5, s100_7, s100_10, s100_11, s100_12, s100_13, s100_14, s100_15, s100_16, s100_19, s100_20, s100_21, s100_24, s100_25, s100_26, s100_29, s100_30, s100_31, s100_34, s100_37, s100_38, ↓reduceIte, Option.bind_some, Option.toList, List.cons_append, List.nil_append, bB_0, bB_z, z01_0, z01_1, n01, n00, pm_ro_some, reduceCtorEq, if_true, if_false, and_self, and_true, true_and, not_true, not_false_eq_true, Nat.reduceLeDiff, Nat.reduceAdd, kdX, hx, dm, ix hd, lpF hd (show 6 < 2 ^ 31 by decide), btc (show S < 2 ^ 31 by omega) (show d < 31 by omega), g, q, nI_add, lcN, Bool.false_eq_true]
  rw [← key 0 (by omega)]
  simp only [s100_0, s100_1, s100_2, s100_3]
  rfl
theorem cg_z (hI : INV σ rm pp ll) {h d : Nat} (hd : d < 6) (z : tk σ d = 0) : ∀ v, v ≤ 4 → cg σ h d v = 0 := by
  intro v
  induction v with
  | zero => intro _; rfl
  | succ v ih =>
    intro hv
    have A := aN_e hI (show v < 4 by omega) hd
    unfold cg
    rw [z, A.2.2 z, if_neg (by omega)]
    exact ih (by omega)
theorem c166a (hI : INV σ rm pp ll) (hs : SS σ im) {h k : Nat} (hh : h ≤ 99999) : ∃ m', ev 166 32 [.ref 129, .int (nI h), .int (nI k), .int (nI 0), .int (nI 0), pm_u, pm_u, pm_u, pm_u, pm_u] [] im rm = ev 166 138 [.ref 129, pm_u, .int (nI k), .int (nI (pa (fun d => cg σ h d 4) 6)), pm_u, pm_u, pm_u, pm_u, pm_u, pm_u] [] m' rm ∧ SS σ m' ∧ (∀ d, d < 6 → m' 165 d = nI (cg σ h d 4)) := by
  have hm := hI.m
  have z0 : ∀ x : Int32, x ||| nI 0 = x := fun x => by simp [nI]
  have l1 : (nI h).toInt64 = lN h := nI_l (by omega)
  have inner : ∀ d, d < 6 → 0 < tk σ d → ∀ g : Int32, ∀ v, v ≤ 4 → ∀ m : IM, SS σ m → (∀ e, e < d → m 165 e = nI (cg σ h e 4)) → m 165 d = nI (cg σ h d v) → ∃ m', ev 166 50 [.ref 129, .int (nI h), .int (nI k), .int g, .int (nI d), .int (nI v), pm_u, pm_u, pm_u, pm_u] [] m rm = ev 166 122 [.ref 129, .int (nI h), .int (nI k), .int g, .int (nI d), pm_u, pm_u, pm_u, pm_u, pm_u] [] m' rm ∧ SS σ m' ∧ (∀ e, e < d + 1 → m' 165 e = nI (cg σ h e 4)) := by
    intro d hd tp g
    have D := hI.d d hd
    have n40 := D.n40
    have b2 : h * tk σ d ≤ 99999 * 40 := Nat.mul_le_mul hh n40
    have l4 : (nI (tk σ d)).toInt64 = lN (tk σ d) := nI_l (by omega)
    refine dn ?_ ?_
    · intro m h1 h3 h4
      refine ⟨m, by simp only [s166_50, s166_52, s166_53, ↓reduceIte, Option.bind_some, Option.toList, List.cons_append, List.nil_append, bB_0, bB_z, z01_0, z01_1, n01, n00, pm_ro_some, reduceCtorEq, if_true, if_false, and_self, and_true, true_and, not_true, not_false_eq_true, Nat.reduceLeDiff, Nat.reduceAdd, kdM, lpT], h1, fun e he => ?_⟩
      by_cases q : e = d
      · rw [q]; exact h4
      · exact h3 e (by omega)
    · intro v hv ih m h1 h3 h4
      have A := aN_e hI hv hd
      have l2 : (nI (aN σ v d)).toInt64 = lN (aN σ v d) := nI_l (by omega)
      obtain ⟨m1, A1, A2, A3, A4⟩ := c135 hI h1 (hI.p v hv) hv hd
      have q : m1 129 43 = nI (aN σ v d) := (show m1 129 43 = aA σ v d from A3.2.2.2.1).trans A.1
      have k4 : m1 165 d = nI (cg σ h d v) := by rw [A4 _ _ (by omega)]; exact h4
      rw [s166_50]
      by_cases c : h * tk σ d < 100 * aN σ v d
      · obtain ⟨m', E1, E2⟩ := ih (pm_w2 m1 165 d (nI (cg σ h d v ||| 2 ^ v))) (A2.w (by omega)) (fun e he => by rw [w2_i (by omega), A4 _ _ (by omega)]; exact h3 e he) (by rw [w2_s]; simp only [cg, c, if_true])
        refine ⟨m', ?_, E2⟩
        rw [← E1]
        simp only [s166_52, s166_53, s166_56, s166_57, s166_60, s166_62, s166_63, s166_66, s166_67, s166_69, s166_71, s166_74, s166_75, s166_78, s166_80, s166_81, s166_82, s166_85, s166_86, s166_89, s166_90, s166_91, s166_92, s166_93, s166_94, s166_97, s166_99, s166_100, s166_101, s166_102, s166_103, s166_106, s166_107, s166_109, s166_110, s166_113, s166_114, s166_115, s166_116, s166_119, ↓reduceIte, Option.bind_some, Option.toList, List.cons_append, List.nil_append, bB_0, bB_z, z01_0, z01_1, n01, n00, pm_ro_some, reduceCtorEq, if_true, if_false, and_self, and_true, true_and, not_true, not_false_eq_true, Nat.reduceLeDiff, Nat.reduceAdd, kdM, hm, h1.m, A2.m, ix hd, D.mn, lpF hv (show 4 < 2 ^ 31 by decide), lpF tp (show tk σ d < 2 ^ 31 by omega), A1, k4, q, l1, l2, l4, lN_mul, lgle, lNle (show 100 * aN σ v d < 2 ^ 31 by omega) (show h * tk σ d < 2 ^ 31 by omega), show (100 * aN σ v d ≤ h * tk σ d) = False from eq_false (by omega), shl1 (show v < 31 by omega), or_nI, nI_add]
      · obtain ⟨m', E1, E2⟩ := ih (pm_w2 m1 165 d (nI (cg σ h d v))) (A2.w (by omega)) (fun e he => by rw [w2_i (by omega), A4 _ _ (by omega)]; exact h3 e he) (by rw [w2_s]; simp only [cg, c, if_false])
        refine ⟨m', ?_, E2⟩
        rw [← E1]
        simp only [s166_52, s166_53, s166_56, s166_57, s166_60, s166_62, s166_63, s166_66, s166_67, s166_69, s166_71, s166_74, s166_75, s166_78, s166_80, s166_81, s166_82, s166_85, s166_86, s166_89, s166_90, s166_91, s166_92, s166_93, s166_94, s166_97, s166_99, s166_100, s166_101, s166_102, s166_103, s166_106, s166_107, s166_109, s166_110, s166_113, s166_114, s166_115, s166_116, s166_119, ↓reduceIte, Option.bind_some, Option.toList, List.cons_append, List.nil_append, bB_0, bB_z, z01_0, z01_1, n01, n00, pm_ro_some, reduceCtorEq, if_true, if_false, and_self, and_true, true_and, not_true, not_false_eq_true, Nat.reduceLeDiff, Nat.reduceAdd, kdM, hm, h1.m, A2.m, ix hd, D.mn, lpF hv (show 4 < 2 ^ 31 by decide), lpF tp (show tk σ d < 2 ^ 31 by omega), A1, k4, q, l1, l2, l4, lN_mul, lgle, lNle (show 100 * aN σ v d < 2 ^ 31 by omega) (show h * tk σ d < 2 ^ 31 by omega), show (100 * aN σ v d ≤ h * tk σ d) = True from eq_true (by omega), z0, nI_add]
  have outer : ∀ d, d ≤ 6 → ∀ m : IM, SS σ m → (∀ e, e < d → m 165 e = nI (cg σ h e 4)) → ∃ m', ev 166 32 [.ref 129, .int (nI h), .int (nI k), .int (nI (pa (fun d => cg σ h d 4) d)), .int (nI d), pm_u, pm_u, pm_u, pm_u, pm_u] [] m rm = ev 166 138 [.ref 129, pm_u, .int (nI k), .int (nI (pa (fun d => cg σ h d 4) 6)), pm_u, pm_u, pm_u, pm_u, pm_u, pm_u] [] m' rm ∧ SS σ m' ∧ (∀ d, d < 6 → m' 165 d = nI (cg σ h d 4)) := by
    refine dn ?_ ?_
    · intro m h1 h3
      exact ⟨m, by simp only [s166_32, s166_34, s166_36, ↓reduceIte, Option.bind_some, Option.toList, List.cons_append, List.nil_append, bB_0, bB_z, z01_0, z01_1, n01, n00, pm_ro_some, reduceCtorEq, if_true, if_false, and_self, and_true, true_and, not_true, not_false_eq_true, Nat.reduceLeDiff, Nat.reduceAdd, kdM, lpT], h1, h3⟩
    · intro d hd ih m h1 h3
      have D := hI.d d hd
      have n40 := D.n40
      by_cases z : tk σ d = 0
      · have c0 : cg σ h d 4 = 0 := cg_z hI hd z 4 (Nat.le_refl _)
        have mn := D.mn
        rw [z] at mn
        obtain ⟨m', E1, E2⟩ := ih (pm_w2 m 165 d (nI 0)) (h1.w (by omega)) (fun e he => by
          by_cases q : e = d
          · rw [q, w2_s, c0]
          · rw [w2_i q]; exact h3 e (by omega))
        refine ⟨m', ?_, E2⟩
        rw [← E1, s166_32]
        have w132 : pm_w2 m 165 d (nI 0) 132 d = nI 0 := by rw [w2_a (by decide), (h1.m d).2.2.1]; exact mn
        simp only [s166_34, s166_36, s166_39, s166_40, s166_43, s166_45, s166_46, s166_47, s166_48, s166_50, s166_52, s166_53, s166_56, s166_57, s166_60, s166_62, s166_63, s166_122, s166_123, s166_124, s166_127, s166_129, s166_130, s166_131, s166_132, s166_135, ↓reduceIte, Option.bind_some, Option.toList, List.cons_append, List.nil_append, bB_0, bB_z, z01_0, z01_1, n01, n00, pm_ro_some, reduceCtorEq, if_true, if_false, and_self, and_true, true_and, not_true, not_false_eq_true, Nat.reduceLeDiff, Nat.reduceAdd, kdM, hm, ix hd, lpF hd (show 6 < 2 ^ 31 by decide), lpF (show 0 < 4 by decide) (show 4 < 2 ^ 31 by decide), w132, lpT, w2_s, z0, nI_add, pa, c0, Nat.or_zero]
      · obtain ⟨m1, I1, I2, I3⟩ := inner d hd (by omega) (nI (pa (fun d => cg σ h d 4) d)) 0 (by omega) (pm_w2 m 165 d (nI 0)) (h1.w (by omega)) (fun e he => by rw [w2_i (by omega)]; exact h3 e he) (w2_s _ _ _ _)
        obtain ⟨m', E1, E2⟩ := ih m1 I2 I3
        refine ⟨m', ?_, E2⟩
        rw [← E1, s166_32]
        simp only [s166_34, s166_36, s166_39, s166_40, s166_43, s166_45, s166_46, s166_47, s166_48, ↓reduceIte, Option.bind_some, Option.toList, List.cons_append, List.nil_append, bB_0, bB_z, z01_0, z01_1, n01, n00, pm_ro_some, reduceCtorEq, if_true, if_false, and_self, and_true, true_and, not_true, not_false_eq_true, Nat.reduceLeDiff, Nat.reduceAdd, kdM, hm, ix hd, lpF hd (show 6 < 2 ^ 31 by decide), I1, s166_122, s166_123, s166_124, s166_127, s166_129, s166_130, s166_131, s166_132, s166_135, I3 d (by omega), or_nI, nI_add, pa]
  exact outer 0 (by omega) im hs (fun e he => absurd he (by omega))
theorem c166b (hI : INV σ rm pp ll) (hs : SS σ im) {P : Nat → Nat} (hP : ∀ d, P d < 16) (h : ∀ d, d < 6 → im 165 d = nI (P d)) {k : Nat} (hk : k < 3) : ev 166 138 [.ref 129, pm_u, .int (nI k), .int (nI (pa P 6)), pm_u, pm_u, pm_u, pm_u, pm_u, pm_u] [] im rm = some (some (.int (if k = 2 then nI (pa P 6) else if k = 0 then nI (bdn (fun S => un P S 6) (fun S => lcN σ S 6) (pa P 6) 64) else nI (lcN σ (bdn (fun S => un P S 6) (fun S => lcN σ S 6) (pa P 6) 64) 6))), im, rm) := by
  have hm := hI.m
  have z0 : ∀ x : Int32, x ||| nI 0 = x := fun x => by simp [nI]
  have hg := pa_lt4 hP 6
  have inner : ∀ S, S < 64 → ∀ b c : Int32, ∀ d, d ≤ 6 → ev 166 165 [.ref 129, pm_u, .int (nI k), .int (nI (pa P 6)), .int b, .int c, .int (nI S), .int (nI (un P S d)), .int (nI (lcN σ S d)), .int (nI d)] [] im rm = ev 166 232 [.ref 129, pm_u, .int (nI k), .int (nI (pa P 6)), .int b, .int c, .int (nI S), .int (nI (un P S 6)), .int (nI (lcN σ S 6)), pm_u] [] im rm := by
    intro S hS b c
    refine dn ?_ ?_
    · simp only [s166_165, s166_167, s166_169, ↓reduceIte, Option.bind_some, Option.toList, List.cons_append, List.nil_append, bB_0, bB_z, z01_0, z01_1, n01, n00, pm_ro_some, reduceCtorEq, if_true, if_false, and_self, and_true, true_and, not_true, not_false_eq_true, Nat.reduceLeDiff, Nat.reduceAdd, kdM, lpT]
    · intro d hd ih
      have q : im 155 d = nI (σ 155 d).toNatClampNeg := by rw [hs.2.1 _ _ (by omega) (by omega)]; exact (cost_e hI hd).1
      rw [← ih, s166_165]
      by_cases g : S.testBit d = true <;> simp only [s166_167, s166_169, s166_172, s166_174, s166_176, s166_178, s166_179, s166_180, s166_181, s166_182, s166_185, s166_186, s166_189, s166_191, s166_192, s166_195, s166_196, s166_197, s166_199, s166_201, s166_203, s166_205, s166_206, s166_207, s166_208, s166_209, s166_212, s166_213, s166_216, s166_218, s166_219, s166_222, s166_223, s166_224, s166_226, s166_229, ↓reduceIte, Option.bind_some, Option.toList, List.cons_append, List.nil_append, bB_0, bB_z, z01_0, z01_1, n01, n00, pm_ro_some, reduceCtorEq, if_true, if_false, and_self, and_true, true_and, not_true, not_false_eq_true, Nat.reduceLeDiff, Nat.reduceAdd, kdM, hm, ix hd, lpF hd (show 6 < 2 ^ 31 by decide), btc (show S < 2 ^ 31 by omega) (show d < 31 by omega), g, h d hd, q, or_nI, z0, i32_add0, nI_add, un, lcN, Bool.false_eq_true]
  have h63 : (fun S => un P S 6) 63 = pa P 6 := un_all6 P 6 (by omega)
  have outer : ∀ S, S ≤ 64 → ∀ b c, LI (fun S => un P S 6) (fun S => lcN σ S 6) (pa P 6) S b c → ev 166 149 [.ref 129, pm_u, .int (nI k), .int (nI (pa P 6)), .int (nI b), .int (nI c), .int (nI S), pm_u, pm_u, pm_u] [] im rm = some (some (.int (if k = 2 then nI (pa P 6) else if k = 0 then nI (bdn (fun S => un P S 6) (fun S => lcN σ S 6) (pa P 6) 64) else nI (lcN σ (bdn (fun S => un P S 6) (fun S => lcN σ S 6) (pa P 6) 64) 6))), im, rm) := by
    refine dn ?_ ?_
    · intro b c hL
      obtain ⟨e1, e2⟩ := LI_e h63 hL
      rw [← e1]
      have e2' : c = lcN σ b 6 := by rw [e2, ← e1]
      rw [← e2']
      rcases (show k = 0 ∨ k = 1 ∨ k = 2 by omega) with rfl | rfl | rfl <;> simp only [s166_149, s166_151, s166_153, s166_259, s166_260, s166_263, s166_265, s166_268, s166_269, s166_270, s166_273, s166_275, s166_278, s166_279, ↓reduceIte, Option.bind_some, Option.toList, List.cons_append, List.nil_append, bB_0, bB_z, z01_0, z01_1, n01, n00, pm_ro_some, reduceCtorEq, if_true, if_false, and_self, and_true, true_and, not_true, not_false_eq_true, Nat.reduceLeDiff, Nat.reduceAdd, kdM, lpT, show (nI 1 = nI 0) = False from by decide, show (nI 2 = nI 0) = False from by decide, show (nI 2 = nI 1) = False from by decide, show ((0 : Nat) = 2) = False from by decide, show ((1 : Nat) = 2) = False from by decide, show ((1 : Nat) = 0) = False from by decide]
    · intro S hS ih b c hL
      have lc := lcN_le hI S 6 (by omega)
      have hu := un_lt4 hP S 6
      have nx := LI_s hL (show lcN σ S 6 < 268435456 by omega)
      have hc : c < 2 ^ 31 := by
        rcases hL with q | q
        · omega
        · have := lcN_le hI b 6 (by omega)
          have e := q.2.2.1
          simp only at e
          omega
      have I0 := inner S hS (nI b) (nI c) 0 (by omega)
      have zu : un P S 0 = 0 := rfl
      have zl : lcN σ S 0 = 0 := rfl
      rw [zu, zl] at I0
      rw [s166_149]
      by_cases g1 : un P S 6 = pa P 6
      · by_cases g2 : lcN σ S 6 < c
        · rw [if_pos ⟨g1, g2⟩, if_pos ⟨g1, g2⟩] at nx
          rw [← ih _ _ nx]
          simp only [s166_151, s166_153, s166_156, s166_157, s166_159, s166_160, s166_162, s166_163, ↓reduceIte, Option.bind_some, Option.toList, List.cons_append, List.nil_append, bB_0, bB_z, z01_0, z01_1, n01, n00, pm_ro_some, reduceCtorEq, if_true, if_false, and_self, and_true, true_and, not_true, not_false_eq_true, Nat.reduceLeDiff, Nat.reduceAdd, kdM, lpF hS (show 64 < 2 ^ 31 by decide), I0, s166_232, s166_234, s166_235, s166_238, s166_240, s166_242, s166_245, s166_247, s166_249, s166_251, s166_253, s166_256, nI_eqq (show un P S 6 < 2 ^ 31 by omega) (show pa P 6 < 2 ^ 31 by omega), g1, lpF g2 hc, nI_add]
        · rw [if_neg (fun q => g2 q.2), if_neg (fun q => g2 q.2)] at nx
          rw [← ih _ _ nx]
          simp only [s166_151, s166_153, s166_156, s166_157, s166_159, s166_160, s166_162, s166_163, ↓reduceIte, Option.bind_some, Option.toList, List.cons_append, List.nil_append, bB_0, bB_z, z01_0, z01_1, n01, n00, pm_ro_some, reduceCtorEq, if_true, if_false, and_self, and_true, true_and, not_true, not_false_eq_true, Nat.reduceLeDiff, Nat.reduceAdd, kdM, lpF hS (show 64 < 2 ^ 31 by decide), I0, s166_232, s166_234, s166_235, s166_238, s166_240, s166_242, s166_245, s166_247, s166_249, s166_251, s166_253, s166_256, nI_eqq (show un P S 6 < 2 ^ 31 by omega) (show pa P 6 < 2 ^ 31 by omega), g1, lpG (show c ≤ lcN σ S 6 by omega) (show lcN σ S 6 < 2 ^ 31 by omega), nI_add]
      · rw [if_neg (fun q => g1 q.1), if_neg (fun q => g1 q.1)] at nx
        rw [← ih _ _ nx]
        simp only [s166_151, s166_153, s166_156, s166_157, s166_159, s166_160, s166_162, s166_163, ↓reduceIte, Option.bind_some, Option.toList, List.cons_append, List.nil_append, bB_0, bB_z, z01_0, z01_1, n01, n00, pm_ro_some, reduceCtorEq, if_true, if_false, and_self, and_true, true_and, not_true, not_false_eq_true, Nat.reduceLeDiff, Nat.reduceAdd, kdM, lpF hS (show 64 < 2 ^ 31 by decide), I0, s166_232, s166_234, s166_235, s166_238, s166_240, s166_242, s166_245, s166_247, s166_249, s166_251, s166_253, s166_256, nI_eqq (show un P S 6 < 2 ^ 31 by omega) (show pa P 6 < 2 ^ 31 by omega), g1, nI_add]
  rw [← outer 0 (by omega) 0 268435456 (Or.inl ⟨rfl, rfl, fun S hS => absurd hS (by omega)⟩)]
  simp only [s166_138, s166_139, s166_141, s166_144, s166_146, s166_147]
theorem p68 (hI : INV im rm pp ll) (h w : Int32) : PAIR 68 [.ref 0, .int h, .int w, pm_u, pm_u, pm_u, pm_u] 166 [.ref 129, .int h, .int w, pm_u, pm_u, pm_u, pm_u, pm_u, pm_u, pm_u] im rm := by
  have hx := hI.x
  have hm := hI.m
  by_cases g0 : pm_in h 100000 = true
  rotate_left
  · exact PAIR.q hI (-3) ⟨im, by simp only [s68_0, s68_1, s68_4, s68_7, s68_10, s68_11, s68_12, s68_15, s68_18, s68_20, s68_21, ↓reduceIte, Option.bind_some, Option.toList, List.cons_append, List.nil_append, bB_0, bB_z, z01_0, z01_1, n01, n00, pm_ro_some, reduceCtorEq, if_true, if_false, and_self, and_true, true_and, not_true, not_false_eq_true, Nat.reduceLeDiff, Nat.reduceAdd, kdX, b76, b75_3, g0, hx], SS.rf⟩ (fun im1 s1 => ⟨im1, by simp only [s166_0, s166_1, s166_2, s166_3, s166_6, s166_9, s166_12, s166_13, s166_14, s166_15, s166_18, s166_21, s166_24, s166_26, ↓reduceIte, Option.bind_some, Option.toList, List.cons_append, List.nil_append, bB_0, bB_z, z01_0, z01_1, n01, n00, pm_ro_some, reduceCtorEq, if_true, if_false, and_self, and_true, true_and, not_true, not_false_eq_true, Nat.reduceLeDiff, Nat.reduceAdd, kdM, c104, inLs, hm, g0], s1⟩)
  by_cases g1 : pm_in w 3 = true
  rotate_left
  · exact PAIR.q hI (-3) ⟨im, by simp only [s68_0, s68_1, s68_4, s68_7, s68_10, s68_11, s68_12, s68_15, s68_18, s68_20, s68_21, ↓reduceIte, Option.bind_some, Option.toList, List.cons_append, List.nil_append, bB_0, bB_z, z01_0, z01_1, n01, n00, pm_ro_some, reduceCtorEq, if_true, if_false, and_self, and_true, true_and, not_true, not_false_eq_true, Nat.reduceLeDiff, Nat.reduceAdd, kdX, b76, b75_3, g0, g1, hx], SS.rf⟩ (fun im1 s1 => ⟨im1, by simp only [s166_0, s166_1, s166_2, s166_3, s166_6, s166_9, s166_12, s166_13, s166_14, s166_15, s166_18, s166_21, s166_24, s166_26, ↓reduceIte, Option.bind_some, Option.toList, List.cons_append, List.nil_append, bB_0, bB_z, z01_0, z01_1, n01, n00, pm_ro_some, reduceCtorEq, if_true, if_false, and_self, and_true, true_and, not_true, not_false_eq_true, Nat.reduceLeDiff, Nat.reduceAdd, kdM, c104, inLs, hm, g0, g1], s1⟩)
  obtain ⟨h, hh, rfl⟩ := pm_in_ex g0 (by decide)
  obtain ⟨k, hk, rfl⟩ := pm_in_ex g1 (by decide)
  obtain ⟨m1, A1, A2, A3, A4⟩ := c82 hI SS.rf
  obtain ⟨m2, B1, B2, B3⟩ := c98 hI A2 A3 (show h ≤ 99999 by omega)
  generalize hP : (fun d => cg im h d 4) = P
  have P16 : ∀ d, P d < 16 := fun d => by rw [← hP]; exact cg_lt im h d 4
  have B3' : ∀ d, d < 6 → m2 49 d = nI (P d) := fun d hd => by rw [← hP]; exact B3 d hd
  have hg := pa_lt4 P16 6
  have h63 : un P 63 6 = pa P 6 := un_all6 P 6 (by omega)
  refine PAIR.q hI (if k = 2 then nI (pa P 6) else if k = 0 then nI (bdn (fun S => un P S 6) (fun S => lcN im S 6) (pa P 6) 64) else nI (lcN im (bdn (fun S => un P S 6) (fun S => lcN im S 6) (pa P 6) 64) 6)) ⟨m2, ?_, B2⟩ (fun im1 s1 => ?_)
  · have k63 := c99 (rm := rm) hx B3' (show 63 < 64 by decide)
    rw [h63] at k63
    have key : ∀ n, n ≤ 64 → ev 68 54 [.ref 0, pm_u, .int (nI k), pm_u, .int (nI (pa P 6)), .int (nI (bdn (fun S => un P S 6) (fun S => lcN im S 6) (pa P 6) n)), .int (nI (64 - n) + (-1 : Int32))] [] m2 rm = some (some (.int (if k = 0 then nI (bdn (fun S => un P S 6) (fun S => lcN im S 6) (pa P 6) 64) else nI (lcN im (bdn (fun S => un P S 6) (fun S => lcN im S 6) (pa P 6) 64) 6))), m2, rm) := by
      refine dn ?_ ?_
      · have k0 := nI_eqq (show k < 2 ^ 31 by omega) (show 0 < 2 ^ 31 by decide)
        have c1 := c100 hI B2 (bdn_lt (fun S => un P S 6) (fun S => lcN im S 6) (pa P 6) 64)
        by_cases q : k = 0 <;> simp only [s68_54, s68_56, s68_95, s68_96, s68_99, s68_101, s68_104, s68_105, s68_107, s68_110, ↓reduceIte, Option.bind_some, Option.toList, List.cons_append, List.nil_append, bB_0, bB_z, z01_0, z01_1, n01, n00, pm_ro_some, reduceCtorEq, if_true, if_false, and_self, and_true, true_and, not_true, not_false_eq_true, Nat.reduceLeDiff, Nat.reduceAdd, kdX, show (nI (64 - 64) + (-1 : Int32) < nI 0) = True from by decide, k0, q, c1]
      · intro n hn ih
        have hb := bdn_lt (fun S => un P S 6) (fun S => lcN im S 6) (pa P 6) n
        have hu := un_lt4 P16 (63 - n) 6
        have e : bdn (fun S => un P S 6) (fun S => lcN im S 6) (pa P 6) (n + 1) = if un P (63 - n) 6 = pa P 6 ∧ lcN im (63 - n) 6 ≤ lcN im (bdn (fun S => un P S 6) (fun S => lcN im S 6) (pa P 6) n) 6 then 63 - n else bdn (fun S => un P S 6) (fun S => lcN im S 6) (pa P 6) n := rfl
        rw [← ih, e, s68_54, show 64 - n = 63 - n + 1 by omega, nI_dec, show 64 - (n + 1) = 63 - n by omega]
        have k1 := c99 (rm := rm) hx B3' (show 63 - n < 64 by omega)
        have k2 := c100 hI B2 (show 63 - n < 64 by omega)
        have k3 := c100 hI B2 hb
        have l1 := lcN_le hI (63 - n) 6 (by omega)
        have l2 := lcN_le hI (bdn (fun S => un P S 6) (fun S => lcN im S 6) (pa P 6) n) 6 (by omega)
        by_cases q1 : un P (63 - n) 6 = pa P 6
        · by_cases q2 : lcN im (63 - n) 6 ≤ lcN im (bdn (fun S => un P S 6) (fun S => lcN im S 6) (pa P 6) n) 6
          · simp only [s68_56, s68_59, s68_60, s68_62, s68_65, s68_67, s68_70, s68_71, s68_73, s68_76, s68_77, s68_79, s68_82, s68_85, s68_87, s68_89, s68_92, ↓reduceIte, Option.bind_some, Option.toList, List.cons_append, List.nil_append, bB_0, bB_z, z01_0, z01_1, n01, n00, pm_ro_some, reduceCtorEq, if_true, if_false, and_self, and_true, true_and, not_true, not_false_eq_true, Nat.reduceLeDiff, Nat.reduceAdd, kdX, lpG (show 0 ≤ 63 - n by omega) (show 63 - n < 2 ^ 31 by omega), k1, nI_eqq (show un P (63 - n) 6 < 2 ^ 31 by omega) (show pa P 6 < 2 ^ 31 by omega), q1, k2, k3, lpG q2 (show lcN im (bdn (fun S => un P S 6) (fun S => lcN im S 6) (pa P 6) n) 6 < 2 ^ 31 by omega), q2]
          · simp only [s68_56, s68_59, s68_60, s68_62, s68_65, s68_67, s68_70, s68_71, s68_73, s68_76, s68_77, s68_79, s68_82, s68_85, s68_87, s68_89, s68_92, ↓reduceIte, Option.bind_some, Option.toList, List.cons_append, List.nil_append, bB_0, bB_z, z01_0, z01_1, n01, n00, pm_ro_some, reduceCtorEq, if_true, if_false, and_self, and_true, true_and, not_true, not_false_eq_true, Nat.reduceLeDiff, Nat.reduceAdd, kdX, lpG (show 0 ≤ 63 - n by omega) (show 63 - n < 2 ^ 31 by omega), k1, nI_eqq (show un P (63 - n) 6 < 2 ^ 31 by omega) (show pa P 6 < 2 ^ 31 by omega), q1, k2, k3, lpF (show lcN im (bdn (fun S => un P S 6) (fun S => lcN im S 6) (pa P 6) n) 6 < lcN im (63 - n) 6 by omega) (show lcN im (63 - n) 6 < 2 ^ 31 by omega), q2, and_false]
        · simp only [s68_56, s68_59, s68_60, s68_62, s68_65, s68_67, s68_70, s68_71, s68_73, s68_76, s68_77, s68_79, s68_82, s68_85, s68_87, s68_89, s68_92, ↓reduceIte, Option.bind_some, Option.toList, List.cons_append, List.nil_append, bB_0, bB_z, z01_0, z01_1, n01, n00, pm_ro_some, reduceCtorEq, if_true, if_false, and_self, and_true, true_and, not_true, not_false_eq_true, Nat.reduceLeDiff, Nat.reduceAdd, kdX, lpG (show 0 ≤ 63 - n by omega) (show 63 - n < 2 ^ 31 by omega), k1, nI_eqq (show un P (63 - n) 6 < 2 ^ 31 by omega) (show pa P 6 < 2 ^ 31 by omega), q1, false_and]
    have K0 := key 0 (by omega)
    rw [show nI (64 - 0) + (-1 : Int32) = nI 63 from by decide, show bdn (fun S => un P S 6) (fun S => lcN im S 6) (pa P 6) 0 = 63 from rfl] at K0
    have k2 := nI_eqq (show k < 2 ^ 31 by omega) (show 2 < 2 ^ 31 by decide)
    by_cases q : k = 2
    · subst q
      simp only [s68_0, s68_1, s68_4, s68_7, s68_10, s68_11, s68_12, s68_15, s68_18, s68_20, s68_21, s68_22, s68_25, s68_26, s68_27, s68_30, s68_32, s68_33, s68_34, s68_35, s68_38, s68_40, s68_41, s68_42, s68_45, s68_47, ↓reduceIte, Option.bind_some, Option.toList, List.cons_append, List.nil_append, bB_0, bB_z, z01_0, z01_1, n01, n00, pm_ro_some, reduceCtorEq, if_true, if_false, and_self, and_true, true_and, not_true, not_false_eq_true, Nat.reduceLeDiff, Nat.reduceAdd, kdX, b76, b75_3, g0, g1, hx, A1, B1, k63]
    · simp only [s68_0, s68_1, s68_4, s68_7, s68_10, s68_11, s68_12, s68_15, s68_18, s68_20, s68_21, s68_22, s68_25, s68_26, s68_27, s68_30, s68_32, s68_33, s68_34, s68_35, s68_38, s68_40, s68_41, s68_42, s68_45, s68_47, s68_48, s68_49, s68_51, s68_52, ↓reduceIte, Option.bind_some, Option.toList, List.cons_append, List.nil_append, bB_0, bB_z, z01_0, z01_1, n01, n00, pm_ro_some, reduceCtorEq, if_true, if_false, and_self, and_true, true_and, not_true, not_false_eq_true, Nat.reduceLeDiff, Nat.reduceAdd, kdX, b76, b75_3, g0, g1, hx, A1, B1, k63, k2, q, K0]
  · obtain ⟨n1, C1, C2, C3⟩ := c166a hI s1 (k := k) (show h ≤ 99999 by omega)
    refine ⟨n1, ?_, C2⟩
    rw [hP] at C1
    have C4 := c166b hI C2 P16 (fun d hd => by rw [← hP]; exact C3 d hd) hk
    rw [C4] at C1
    simp only [s166_0, s166_1, s166_2, s166_3, s166_6, s166_9, s166_12, s166_13, s166_14, s166_15, s166_18, s166_21, s166_24, s166_26, s166_27, s166_28, s166_29, s166_30, ↓reduceIte, Option.bind_some, Option.toList, List.cons_append, List.nil_append, bB_0, bB_z, z01_0, z01_1, n01, n00, pm_ro_some, reduceCtorEq, if_true, if_false, and_self, and_true, true_and, not_true, not_false_eq_true, Nat.reduceLeDiff, Nat.reduceAdd, kdM, c104, inLs, hm, g0, g1, C1]
end LOO
