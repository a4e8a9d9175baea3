-- needs: 51
/-! fix, owed: both sides. -/
def uR (σ : IM) (v : Nat) : Nat := (uor σ v 6).toNatClampNeg
def fcN (σ : IM) (v to : Nat) : Nat := if to = 4 then (σ 139 2).toNatClampNeg else if to = v then 0 else (σ 154 to).toNatClampNeg + (uR σ to - uR σ v)
def lwf (σ : IM) (l to : Nat) : Bool := decide (brs σ to l (wn σ l) = nI 0)
def lawN (σ : IM) (l : Nat) : Nat → Nat
  | 0 => 0
  | n + 1 => if lwf σ l n = true then lawN σ l n ||| 2 ^ n else lawN σ l n
theorem lawN_lt (σ : IM) (l : Nat) : ∀ n, lawN σ l n < 2 ^ n := by
  intro n
  induction n with
  | zero => exact (by decide : (0 : Nat) < 1)
  | succ n ih =>
    have h1 : (2 : Nat) ^ n < 2 ^ (n + 1) := Nat.pow_lt_pow_right (by decide) (by omega)
    unfold lawN
    split
    · exact Nat.or_lt_two_pow (by omega) h1
    · omega
theorem lawN_tb (σ : IM) (l i : Nat) : ∀ n, (lawN σ l n).testBit i = (decide (i < n) && lwf σ l i) := by
  intro n
  induction n with
  | zero => simp [lawN]
  | succ n ih =>
    unfold lawN
    by_cases e : i = n
    · subst e
      by_cases h : lwf σ l i = true
      · rw [if_pos h, Nat.testBit_or, Nat.testBit_two_pow, ih]
        simp [h]
      · rw [if_neg h, ih]
        simp [bf h]
    · have d : decide (i < n + 1) = decide (i < n) := by
        apply Bool.eq_iff_iff.mpr
        rw [decide_eq_true_eq, decide_eq_true_eq]
        omega
      rw [d]
      split
      · rw [Nat.testBit_or, Nat.testBit_two_pow, ih]
        simp [Ne.symm e]
      · exact ih
/-- b is among what may be taken: buying back, or a lawful version -/
def cnd (σ : IM) (l b : Nat) : Prop := b = 4 ∨ (b < 4 ∧ lwf σ l b = true)
def lxl (σ : IM) (v b to : Nat) : Prop := fcN σ v b < fcN σ v to ∨ (fcN σ v b = fcN σ v to ∧ b ≤ to)
def isb (σ : IM) (v l b : Nat) : Prop := cnd σ l b ∧ ∀ to, cnd σ l to → lxl σ v b to
theorem isb_u {σ : IM} {v l b b' : Nat} (h : isb σ v l b) (h' : isb σ v l b') : b = b' := by
  have h1 := h.2 b' h'.1
  have h2 := h'.2 b h.1
  unfold lxl at h1 h2
  omega
/-- the class's way down: n versions are through -/
def chd (σ : IM) (v l : Nat) : Nat → Nat
  | 0 => 4
  | n + 1 => if lwf σ l (3 - n) = true ∧ fcN σ v (3 - n) ≤ fcN σ v (chd σ v l n) then 3 - n else chd σ v l n
theorem chd_i (σ : IM) (v l : Nat) : ∀ n, n ≤ 4 → cnd σ l (chd σ v l n) ∧ 4 - n ≤ chd σ v l n ∧ ∀ to, cnd σ l to → 4 - n ≤ to → lxl σ v (chd σ v l n) to := by
  intro n
  induction n with
  | zero =>
    intro _
    refine ⟨Or.inl rfl, Nat.le_refl _, fun to h1 h2 => ?_⟩
    have : to = 4 := by
      unfold cnd at h1
      omega
    rw [this]
    exact Or.inr ⟨rfl, Nat.le_refl _⟩
  | succ n ih =>
    intro hn
    obtain ⟨h1, h2, h3⟩ := ih (by omega)
    have e : chd σ v l (n + 1) = if lwf σ l (3 - n) = true ∧ fcN σ v (3 - n) ≤ fcN σ v (chd σ v l n) then 3 - n else chd σ v l n := rfl
    by_cases g : lwf σ l (3 - n) = true ∧ fcN σ v (3 - n) ≤ fcN σ v (chd σ v l n)
    · rw [if_pos g] at e
      rw [e]
      refine ⟨Or.inr ⟨by omega, g.1⟩, by omega, fun to q1 q2 => ?_⟩
      by_cases q : to = 3 - n
      · rw [q]; exact Or.inr ⟨rfl, Nat.le_refl _⟩
      · have := h3 to q1 (by omega)
        unfold lxl at this ⊢
        omega
    · rw [if_neg g] at e
      rw [e]
      refine ⟨h1, by omega, fun to q1 q2 => ?_⟩
      by_cases q : to = 3 - n
      · rw [q] at q1 ⊢
        have q3 : lwf σ l (3 - n) = true := by
          unfold cnd at q1
          rcases q1 with q1 | q1
          · omega
          · exact q1.2
        have q4 : ¬ fcN σ v (3 - n) ≤ fcN σ v (chd σ v l n) := fun q5 => g ⟨q3, q5⟩
        exact Or.inl (by omega)
      · exact h3 to q1 (by omega)
theorem chd_b (σ : IM) (v l : Nat) : isb σ v l (chd σ v l 4) := by
  obtain ⟨h1, h2, h3⟩ := chd_i σ v l 4 (Nat.le_refl _)
  exact ⟨h1, fun to h => h3 to h (by omega)⟩
theorem chd_le (σ : IM) (v l : Nat) : ∀ n, chd σ v l n ≤ 4 := by
  intro n
  induction n with
  | zero => exact Nat.le_refl _
  | succ n ih => unfold chd; split <;> omega
section FIX
variable {im σ : IM} {rm : RM} {pp ll : Nat → Nat}
theorem uR_e (hI : INV σ rm pp ll) {v : Nat} (hv : v < 4) : uor σ v 6 = nI (uR σ v) ∧ uR σ v ≤ 14400 := by
  obtain ⟨x, hx, ex⟩ := uor_e hI hv 6 (Nat.le_refl _)
  unfold uR
  rw [ex, nI_clamp (by omega)]
  exact ⟨rfl, by omega⟩
theorem pr_e (hI : INV σ rm pp ll) : σ 139 2 = nI (fcN σ 0 4) ∧ fcN σ 0 4 ≤ 99999 := by
  obtain ⟨x, hx, ex⟩ := pm_in_ex hI.s.2.2.2.1 (by decide)
  have e : fcN σ 0 4 = (σ 139 2).toNatClampNeg := by
    unfold fcN
    rw [if_pos rfl]
  rw [e, ex, nI_clamp (by omega)]
  exact ⟨rfl, by omega⟩
theorem fc4 (σ : IM) (v : Nat) : fcN σ v 4 = fcN σ 0 4 := by
  unfold fcN
  rw [if_pos rfl, if_pos rfl]
theorem fcN_le (hI : INV σ rm pp ll) {v to : Nat} (hv : v < 4) (ht : to ≤ 4) : fcN σ v to ≤ 99999 := by
  by_cases e : to = 4
  · rw [e, fc4 σ v]; exact (pr_e hI).2
  · unfold fcN
    rw [if_neg e]
    split
    · omega
    · obtain ⟨x, hx, ex⟩ := pm_in_ex (hI.c to (by omega)).2.2.2 (by decide)
      have := (uR_e hI (show to < 4 by omega)).2
      rw [ex, nI_clamp (by omega)]
      omega
theorem mx1 {a b : Nat} (ha : a < 2 ^ 30) (hb : b < 2 ^ 30) : (if nI 0 < nI a - nI b then nI a - nI b else nI 0) = nI (a - b) := by
  by_cases h : b < a
  · rw [nI_sbn (by omega), if_pos (nI_lt (by omega) (by omega))]
  · have e : (nI a - nI b).toInt = (a : Int) - b := by
      rw [Int32.toInt_sub, nI_toInt (by omega), nI_toInt (by omega)]
      apply Int.bmod_eq_of_le <;> omega
    rw [if_neg (fun q => by rw [i32_lt, e, show (nI 0).toInt = 0 from by decide] at q; omega), show a - b = 0 by omega]
theorem mx2 {a b : Nat} (ha : a < 2 ^ 30) (hb : b < 2 ^ 30) : (nI a - nI b ≤ nI 0) = (a ≤ b) := by
  have e : (nI a - nI b).toInt = (a : Int) - b := by
    rw [Int32.toInt_sub, nI_toInt (by omega), nI_toInt (by omega)]
    apply Int.bmod_eq_of_le <;> omega
  rw [i32_le, e, show (nI 0).toInt = 0 from by decide]
  apply propext
  omega
theorem c97 (hI : INV σ rm pp ll) (hs : SS σ im) {v to : Nat} (hv : v < 4) (ht : to ≤ 4) (hT : ∀ v, v < 4 → TT σ v im) : ev 97 0 [.ref 0, .int (nI v), .int (nI to)] [] im rm = some (some (.int (nI (fcN σ v to))), im, rm) := by
  have hx := hI.x
  have e4 := nI_eqq (show to < 2 ^ 31 by omega) (show 4 < 2 ^ 31 by decide)
  have ev_ := nI_eqq (show to < 2 ^ 31 by omega) (show v < 2 ^ 31 by omega)
  by_cases h4 : to = 4
  · have q : im 11 2 = nI (fcN σ v to) := by
      rw [(hs.c 2).2.2.2.2.2.2.2.1, hI.s.1 2 (by omega), (pr_e hI).1, h4, fc4 σ v]
    simp only [s97_0, s97_1, s97_2, s97_5, s97_6, s97_9, s97_10, s97_11, ↓reduceIte, Option.bind_some, Option.toList, List.cons_append, List.nil_append, bB_0, bB_z, z01_0, z01_1, n01, n00, pm_ro_some, reduceCtorEq, if_true, if_false, and_self, and_true, true_and, not_true, not_false_eq_true, Nat.reduceLeDiff, Nat.reduceAdd, kdX, e4, h4, hx, ix (show 2 < 4 by decide)]
    rw [q, h4]
  · by_cases hvt : to = v
    · have q : fcN σ v to = 0 := by
        unfold fcN
        rw [if_neg h4, if_pos hvt]
      rw [q]
      simp only [s97_0, s97_1, s97_2, s97_12, s97_13, s97_14, s97_17, s97_18, ↓reduceIte, Option.bind_some, Option.toList, List.cons_append, List.nil_append, bB_0, bB_z, z01_0, z01_1, n01, n00, pm_ro_some, reduceCtorEq, if_true, if_false, and_self, and_true, true_and, not_true, not_false_eq_true, Nat.reduceLeDiff, Nat.reduceAdd, kdX, e4, ev_, h4]
      simp only [s97_17, s97_18, hvt, if_true]
    · have h4' : to < 4 := by omega
      obtain ⟨f, hf, ef⟩ := pm_in_ex (hI.c to h4').2.2.2 (by decide)
      have U1 := uR_e hI h4'
      have U2 := uR_e hI hv
      have q : fcN σ v to = f + (uR σ to - uR σ v) := by
        unfold fcN
        rw [if_neg h4, if_neg hvt, ef, nI_clamp (by omega)]
      have q2 : im 13 to = nI f := by
        rw [(hs.c to).2.2.2.2.2.2.2.2.2.1, (hI.c to h4').2.2.1, ef]
      have k1 := c83 hI hs h4' (hT to h4')
      have k2 := c83 hI hs hv (hT v hv)
      rw [U1.1] at k1
      rw [U2.1] at k2
      rw [q]
      simp only [s97_0, s97_1, s97_2, s97_12, s97_13, s97_14, s97_19, s97_20, s97_23, s97_24, s97_25, s97_26, s97_27, s97_28, s97_31, s97_32, s97_33, s97_36, s97_37, s97_40, s97_41, ↓reduceIte, Option.bind_some, Option.toList, List.cons_append, List.nil_append, bB_0, bB_z, z01_0, z01_1, n01, n00, pm_ro_some, reduceCtorEq, if_true, if_false, and_self, and_true, true_and, not_true, not_false_eq_true, Nat.reduceLeDiff, Nat.reduceAdd, kdX, e4, ev_, h4, hvt, hx, ix h4', q2, k1, k2, c175, mx1 (show uR σ to < 2 ^ 30 by omega) (show uR σ v < 2 ^ 30 by omega), nI_add]
theorem c95 (hI : INV σ rm pp ll) (hs : SS σ im) {l : Nat} (hl : l < 2) (hT : ∀ v, v < 4 → TT σ v im) : ev 95 0 [.ref 0, .int (nI l), pm_u, pm_u] [] im rm = some (some (.int (nI (lawN σ l 4))), im, rm) := by
  have key : ∀ v, v ≤ 4 → ev 95 4 [.ref 0, .int (nI l), .int (nI (lawN σ l v)), .int (nI v)] [] im rm = some (some (.int (nI (lawN σ l 4))), im, rm) := by
    refine dn ?_ ?_
    · simp only [s95_0, s95_1, s95_2, s95_3, s95_4, s95_5, s95_6, s95_9, s95_10, s95_11, s95_12, s95_15, s95_18, s95_19, s95_20, s95_21, s95_22, s95_23, s95_24, s95_27, s95_30, s95_31, ↓reduceIte, Option.bind_some, Option.toList, List.cons_append, List.nil_append, bB_0, bB_z, z01_0, z01_1, n01, n00, pm_ro_some, reduceCtorEq, if_true, if_false, and_self, and_true, true_and, not_true, not_false_eq_true, Nat.reduceLeDiff, Nat.reduceAdd, kdX, lpT]
    · intro v hv ih
      rw [← ih, s95_4]
      by_cases g : brs σ v l (wn σ l) = nI 0
      · have e : lwf σ l v = true := decide_eq_true g
        simp only [s95_0, s95_1, s95_2, s95_3, s95_5, s95_6, s95_9, s95_10, s95_11, s95_12, s95_15, s95_18, s95_19, s95_20, s95_21, s95_22, s95_23, s95_24, s95_27, s95_30, s95_31, ↓reduceIte, Option.bind_some, Option.toList, List.cons_append, List.nil_append, bB_0, bB_z, z01_0, z01_1, n01, n00, pm_ro_some, reduceCtorEq, if_true, if_false, and_self, and_true, true_and, not_true, not_false_eq_true, Nat.reduceLeDiff, Nat.reduceAdd, kdX, lpF hv (show 4 < 2 ^ 31 by decide), c93 hI hs hv hl (hT v hv), g, shl1 (show v < 31 by omega), or_nI, nI_add, lawN, e]
      · have e : lwf σ l v = false := decide_eq_false g
        simp only [s95_0, s95_1, s95_2, s95_3, s95_5, s95_6, s95_9, s95_10, s95_11, s95_12, s95_15, s95_18, s95_19, s95_20, s95_21, s95_22, s95_23, s95_24, s95_27, s95_30, s95_31, ↓reduceIte, Option.bind_some, Option.toList, List.cons_append, List.nil_append, bB_0, bB_z, z01_0, z01_1, n01, n00, pm_ro_some, reduceCtorEq, if_true, if_false, and_self, and_true, true_and, not_true, not_false_eq_true, Nat.reduceLeDiff, Nat.reduceAdd, kdX, lpF hv (show 4 < 2 ^ 31 by decide), c93 hI hs hv hl (hT v hv), g, nI_add, lawN, e, Bool.false_eq_true]
  rw [← key 0 (by omega)]
  simp only [s95_0, s95_1, s95_2, s95_3]
  rfl
theorem c96 (hI : INV σ rm pp ll) (hs : SS σ im) {v l : Nat} (hv : v < 4) (hl : l < 2) (hT : ∀ v, v < 4 → TT σ v im) : ev 96 0 [.ref 0, .int (nI v), .int (nI (lawN σ l 4)), pm_u, pm_u] [] im rm = some (some (.int (nI (chd σ v l 4))), im, rm) := by
  have lt := lawN_lt σ l 4
  have key : ∀ n, n ≤ 4 → ev 96 5 [.ref 0, .int (nI v), .int (nI (lawN σ l 4)), .int (nI (chd σ v l n)), .int (nI (4 - n) + (-1 : Int32))] [] im rm = some (some (.int (nI (chd σ v l 4))), im, rm) := by
    refine dn ?_ ?_
    · simp only [s96_5, s96_7, s96_45, s96_46, ↓reduceIte, Option.bind_some, Option.toList, List.cons_append, List.nil_append, bB_0, bB_z, z01_0, z01_1, n01, n00, pm_ro_some, reduceCtorEq, if_true, if_false, and_self, and_true, true_and, not_true, not_false_eq_true, Nat.reduceLeDiff, Nat.reduceAdd, kdX, show (nI (4 - 4) + (-1 : Int32) < nI 0) = True from by decide]
    · intro n hn ih
      have hb := chd_le σ v l n
      rw [← ih, s96_5, show 4 - n = 3 - n + 1 by omega, nI_dec, show 4 - (n + 1) = 3 - n by omega]
      have tb : (lawN σ l 4).testBit (3 - n) = lwf σ l (3 - n) := by
        rw [lawN_tb, decide_eq_true (show 3 - n < 4 by omega), Bool.true_and]
      have k1 := c97 hI hs hv (show 3 - n ≤ 4 by omega) hT
      have k2 := c97 hI hs hv hb hT
      have f1 := fcN_le hI hv (show 3 - n ≤ 4 by omega)
      have f2 := fcN_le hI hv hb
      by_cases g : lwf σ l (3 - n) = true
      · by_cases g2 : fcN σ v (3 - n) ≤ fcN σ v (chd σ v l n)
        · simp only [s96_7, s96_10, s96_11, s96_13, s96_14, s96_15, s96_16, s96_17, s96_20, s96_21, s96_22, s96_24, s96_27, s96_28, s96_29, s96_30, s96_33, s96_36, s96_38, s96_39, s96_42, ↓reduceIte, Option.bind_some, Option.toList, List.cons_append, List.nil_append, bB_0, bB_z, z01_0, z01_1, n01, n00, pm_ro_some, reduceCtorEq, if_true, if_false, and_self, and_true, true_and, not_true, not_false_eq_true, Nat.reduceLeDiff, Nat.reduceAdd, kdX, lpG (show 0 ≤ 3 - n by omega) (show 3 - n < 2 ^ 31 by omega), btc (show lawN σ l 4 < 2 ^ 31 by omega) (show 3 - n < 31 by omega), tb, g, k1, k2, lpG g2 (show fcN σ v (chd σ v l n) < 2 ^ 31 by omega), chd, g2]
        · simp only [s96_7, s96_10, s96_11, s96_13, s96_14, s96_15, s96_16, s96_17, s96_20, s96_21, s96_22, s96_24, s96_27, s96_28, s96_29, s96_30, s96_33, s96_36, s96_38, s96_39, s96_42, ↓reduceIte, Option.bind_some, Option.toList, List.cons_append, List.nil_append, bB_0, bB_z, z01_0, z01_1, n01, n00, pm_ro_some, reduceCtorEq, if_true, if_false, and_self, and_true, true_and, not_true, not_false_eq_true, Nat.reduceLeDiff, Nat.reduceAdd, kdX, lpG (show 0 ≤ 3 - n by omega) (show 3 - n < 2 ^ 31 by omega), btc (show lawN σ l 4 < 2 ^ 31 by omega) (show 3 - n < 31 by omega), tb, g, k1, k2, lpF (show fcN σ v (chd σ v l n) < fcN σ v (3 - n) by omega) (show fcN σ v (3 - n) < 2 ^ 31 by omega), chd, g2, and_false]
      · simp only [s96_7, s96_10, s96_11, s96_13, s96_14, s96_15, s96_16, s96_17, s96_20, s96_21, s96_22, s96_24, s96_27, s96_28, s96_29, s96_30, s96_33, s96_36, s96_38, s96_39, s96_42, ↓reduceIte, Option.bind_some, Option.toList, List.cons_append, List.nil_append, bB_0, bB_z, z01_0, z01_1, n01, n00, pm_ro_some, reduceCtorEq, if_true, if_false, and_self, and_true, true_and, not_true, not_false_eq_true, Nat.reduceLeDiff, Nat.reduceAdd, kdX, lpG (show 0 ≤ 3 - n by omega) (show 3 - n < 2 ^ 31 by omega), btc (show lawN σ l 4 < 2 ^ 31 by omega) (show 3 - n < 31 by omega), tb, g, chd, false_and]
  rw [← key 0 (by omega)]
  simp only [s96_0, s96_1, s96_2, s96_3]
  rfl
/-- the model's way up: n versions are through -/
def MI (σ : IM) (v l n b c : Nat) : Prop := (b = 4 ∧ c = 268435456 ∧ ∀ to, to < n → lwf σ l to = false) ∨ (b < n ∧ lwf σ l b = true ∧ c = fcN σ v b ∧ ∀ to, to < n → lwf σ l to = true → lxl σ v b to)
theorem c162 (hI : INV σ rm pp ll) (hs : SS σ im) {v l : Nat} (hv : v < 4) (hl : l < 2) : ∃ im', ev 162 0 [.ref 129, .int (nI v), .int (nI l), pm_u, pm_u, pm_u, pm_u, pm_u] [] im rm = some (some (.int (nI (chd σ v l 4))), im', rm) ∧ SS σ im' ∧ im' 129 47 = nI (fcN σ v (chd σ v l 4)) := by
  have hm := hI.m
  have CB := chd_b σ v l
  have Uv := uR_e hI hv
  have PR := pr_e hI
  have key : ∀ n, n ≤ 4 → ∀ (m : IM) (b c : Nat), SS σ m → m 129 47 = nI c → MI σ v l n b c → ∃ im', ev 162 19 [.ref 129, .int (nI v), .int (nI l), .int (nI b), .int (nI (uR σ v)), .int (nI n), pm_u, pm_u] [] m rm = some (some (.int (nI (chd σ v l 4))), im', rm) ∧ SS σ im' ∧ im' 129 47 = nI (fcN σ v (chd σ v l 4)) := by
    refine dn ?_ ?_
    · intro m b c h1 h2 h3
      have q2 : m 139 2 = nI (fcN σ 0 4) := by rw [(h1.m 2).2.2.2.2.2.2.2.2.2.1]; exact PR.1
      have hc : c < 2 ^ 31 := by
        rcases h3 with h | h
        · omega
        · have := fcN_le hI hv (show b ≤ 4 by omega)
          omega
      by_cases g : fcN σ 0 4 < c
      · have e : chd σ v l 4 = 4 := by
          refine isb_u CB ⟨Or.inl rfl, fun to ht => ?_⟩
          rcases ht with rfl | ⟨t1, t2⟩
          · exact Or.inr ⟨rfl, Nat.le_refl _⟩
          · rcases h3 with h | h
            · rw [h.2.2 to t1] at t2; cases t2
            · have := h.2.2.2 to t1 t2
              rw [h.2.2.1] at g
              unfold lxl at this ⊢
              rw [fc4 σ v]
              omega
        refine ⟨pm_w2 m 129 47 (nI (fcN σ 0 4)), ?_, h1.w (by omega), ?_⟩
        · rw [e]
          simp only [s162_19, s162_21, s162_22, s162_101, s162_102, s162_105, s162_106, s162_107, s162_108, s162_111, s162_114, s162_115, s162_116, s162_117, s162_118, s162_121, s162_122, s162_123, s162_126, s162_127, ↓reduceIte, Option.bind_some, Option.toList, List.cons_append, List.nil_append, bB_0, bB_z, z01_0, z01_1, n01, n00, pm_ro_some, reduceCtorEq, if_true, if_false, and_self, and_true, true_and, not_true, not_false_eq_true, Nat.reduceLeDiff, Nat.reduceAdd, kdM, hm, lpT, ix (show 2 < 4 by decide), q2, h2, lpF g hc]
        · rw [e, w2_s, fc4 σ v]
      · have e : b = chd σ v l 4 ∧ c = fcN σ v b := by
          rcases h3 with h | h
          · omega
          · refine ⟨isb_u ⟨Or.inr ⟨h.1, h.2.1⟩, fun to ht => ?_⟩ CB, h.2.2.1⟩
            rcases ht with rfl | ⟨t1, t2⟩
            · rw [h.2.2.1] at g
              unfold lxl
              rw [fc4 σ v]
              omega
            · exact h.2.2.2 to t1 t2
        refine ⟨m, ?_, h1, ?_⟩
        · rw [← e.1]
          simp only [s162_19, s162_21, s162_22, s162_101, s162_102, s162_105, s162_106, s162_107, s162_108, s162_111, s162_114, s162_115, s162_116, s162_117, s162_118, s162_121, s162_122, s162_123, s162_126, s162_127, ↓reduceIte, Option.bind_some, Option.toList, List.cons_append, List.nil_append, bB_0, bB_z, z01_0, z01_1, n01, n00, pm_ro_some, reduceCtorEq, if_true, if_false, and_self, and_true, true_and, not_true, not_false_eq_true, Nat.reduceLeDiff, Nat.reduceAdd, kdM, hm, lpT, ix (show 2 < 4 by decide), q2, h2, lpG (show c ≤ fcN σ 0 4 by omega) (show fcN σ 0 4 < 2 ^ 31 by omega)]
        · rw [h2, e.2, e.1]
    · intro n hn ih m b c h1 h2 h3
      have Un := uR_e hI hn
      obtain ⟨m1, A1, A2, A3⟩ := c159 hI h1 hn
      obtain ⟨m2, B1, B2, B3⟩ := c155 hI A2 hn hl
      rw [Un.1] at A1
      obtain ⟨f, hf, ef⟩ := pm_in_ex (hI.c n hn).2.2.2 (by decide)
      have q4 : m1 154 n = nI f := by rw [A2.2.1 _ _ (by omega) (by omega), ef]
      have fl := fcN_le hI hv (show n ≤ 4 by omega)
      have q47 : m2 129 47 = nI c := by
        rw [B3 _ _ (by omega), A3 _ _ (by omega)]
        exact h2
      have hc : c < 2 ^ 31 := by
        rcases h3 with h | h
        · omega
        · have := fcN_le hI hv (show b ≤ 4 by omega)
          omega
      have segA : ev 162 19 [.ref 129, .int (nI v), .int (nI l), .int (nI b), .int (nI (uR σ v)), .int (nI n), pm_u, pm_u] [] m rm = ev 162 67 [.ref 129, .int (nI v), .int (nI l), .int (nI b), .int (nI (uR σ v)), .int (nI n), pm_u, .int (nI (fcN σ v n))] [] m1 rm := by
        rw [s162_19]
        by_cases e : n = v
        · subst e
          have q : fcN σ n n = 0 := by
            unfold fcN
            rw [if_neg (by omega), if_pos rfl]
          rw [q]
          simp only [s162_21, s162_22, s162_25, s162_26, s162_28, s162_31, s162_33, s162_34, s162_36, s162_38, s162_39, s162_42, s162_43, s162_46, s162_47, s162_50, s162_52, s162_53, s162_55, s162_58, s162_60, s162_63, s162_64, s162_65, ↓reduceIte, Option.bind_some, Option.toList, List.cons_append, List.nil_append, bB_0, bB_z, z01_0, z01_1, n01, n00, pm_ro_some, reduceCtorEq, if_true, if_false, and_self, and_true, true_and, not_true, not_false_eq_true, Nat.reduceLeDiff, Nat.reduceAdd, kdM, hm, lpF hn (show 4 < 2 ^ 31 by decide), A1, mx2 (show uR σ n < 2 ^ 30 by omega) (show uR σ n < 2 ^ 30 by omega), Nat.le_refl, i32_add0]
        · have e' := nI_eqq (show n < 2 ^ 31 by omega) (show v < 2 ^ 31 by omega)
          have q : fcN σ v n = f + (uR σ n - uR σ v) := by
            unfold fcN
            rw [if_neg (by omega), if_neg e, ef, nI_clamp (by omega)]
          rw [q]
          by_cases g : uR σ n ≤ uR σ v
          · rw [show uR σ n - uR σ v = 0 by omega, Nat.add_zero]
            simp only [s162_21, s162_22, s162_25, s162_26, s162_28, s162_31, s162_33, s162_34, s162_36, s162_38, s162_39, s162_42, s162_43, s162_46, s162_47, s162_50, s162_52, s162_53, s162_55, s162_58, s162_60, s162_63, s162_64, s162_65, ↓reduceIte, Option.bind_some, Option.toList, List.cons_append, List.nil_append, bB_0, bB_z, z01_0, z01_1, n01, n00, pm_ro_some, reduceCtorEq, if_true, if_false, and_self, and_true, true_and, not_true, not_false_eq_true, Nat.reduceLeDiff, Nat.reduceAdd, kdM, hm, lpF hn (show 4 < 2 ^ 31 by decide), A1, e', e, ix hn, q4, mx2 (show uR σ n < 2 ^ 30 by omega) (show uR σ v < 2 ^ 30 by omega), g, i32_add0]
          · simp only [s162_21, s162_22, s162_25, s162_26, s162_28, s162_31, s162_33, s162_34, s162_36, s162_38, s162_39, s162_42, s162_43, s162_46, s162_47, s162_50, s162_52, s162_53, s162_55, s162_58, s162_60, s162_63, s162_64, s162_65, ↓reduceIte, Option.bind_some, Option.toList, List.cons_append, List.nil_append, bB_0, bB_z, z01_0, z01_1, n01, n00, pm_ro_some, reduceCtorEq, if_true, if_false, and_self, and_true, true_and, not_true, not_false_eq_true, Nat.reduceLeDiff, Nat.reduceAdd, kdM, hm, lpF hn (show 4 < 2 ^ 31 by decide), A1, e', e, ix hn, q4, nI_sbn (show uR σ v ≤ uR σ n by omega), lpF (show 0 < uR σ n - uR σ v by omega) (show uR σ n - uR σ v < 2 ^ 31 by omega), nI_add]
      rw [segA]
      by_cases g1 : brs σ n l (wn σ l) = nI 0
      · have e1 : lwf σ l n = true := decide_eq_true g1
        by_cases g2 : fcN σ v n < c
        · obtain ⟨im', E1, E2⟩ := ih (pm_w2 m2 129 47 (nI (fcN σ v n))) n (fcN σ v n) (B2.w (by omega)) (w2_s _ _ _ _) (Or.inr ⟨by omega, e1, rfl, fun to t1 t2 => by
            by_cases q : to = n
            · rw [q]; exact Or.inr ⟨rfl, Nat.le_refl _⟩
            · rcases h3 with h | h
              · rw [h.2.2 to (by omega)] at t2; cases t2
              · have := h.2.2.2 to (by omega) t2
                rw [h.2.2.1] at g2
                unfold lxl at this ⊢
                omega⟩)
          refine ⟨im', ?_, E2⟩
          rw [← E1]
          simp only [s162_67, s162_68, s162_70, s162_71, s162_74, s162_77, s162_79, s162_80, s162_83, s162_86, s162_88, s162_89, s162_90, s162_92, s162_95, s162_98, ↓reduceIte, Option.bind_some, Option.toList, List.cons_append, List.nil_append, bB_0, bB_z, z01_0, z01_1, n01, n00, pm_ro_some, reduceCtorEq, if_true, if_false, and_self, and_true, true_and, not_true, not_false_eq_true, Nat.reduceLeDiff, Nat.reduceAdd, kdM, hm, B1, g1, q47, lpF g2 hc, nI_add]
        · obtain ⟨im', E1, E2⟩ := ih m2 b c B2 q47 (by
            rcases h3 with h | h
            · omega
            · refine Or.inr ⟨by omega, h.2.1, h.2.2.1, fun to t1 t2 => ?_⟩
              by_cases q : to = n
              · rw [h.2.2.1] at g2
                unfold lxl
                rw [q]
                omega
              · exact h.2.2.2 to (by omega) t2)
          refine ⟨im', ?_, E2⟩
          rw [← E1]
          simp only [s162_67, s162_68, s162_70, s162_71, s162_74, s162_77, s162_79, s162_80, s162_83, s162_86, s162_88, s162_89, s162_90, s162_92, s162_95, s162_98, ↓reduceIte, Option.bind_some, Option.toList, List.cons_append, List.nil_append, bB_0, bB_z, z01_0, z01_1, n01, n00, pm_ro_some, reduceCtorEq, if_true, if_false, and_self, and_true, true_and, not_true, not_false_eq_true, Nat.reduceLeDiff, Nat.reduceAdd, kdM, hm, B1, g1, q47, lpG (show c ≤ fcN σ v n by omega) (show fcN σ v n < 2 ^ 31 by omega), nI_add]
      · have e1 : lwf σ l n = false := decide_eq_false g1
        obtain ⟨im', E1, E2⟩ := ih m2 b c B2 q47 (by
          rcases h3 with h | h
          · refine Or.inl ⟨h.1, h.2.1, fun to t1 => ?_⟩
            by_cases q : to = n
            · rw [q]; exact e1
            · exact h.2.2 to (by omega)
          · refine Or.inr ⟨by omega, h.2.1, h.2.2.1, fun to t1 t2 => ?_⟩
            by_cases q : to = n
            · rw [q, e1] at t2; cases t2
            · exact h.2.2.2 to (by omega) t2)
        refine ⟨im', ?_, E2⟩
        rw [← E1]
        simp only [s162_67, s162_68, s162_70, s162_71, s162_74, s162_77, s162_79, s162_80, s162_83, s162_86, s162_88, s162_89, s162_90, s162_92, s162_95, s162_98, ↓reduceIte, Option.bind_some, Option.toList, List.cons_append, List.nil_append, bB_0, bB_z, z01_0, z01_1, n01, n00, pm_ro_some, reduceCtorEq, if_true, if_false, and_self, and_true, true_and, not_true, not_false_eq_true, Nat.reduceLeDiff, Nat.reduceAdd, kdM, hm, B1, g1, nI_add]
  obtain ⟨m1, A1, A2, A3⟩ := c159 (im := pm_w2 im 129 47 (nI 268435456)) hI (hs.w (by omega)) hv
  rw [Uv.1] at A1
  obtain ⟨im', E1, E2⟩ := key 0 (by omega) m1 4 268435456 A2 (by rw [A3 _ _ (by omega), w2_s]) (Or.inl ⟨rfl, rfl, fun to h => absurd h (by omega)⟩)
  refine ⟨im', ?_, E2⟩
  rw [← E1]
  simp only [s162_0, s162_1, s162_2, s162_3, s162_6, s162_9, s162_10, s162_11, s162_14, s162_16, s162_17, ↓reduceIte, Option.bind_some, Option.toList, List.cons_append, List.nil_append, bB_0, bB_z, z01_0, z01_1, n01, n00, pm_ro_some, reduceCtorEq, if_true, if_false, and_self, and_true, true_and, not_true, not_false_eq_true, Nat.reduceLeDiff, Nat.reduceAdd, kdM, hm, A1]
theorem p65 (hI : INV im rm pp ll) (v l w : Int32) : PAIR 65 [.ref 0, .int v, .int l, .int w, pm_u] 163 [.ref 129, .int v, .int l, .int w, pm_u] im rm := by
  have hx := hI.x
  have hm := hI.m
  by_cases g0 : pm_in v 4 = true
  rotate_left
  · exact PAIR.q hI (-2) ⟨im, by simp only [s65_0, s65_1, s65_2, s65_5, s65_8, s65_9, s65_10, s65_13, s65_16, s65_18, s65_19, s65_20, s65_21, s65_24, s65_27, s65_29, s65_30, s65_31, s65_34, s65_35, s65_36, s65_37, s65_38, s65_41, s65_44, s65_46, s65_47, s65_50, s65_52, s65_55, s65_56, s65_57, s65_59, s65_62, ↓reduceIte, Option.bind_some, Option.toList, List.cons_append, List.nil_append, bB_0, bB_z, z01_0, z01_1, n01, n00, pm_ro_some, reduceCtorEq, if_true, if_false, and_self, and_true, true_and, not_true, not_false_eq_true, Nat.reduceLeDiff, Nat.reduceAdd, kdX, b75_4, b75_2, g0, hx], SS.rf⟩ (fun im1 s1 => ⟨im1, by simp only [s163_0, s163_1, s163_4, s163_7, s163_8, s163_11, s163_14, s163_16, s163_17, s163_18, s163_19, s163_20, s163_21, s163_24, s163_27, s163_29, s163_30, s163_31, s163_32, s163_33, s163_36, s163_38, s163_39, s163_42, s163_44, s163_47, s163_48, s163_51, ↓reduceIte, Option.bind_some, Option.toList, List.cons_append, List.nil_append, bB_0, bB_z, z01_0, z01_1, n01, n00, pm_ro_some, reduceCtorEq, if_true, if_false, and_self, and_true, true_and, not_true, not_false_eq_true, Nat.reduceLeDiff, Nat.reduceAdd, kdM, c106, c107, hm, g0], s1⟩)
  by_cases g1 : pm_in l 2 = true
  rotate_left
  · exact PAIR.q hI (-2) ⟨im, by simp only [s65_0, s65_1, s65_2, s65_5, s65_8, s65_9, s65_10, s65_13, s65_16, s65_18, s65_19, s65_20, s65_21, s65_24, s65_27, s65_29, s65_30, s65_31, s65_34, s65_35, s65_36, s65_37, s65_38, s65_41, s65_44, s65_46, s65_47, s65_50, s65_52, s65_55, s65_56, s65_57, s65_59, s65_62, ↓reduceIte, Option.bind_some, Option.toList, List.cons_append, List.nil_append, bB_0, bB_z, z01_0, z01_1, n01, n00, pm_ro_some, reduceCtorEq, if_true, if_false, and_self, and_true, true_and, not_true, not_false_eq_true, Nat.reduceLeDiff, Nat.reduceAdd, kdX, b75_4, b75_2, g0, g1, hx], SS.rf⟩ (fun im1 s1 => ⟨im1, by simp only [s163_0, s163_1, s163_4, s163_7, s163_8, s163_11, s163_14, s163_16, s163_17, s163_18, s163_19, s163_20, s163_21, s163_24, s163_27, s163_29, s163_30, s163_31, s163_32, s163_33, s163_36, s163_38, s163_39, s163_42, s163_44, s163_47, s163_48, s163_51, ↓reduceIte, Option.bind_some, Option.toList, List.cons_append, List.nil_append, bB_0, bB_z, z01_0, z01_1, n01, n00, pm_ro_some, reduceCtorEq, if_true, if_false, and_self, and_true, true_and, not_true, not_false_eq_true, Nat.reduceLeDiff, Nat.reduceAdd, kdM, c106, c107, hm, g0, g1], s1⟩)
  by_cases g2 : pm_in w 2 = true
  rotate_left
  · exact PAIR.q hI (-3) ⟨im, by simp only [s65_0, s65_1, s65_2, s65_5, s65_8, s65_9, s65_10, s65_13, s65_16, s65_18, s65_19, s65_20, s65_21, s65_24, s65_27, s65_29, s65_30, s65_31, s65_34, s65_35, s65_36, s65_37, s65_38, s65_41, s65_44, s65_46, s65_47, s65_50, s65_52, s65_55, s65_56, s65_57, s65_59, s65_62, ↓reduceIte, Option.bind_some, Option.toList, List.cons_append, List.nil_append, bB_0, bB_z, z01_0, z01_1, n01, n00, pm_ro_some, reduceCtorEq, if_true, if_false, and_self, and_true, true_and, not_true, not_false_eq_true, Nat.reduceLeDiff, Nat.reduceAdd, kdX, b75_4, b75_2, g0, g1, g2, hx], SS.rf⟩ (fun im1 s1 => ⟨im1, by simp only [s163_0, s163_1, s163_4, s163_7, s163_8, s163_11, s163_14, s163_16, s163_17, s163_18, s163_19, s163_20, s163_21, s163_24, s163_27, s163_29, s163_30, s163_31, s163_32, s163_33, s163_36, s163_38, s163_39, s163_42, s163_44, s163_47, s163_48, s163_51, ↓reduceIte, Option.bind_some, Option.toList, List.cons_append, List.nil_append, bB_0, bB_z, z01_0, z01_1, n01, n00, pm_ro_some, reduceCtorEq, if_true, if_false, and_self, and_true, true_and, not_true, not_false_eq_true, Nat.reduceLeDiff, Nat.reduceAdd, kdM, c106, c107, c104, inLs, hm, g0, g1, g2], s1⟩)
  obtain ⟨i, hi, rfl⟩ := pm_in_ex g0 (by decide)
  obtain ⟨j, hj, rfl⟩ := pm_in_ex g1 (by decide)
  obtain ⟨k, hk, rfl⟩ := pm_in_ex g2 (by decide)
  obtain ⟨m1, A1, A2, A3, A4⟩ := c82 hI SS.rf
  refine PAIR.q hI (if k = 0 then nI (chd im i j 4) else nI (fcN im i (chd im i j 4))) ⟨m1, ?_, A2⟩ (fun im1 s1 => ?_)
  · rcases (show k = 0 ∨ k = 1 by omega) with rfl | rfl <;> simp only [s65_0, s65_1, s65_2, s65_5, s65_8, s65_9, s65_10, s65_13, s65_16, s65_18, s65_19, s65_20, s65_21, s65_24, s65_27, s65_29, s65_30, s65_31, s65_34, s65_35, s65_36, s65_37, s65_38, s65_41, s65_44, s65_46, s65_47, s65_50, s65_52, s65_55, s65_56, s65_57, s65_59, s65_62, ↓reduceIte, Option.bind_some, Option.toList, List.cons_append, List.nil_append, bB_0, bB_z, z01_0, z01_1, n01, n00, pm_ro_some, reduceCtorEq, if_true, if_false, and_self, and_true, true_and, not_true, not_false_eq_true, Nat.reduceLeDiff, Nat.reduceAdd, kdX, b75_4, b75_2, g0, g1, g2, hx, A1, c95 hI A2 hj A3, c96 hI A2 hi hj A3, c97 hI A2 hi (chd_le im i j 4) A3]
  · obtain ⟨n1, B1, B2, B3⟩ := c162 hI s1 hi hj
    refine ⟨n1, ?_, B2⟩
    rcases (show k = 0 ∨ k = 1 by omega) with rfl | rfl <;> simp only [s163_0, s163_1, s163_4, s163_7, s163_8, s163_11, s163_14, s163_16, s163_17, s163_18, s163_19, s163_20, s163_21, s163_24, s163_27, s163_29, s163_30, s163_31, s163_32, s163_33, s163_36, s163_38, s163_39, s163_42, s163_44, s163_47, s163_48, s163_51, ↓reduceIte, Option.bind_some, Option.toList, List.cons_append, List.nil_append, bB_0, bB_z, z01_0, z01_1, n01, n00, pm_ro_some, reduceCtorEq, if_true, if_false, and_self, and_true, true_and, not_true, not_false_eq_true, Nat.reduceLeDiff, Nat.reduceAdd, kdM, c106, c107, c104, inLs, hm, g0, g1, g2, B1, B3]
def ows (σ : IM) (l : Nat) : Nat → Int64
  | 0 => lN 0
  | v + 1 => ows σ l v + (σ 153 v).toInt64 * (nI (fcN σ v (chd σ v l 4))).toInt64
theorem p66 (hI : INV im rm pp ll) (l : Int32) : PAIR 66 [.ref 0, .int l, pm_u, pm_u, pm_u, pm_u] 164 [.ref 129, .int l, pm_u, pm_u, pm_u] im rm := by
  have hx := hI.x
  have hm := hI.m
  by_cases g1 : pm_in l 2 = true
  rotate_left
  · exact PAIR.q hI (-2) ⟨im, by simp only [s66_0, s66_1, s66_2, s66_5, s66_8, s66_10, s66_11, s66_12, s66_15, s66_16, s66_17, s66_20, s66_21, s66_22, s66_23, s66_24, s66_26, s66_28, s66_29, s66_32, s66_33, s66_34, s66_37, s66_39, s66_40, s66_41, s66_42, s66_44, s66_45, s66_47, s66_48, s66_51, s66_54, s66_55, s66_56, s66_57, s66_58, s66_61, s66_64, s66_65, s66_68, s66_71, s66_72, ↓reduceIte, Option.bind_some, Option.toList, List.cons_append, List.nil_append, bB_0, bB_z, z01_0, z01_1, n01, n00, pm_ro_some, reduceCtorEq, if_true, if_false, and_self, and_true, true_and, not_true, not_false_eq_true, Nat.reduceLeDiff, Nat.reduceAdd, kdX, b75_2, g1, hx], SS.rf⟩ (fun im1 s1 => ⟨im1, by simp only [s164_0, s164_1, s164_4, s164_7, s164_9, s164_10, s164_11, s164_12, s164_13, s164_15, s164_17, s164_18, s164_21, s164_22, s164_24, s164_25, s164_28, s164_29, s164_30, s164_31, s164_34, s164_36, s164_37, s164_38, s164_39, s164_42, s164_43, s164_44, s164_45, s164_46, s164_49, s164_52, s164_53, s164_56, s164_57, s164_60, s164_63, s164_66, s164_67, s164_68, ↓reduceIte, Option.bind_some, Option.toList, List.cons_append, List.nil_append, bB_0, bB_z, z01_0, z01_1, n01, n00, pm_ro_some, reduceCtorEq, if_true, if_false, and_self, and_true, true_and, not_true, not_false_eq_true, Nat.reduceLeDiff, Nat.reduceAdd, kdM, c107, hm, g1], s1⟩)
  obtain ⟨j, hj, rfl⟩ := pm_in_ex g1 (by decide)
  obtain ⟨m1, A1, A2, A3, A4⟩ := c82 hI SS.rf
  refine PAIR.q hI (if nI 0 < lg_cmp (ows im j 4) (lN 999999999) then lN 999999999 else ows im j 4).toInt32 ⟨m1, ?_, A2⟩ (fun im1 s1 => ?_)
  · have key : ∀ v, v ≤ 4 → ev 66 26 [.ref 0, pm_u, .int (nI (lawN im j 4)), .long (ows im j v), pm_u, .int (nI v)] [] m1 rm = some (some (.int (if nI 0 < lg_cmp (ows im j 4) (lN 999999999) then lN 999999999 else ows im j 4).toInt32), m1, rm) := by
      refine dn ?_ ?_
      · by_cases q : nI 0 < lg_cmp (ows im j 4) (lN 999999999)
        · simp only [s66_26, s66_28, s66_29, s66_64, s66_65, s66_68, s66_71, s66_72, ↓reduceIte, Option.bind_some, Option.toList, List.cons_append, List.nil_append, bB_0, bB_z, z01_0, z01_1, n01, n00, pm_ro_some, reduceCtorEq, if_true, if_false, and_self, and_true, true_and, not_true, not_false_eq_true, Nat.reduceLeDiff, Nat.reduceAdd, kdX, lpT, s177_0, s177_1, s177_2, s177_3, s177_6, s177_7, s177_10, s177_11, q]
        · simp only [s66_26, s66_28, s66_29, s66_64, s66_65, s66_68, s66_71, s66_72, ↓reduceIte, Option.bind_some, Option.toList, List.cons_append, List.nil_append, bB_0, bB_z, z01_0, z01_1, n01, n00, pm_ro_some, reduceCtorEq, if_true, if_false, and_self, and_true, true_and, not_true, not_false_eq_true, Nat.reduceLeDiff, Nat.reduceAdd, kdX, lpT, s177_0, s177_1, s177_2, s177_3, s177_6, s177_7, s177_10, s177_11, q]
      · intro v hv ih
        have q1 : m1 12 v = im 153 v := by rw [(A2.c v).2.2.2.2.2.2.2.2.1, (hI.c v hv).1]
        rw [← ih, s66_26]
        simp only [s66_28, s66_29, s66_32, s66_33, s66_34, s66_37, s66_39, s66_40, s66_41, s66_42, s66_44, s66_45, s66_47, s66_48, s66_51, s66_54, s66_55, s66_56, s66_57, s66_58, s66_61, ↓reduceIte, Option.bind_some, Option.toList, List.cons_append, List.nil_append, bB_0, bB_z, z01_0, z01_1, n01, n00, pm_ro_some, reduceCtorEq, if_true, if_false, and_self, and_true, true_and, not_true, not_false_eq_true, Nat.reduceLeDiff, Nat.reduceAdd, kdX, lpF hv (show 4 < 2 ^ 31 by decide), hx, ix hv, q1, c96 hI A2 hv hj A3, c97 hI A2 hv (chd_le im v j 4) A3, nI_add, ows]
    rw [← key 0 (by omega)]
    simp only [s66_0, s66_1, s66_2, s66_5, s66_8, s66_10, s66_11, s66_12, s66_15, s66_16, s66_17, s66_20, s66_21, s66_22, s66_23, s66_24, ↓reduceIte, Option.bind_some, Option.toList, List.cons_append, List.nil_append, bB_0, bB_z, z01_0, z01_1, n01, n00, pm_ro_some, reduceCtorEq, if_true, if_false, and_self, and_true, true_and, not_true, not_false_eq_true, Nat.reduceLeDiff, Nat.reduceAdd, kdX, b75_2, g1, A1, c95 hI A2 hj A3]
    rfl
  · have key : ∀ v, v ≤ 4 → ∀ m : IM, SS im m → ∃ im2, ev 164 15 [.ref 129, .int (nI j), .long (ows im j v), pm_u, .int (nI v)] [] m rm = some (some (.int (if nI 0 < lg_cmp (ows im j 4) (lN 999999999) then lN 999999999 else ows im j 4).toInt32), im2, rm) ∧ SS im im2 := by
      refine dn ?_ ?_
      · intro m h1
        refine ⟨m, ?_, h1⟩
        by_cases q : nI 0 < lg_cmp (ows im j 4) (lN 999999999)
        · simp only [s164_15, s164_17, s164_18, s164_52, s164_53, s164_56, s164_57, s164_60, s164_63, s164_66, s164_67, s164_68, ↓reduceIte, Option.bind_some, Option.toList, List.cons_append, List.nil_append, bB_0, bB_z, z01_0, z01_1, n01, n00, pm_ro_some, reduceCtorEq, if_true, if_false, and_self, and_true, true_and, not_true, not_false_eq_true, Nat.reduceLeDiff, Nat.reduceAdd, kdM, lpT, q, Int32.not_le.mpr q]
        · simp only [s164_15, s164_17, s164_18, s164_52, s164_53, s164_56, s164_57, s164_60, s164_63, s164_66, s164_67, s164_68, ↓reduceIte, Option.bind_some, Option.toList, List.cons_append, List.nil_append, bB_0, bB_z, z01_0, z01_1, n01, n00, pm_ro_some, reduceCtorEq, if_true, if_false, and_self, and_true, true_and, not_true, not_false_eq_true, Nat.reduceLeDiff, Nat.reduceAdd, kdM, lpT, q, Int32.not_lt.mp q]
      · intro v hv ih m h1
        obtain ⟨n1, B1, B2, B3⟩ := c162 hI h1 hv hj
        obtain ⟨im2, E1, E2⟩ := ih n1 B2
        refine ⟨im2, ?_, E2⟩
        have q1 : n1 153 v = im 153 v := B2.2.1 _ _ (by omega) (by omega)
        rw [← E1, s164_15]
        simp only [s164_17, s164_18, s164_21, s164_22, s164_24, s164_25, s164_28, s164_29, s164_30, s164_31, s164_34, s164_36, s164_37, s164_38, s164_39, s164_42, s164_43, s164_44, s164_45, s164_46, s164_49, ↓reduceIte, Option.bind_some, Option.toList, List.cons_append, List.nil_append, bB_0, bB_z, z01_0, z01_1, n01, n00, pm_ro_some, reduceCtorEq, if_true, if_false, and_self, and_true, true_and, not_true, not_false_eq_true, Nat.reduceLeDiff, Nat.reduceAdd, kdM, lpF hv (show 4 < 2 ^ 31 by decide), hm, B1, ix hv, q1, B3, nI_add, ows]
    obtain ⟨im2, E1, E2⟩ := key 0 (by omega) im1 s1
    refine ⟨im2, ?_, E2⟩
    rw [← E1]
    simp only [s164_0, s164_1, s164_4, s164_7, s164_9, s164_10, s164_11, s164_12, s164_13, ↓reduceIte, Option.bind_some, Option.toList, List.cons_append, List.nil_append, bB_0, bB_z, z01_0, z01_1, n01, n00, pm_ro_some, reduceCtorEq, if_true, if_false, and_self, and_true, true_and, not_true, not_false_eq_true, Nat.reduceLeDiff, Nat.reduceAdd, kdM, c107, g1]
    rfl
end FIX
