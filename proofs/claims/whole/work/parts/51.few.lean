-- needs: 50
/-! fewest: both sides. -/
def un (P : Nat → Nat) (S : Nat) : Nat → Nat
  | 0 => 0
  | k + 1 => if S.testBit k = true then un P S k ||| P k else un P S k
def bc (S : Nat) : Nat → Nat
  | 0 => 0
  | k + 1 => bc S k + (if S.testBit k = true then 1 else 0)
def pa (P : Nat → Nat) : Nat → Nat
  | 0 => 0
  | k + 1 => pa P k ||| P k
theorem un_cg {P : Nat → Nat} {S S' : Nat} : ∀ k, (∀ i, i < k → S.testBit i = S'.testBit i) → un P S k = un P S' k := by
  intro k
  induction k with
  | zero => intro _; rfl
  | succ k ih => intro h; unfold un; rw [ih (fun i hi => h i (by omega)), h k (by omega)]
theorem bc_cg {S S' : Nat} : ∀ k, (∀ i, i < k → S.testBit i = S'.testBit i) → bc S k = bc S' k := by
  intro k
  induction k with
  | zero => intro _; rfl
  | succ k ih => intro h; unfold bc; rw [ih (fun i hi => h i (by omega)), h k (by omega)]
theorem bc_le (S : Nat) : ∀ k, bc S k ≤ k := by
  intro k
  induction k with
  | zero => exact Nat.le_refl _
  | succ k ih => unfold bc; split <;> omega
theorem un_lt {P : Nat → Nat} (hP : ∀ k, k < 16 → P k < 64) (S : Nat) : ∀ k, k ≤ 16 → un P S k < 64 := by
  intro k
  induction k with
  | zero => intro _; exact (by decide : (0 : Nat) < 64)
  | succ k ih =>
    intro hk
    unfold un
    split
    · exact Nat.or_lt_two_pow (n := 6) (ih (by omega)) (hP k (by omega))
    · exact ih (by omega)
theorem pa_lt {P : Nat → Nat} (hP : ∀ k, k < 16 → P k < 64) : ∀ k, k ≤ 16 → pa P k < 64 := by
  intro k
  induction k with
  | zero => intro _; exact (by decide : (0 : Nat) < 64)
  | succ k ih =>
    intro hk
    exact Nat.or_lt_two_pow (n := 6) (ih (by omega)) (hP k (by omega))
theorem t16 : ∀ k, k < 16 → (65535 : Nat).testBit k = true := by decide
theorem un_all (P : Nat → Nat) : ∀ k, k ≤ 16 → un P 65535 k = pa P k := by
  intro k
  induction k with
  | zero => intro _; rfl
  | succ k ih => intro hk; unfold un pa; rw [t16 k (by omega), if_pos rfl, ih (by omega)]
theorem tb_lo {k S : Nat} (hS : 2 ^ k ≤ S) (h2 : S < 2 ^ (k + 1)) : ∃ S', S' < 2 ^ k ∧ S = 2 ^ k + S' ∧ S.testBit k = true ∧ (∀ i, i < k → S.testBit i = S'.testBit i) := by
  have hp : (2 : Nat) ^ (k + 1) = 2 ^ k + 2 ^ k := by rw [Nat.pow_succ]; omega
  refine ⟨S - 2 ^ k, by omega, by omega, ?_, ?_⟩
  · have e : S = 2 ^ k + (S - 2 ^ k) := by omega
    rw [e, Nat.testBit_two_pow_add_eq, Nat.testBit_lt_two_pow (by omega)]
    rfl
  · intro i hi
    have e : S = 2 ^ k + (S - 2 ^ k) := by omega
    rw [e, Nat.testBit_two_pow_add_gt hi, Nat.add_sub_cancel_left]
theorem tb_up {k S' : Nat} (h : S' < 2 ^ k) : (2 ^ k + S').testBit k = true ∧ (∀ i, i < k → (2 ^ k + S').testBit i = S'.testBit i) := by
  refine ⟨?_, fun i hi => Nat.testBit_two_pow_add_gt hi _⟩
  rw [Nat.testBit_two_pow_add_eq, Nat.testBit_lt_two_pow h]
  rfl
theorem bc_full : ∀ k S, S < 2 ^ k → bc S k = k → S + 1 = 2 ^ k := by
  intro k
  induction k with
  | zero => intro S hS _; simp only [Nat.pow_zero] at hS ⊢; omega
  | succ k ih =>
    intro S hS h
    have hp : (2 : Nat) ^ (k + 1) = 2 ^ k + 2 ^ k := by rw [Nat.pow_succ]; omega
    have b := bc_le S k
    by_cases g : S < 2 ^ k
    · exfalso
      have h2 : bc S k + (if S.testBit k = true then 1 else 0) = k + 1 := h
      rw [Nat.testBit_lt_two_pow g, if_neg (by decide)] at h2
      omega
    · obtain ⟨S', h1, h2, h3, h4⟩ := tb_lo (by omega) hS
      have h5 : bc S k + (if S.testBit k = true then 1 else 0) = k + 1 := h
      rw [h3, if_pos rfl, bc_cg k h4] at h5
      have := ih S' h1 (by omega)
      omega
/-- what the class's row of least sets says behind k tests -/
def SP (P : Nat → Nat) (k : Nat) (L : Nat → Nat) : Prop := ∀ R, R < 64 → (∀ S, S < 2 ^ k → un P S k = R → L R ≤ bc S k * 65536 + S) ∧ (L R < 1114112 → ∃ S, S < 2 ^ k ∧ un P S k = R ∧ L R = bc S k * 65536 + S) ∧ L R ≤ 1114112
/-- the row M comes of L by one test, the sets from j on being through -/
def AD (k p : Nat) (L M : Nat → Nat) (j : Nat) : Prop := (∀ R, R < j → M R = L R) ∧ (∀ R, R < 64 → M R ≤ L R) ∧ (∀ r, j ≤ r → r < 64 → L r < 1114112 → r &&& p ≠ p → M (r ||| p) ≤ L r + (65536 + 2 ^ k)) ∧ (∀ R, R < 64 → M R = L R ∨ ∃ r, r < 64 ∧ L r < 1114112 ∧ r ||| p = R ∧ M R = L r + (65536 + 2 ^ k))
theorem SP_0 (P : Nat → Nat) : SP P 0 (fun R => if R = 0 then 0 else 1114112) := by
  intro R hR
  by_cases e : R = 0
  · subst e
    exact ⟨fun S hS h => by simp, fun _ => ⟨0, by decide, rfl, by simp [bc]⟩, by simp⟩
  · refine ⟨fun S hS h => ?_, fun h => ?_, by simp [e]⟩
    · have : S = 0 := by simp at hS; exact hS
      subst this
      exact absurd h.symm e
    · simp [e] at h
theorem or_of_and {r p : Nat} (h : r &&& p = p) : r ||| p = r := by
  apply Nat.eq_of_testBit_eq
  intro i
  have := congrArg (fun x => Nat.testBit x i) h
  simp only [Nat.testBit_and] at this
  rw [Nat.testBit_or]
  cases h1 : r.testBit i <;> cases h2 : p.testBit i <;> simp_all
theorem SP_s {P : Nat → Nat} (hP : ∀ k, k < 16 → P k < 64) {k : Nat} (hk : k < 16) {L M : Nat → Nat} (h : SP P k L) (a : AD k (P k) L M 0) : SP P (k + 1) M := by
  obtain ⟨_, a2, a3, a4⟩ := a
  have hp : (2 : Nat) ^ (k + 1) = 2 ^ k + 2 ^ k := by rw [Nat.pow_succ]; omega
  have hk16 : (2 : Nat) ^ k ≤ 2 ^ 15 := Nat.pow_le_pow_right (by decide) (by omega)
  intro R hR
  refine ⟨?_, ?_, ?_⟩
  · intro S hS hU
    have hU2 : (if S.testBit k = true then un P S k ||| P k else un P S k) = R := hU
    have hbc : bc S (k + 1) = bc S k + (if S.testBit k = true then 1 else 0) := rfl
    by_cases g : S < 2 ^ k
    · rw [Nat.testBit_lt_two_pow g, if_neg (by decide)] at hU2 hbc
      rw [hbc]
      exact Nat.le_trans (a2 R hR) ((h R hR).1 S g hU2)
    · obtain ⟨S', h1, h2, h3, h4⟩ := tb_lo (by omega) hS
      rw [h3, if_pos rfl, un_cg k h4] at hU2
      rw [h3, if_pos rfl, bc_cg k h4] at hbc
      have hr : un P S' k < 64 := un_lt hP S' k (by omega)
      have hl := (h _ hr).1 S' h1 rfl
      have bl := bc_le S' k
      rw [hbc]
      by_cases q : un P S' k &&& P k = P k
      · rw [or_of_and q] at hU2
        rw [hU2] at hl
        have := a2 R hR
        omega
      · have := a3 _ (Nat.zero_le _) hr (by omega) q
        rw [hU2] at this
        omega
  · intro hlt
    rcases a4 R hR with e | ⟨r, h1, h2, h3, h4⟩
    · obtain ⟨S, s1, s2, s3⟩ := (h R hR).2.1 (by omega)
      refine ⟨S, by omega, ?_, ?_⟩
      · show (if S.testBit k = true then un P S k ||| P k else un P S k) = R
        rw [Nat.testBit_lt_two_pow s1, if_neg (by decide)]
        exact s2
      · show M R = (bc S k + (if S.testBit k = true then 1 else 0)) * 65536 + S
        rw [Nat.testBit_lt_two_pow s1, if_neg (by decide), e]
        exact s3
    · obtain ⟨S, s1, s2, s3⟩ := (h r h1).2.1 h2
      have T := tb_up s1
      refine ⟨2 ^ k + S, by omega, ?_, ?_⟩
      · show (if (2 ^ k + S).testBit k = true then un P (2 ^ k + S) k ||| P k else un P (2 ^ k + S) k) = R
        rw [T.1, if_pos rfl, un_cg k T.2, s2]
        exact h3
      · show M R = (bc (2 ^ k + S) k + (if (2 ^ k + S).testBit k = true then 1 else 0)) * 65536 + (2 ^ k + S)
        rw [T.1, if_pos rfl, bc_cg k T.2, h4, s3]
        omega
  · exact Nat.le_trans (a2 R hR) (h R hR).2.2
theorem lex_lt {K x y z w n S : Nat} (h1 : z + 1 ≤ x) (h2 : n < K) (h3 : x * K + y ≤ w * K + S) : z * K + n ≤ w * K + S := by
  have h := Nat.mul_le_mul_right K h1
  rw [Nat.succ_mul] at h
  omega
/-- the model's best of the sets below n -/
def bst (P : Nat → Nat) (G : Nat) : Nat → Nat
  | 0 => 65535
  | n + 1 => if un P n 16 = G ∧ bc n 16 < bc (bst P G n) 16 then n else bst P G n
theorem bst_i (P : Nat → Nat) : ∀ n, n ≤ 65536 → un P (bst P (pa P 16) n) 16 = pa P 16 ∧ bst P (pa P 16) n ≤ 65535 ∧ (bst P (pa P 16) n = 65535 ∨ bst P (pa P 16) n < n) ∧ (∀ S, S < n → un P S 16 = pa P 16 → bc (bst P (pa P 16) n) 16 * 65536 + bst P (pa P 16) n ≤ bc S 16 * 65536 + S) := by
  intro n
  induction n with
  | zero => intro _; exact ⟨un_all P 16 (by omega), Nat.le_refl _, Or.inl rfl, fun S hS => absurd hS (by omega)⟩
  | succ n ih =>
    intro hn
    obtain ⟨h1, h2, h3, h4⟩ := ih (by omega)
    have e : bst P (pa P 16) (n + 1) = if un P n 16 = pa P 16 ∧ bc n 16 < bc (bst P (pa P 16) n) 16 then n else bst P (pa P 16) n := rfl
    by_cases g : un P n 16 = pa P 16 ∧ bc n 16 < bc (bst P (pa P 16) n) 16
    · rw [if_pos g] at e
      rw [e]
      refine ⟨g.1, by omega, Or.inr (by omega), fun S hS hU => ?_⟩
      by_cases q : S = n
      · rw [q]; exact Nat.le_refl _
      · have h5 := h4 S (by omega) hU
        have g2 : bc n 16 + 1 ≤ bc (bst P (pa P 16) n) 16 := g.2
        have h6 : n ≤ 65535 := by omega
        exact lex_lt (K := 65536) g2 (by omega) h5
    · rw [if_neg g] at e
      rw [e]
      refine ⟨h1, h2, ?_, fun S hS hU => ?_⟩
      · rcases h3 with h | h
        · exact Or.inl h
        · exact Or.inr (by omega)
      · by_cases q : S = n
        · rw [q] at hU ⊢
          have g2 : ¬ bc n 16 < bc (bst P (pa P 16) n) 16 := fun q => g ⟨hU, q⟩
          rcases h3 with h | h
          · have b1 := bc_le n 16
            have b2 : bc (bst P (pa P 16) n) 16 = 16 := by rw [h]; decide
            have := bc_full 16 n (by omega) (by omega)
            omega
          · omega
        · exact h4 S (by omega) hU
/-- class and model come to the same set -/
theorem few_eq {P : Nat → Nat} (hP : ∀ k, k < 16 → P k < 64) {L : Nat → Nat} (h : SP P 16 L) : L (pa P 16) < 1114112 ∧ L (pa P 16) % 65536 = bst P (pa P 16) 65536 := by
  have hg := pa_lt hP 16 (by omega)
  have H := h _ hg
  have h1 := H.1 65535 (by decide) (un_all P 16 (by omega))
  have h16 : bc 65535 16 = 16 := by decide
  rw [h16] at h1
  have lt : L (pa P 16) < 1114112 := by omega
  obtain ⟨S, s1, s2, s3⟩ := H.2.1 lt
  obtain ⟨b1, b2, b3, b4⟩ := bst_i P 65536 (Nat.le_refl _)
  have s1' : S < 65536 := s1
  have c1 := b4 S s1' s2
  have c2 := H.1 (bst P (pa P 16) 65536) (by show _ < 65536; omega) b1
  refine ⟨lt, ?_⟩
  rw [s3] at c2 ⊢
  omega
theorem o16 : ∀ k, k < 16 → 65536 ||| 2 ^ k = 65536 + 2 ^ k := by decide
theorem nI_dec (j : Nat) : nI (j + 1) + (-1 : Int32) = nI j := by
  rw [← nI_add, Int32.add_assoc, show nI 1 + (-1 : Int32) = 0 from by decide, Int32.add_zero]
theorem tb_v (S k : Nat) : S / 2 ^ k % 2 = if S.testBit k = true then 1 else 0 := by
  rw [Nat.testBit_eq_decide_div_mod_eq]
  by_cases h : S / 2 ^ k % 2 = 1
  · simp [h]
  · simp [h]; omega
section FEW
variable {im σ : IM} {rm : RM} {pp ll : Nat → Nat}
theorem c184 (hx : rmX rm pp ll) (hs : SS σ im) (x : Int32) : ∃ im', ev 184 0 [.ref 50, .int x, pm_u, pm_u] [] im rm = some (none, im', rm) ∧ SS σ im' ∧ (∀ R, R < 64 → im' 50 R = x) := by
  have key : ∀ i, i ≤ 64 → ∀ m : IM, SS σ m → (∀ R, R < i → m 50 R = x) → ∃ im', ev 184 5 [.ref 50, .int x, .int (nI i), .int (nI 64)] [] m rm = some (none, im', rm) ∧ SS σ im' ∧ (∀ R, R < 64 → im' 50 R = x) := by
    refine dn ?_ ?_
    · intro m h1 h2
      exact ⟨m, by simp only [s184_0, s184_1, s184_2, s184_3, s184_4, s184_5, s184_6, s184_7, s184_10, s184_11, s184_12, s184_13, s184_14, s184_17, s184_20, ↓reduceIte, Option.bind_some, Option.toList, List.cons_append, List.nil_append, bB_0, bB_z, z01_0, z01_1, n01, n00, pm_ro_some, reduceCtorEq, if_true, if_false, and_self, and_true, true_and, not_true, not_false_eq_true, Nat.reduceLeDiff, Nat.reduceAdd, kdX, lpT], h1, h2⟩
    · intro i hi ih m h1 h2
      obtain ⟨im', e1, e2⟩ := ih (pm_w2 m 50 i x) (h1.w (by omega)) (fun R hR => by
        by_cases e : R = i
        · rw [e, w2_s]
        · rw [w2_i e]; exact h2 R (by omega))
      refine ⟨im', ?_, e2⟩
      rw [← e1, s184_5]
      simp only [s184_0, s184_1, s184_2, s184_3, s184_4, s184_6, s184_7, s184_10, s184_11, s184_12, s184_13, s184_14, s184_17, s184_20, ↓reduceIte, Option.bind_some, Option.toList, List.cons_append, List.nil_append, bB_0, bB_z, z01_0, z01_1, n01, n00, pm_ro_some, reduceCtorEq, if_true, if_false, and_self, and_true, true_and, not_true, not_false_eq_true, Nat.reduceLeDiff, Nat.reduceAdd, kdX, lpF hi (show 64 < 2 ^ 31 by decide), ix hi, nI_add]
  obtain ⟨im', e1, e2⟩ := key 0 (by omega) im hs (fun R hR => absurd hR (by omega))
  refine ⟨im', ?_, e2⟩
  rw [← e1]
  simp only [s184_0, s184_1, s184_2, s184_3, s184_4, ↓reduceIte, Option.bind_some, Option.toList, List.cons_append, List.nil_append, bB_0, bB_z, z01_0, z01_1, n01, n00, pm_ro_some, reduceCtorEq, if_true, if_false, and_self, and_true, true_and, not_true, not_false_eq_true, Nat.reduceLeDiff, Nat.reduceAdd, kdX]
theorem c90 (hx : rmX rm pp ll) (hs : SS σ im) {k p : Nat} (hk : k < 16) (hp : p < 64) {L : Nat → Nat} (hL : ∀ R, R < 64 → im 50 R = nI (L R)) (hB : ∀ R, R < 64 → L R ≤ 1114112) : ∃ im' M, ev 90 0 [.ref 0, .int (nI k), .int (nI p), .int (nI 1114112), pm_u, pm_u, pm_u] [] im rm = some (none, im', rm) ∧ SS σ im' ∧ (∀ R, R < 64 → im' 50 R = nI (M R)) ∧ AD k p L M 0 := by
  have hk16 : (2 : Nat) ^ k ≤ 2 ^ 15 := Nat.pow_le_pow_right (by decide) (by omega)
  have key : ∀ j, j ≤ 64 → ∀ (m : IM) (M : Nat → Nat), SS σ m → (∀ R, R < 64 → m 50 R = nI (M R)) → AD k p L M j → ∃ im' M, ev 90 18 [.ref 0, pm_u, .int (nI p), .int (nI 1114112), .int (nI (65536 + 2 ^ k)), .int (nI j + (-1 : Int32)), pm_u] [] m rm = some (none, im', rm) ∧ SS σ im' ∧ (∀ R, R < 64 → im' 50 R = nI (M R)) ∧ AD k p L M 0 := by
    intro j
    induction j with
    | zero =>
      intro _ m M h1 h2 h3
      refine ⟨m, M, ?_, h1, h2, h3⟩
      simp only [s90_18, s90_20, s90_81, ↓reduceIte, Option.bind_some, Option.toList, List.cons_append, List.nil_append, bB_0, bB_z, z01_0, z01_1, n01, n00, pm_ro_some, reduceCtorEq, if_true, if_false, and_self, and_true, true_and, not_true, not_false_eq_true, Nat.reduceLeDiff, Nat.reduceAdd, kdX, show (nI 0 + (-1 : Int32) < nI 0) = True from by decide]
    | succ j ih =>
      intro hj m M h1 h2 h3
      obtain ⟨a1, a2, a3, a4⟩ := h3
      have mj : M j = L j := a1 j (by omega)
      have bj := hB j (by omega)
      have hw : j ||| p < 64 := Nat.or_lt_two_pow (n := 6) (show j < 64 by omega) hp
      have hjw : j ≤ j ||| p := Nat.left_le_or
      have ap : j &&& p ≤ p := Nat.and_le_right
      have bw := Nat.le_trans (a2 _ hw) (hB _ hw)
      rw [nI_dec, s90_18]
      by_cases g1 : L j < 1114112 ∧ j &&& p ≠ p
      · obtain ⟨g1, g2⟩ := g1
        have g2' : (j &&& p = p) = False := eq_false g2
        have hmin : (if nI (L j + (65536 + 2 ^ k)) < nI (M (j ||| p)) then nI (L j + (65536 + 2 ^ k)) else nI (M (j ||| p))) = nI (if L j + (65536 + 2 ^ k) < M (j ||| p) then L j + (65536 + 2 ^ k) else M (j ||| p)) := by
          by_cases q : L j + (65536 + 2 ^ k) < M (j ||| p)
          · rw [if_pos q, if_pos (nI_lt q (by omega))]
          · rw [if_neg q, if_neg (fun h => q ((nI_ltI (by omega) (by omega)).mp h))]
        generalize hv : (if L j + (65536 + 2 ^ k) < M (j ||| p) then L j + (65536 + 2 ^ k) else M (j ||| p)) = v at hmin
        have v1 : v ≤ M (j ||| p) := by rw [← hv]; split <;> omega
        have v2 : v ≤ L j + (65536 + 2 ^ k) := by rw [← hv]; split <;> omega
        have v3 : v = M (j ||| p) ∨ v = L j + (65536 + 2 ^ k) := by rw [← hv]; split <;> simp
        obtain ⟨im', M', e1, e2⟩ := ih (by omega) (pm_w2 m 50 (j ||| p) (nI v)) (fun R => if R = j ||| p then v else M R) (h1.w (by omega)) (fun R hR => by
          by_cases e : R = j ||| p
          · simp only [e, w2_s, if_true]
          · rw [w2_i e]
            simp only [e, if_false]
            exact h2 R hR) ⟨fun R hR => by
          have : R ≠ j ||| p := by omega
          simp only [this, if_false]
          exact a1 R (by omega), fun R hR => by
          by_cases e : R = j ||| p
          · simp only [e, if_true]
            exact Nat.le_trans v1 (a2 _ hw)
          · simp only [e, if_false]
            exact a2 R hR, fun r h3 h4 h5 h6 => by
          by_cases e : r ||| p = j ||| p
          · simp only [e, if_true]
            by_cases er : r = j
            · rw [er]; exact v2
            · have := a3 r (by omega) h4 h5 h6
              rw [e] at this
              omega
          · simp only [e, if_false]
            by_cases er : r = j
            · exact absurd (by rw [er]) e
            · exact a3 r (by omega) h4 h5 h6, fun R hR => by
          by_cases e : R = j ||| p
          · simp only [e, if_true]
            rcases v3 with h | h
            · rw [h]; exact a4 _ hw
            · exact Or.inr ⟨j, by omega, g1, rfl, h⟩
          · simp only [e, if_false]
            exact a4 R hR⟩
        refine ⟨im', M', ?_, e2⟩
        rw [← e1]
        have lj : m 50 j = nI (L j) := by rw [h2 j (by omega), mj]
        simp only [s90_20, s90_23, s90_24, s90_27, s90_29, s90_30, s90_31, s90_34, s90_36, s90_37, s90_38, s90_39, s90_42, s90_44, s90_45, s90_46, s90_48, s90_49, s90_52, s90_54, s90_55, s90_58, s90_60, s90_61, s90_62, s90_65, s90_67, s90_68, s90_70, s90_71, s90_74, s90_75, s90_78, ↓reduceIte, Option.bind_some, Option.toList, List.cons_append, List.nil_append, bB_0, bB_z, z01_0, z01_1, n01, n00, pm_ro_some, reduceCtorEq, if_true, if_false, and_self, and_true, true_and, not_true, not_false_eq_true, Nat.reduceLeDiff, Nat.reduceAdd, kdX, hx, lpG (show 0 ≤ j by omega) (show j < 2 ^ 31 by omega), ix (show j < 64 by omega), lj, lpF g1 (show 1114112 < 2 ^ 31 by decide), and_nI, nI_eqq (show j &&& p < 2 ^ 31 by omega) (show p < 2 ^ 31 by omega), g2', or_nI, ix hw, h2 _ hw, nI_add, c176, hmin]
      · have key2 : ev 90 20 [.ref 0, pm_u, .int (nI p), .int (nI 1114112), .int (nI (65536 + 2 ^ k)), .int (nI j), pm_u] [.int (nI j)] m rm = ev 90 75 [.ref 0, pm_u, .int (nI p), .int (nI 1114112), .int (nI (65536 + 2 ^ k)), .int (nI j), pm_u] [] m rm := by
          have lj : m 50 j = nI (L j) := by rw [h2 j (by omega), mj]
          by_cases q : L j < 1114112
          · have q2 : (j &&& p = p) = True := eq_true (by
              by_cases q3 : j &&& p = p
              · exact q3
              · exact absurd ⟨q, q3⟩ g1)
            simp only [s90_20, s90_23, s90_24, s90_27, s90_29, s90_30, s90_31, s90_34, s90_36, s90_37, s90_38, s90_39, ↓reduceIte, Option.bind_some, Option.toList, List.cons_append, List.nil_append, bB_0, bB_z, z01_0, z01_1, n01, n00, pm_ro_some, reduceCtorEq, if_true, if_false, and_self, and_true, true_and, not_true, not_false_eq_true, Nat.reduceLeDiff, Nat.reduceAdd, kdX, hx, lpG (show 0 ≤ j by omega) (show j < 2 ^ 31 by omega), ix (show j < 64 by omega), lj, lpF q (show 1114112 < 2 ^ 31 by decide), and_nI, nI_eqq (show j &&& p < 2 ^ 31 by omega) (show p < 2 ^ 31 by omega), q2]
          · simp only [s90_20, s90_23, s90_24, s90_27, s90_29, s90_30, s90_31, ↓reduceIte, Option.bind_some, Option.toList, List.cons_append, List.nil_append, bB_0, bB_z, z01_0, z01_1, n01, n00, pm_ro_some, reduceCtorEq, if_true, if_false, and_self, and_true, true_and, not_true, not_false_eq_true, Nat.reduceLeDiff, Nat.reduceAdd, kdX, hx, lpG (show 0 ≤ j by omega) (show j < 2 ^ 31 by omega), ix (show j < 64 by omega), lj, lpG (show 1114112 ≤ L j by omega) (show L j < 2 ^ 31 by omega)]
        obtain ⟨im', M', e1, e2⟩ := ih (by omega) m M h1 h2 ⟨fun R hR => a1 R (by omega), a2, fun r h3 h4 h5 h6 => by
          by_cases er : r = j
          · subst er; exact absurd ⟨h5, h6⟩ g1
          · exact a3 r (by omega) h4 h5 h6, a4⟩
        refine ⟨im', M', ?_, e2⟩
        rw [← e1, key2]
        simp only [s90_75, s90_78]
  obtain ⟨im', M, e1, e2⟩ := key 64 (by omega) im L hs hL ⟨fun _ _ => rfl, fun _ _ => Nat.le_refl _, fun r h1 h2 => absurd h2 (by omega), fun _ _ => Or.inl rfl⟩
  refine ⟨im', M, ?_, e2⟩
  rw [← e1]
  simp only [s90_0, s90_3, s90_4, s90_5, s90_6, s90_7, s90_9, s90_10, s90_13, s90_14, s90_15, s90_16, ↓reduceIte, Option.bind_some, Option.toList, List.cons_append, List.nil_append, bB_0, bB_z, z01_0, z01_1, n01, n00, pm_ro_some, reduceCtorEq, if_true, if_false, and_self, and_true, true_and, not_true, not_false_eq_true, Nat.reduceLeDiff, Nat.reduceAdd, kdX, hx, shl1 (show k < 31 by omega), or_nI, o16 k hk]
  rfl
theorem c142 (S : Nat) (hS : S < 65536) : ev 142 0 [.int (nI S), pm_u, pm_u] [] im rm = some (some (.int (nI (bc S 16))), im, rm) := by
  have key : ∀ k, k ≤ 16 → ev 142 4 [.int (nI S), .int (nI (bc S k)), .int (nI k)] [] im rm = some (some (.int (nI (bc S 16))), im, rm) := by
    refine dn ?_ ?_
    · simp only [s142_0, s142_1, s142_2, s142_3, s142_4, s142_5, s142_7, s142_10, s142_11, s142_12, s142_13, s142_14, s142_15, s142_16, s142_17, s142_18, s142_21, s142_24, s142_25, ↓reduceIte, Option.bind_some, Option.toList, List.cons_append, List.nil_append, bB_0, bB_z, z01_0, z01_1, n01, n00, pm_ro_some, reduceCtorEq, if_true, if_false, and_self, and_true, true_and, not_true, not_false_eq_true, Nat.reduceLeDiff, Nat.reduceAdd, kdM, lpT]
    · intro k hk ih
      rw [← ih, s142_4]
      have e : bc S (k + 1) = bc S k + S / 2 ^ k % 2 := by rw [tb_v]; rfl
      rw [e]
      simp only [s142_0, s142_1, s142_2, s142_3, s142_5, s142_7, s142_10, s142_11, s142_12, s142_13, s142_14, s142_15, s142_16, s142_17, s142_18, s142_21, s142_24, s142_25, ↓reduceIte, Option.bind_some, Option.toList, List.cons_append, List.nil_append, bB_0, bB_z, z01_0, z01_1, n01, n00, pm_ro_some, reduceCtorEq, if_true, if_false, and_self, and_true, true_and, not_true, not_false_eq_true, Nat.reduceLeDiff, Nat.reduceAdd, kdM, lpF hk (show 16 < 2 ^ 31 by decide), shr_and (show S < 2 ^ 31 by omega) (show k < 31 by omega), nI_add]
  rw [← key 0 (by omega)]
  simp only [s142_0, s142_1, s142_2, s142_3]
  rfl
theorem c55 (hI : INV σ rm pp ll) (hs : SS σ im) : ∃ im', ev 55 0 [.ref 0, pm_u, pm_u, pm_u, pm_u] [] im rm = some (some (.int (nI (bst (parN σ) (pa (parN σ) 16) 65536))), im', rm) ∧ SS σ im' := by
  have hx := hI.x
  have hP : ∀ k, k < 16 → parN σ k < 64 := fun k _ => parN_lt σ k
  have key : ∀ k, k ≤ 16 → ∀ (m : IM) (L : Nat → Nat), SS σ m → (∀ R, R < 64 → m 50 R = nI (L R)) → SP (parN σ) k L → ∃ im', ev 55 22 [.ref 0, .int (nI 1114112), .int (nI (pa (parN σ) k)), .int (nI k), pm_u] [] m rm = some (some (.int (nI (bst (parN σ) (pa (parN σ) 16) 65536))), im', rm) ∧ SS σ im' := by
    refine dn ?_ ?_
    · intro m L h1 h2 h3
      refine ⟨m, ?_, h1⟩
      have F := few_eq hP h3
      have hg := pa_lt hP 16 (by omega)
      have e : nI (L (pa (parN σ) 16)) &&& nI 65535 = nI (bst (parN σ) (pa (parN σ) 16) 65536) := by
        rw [and_nI, show (65535 : Nat) = 2 ^ 16 - 1 from by decide, Nat.and_two_pow_sub_one_eq_mod, show (2 : Nat) ^ 16 = 65536 from by decide, F.2]
      simp only [s55_22, s55_23, s55_25, s55_54, s55_55, s55_58, s55_59, s55_60, s55_62, s55_63, ↓reduceIte, Option.bind_some, Option.toList, List.cons_append, List.nil_append, bB_0, bB_z, z01_0, z01_1, n01, n00, pm_ro_some, reduceCtorEq, if_true, if_false, and_self, and_true, true_and, not_true, not_false_eq_true, Nat.reduceLeDiff, Nat.reduceAdd, kdX, hx, lpT, ix hg, h2 _ hg, e]
    · intro k hk ih m L h1 h2 h3
      obtain ⟨m1, A1, A2, A3⟩ := c88 hI h1 hk
      obtain ⟨m2, M, B1, B2, B3, B4⟩ := c90 (im := m1) hx A2 hk (hP k hk) (L := L) (fun R hR => by rw [A3 _ _ (by omega)]; exact h2 R hR) (fun R hR => (h3 R hR).2.2)
      obtain ⟨im', E1, E2⟩ := ih m2 M B2 B3 (SP_s hP hk h3 B4)
      refine ⟨im', ?_, E2⟩
      rw [← E1, s55_22]
      simp only [s55_23, s55_25, s55_28, s55_29, s55_30, s55_33, s55_35, s55_36, s55_38, s55_39, s55_40, s55_41, s55_42, s55_44, s55_45, s55_48, s55_51, ↓reduceIte, Option.bind_some, Option.toList, List.cons_append, List.nil_append, bB_0, bB_z, z01_0, z01_1, n01, n00, pm_ro_some, reduceCtorEq, if_true, if_false, and_self, and_true, true_and, not_true, not_false_eq_true, Nat.reduceLeDiff, Nat.reduceAdd, kdX, hx, lpF hk (show 16 < 2 ^ 31 by decide), A1, or_nI, B1, nI_add, pa]
  obtain ⟨m1, A1, A2, A3⟩ := c184 hx hs (nI 1114112)
  obtain ⟨im', E1, E2⟩ := key 0 (by omega) (pm_w2 m1 50 0 (nI 0)) (fun R => if R = 0 then 0 else 1114112) (A2.w (by omega)) (fun R hR => by
    by_cases e : R = 0
    · subst e
      simp only [w2_s, if_true]
    · rw [w2_i e, A3 R hR]
      simp only [e, if_false]) (SP_0 _)
  refine ⟨im', ?_, E2⟩
  rw [← E1]
  simp only [s55_0, s55_2, s55_3, s55_4, s55_7, s55_8, s55_11, s55_12, s55_15, s55_16, s55_17, s55_18, s55_19, s55_20, s55_21, ↓reduceIte, Option.bind_some, Option.toList, List.cons_append, List.nil_append, bB_0, bB_z, z01_0, z01_1, n01, n00, pm_ro_some, reduceCtorEq, if_true, if_false, and_self, and_true, true_and, not_true, not_false_eq_true, Nat.reduceLeDiff, Nat.reduceAdd, kdX, hx, A1, ix (show 0 < 64 by decide)]
  rfl
theorem c143 (hI : INV σ rm pp ll) (hs : SS σ im) : ∃ im', ev 143 0 [.ref 129, pm_u, pm_u, pm_u, pm_u, pm_u] [] im rm = some (some (.int (nI (bst (parN σ) (pa (parN σ) 16) 65536))), im', rm) ∧ SS σ im' := by
  have hm := hI.m
  have hP : ∀ k, k < 16 → parN σ k < 64 := fun k _ => parN_lt σ k
  have z0 : ∀ x : Int32, x ||| nI 0 = x := fun x => by simp [nI]
  have fill : ∀ k, k ≤ 16 → ∀ m : IM, SS σ m → (∀ i, i < k → m 163 i = nI (parN σ i)) → ∃ m', ev 143 4 [.ref 129, .int (nI (pa (parN σ) k)), .int (nI k), pm_u, pm_u, pm_u] [] m rm = ev 143 36 [.ref 129, .int (nI (pa (parN σ) 16)), pm_u, pm_u, pm_u, pm_u] [] m' rm ∧ SS σ m' ∧ (∀ i, i < 16 → m' 163 i = nI (parN σ i)) := by
    refine dn ?_ ?_
    · intro m h1 h2
      exact ⟨m, by simp only [s143_4, s143_5, s143_7, ↓reduceIte, Option.bind_some, Option.toList, List.cons_append, List.nil_append, bB_0, bB_z, z01_0, z01_1, n01, n00, pm_ro_some, reduceCtorEq, if_true, if_false, and_self, and_true, true_and, not_true, not_false_eq_true, Nat.reduceLeDiff, Nat.reduceAdd, kdM, lpT], h1, h2⟩
    · intro k hk ih m h1 h2
      obtain ⟨m', E1, E2⟩ := ih (pm_w2 m 163 k (nI (parN σ k))) (h1.w (by omega)) (fun i hi => by
        by_cases e : i = k
        · rw [e, w2_s]
        · rw [w2_i e]; exact h2 i (by omega))
      refine ⟨m', ?_, E2⟩
      rw [← E1, s143_4]
      simp only [s143_5, s143_7, s143_10, s143_11, s143_14, s143_15, s143_16, s143_17, s143_20, s143_21, s143_22, s143_23, s143_26, s143_27, s143_28, s143_29, s143_30, s143_33, ↓reduceIte, Option.bind_some, Option.toList, List.cons_append, List.nil_append, bB_0, bB_z, z01_0, z01_1, n01, n00, pm_ro_some, reduceCtorEq, if_true, if_false, and_self, and_true, true_and, not_true, not_false_eq_true, Nat.reduceLeDiff, Nat.reduceAdd, kdM, hm, lpF hk (show 16 < 2 ^ 31 by decide), c139 hI h1 hk, ix hk, w2_s, or_nI, nI_add, pa]
  obtain ⟨m, E1, h1, h2⟩ := fill 0 (by omega) im hs (fun i hi => absurd hi (by omega))
  have inner : ∀ S, S < 65536 → ∀ bs : Int32, ∀ k, k ≤ 16 → ev 143 55 [.ref 129, .int (nI (pa (parN σ) 16)), .int bs, .int (nI S), .int (nI (un (parN σ) S k)), .int (nI k)] [] m rm = ev 143 94 [.ref 129, .int (nI (pa (parN σ) 16)), .int bs, .int (nI S), .int (nI (un (parN σ) S 16)), pm_u] [] m rm := by
    intro S hS bs
    refine dn ?_ ?_
    · simp only [s143_55, s143_57, s143_59, ↓reduceIte, Option.bind_some, Option.toList, List.cons_append, List.nil_append, bB_0, bB_z, z01_0, z01_1, n01, n00, pm_ro_some, reduceCtorEq, if_true, if_false, and_self, and_true, true_and, not_true, not_false_eq_true, Nat.reduceLeDiff, Nat.reduceAdd, kdM, lpT]
    · intro k hk ih
      rw [← ih, s143_55]
      by_cases q : S.testBit k = true <;> simp only [s143_57, s143_59, s143_62, s143_64, s143_65, s143_67, s143_68, s143_69, s143_70, s143_71, s143_74, s143_75, s143_78, s143_80, s143_81, s143_84, s143_85, s143_86, s143_88, s143_91, ↓reduceIte, Option.bind_some, Option.toList, List.cons_append, List.nil_append, bB_0, bB_z, z01_0, z01_1, n01, n00, pm_ro_some, reduceCtorEq, if_true, if_false, and_self, and_true, true_and, not_true, not_false_eq_true, Nat.reduceLeDiff, Nat.reduceAdd, kdM, hm, lpF hk (show 16 < 2 ^ 31 by decide), btc (show S < 2 ^ 31 by omega) (show k < 31 by omega), q, ix hk, h2 k hk, or_nI, z0, nI_add, un, Bool.false_eq_true]
  have outer : ∀ S, S ≤ 65536 → ev 143 42 [.ref 129, .int (nI (pa (parN σ) 16)), .int (nI (bst (parN σ) (pa (parN σ) 16) S)), .int (nI S), pm_u, pm_u] [] m rm = some (some (.int (nI (bst (parN σ) (pa (parN σ) 16) 65536))), m, rm) := by
    refine dn ?_ ?_
    · simp only [s143_42, s143_43, s143_46, s143_123, s143_124, ↓reduceIte, Option.bind_some, Option.toList, List.cons_append, List.nil_append, bB_0, bB_z, z01_0, z01_1, n01, n00, pm_ro_some, reduceCtorEq, if_true, if_false, and_self, and_true, true_and, not_true, not_false_eq_true, Nat.reduceLeDiff, Nat.reduceAdd, kdM, lpT]
    · intro S hS ih
      have I0 := inner S hS (nI (bst (parN σ) (pa (parN σ) 16) S)) 0 (by omega)
      have zu : un (parN σ) S 0 = 0 := rfl
      rw [zu] at I0
      have B := (bst_i (parN σ) S (by omega)).2.1
      have bl1 := bc_le S 16
      have bl2 := bc_le (bst (parN σ) (pa (parN σ) 16) S) 16
      have hu := un_lt hP S 16 (by omega)
      have hg := pa_lt hP 16 (by omega)
      have e : bst (parN σ) (pa (parN σ) 16) (S + 1) = if un (parN σ) S 16 = pa (parN σ) 16 ∧ bc S 16 < bc (bst (parN σ) (pa (parN σ) 16) S) 16 then S else bst (parN σ) (pa (parN σ) 16) S := rfl
      rw [← ih, e, s143_42]
      by_cases q1 : un (parN σ) S 16 = pa (parN σ) 16
      · by_cases q2 : bc S 16 < bc (bst (parN σ) (pa (parN σ) 16) S) 16
        · simp only [s143_43, s143_46, s143_49, s143_50, s143_52, s143_53, ↓reduceIte, Option.bind_some, Option.toList, List.cons_append, List.nil_append, bB_0, bB_z, z01_0, z01_1, n01, n00, pm_ro_some, reduceCtorEq, if_true, if_false, and_self, and_true, true_and, not_true, not_false_eq_true, Nat.reduceLeDiff, Nat.reduceAdd, kdM, lpF hS (show 65536 < 2 ^ 31 by decide), I0, s143_94, s143_96, s143_97, s143_100, s143_101, s143_104, s143_105, s143_108, s143_111, s143_112, s143_115, s143_116, s143_117, s143_120, nI_eqq (show un (parN σ) S 16 < 2 ^ 31 by omega) (show pa (parN σ) 16 < 2 ^ 31 by omega), q1, c142 S hS, c142 (bst (parN σ) (pa (parN σ) 16) S) (by omega), lpF q2 (show bc (bst (parN σ) (pa (parN σ) 16) S) 16 < 2 ^ 31 by omega), q2, nI_add]
        · simp only [s143_43, s143_46, s143_49, s143_50, s143_52, s143_53, ↓reduceIte, Option.bind_some, Option.toList, List.cons_append, List.nil_append, bB_0, bB_z, z01_0, z01_1, n01, n00, pm_ro_some, reduceCtorEq, if_true, if_false, and_self, and_true, true_and, not_true, not_false_eq_true, Nat.reduceLeDiff, Nat.reduceAdd, kdM, lpF hS (show 65536 < 2 ^ 31 by decide), I0, s143_94, s143_96, s143_97, s143_100, s143_101, s143_104, s143_105, s143_108, s143_111, s143_112, s143_115, s143_116, s143_117, s143_120, nI_eqq (show un (parN σ) S 16 < 2 ^ 31 by omega) (show pa (parN σ) 16 < 2 ^ 31 by omega), q1, c142 S hS, c142 (bst (parN σ) (pa (parN σ) 16) S) (by omega), lpG (show bc (bst (parN σ) (pa (parN σ) 16) S) 16 ≤ bc S 16 by omega) (show bc S 16 < 2 ^ 31 by omega), q2, and_false, nI_add]
      · simp only [s143_43, s143_46, s143_49, s143_50, s143_52, s143_53, ↓reduceIte, Option.bind_some, Option.toList, List.cons_append, List.nil_append, bB_0, bB_z, z01_0, z01_1, n01, n00, pm_ro_some, reduceCtorEq, if_true, if_false, and_self, and_true, true_and, not_true, not_false_eq_true, Nat.reduceLeDiff, Nat.reduceAdd, kdM, lpF hS (show 65536 < 2 ^ 31 by decide), I0, s143_94, s143_96, s143_97, s143_100, s143_101, s143_104, s143_105, s143_108, s143_111, s143_112, s143_115, s143_116, s143_117, s143_120, nI_eqq (show un (parN σ) S 16 < 2 ^ 31 by omega) (show pa (parN σ) 16 < 2 ^ 31 by omega), q1, false_and, nI_add]
  refine ⟨m, ?_, h1⟩
  have z : pa (parN σ) 0 = 0 := rfl
  rw [z] at E1
  rw [← outer 0 (by omega)]
  simp only [s143_0, s143_1, s143_2, s143_3, E1, s143_36, s143_39, s143_40, s143_41, ↓reduceIte, Option.bind_some, Option.toList, List.cons_append, List.nil_append, bB_0, bB_z, z01_0, z01_1, n01, n00, pm_ro_some, reduceCtorEq, if_true, if_false, and_self, and_true, true_and, not_true, not_false_eq_true, Nat.reduceLeDiff, Nat.reduceAdd, kdM]
  rfl
theorem p55 (hI : INV im rm pp ll) : PAIR 55 [.ref 0, pm_u, pm_u, pm_u, pm_u] 143 [.ref 129, pm_u, pm_u, pm_u, pm_u, pm_u] im rm :=
  PAIR.q hI _ (c55 hI SS.rf) (fun _ s1 => c143 hI s1)
end FEW
