-- needs: 56
/-! Words, numbers, readings: both sides. -/
theorem kdW : ∀ j, j < 18 → (1000000 + j) ∈ exl ∧ (1000000 + j + 100) ∈ exl := by decide
theorem stb_l : ∀ j, j < 18 → (pm_stb j).length ≤ 6 := by decide
set_option maxRecDepth 100000 in
theorem stb_r : ∀ j, j < 18 → ∀ i, i < (pm_stb j).length → (0 ≤ (((pm_stb j).getD i 0 &&& nI 255).toUInt32 % 65536).toInt32 ∧ (((pm_stb j).getD i 0 &&& nI 255).toUInt32 % 65536).toInt32 ≤ 255) ∧ (((pm_stb j).getD i 0 &&& nI 255).toUInt32 % 65536).toInt32 = (pm_stb j).getD i 0 := by decide +kernel
theorem shr0 : ∀ L, L < 7 → nI L >>> ((0 : Int32) &&& 31) = nI L := by decide
def wm (B : Nat → Int32) (s : Nat) (w : List Int32) : Nat → Bool
  | 0 => true
  | i + 1 => wm B s w i && decide (B (s + i) = w.getD i 0)
theorem wm_f {B : Nat → Int32} {s : Nat} {w : List Int32} {j : Nat} (h : wm B s w j = false) : ∀ n, wm B s w (j + n) = false := by
  intro n
  induction n with
  | zero => exact h
  | succ n ih => show (wm B s w (j + n) && _) = false; rw [ih, Bool.false_and]
def isW (B : Nat → Int32) (w : List Int32) (T : Nat × Nat) : Bool := decide (T.2 - T.1 = w.length) && wm B T.1 w w.length
def nx (B : Nat → Int32) (N : Nat) (T : Nat × Nat) : Nat × Nat := (tS B N T.2, tE B N T.2)
def oT (B : Nat → Int32) (N : Nat) (T : Nat × Nat) : Prop := vT B N T.1 T.2
def CC (B : Nat → Int32) (N : Nat) (m : IM) (T : Nat × Nat) : Prop := TXc B N m ∧ tkC m T.1 T.2
def MK (B : Nat → Int32) (N : Nat) (m : IM) (T : Nat × Nat) : Prop := TXm B N m ∧ tkM m T.1 T.2
theorem oT_n {B : Nat → Int32} {N : Nat} {T : Nat × Nat} (h : oT B N T) : oT B N (nx B N T) := vT_n B h.2.1
theorem oT_c {B : Nat → Int32} {N : Nat} {T : Nat × Nat} (h : oT B N T) (b : Bool) : oT B N (cond b (nx B N T) T) := by
  cases b
  · exact h
  · exact oT_n h
def nm (B : Nat → Int32) (s : Nat) : Nat → Int32
  | 0 => nI 0
  | n + 1 => nI 10 * nm B s n + B (s + n) - nI 48
def nuv (B : Nat → Int32) (T : Nat × Nat) : Int32 := nm B T.1 (T.2 - T.1)
def isD (B : Nat → Int32) (T : Nat × Nat) : Bool := decide (T.1 < T.2 ∧ T.2 - T.1 ≤ 3 ∧ srt (B T.1) = 2)
def nok (B : Nat → Int32) (most : Nat) (T : Nat × Nat) : Bool := isD B T && decide (nuv B T ≤ nI most)
theorem srt2 (x : Int32) : (srt x = 2) = (nI 48 ≤ x ∧ x ≤ nI 57) := by
  have e1 : (nI 97).toInt = 97 := by decide
  have e2 : (nI 122).toInt = 122 := by decide
  have e3 : (nI 48).toInt = 48 := by decide
  have e4 : (nI 57).toInt = 57 := by decide
  unfold srt
  simp only [i32_le, e1, e2, e3, e4]
  apply propext
  by_cases a : 97 ≤ x.toInt ∧ x.toInt ≤ 122
  · rw [if_pos a]
    constructor
    · intro h; cases h
    · intro h; omega
  · rw [if_neg a]
    by_cases b : 48 ≤ x.toInt ∧ x.toInt ≤ 57
    · rw [if_pos b]
      exact ⟨fun _ => b, fun _ => rfl⟩
    · rw [if_neg b]
      exact ⟨fun h => (by cases h), fun h => absurd h b⟩
theorem dig {x : Int32} (h : srt x = 2) : ∃ c, c ≤ 9 ∧ x = nI (48 + c) := by
  rw [srt2, i32_le, i32_le, show (nI 48).toInt = 48 from by decide, show (nI 57).toInt = 57 from by decide] at h
  refine ⟨(x.toInt - 48).toNat, by omega, ?_⟩
  apply Int32.toInt_inj.mp
  rw [nI_toInt (by omega)]
  omega
theorem nm_rg {B : Nat → Int32} {s : Nat} : ∀ n, (∀ k, k < n → srt (B (s + k)) = 2) → ∃ x, x < 10 ^ n ∧ nm B s n = nI x := by
  intro n
  induction n with
  | zero => intro _; exact ⟨0, by decide, rfl⟩
  | succ n ih =>
    intro h
    obtain ⟨x, hx, ex⟩ := ih (fun k hk => h k (by omega))
    obtain ⟨c, hc, ec⟩ := dig (h n (by omega))
    refine ⟨10 * x + c, by rw [Nat.pow_succ]; omega, ?_⟩
    show nI 10 * nm B s n + B (s + n) - nI 48 = _
    rw [ex, ec, pk_mul, nI_add, nI_sbn (by omega)]
    congr 1
    omega
def nuN (B : Nat → Int32) (T : Nat × Nat) : Nat := (nuv B T).toNatClampNeg
theorem nuN_e {B : Nat → Int32} {N : Nat} {T : Nat × Nat} (h : oT B N T) (hd : isD B T = true) : nuv B T = nI (nuN B T) ∧ nuN B T ≤ 999 := by
  unfold isD at hd
  rw [decide_eq_true_eq] at hd
  obtain ⟨x, hx, ex⟩ := nm_rg (B := B) (s := T.1) (T.2 - T.1) (fun k hk => by rw [h.2.2.2 (T.1 + k) (by omega) (by omega)]; exact hd.2.2)
  have : (10 : Nat) ^ (T.2 - T.1) ≤ 10 ^ 3 := Nat.pow_le_pow_right (by decide) hd.2.1
  have e : nuv B T = nI x := ex
  unfold nuN
  rw [e, nI_clamp (by omega)]
  exact ⟨rfl, by omega⟩
def rdf (B : Nat → Int32) (T : Nat × Nat) : Nat → Nat → Int32
  | _, 0 => -1
  | r, n + 1 => if isW B (pm_stb (10 + r)) T = true then nI r else rdf B T (r + 1) n
def rdx (B : Nat → Int32) (T : Nat × Nat) : Int32 := rdf B T 0 8
theorem rdf_or (B : Nat → Int32) (T : Nat × Nat) : ∀ n r, r + n = 8 → rdf B T r n = -1 ∨ ∃ q, q < 8 ∧ rdf B T r n = nI q := by
  intro n
  induction n with
  | zero => intro r _; exact Or.inl rfl
  | succ n ih =>
    intro r hr
    unfold rdf
    split
    · exact Or.inr ⟨r, by omega, rfl⟩
    · exact ih (r + 1) (by omega)
theorem rdx_or (B : Nat → Int32) (T : Nat × Nat) : rdx B T = -1 ∨ ∃ q, q < 8 ∧ rdx B T = nI q := rdf_or B T 8 0 rfl
theorem oneI : ((1 : Int32) = nI 0) = False := by decide
theorem zerI : ((0 : Int32) = nI 0) = True := by decide
section WRD
variable {im σ : IM} {rm : RM} {pp ll : Nat → Nat} {B : Nat → Int32} {N : Nat} {T : Nat × Nat}
theorem c180 {j : Nat} (hj : j < 18) : ev 180 0 [.ref (1000000 + j)] [] im rm = some (some (.int 0), im, rm) := by
  have hk := kd_x (kdW j hj).1
  simp only [s180_0, s180_3, s180_6, s180_7, s180_10, s180_13, s180_14, ↓reduceIte, Option.bind_some, Option.toList, List.cons_append, List.nil_append, bB_0, bB_z, z01_0, z01_1, n01, n00, pm_ro_some, reduceCtorEq, if_true, if_false, and_self, and_true, true_and, not_true, not_false_eq_true, Nat.reduceLeDiff, Nat.reduceAdd, oneI, hj, hk]
theorem c181 {j : Nat} (hj : j < 18) : ev 181 0 [.ref (1000000 + j)] [] im rm = some (some (.int (nI 1)), im, rm) := by
  have hk := kd_x (kdW j hj).1
  simp only [s181_0, s181_3, s181_6, s181_7, s181_10, s181_13, s181_14, s181_17, s181_18, ↓reduceIte, Option.bind_some, Option.toList, List.cons_append, List.nil_append, bB_0, bB_z, z01_0, z01_1, n01, n00, pm_ro_some, reduceCtorEq, if_true, if_false, and_self, and_true, true_and, not_true, not_false_eq_true, Nat.reduceLeDiff, Nat.reduceAdd, oneI, zerI, hj, hk]
theorem c178 {j : Nat} (hj : j < 18) : ev 178 0 [.ref (1000000 + j)] [] im rm = some (some (.int (nI (pm_stb j).length)), im, rm) := by
  have hk := kd_x (kdW j hj).1
  have hk2 := kd_x (kdW j hj).2
  have hl := stb_l j hj
  simp only [s178_0, s178_1, s178_4, s178_5, s178_6, s178_9, s178_10, ↓reduceIte, Option.bind_some, Option.toList, List.cons_append, List.nil_append, bB_0, bB_z, z01_0, z01_1, n01, n00, pm_ro_some, reduceCtorEq, if_true, if_false, and_self, and_true, true_and, not_true, not_false_eq_true, Nat.reduceLeDiff, Nat.reduceAdd, hj, hk, hk2, c180 hj, shr0 _ (show (pm_stb j).length < 7 by omega)]
theorem c182 {i L : Nat} (h : i < L) (hL : L < 2 ^ 31) : ev 182 0 [.int (nI i), .int (nI L)] [] im rm = some (none, im, rm) := by
  simp only [s182_0, s182_1, s182_2, s182_5, s182_8, s182_9, s185_0, s185_1, s185_4, s185_5, s185_6, s185_9, s185_10, s185_11, s185_16, s185_17, ↓reduceIte, Option.bind_some, Option.toList, List.cons_append, List.nil_append, bB_0, bB_z, z01_0, z01_1, n01, n00, pm_ro_some, reduceCtorEq, if_true, if_false, and_self, and_true, true_and, not_true, not_false_eq_true, Nat.reduceLeDiff, Nat.reduceAdd, lpG (show 0 ≤ i by omega) (show i < 2 ^ 31 by omega), lpF h hL]
theorem c183 {j i : Nat} (hj : j < 18) (hi : i < (pm_stb j).length) : ev 183 0 [.ref (1000000 + j + 100), .int (nI i)] [] im rm = some (some (.int ((pm_stb j).getD i 0)), im, rm) := by
  have hk2 := kd_x (kdW j hj).2
  have hl := stb_l j hj
  have R := stb_r j hj i hi
  have q := ix hi (show (pm_stb j).length < 2 ^ 31 by omega)
  have R1 := R.1
  rw [R.2] at R1
  simp only [s183_0, s183_1, s183_2, s183_3, s183_6, s183_7, s183_8, s183_9, s183_12, s183_13, s183_14, ↓reduceIte, Option.bind_some, Option.toList, List.cons_append, List.nil_append, bB_0, bB_z, z01_0, z01_1, n01, n00, pm_ro_some, reduceCtorEq, if_true, if_false, and_self, and_true, true_and, not_true, not_false_eq_true, Nat.reduceLeDiff, Nat.reduceAdd, hj, hk2, c182 hi (show (pm_stb j).length < 2 ^ 31 by omega), q, R.2, R1]
theorem c179 {j i : Nat} (hj : j < 18) (hi : i < (pm_stb j).length) : ev 179 0 [.ref (1000000 + j), .int (nI i)] [] im rm = some (some (.int ((pm_stb j).getD i 0)), im, rm) := by
  have hk := kd_x (kdW j hj).1
  have R := stb_r j hj i hi
  have R1 := R.1
  rw [R.2] at R1
  simp only [s179_0, s179_1, s179_4, s179_7, s179_8, s179_11, s179_12, s179_15, s179_16, s179_17, s179_20, ↓reduceIte, Option.bind_some, Option.toList, List.cons_append, List.nil_append, bB_0, bB_z, z01_0, z01_1, n01, n00, pm_ro_some, reduceCtorEq, if_true, if_false, and_self, and_true, true_and, not_true, not_false_eq_true, Nat.reduceLeDiff, Nat.reduceAdd, hj, hk, c181 hj, c183 hj hi, R1]
theorem c33 {r : Nat} (hr : r < 8) : ev 33 0 [.int (nI r)] [] im rm = some (some (.ref (1000000 + (10 + r))), im, rm) := by
  rcases (show r = 0 ∨ r = 1 ∨ r = 2 ∨ r = 3 ∨ r = 4 ∨ r = 5 ∨ r = 6 ∨ r = 7 by omega) with rfl | rfl | rfl | rfl | rfl | rfl | rfl | rfl <;> simp only [s33_0, s33_1_0, s33_1_1, s33_1_2, s33_1_3, s33_1_4, s33_1_5, s33_1_6, s33_1_o, s33_44, s33_46, s33_47, s33_49, s33_50, s33_52, s33_53, s33_55, s33_56, s33_58, s33_59, s33_61, s33_62, s33_64, s33_65, s33_67, ↓reduceIte, Option.bind_some, Option.toList, List.cons_append, List.nil_append, bB_0, bB_z, z01_0, z01_1, n01, n00, pm_ro_some, reduceCtorEq, if_true, if_false, and_self, and_true, true_and, not_true, not_false_eq_true, Nat.reduceLeDiff, Nat.reduceAdd, show (nI 7).toInt = 7 from by decide, show ((7 : Int) < 0 ∨ (6 : Int) < 7) = True from by decide]
theorem c37 (hx : rmX rm pp ll) (hN : N ≤ 160) (h : CC B N im T) (o : oT B N T) {j : Nat} (hj : j < 18) : ev 37 0 [.ref 4, .ref (1000000 + j), pm_u] [] im rm = some (some (.int (bB (isW B (pm_stb j) T))), im, rm) := by
  have hk := kd_x (kdW j hj).1
  have hl := stb_l j hj
  obtain ⟨t, t2, t3⟩ := h
  obtain ⟨o1, o2, o3, o4⟩ := o
  unfold isW
  by_cases g : T.2 - T.1 = (pm_stb j).length
  rotate_left
  · rw [decide_eq_false g, Bool.false_and]
    simp only [s37_0, s37_1, s37_4, s37_5, s37_8, s37_9, s37_10, s37_13, s37_16, s37_17, ↓reduceIte, Option.bind_some, Option.toList, List.cons_append, List.nil_append, bB_0, bB_z, z01_0, z01_1, n01, n00, pm_ro_some, reduceCtorEq, if_true, if_false, and_self, and_true, true_and, not_true, not_false_eq_true, Nat.reduceLeDiff, Nat.reduceAdd, kdX, t2, t3, nI_sbn o1, hj, hk, c178 hj, nI_eqq (show T.2 - T.1 < 2 ^ 31 by omega) (show (pm_stb j).length < 2 ^ 31 by omega), g]
    rfl
  rw [decide_eq_true g, Bool.true_and]
  have key : ∀ i, i ≤ (pm_stb j).length → wm B T.1 (pm_stb j) i = true → ev 37 20 [.ref 4, .ref (1000000 + j), .int (nI i)] [] im rm = some (some (.int (bB (wm B T.1 (pm_stb j) (pm_stb j).length))), im, rm) := by
    refine dn ?_ ?_
    · intro w
      rw [w]
      simp only [s37_20, s37_21, s37_22, s37_25, s37_55, s37_56, ↓reduceIte, Option.bind_some, Option.toList, List.cons_append, List.nil_append, bB_0, bB_z, z01_0, z01_1, n01, n00, pm_ro_some, reduceCtorEq, if_true, if_false, and_self, and_true, true_and, not_true, not_false_eq_true, Nat.reduceLeDiff, Nat.reduceAdd, kdX, hj, hk, c178 hj, lpT]
      rfl
    · intro i hi ih w
      have et : wm B T.1 (pm_stb j) (i + 1) = decide (B (T.1 + i) = (pm_stb j).getD i 0) := by
        show (wm B T.1 (pm_stb j) i && _) = _
        rw [w, Bool.true_and]
      rw [s37_20]
      by_cases c : B (T.1 + i) = (pm_stb j).getD i 0
      · rw [← ih (et.trans (decide_eq_true c))]
        simp only [s37_21, s37_22, s37_25, s37_28, s37_29, s37_32, s37_33, s37_36, s37_37, s37_38, s37_39, s37_40, s37_41, s37_44, s37_47, s37_48, s37_49, s37_52, ↓reduceIte, Option.bind_some, Option.toList, List.cons_append, List.nil_append, bB_0, bB_z, z01_0, z01_1, n01, n00, pm_ro_some, reduceCtorEq, if_true, if_false, and_self, and_true, true_and, not_true, not_false_eq_true, Nat.reduceLeDiff, Nat.reduceAdd, kdX, hx, t2, hj, hk, c178 hj, lpF hi (show (pm_stb j).length < 2 ^ 31 by omega), nI_add, ix (show T.1 + i < 160 by omega), t.2 (T.1 + i) (by omega), c179 hj hi, c]
      · have e2 : wm B T.1 (pm_stb j) (pm_stb j).length = false := by
          have := wm_f (et.trans (decide_eq_false c)) ((pm_stb j).length - (i + 1))
          rw [show i + 1 + ((pm_stb j).length - (i + 1)) = (pm_stb j).length by omega] at this
          exact this
        rw [e2]
        simp only [s37_21, s37_22, s37_25, s37_28, s37_29, s37_32, s37_33, s37_36, s37_37, s37_38, s37_39, s37_40, s37_41, s37_44, s37_47, s37_48, ↓reduceIte, Option.bind_some, Option.toList, List.cons_append, List.nil_append, bB_0, bB_z, z01_0, z01_1, n01, n00, pm_ro_some, reduceCtorEq, if_true, if_false, and_self, and_true, true_and, not_true, not_false_eq_true, Nat.reduceLeDiff, Nat.reduceAdd, kdX, hx, t2, hj, hk, c178 hj, lpF hi (show (pm_stb j).length < 2 ^ 31 by omega), nI_add, ix (show T.1 + i < 160 by omega), t.2 (T.1 + i) (by omega), c179 hj hi, c]
        rfl
  rw [← key 0 (by omega) rfl]
  simp only [s37_0, s37_1, s37_4, s37_5, s37_8, s37_9, s37_10, s37_13, s37_16, s37_17, s37_18, s37_19, ↓reduceIte, Option.bind_some, Option.toList, List.cons_append, List.nil_append, bB_0, bB_z, z01_0, z01_1, n01, n00, pm_ro_some, reduceCtorEq, if_true, if_false, and_self, and_true, true_and, not_true, not_false_eq_true, Nat.reduceLeDiff, Nat.reduceAdd, kdX, t2, t3, nI_sbn o1, hj, hk, c178 hj, nI_eqq (show T.2 - T.1 < 2 ^ 31 by omega) (show (pm_stb j).length < 2 ^ 31 by omega), g]
/-- the model's word wd of L letters is w -/
def isL (wd : Int32) (L : Nat) (w : List Int32) : Prop := w.length = L ∧ L ≤ 6 ∧ ∀ i, i < L → nI 96 + ((wd >>> (nI 5 * nI i &&& 31)) &&& nI 31) = w.getD i 0
theorem c121 (hm : rmM rm) (hN : N ≤ 160) (h : MK B N im T) (o : oT B N T) {wd : Int32} {L : Nat} {w : List Int32} (hw : isL wd L w) : ev 121 0 [.ref 129, .int wd, .int (nI L), pm_u, pm_u] [] im rm = some (some (.int (bB (isW B w T))), im, rm) := by
  obtain ⟨w1, w2, w3⟩ := hw
  obtain ⟨t, t1, t2, t3⟩ := h
  obtain ⟨o1, o2, o3, o4⟩ := o
  unfold isW
  rw [w1]
  by_cases g : T.2 - T.1 = L
  rotate_left
  · rw [decide_eq_false g, Bool.false_and]
    simp only [s121_0, s121_1, s121_4, s121_5, s121_8, s121_9, s121_10, s121_13, s121_14, s121_17, s121_18, s121_19, s121_20, s121_22, s121_23, s121_71, s121_72, ↓reduceIte, Option.bind_some, Option.toList, List.cons_append, List.nil_append, bB_0, bB_z, z01_0, z01_1, n01, n00, pm_ro_some, reduceCtorEq, if_true, if_false, and_self, and_true, true_and, not_true, not_false_eq_true, Nat.reduceLeDiff, Nat.reduceAdd, kdM, t2, t3, nI_sbn o1, nI_eqq (show T.2 - T.1 < 2 ^ 31 by omega) (show L < 2 ^ 31 by omega), g]
    rfl
  rw [decide_eq_true g, Bool.true_and]
  have key : ∀ i, i ≤ L → ev 121 22 [.ref 129, .int wd, .int (nI L), .int (bB (wm B T.1 w i)), .int (nI i)] [] im rm = some (some (.int (bB (wm B T.1 w L))), im, rm) := by
    refine dn ?_ ?_
    · cases wm B T.1 w L <;> simp only [s121_22, s121_23, s121_26, s121_28, s121_29, s121_71, s121_72, ↓reduceIte, Option.bind_some, Option.toList, List.cons_append, List.nil_append, bB_0, bB_z, z01_0, z01_1, n01, n00, pm_ro_some, reduceCtorEq, if_true, if_false, and_self, and_true, true_and, not_true, not_false_eq_true, Nat.reduceLeDiff, Nat.reduceAdd, kdM, bB, cond_true, cond_false, lpT]
    · intro i hi ih
      by_cases b : wm B T.1 w i = true
      · have et : wm B T.1 w (i + 1) = decide (B (T.1 + i) = w.getD i 0) := by
          show (wm B T.1 w i && _) = _
          rw [b, Bool.true_and]
        rw [← ih, et, b, s121_22]
        by_cases c : B (T.1 + i) = w.getD i 0
        · rw [decide_eq_true c]
          simp only [s121_23, s121_26, s121_28, s121_29, s121_32, s121_33, s121_36, s121_37, s121_40, s121_42, s121_43, s121_44, s121_46, s121_47, s121_48, s121_50, s121_51, s121_52, s121_54, s121_55, s121_56, s121_59, s121_60, s121_63, s121_64, s121_65, s121_68, ↓reduceIte, Option.bind_some, Option.toList, List.cons_append, List.nil_append, bB_0, bB_z, z01_0, z01_1, n01, n00, pm_ro_some, reduceCtorEq, if_true, if_false, and_self, and_true, true_and, not_true, not_false_eq_true, Nat.reduceLeDiff, Nat.reduceAdd, kdM, hm, bB, cond_true, t2, lpF hi (show L < 2 ^ 31 by omega), nI_add, ix (show T.1 + i < 160 by omega), t.2 (T.1 + i) (by omega), w3 i hi, c]
        · rw [decide_eq_false c]
          simp only [s121_23, s121_26, s121_28, s121_29, s121_32, s121_33, s121_36, s121_37, s121_40, s121_42, s121_43, s121_44, s121_46, s121_47, s121_48, s121_50, s121_51, s121_52, s121_54, s121_55, s121_56, s121_59, s121_60, s121_63, s121_64, s121_65, s121_68, ↓reduceIte, Option.bind_some, Option.toList, List.cons_append, List.nil_append, bB_0, bB_z, z01_0, z01_1, n01, n00, pm_ro_some, reduceCtorEq, if_true, if_false, and_self, and_true, true_and, not_true, not_false_eq_true, Nat.reduceLeDiff, Nat.reduceAdd, kdM, hm, bB, cond_true, cond_false, t2, lpF hi (show L < 2 ^ 31 by omega), nI_add, ix (show T.1 + i < 160 by omega), t.2 (T.1 + i) (by omega), w3 i hi, c]
      · have e2 : wm B T.1 w L = false := by
          have := wm_f (bf b) (L - i)
          rw [show i + (L - i) = L by omega] at this
          exact this
        rw [bf b, e2]
        simp only [s121_22, s121_23, s121_71, s121_72, ↓reduceIte, Option.bind_some, Option.toList, List.cons_append, List.nil_append, bB_0, bB_z, z01_0, z01_1, n01, n00, pm_ro_some, reduceCtorEq, if_true, if_false, and_self, and_true, true_and, not_true, not_false_eq_true, Nat.reduceLeDiff, Nat.reduceAdd, kdM, bB, cond_false]
  rw [← key 0 (by omega)]
  simp only [s121_0, s121_1, s121_4, s121_5, s121_8, s121_9, s121_10, s121_13, s121_14, s121_17, s121_18, s121_19, s121_20, ↓reduceIte, Option.bind_some, Option.toList, List.cons_append, List.nil_append, bB_0, bB_z, z01_0, z01_1, n01, n00, pm_ro_some, reduceCtorEq, if_true, if_false, and_self, and_true, true_and, not_true, not_false_eq_true, Nat.reduceLeDiff, Nat.reduceAdd, kdM, t2, t3, nI_sbn o1, nI_eqq (show T.2 - T.1 < 2 ^ 31 by omega) (show L < 2 ^ 31 by omega), g]
  rfl
theorem gC (hx : rmX rm pp ll) (hN : N ≤ 160) (h : CC B N im T) (o : oT B N T) : ∃ im', ev 35 0 [.ref 4] [] im rm = some (none, im', rm) ∧ CC B N im' (nx B N T) ∧ frC im im' := by
  obtain ⟨im', E1, E2, E3⟩ := c35 hx hN h.1 o.2.1 h.2.2
  exact ⟨im', E1, ⟨h.1.f E3, E2⟩, E3⟩
theorem gM (hm : rmM rm) (hN : N ≤ 160) (h : MK B N im T) (o : oT B N T) : ∃ im', ev 120 0 [.ref 129] [] im rm = some (none, im', rm) ∧ MK B N im' (nx B N T) ∧ im' 129 37 = im 129 37 ∧ frM im im' := by
  obtain ⟨im', E1, E2, E3, E4⟩ := c120 hm hN h.1 o.2.1 h.2.1
  exact ⟨im', E1, ⟨h.1.f E4, E2⟩, E3, E4⟩
theorem c38 (hx : rmX rm pp ll) (hN : N ≤ 160) (h : CC B N im T) (o : oT B N T) {j : Nat} (hj : j < 18) : ∃ im', ev 38 0 [.ref 4, .ref (1000000 + j)] [] im rm = some (some (.int (bB (isW B (pm_stb j) T))), im', rm) ∧ CC B N im' (cond (isW B (pm_stb j) T) (nx B N T) T) ∧ frC im im' := by
  have k := c37 (rm := rm) hx hN h o hj
  cases b : isW B (pm_stb j) T
  · rw [b] at k
    exact ⟨im, by simp only [s38_0, s38_1, s38_2, s38_5, s38_8, s38_9, s38_10, s38_11, s38_14, s38_15, ↓reduceIte, Option.bind_some, Option.toList, List.cons_append, List.nil_append, bB_0, bB_z, z01_0, z01_1, n01, n00, pm_ro_some, reduceCtorEq, if_true, if_false, and_self, and_true, true_and, not_true, not_false_eq_true, Nat.reduceLeDiff, Nat.reduceAdd, kdX, k, bB, cond_false], h, frC.rf⟩
  · rw [b] at k
    obtain ⟨im', E1, E2, E3⟩ := gC (rm := rm) hx hN h o
    exact ⟨im', by simp only [s38_0, s38_1, s38_2, s38_5, s38_8, s38_9, s38_10, s38_11, s38_14, s38_15, ↓reduceIte, Option.bind_some, Option.toList, List.cons_append, List.nil_append, bB_0, bB_z, z01_0, z01_1, n01, n00, pm_ro_some, reduceCtorEq, if_true, if_false, and_self, and_true, true_and, not_true, not_false_eq_true, Nat.reduceLeDiff, Nat.reduceAdd, kdX, k, E1, bB, cond_true], E2, E3⟩
theorem c122 (hm : rmM rm) (hN : N ≤ 160) (h : MK B N im T) (o : oT B N T) {wd : Int32} {L : Nat} {w : List Int32} (hw : isL wd L w) : ∃ im', ev 122 0 [.ref 129, .int wd, .int (nI L), pm_u] [] im rm = some (some (.int (bB (isW B w T))), im', rm) ∧ MK B N im' (cond (isW B w T) (nx B N T) T) ∧ im' 129 37 = im 129 37 ∧ frM im im' := by
  have k := c121 (rm := rm) hm hN h o hw
  cases b : isW B w T
  · rw [b] at k
    exact ⟨im, by simp only [s122_0, s122_1, s122_2, s122_3, s122_6, s122_7, s122_8, s122_11, s122_12, s122_15, s122_16, ↓reduceIte, Option.bind_some, Option.toList, List.cons_append, List.nil_append, bB_0, bB_z, z01_0, z01_1, n01, n00, pm_ro_some, reduceCtorEq, if_true, if_false, and_self, and_true, true_and, not_true, not_false_eq_true, Nat.reduceLeDiff, Nat.reduceAdd, kdM, k, bB, cond_false], h, rfl, frM.rf⟩
  · rw [b] at k
    obtain ⟨im', E1, E2, E3, E4⟩ := gM (rm := rm) hm hN h o
    exact ⟨im', by simp only [s122_0, s122_1, s122_2, s122_3, s122_6, s122_7, s122_8, s122_11, s122_12, s122_15, s122_16, ↓reduceIte, Option.bind_some, Option.toList, List.cons_append, List.nil_append, bB_0, bB_z, z01_0, z01_1, n01, n00, pm_ro_some, reduceCtorEq, if_true, if_false, and_self, and_true, true_and, not_true, not_false_eq_true, Nat.reduceLeDiff, Nat.reduceAdd, kdM, k, E1, bB, cond_true], E2, E3, E4⟩
theorem c39 (hx : rmX rm pp ll) (hN : N ≤ 160) (h : CC B N im T) (o : oT B N T) {most : Nat} (hmo : most ≤ 999) : ∃ im', ev 39 0 [.ref 4, .int (nI most), pm_u, pm_u] [] im rm = some (some (.int (if nok B most T = true then nuv B T else -1)), im', rm) ∧ CC B N im' (cond (nok B most T) (nx B N T) T) ∧ frC im im' := by
  have h0 := h
  obtain ⟨t, t2, t3⟩ := h
  have o0 := o
  obtain ⟨o1, o2, o3, o4⟩ := o
  have ne := nI_eqq (show T.1 < 2 ^ 31 by omega) (show T.2 < 2 ^ 31 by omega)
  by_cases d : isD B T = true
  rotate_left
  · have k : nok B most T = false := by unfold nok; rw [bf d, Bool.false_and]
    rw [k]
    refine ⟨im, ?_, h0, frC.rf⟩
    rw [if_neg (by decide)]
    unfold isD at d
    rw [decide_eq_true_eq, srt2] at d
    by_cases g1 : T.1 = T.2
    · simp only [s39_0, s39_1, s39_4, s39_5, s39_8, s39_52, s39_53, ↓reduceIte, Option.bind_some, Option.toList, List.cons_append, List.nil_append, bB_0, bB_z, z01_0, z01_1, n01, n00, pm_ro_some, reduceCtorEq, if_true, if_false, and_self, and_true, true_and, not_true, not_false_eq_true, Nat.reduceLeDiff, Nat.reduceAdd, kdX, t2, t3, ne, g1]
    · by_cases g2 : T.2 - T.1 ≤ 3
      · have z := t.2 T.1 (by omega)
        by_cases g3 : nI 48 ≤ B T.1
        · have g4 : ¬ B T.1 ≤ nI 57 := fun q => d ⟨by omega, g2, g3, q⟩
          simp only [s39_0, s39_1, s39_4, s39_5, s39_8, s39_11, s39_12, s39_15, s39_16, s39_19, s39_20, s39_21, s39_24, s39_25, s39_28, s39_29, s39_32, s39_33, s39_35, s39_38, s39_39, s39_42, s39_43, s39_46, s39_47, s39_49, s39_52, s39_53, ↓reduceIte, Option.bind_some, Option.toList, List.cons_append, List.nil_append, bB_0, bB_z, z01_0, z01_1, n01, n00, pm_ro_some, reduceCtorEq, if_true, if_false, and_self, and_true, true_and, not_true, not_false_eq_true, Nat.reduceLeDiff, Nat.reduceAdd, kdX, hx, t2, t3, ne, g1, nI_sbn o1, lpG g2 (show 3 < 2 ^ 31 by decide), ix (show T.1 < 160 by omega), z, lt_le, g3, g4]
        · simp only [s39_0, s39_1, s39_4, s39_5, s39_8, s39_11, s39_12, s39_15, s39_16, s39_19, s39_20, s39_21, s39_24, s39_25, s39_28, s39_29, s39_32, s39_33, s39_35, s39_38, s39_39, s39_42, s39_43, s39_46, s39_47, s39_49, s39_52, s39_53, ↓reduceIte, Option.bind_some, Option.toList, List.cons_append, List.nil_append, bB_0, bB_z, z01_0, z01_1, n01, n00, pm_ro_some, reduceCtorEq, if_true, if_false, and_self, and_true, true_and, not_true, not_false_eq_true, Nat.reduceLeDiff, Nat.reduceAdd, kdX, hx, t2, t3, ne, g1, nI_sbn o1, lpG g2 (show 3 < 2 ^ 31 by decide), ix (show T.1 < 160 by omega), z, lt_le, g3]
      · simp only [s39_0, s39_1, s39_4, s39_5, s39_8, s39_11, s39_12, s39_15, s39_16, s39_19, s39_20, s39_21, s39_52, s39_53, ↓reduceIte, Option.bind_some, Option.toList, List.cons_append, List.nil_append, bB_0, bB_z, z01_0, z01_1, n01, n00, pm_ro_some, reduceCtorEq, if_true, if_false, and_self, and_true, true_and, not_true, not_false_eq_true, Nat.reduceLeDiff, Nat.reduceAdd, kdX, t2, t3, ne, g1, nI_sbn o1, lpF (show 3 < T.2 - T.1 by omega) (show T.2 - T.1 < 2 ^ 31 by omega)]
  have V := nuN_e o0 d
  have d' := d
  unfold isD at d'
  rw [decide_eq_true_eq, srt2] at d'
  have key : ∀ n, n ≤ T.2 - T.1 → ev 39 61 [.ref 4, .int (nI most), .int (nm B T.1 n), .int (nI (T.1 + n))] [] im rm = ev 39 90 [.ref 4, .int (nI most), .int (nuv B T), pm_u] [] im rm := by
    refine dn ?_ ?_
    · rw [show T.1 + (T.2 - T.1) = T.2 by omega]
      simp only [s39_61, s39_62, s39_63, s39_66, ↓reduceIte, Option.bind_some, Option.toList, List.cons_append, List.nil_append, bB_0, bB_z, z01_0, z01_1, n01, n00, pm_ro_some, reduceCtorEq, if_true, if_false, and_self, and_true, true_and, not_true, not_false_eq_true, Nat.reduceLeDiff, Nat.reduceAdd, kdX, t3, lpT]
      rfl
    · intro n hn ih
      rw [← ih, s39_61]
      simp only [s39_62, s39_63, s39_66, s39_69, s39_71, s39_72, s39_73, s39_74, s39_77, s39_78, s39_79, s39_80, s39_82, s39_83, s39_84, s39_87, ↓reduceIte, Option.bind_some, Option.toList, List.cons_append, List.nil_append, bB_0, bB_z, z01_0, z01_1, n01, n00, pm_ro_some, reduceCtorEq, if_true, if_false, and_self, and_true, true_and, not_true, not_false_eq_true, Nat.reduceLeDiff, Nat.reduceAdd, kdX, hx, t3, lpF (show T.1 + n < T.2 by omega) (show T.2 < 2 ^ 31 by omega), ix (show T.1 + n < 160 by omega), t.2 (T.1 + n) (by omega), nI_add, Nat.add_assoc, nm]
  have K := key 0 (by omega)
  rw [show nm B T.1 0 = nI 0 from rfl, Nat.add_zero] at K
  have z := t.2 T.1 (by omega)
  have pre : ev 39 0 [.ref 4, .int (nI most), pm_u, pm_u] [] im rm = ev 39 90 [.ref 4, .int (nI most), .int (nuv B T), pm_u] [] im rm := by
    rw [← K]
    simp only [s39_0, s39_1, s39_4, s39_5, s39_8, s39_11, s39_12, s39_15, s39_16, s39_19, s39_20, s39_21, s39_24, s39_25, s39_28, s39_29, s39_32, s39_33, s39_35, s39_38, s39_39, s39_42, s39_43, s39_46, s39_47, s39_49, s39_54, s39_55, s39_56, s39_57, s39_60, ↓reduceIte, Option.bind_some, Option.toList, List.cons_append, List.nil_append, bB_0, bB_z, z01_0, z01_1, n01, n00, pm_ro_some, reduceCtorEq, if_true, if_false, and_self, and_true, true_and, not_true, not_false_eq_true, Nat.reduceLeDiff, Nat.reduceAdd, kdX, hx, t2, t3, ne, show (T.1 = T.2) = False from eq_false (by omega), nI_sbn o1, lpG d'.2.1 (show 3 < 2 ^ 31 by decide), ix (show T.1 < 160 by omega), z, lt_le, d'.2.2.1, d'.2.2.2]
  rw [pre]
  have k : nok B most T = decide (nuv B T ≤ nI most) := by unfold nok; rw [d, Bool.true_and]
  rw [k]
  by_cases g : nuv B T ≤ nI most
  · rw [decide_eq_true g]
    obtain ⟨im', E1, E2, E3⟩ := gC (rm := rm) hx hN h0 o0
    exact ⟨im', by simp only [s39_90, s39_91, s39_92, s39_95, s39_96, s39_97, s39_98, s39_101, s39_102, ↓reduceIte, Option.bind_some, Option.toList, List.cons_append, List.nil_append, bB_0, bB_z, z01_0, z01_1, n01, n00, pm_ro_some, reduceCtorEq, if_true, if_false, and_self, and_true, true_and, not_true, not_false_eq_true, Nat.reduceLeDiff, Nat.reduceAdd, kdX, g, E1], E2, E3⟩
  · rw [decide_eq_false g]
    exact ⟨im, by simp only [s39_90, s39_91, s39_92, s39_95, s39_96, s39_97, s39_98, s39_101, s39_102, ↓reduceIte, Option.bind_some, Option.toList, List.cons_append, List.nil_append, bB_0, bB_z, z01_0, z01_1, n01, n00, pm_ro_some, reduceCtorEq, if_true, if_false, and_self, and_true, true_and, not_true, not_false_eq_true, Nat.reduceLeDiff, Nat.reduceAdd, kdX, g, Bool.false_eq_true], h0, frC.rf⟩
theorem c123 (hm : rmM rm) (hN : N ≤ 160) (h : MK B N im T) (o : oT B N T) {most : Nat} (hmo : most ≤ 999) : ∃ im', ev 123 0 [.ref 129, .int (nI most), pm_u, pm_u] [] im rm = some (some (.int (bB (nok B most T))), im', rm) ∧ MK B N im' (cond (nok B most T) (nx B N T) T) ∧ (nok B most T = true → im' 129 37 = nuv B T) ∧ frM im im' := by
  have h0 := h
  obtain ⟨t, t1, t2, t3⟩ := h
  have o0 := o
  obtain ⟨o1, o2, o3, o4⟩ := o
  have sl : ∀ x : Int32, srt x ≤ 2 := fun x => by unfold srt; split <;> (try split) <;> omega
  have seg : ev 123 0 [.ref 129, .int (nI most), pm_u, pm_u] [] im rm = ev 123 46 [.ref 129, .int (nI most), .int (bB (isD B T)), pm_u] [] im rm := by
    unfold isD
    by_cases g1 : T.1 < N
    · have g1' := o3 g1
      have z := t.2 T.1 g1
      have e2 := nI_eqq (show srt (B T.1) < 2 ^ 31 by have := sl (B T.1); omega) (show 2 < 2 ^ 31 by decide)
      by_cases g3 : srt (B T.1) = 2
      · by_cases g2 : T.2 - T.1 ≤ 3
        · rw [decide_eq_true ⟨g1', g2, g3⟩]
          simp only [s123_0, s123_1, s123_4, s123_5, s123_8, s123_11, s123_12, s123_15, s123_16, s123_19, s123_20, s123_23, s123_24, s123_27, s123_28, s123_31, s123_32, s123_35, s123_36, s123_37, s123_40, s123_41, s123_44, s123_45, ↓reduceIte, Option.bind_some, Option.toList, List.cons_append, List.nil_append, bB_0, bB_z, z01_0, z01_1, n01, n00, pm_ro_some, reduceCtorEq, if_true, if_false, and_self, and_true, true_and, not_true, not_false_eq_true, Nat.reduceLeDiff, Nat.reduceAdd, kdM, hm, t.1, t2, t3, lpF g1 (show N < 2 ^ 31 by omega), ix (show T.1 < 160 by omega), z, c119, e2, g3, nI_sbn o1, lpG g2 (show 3 < 2 ^ 31 by decide)]
          rfl
        · rw [decide_eq_false (fun q => g2 q.2.1)]
          simp only [s123_0, s123_1, s123_4, s123_5, s123_8, s123_11, s123_12, s123_15, s123_16, s123_19, s123_20, s123_23, s123_24, s123_27, s123_28, s123_31, s123_32, s123_35, s123_36, s123_37, s123_40, s123_41, s123_44, s123_45, ↓reduceIte, Option.bind_some, Option.toList, List.cons_append, List.nil_append, bB_0, bB_z, z01_0, z01_1, n01, n00, pm_ro_some, reduceCtorEq, if_true, if_false, and_self, and_true, true_and, not_true, not_false_eq_true, Nat.reduceLeDiff, Nat.reduceAdd, kdM, hm, t.1, t2, t3, lpF g1 (show N < 2 ^ 31 by omega), ix (show T.1 < 160 by omega), z, c119, e2, g3, nI_sbn o1, lpF (show 3 < T.2 - T.1 by omega) (show T.2 - T.1 < 2 ^ 31 by omega)]
          rfl
      · rw [decide_eq_false (fun q => g3 q.2.2)]
        simp only [s123_0, s123_1, s123_4, s123_5, s123_8, s123_11, s123_12, s123_15, s123_16, s123_19, s123_20, s123_23, s123_24, s123_27, s123_28, s123_31, s123_32, s123_35, s123_36, s123_37, s123_40, s123_41, s123_44, s123_45, ↓reduceIte, Option.bind_some, Option.toList, List.cons_append, List.nil_append, bB_0, bB_z, z01_0, z01_1, n01, n00, pm_ro_some, reduceCtorEq, if_true, if_false, and_self, and_true, true_and, not_true, not_false_eq_true, Nat.reduceLeDiff, Nat.reduceAdd, kdM, hm, t.1, t2, t3, lpF g1 (show N < 2 ^ 31 by omega), ix (show T.1 < 160 by omega), z, c119, e2, g3]
        rfl
    · rw [decide_eq_false (fun q => by omega)]
      simp only [s123_0, s123_1, s123_4, s123_5, s123_8, s123_11, s123_12, s123_15, s123_16, s123_19, s123_20, s123_23, s123_24, s123_27, s123_28, s123_31, s123_32, s123_35, s123_36, s123_37, s123_40, s123_41, s123_44, s123_45, ↓reduceIte, Option.bind_some, Option.toList, List.cons_append, List.nil_append, bB_0, bB_z, z01_0, z01_1, n01, n00, pm_ro_some, reduceCtorEq, if_true, if_false, and_self, and_true, true_and, not_true, not_false_eq_true, Nat.reduceLeDiff, Nat.reduceAdd, kdM, hm, t.1, t2, t3, lpG (show N ≤ T.1 by omega) (show T.1 < 2 ^ 31 by omega)]
      rfl
  rw [seg]
  have f1 : frM im (pm_w2 im 129 37 (nI 0)) := frM.rf.w (by omega) _
  have q35 : ∀ x, pm_w2 im 129 37 x 129 35 = nI T.1 := fun x => by rw [w2_i (by omega)]; exact t2
  by_cases d : isD B T = true
  rotate_left
  · have k : nok B most T = false := by unfold nok; rw [bf d, Bool.false_and]
    rw [k, bf d]
    refine ⟨pm_w2 im 129 37 (nI 0), ?_, ⟨h0.1.f f1, by rw [w2_i (by omega)]; exact t1, q35 _, by rw [w2_i (by omega)]; exact t3⟩, fun q => (by cases q), f1⟩
    simp only [s123_46, s123_47, s123_48, s123_51, s123_52, s123_55, s123_56, s123_57, s123_95, s123_96, s123_111, s123_112, s123_113, s123_114, s123_117, s123_118, s123_121, s123_122, ↓reduceIte, Option.bind_some, Option.toList, List.cons_append, List.nil_append, bB_0, bB_z, z01_0, z01_1, n01, n00, pm_ro_some, reduceCtorEq, if_true, if_false, and_self, and_true, true_and, not_true, not_false_eq_true, Nat.reduceLeDiff, Nat.reduceAdd, kdM, q35, bB, cond_false]
  have V := nuN_e o0 d
  have d' := d
  unfold isD at d'
  rw [decide_eq_true_eq, srt2] at d'
  have key : ∀ n, n ≤ T.2 - T.1 → ∀ m : IM, frM im m → tkM m T.1 T.2 → m 129 37 = nm B T.1 n → ∃ m', ev 123 56 [.ref 129, .int (nI most), .int (bB true), .int (nI (T.1 + n))] [] m rm = ev 123 95 [.ref 129, .int (nI most), .int (bB true), pm_u] [] m' rm ∧ frM im m' ∧ tkM m' T.1 T.2 ∧ m' 129 37 = nuv B T := by
    refine dn ?_ ?_
    · intro m h1 h2 h3
      refine ⟨m, ?_, h1, h2, h3⟩
      rw [show T.1 + (T.2 - T.1) = T.2 by omega]
      simp only [s123_56, s123_57, s123_60, s123_61, s123_62, s123_65, ↓reduceIte, Option.bind_some, Option.toList, List.cons_append, List.nil_append, bB_0, bB_z, z01_0, z01_1, n01, n00, pm_ro_some, reduceCtorEq, if_true, if_false, and_self, and_true, true_and, not_true, not_false_eq_true, Nat.reduceLeDiff, Nat.reduceAdd, kdM, bB, cond_true, h2.2.2, lpT]
    · intro n hn ih m h1 h2 h3
      obtain ⟨m', E1, E2⟩ := ih (pm_w2 m 129 37 (nm B T.1 (n + 1))) (h1.w (by omega) _) ⟨by rw [w2_i (by omega)]; exact h2.1, by rw [w2_i (by omega)]; exact h2.2.1, by rw [w2_i (by omega)]; exact h2.2.2⟩ (w2_s _ _ _ _)
      refine ⟨m', ?_, E2⟩
      have tx := t.f h1
      rw [← E1, s123_56]
      simp only [s123_57, s123_60, s123_61, s123_62, s123_65, s123_68, s123_69, s123_71, s123_72, s123_75, s123_76, s123_77, s123_80, s123_81, s123_82, s123_83, s123_85, s123_86, s123_89, s123_92, ↓reduceIte, Option.bind_some, Option.toList, List.cons_append, List.nil_append, bB_0, bB_z, z01_0, z01_1, n01, n00, pm_ro_some, reduceCtorEq, if_true, if_false, and_self, and_true, true_and, not_true, not_false_eq_true, Nat.reduceLeDiff, Nat.reduceAdd, kdM, hm, bB, cond_true, h2.2.2, lpF (show T.1 + n < T.2 by omega) (show T.2 < 2 ^ 31 by omega), h3, ix (show T.1 + n < 160 by omega), tx.2 (T.1 + n) (by omega), nI_add, Nat.add_assoc, nm]
  obtain ⟨m1, K1, K2, K3, K4⟩ := key 0 (by omega) (pm_w2 im 129 37 (nI 0)) f1 ⟨by rw [w2_i (by omega)]; exact t1, q35 _, by rw [w2_i (by omega)]; exact t3⟩ (w2_s _ _ _ _)
  rw [Nat.add_zero] at K1
  have pre : ev 123 46 [.ref 129, .int (nI most), .int (bB (isD B T)), pm_u] [] im rm = ev 123 95 [.ref 129, .int (nI most), .int (bB true), pm_u] [] m1 rm := by
    rw [← K1, d]
    simp only [s123_46, s123_47, s123_48, s123_51, s123_52, s123_55, ↓reduceIte, Option.bind_some, Option.toList, List.cons_append, List.nil_append, bB_0, bB_z, z01_0, z01_1, n01, n00, pm_ro_some, reduceCtorEq, if_true, if_false, and_self, and_true, true_and, not_true, not_false_eq_true, Nat.reduceLeDiff, Nat.reduceAdd, kdM, q35]
  rw [pre]
  have M1 : MK B N m1 T := ⟨h0.1.f K2, K3⟩
  have k : nok B most T = decide (nuv B T ≤ nI most) := by unfold nok; rw [d, Bool.true_and]
  rw [k]
  by_cases g : nuv B T ≤ nI most
  · rw [decide_eq_true g]
    obtain ⟨im', E1, E2, E3, E4⟩ := gM (rm := rm) hm hN M1 o0
    exact ⟨im', by simp only [s123_95, s123_96, s123_99, s123_100, s123_103, s123_104, s123_107, s123_108, s123_111, s123_112, s123_113, s123_114, s123_117, s123_118, s123_121, s123_122, ↓reduceIte, Option.bind_some, Option.toList, List.cons_append, List.nil_append, bB_0, bB_z, z01_0, z01_1, n01, n00, pm_ro_some, reduceCtorEq, if_true, if_false, and_self, and_true, true_and, not_true, not_false_eq_true, Nat.reduceLeDiff, Nat.reduceAdd, kdM, bB, cond_true, K4, gt_le, V.1, g, E1, lt_le, V.1 ▸ g, not_true], E2, fun _ => by rw [E3]; exact K4, K2.tr E4⟩
  · rw [decide_eq_false g]
    exact ⟨m1, by simp only [s123_95, s123_96, s123_99, s123_100, s123_103, s123_104, s123_107, s123_108, s123_111, s123_112, s123_113, s123_114, s123_117, s123_118, s123_121, s123_122, ↓reduceIte, Option.bind_some, Option.toList, List.cons_append, List.nil_append, bB_0, bB_z, z01_0, z01_1, n01, n00, pm_ro_some, reduceCtorEq, if_true, if_false, and_self, and_true, true_and, not_true, not_false_eq_true, Nat.reduceLeDiff, Nat.reduceAdd, kdM, bB, cond_true, cond_false, K4, Int32.not_le.mp g], M1, fun q => (by cases q), K2⟩
end WRD
