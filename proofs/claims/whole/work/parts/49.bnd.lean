-- needs: 48
/-! bound, parts: both sides. -/
theorem rem2 : ∀ T, T < 16 → nI T - nI T / nI 2 * nI 2 = nI (T % 2) := by decide
theorem dv2 : ∀ T, T < 16 → nI T / nI 2 = nI (T / 2) := by decide
def mmS (s : Option (Nat × Nat)) (x : Nat) : Option (Nat × Nat) := match s with
  | none => some (x, x)
  | some p => some (if x < p.1 then x else p.1, if p.2 < x then x else p.2)
def rN (σ : IM) (d t r : Nat) : Nat := (rdg σ d t r).toNatClampNeg
def mmt (σ : IM) (d r : Nat) (s : Option (Nat × Nat)) : Nat → Option (Nat × Nat)
  | 0 => s
  | t + 1 => mmS (mmt σ d r s t) (rN σ d t r)
def mmD (σ : IM) (r : Nat) : Nat → Option (Nat × Nat)
  | 0 => none
  | d + 1 => if σ 130 d = nI 0 then mmt σ d r (mmD σ r d) (tk σ d) else mmD σ r d
def eL (s : Option (Nat × Nat)) : Int32 := match s with
  | none => nI 268435456
  | some p => nI p.1
def eM (s : Option (Nat × Nat)) : Int32 := match s with
  | none => -1
  | some p => nI p.2
def eC (b : Bool) (s : Option (Nat × Nat)) : Int32 := match s with
  | none => -1
  | some p => nI (cond b p.1 p.2)
def mmB (s : Option (Nat × Nat)) : Prop := ∀ p, s = some p → p.1 ≤ 999 ∧ p.2 ≤ 999
theorem mmB_s {s : Option (Nat × Nat)} {x : Nat} (h : mmB s) (hx : x ≤ 999) : mmB (mmS s x) := by
  intro p hp
  cases s with
  | none => simp only [mmS, Option.some.injEq] at hp; subst hp; exact ⟨hx, hx⟩
  | some q =>
    have := h q rfl
    simp only [mmS, Option.some.injEq] at hp
    subst hp
    constructor
    · show (if x < q.1 then x else q.1) ≤ 999
      split <;> omega
    · show (if q.2 < x then x else q.2) ≤ 999
      split <;> omega
def bnd (σ : IM) (T : Nat) : Int32 := match mmD σ (T / 2) 6 with
  | none => -1
  | some p => if T % 2 = 1 then nI p.1 - nI 1 else nI p.2 + nI 1
def flc (σ : IM) (T d t : Nat) : Bool := if T % 2 = 1 then decide (rdg σ d t (T / 2) ≤ bnd σ T) else decide (bnd σ T ≤ rdg σ d t (T / 2))
def flo (σ : IM) (T d : Nat) : Nat → Bool
  | 0 => false
  | t + 1 => flo σ T d t || flc σ T d t
theorem flo_t {σ : IM} {T d j : Nat} (h : flo σ T d j = true) : ∀ n, flo σ T d (j + n) = true := by
  intro n
  induction n with
  | zero => exact h
  | succ n ih => show (flo σ T d (j + n) || _) = true; rw [ih, Bool.true_or]
def prt (σ : IM) (T : Nat) : Nat → Nat
  | 0 => 0
  | d + 1 => if σ 130 d = nI 1 ∧ flo σ T d (tk σ d) = true then prt σ T d ||| 2 ^ d else prt σ T d
def parN (σ : IM) (T : Nat) : Nat := if bnd σ T = -1 then 0 else prt σ T 6
theorem prt_lt (σ : IM) (T : Nat) : ∀ d, prt σ T d < 2 ^ d := by
  intro d
  induction d with
  | zero => exact (by decide : (0 : Nat) < 1)
  | succ d ih =>
    have h1 : (2 : Nat) ^ d < 2 ^ (d + 1) := Nat.pow_lt_pow_right (by decide) (by omega)
    unfold prt
    split
    · exact Nat.or_lt_two_pow (by omega) h1
    · omega
theorem parN_lt (σ : IM) (T : Nat) : parN σ T < 64 := by
  unfold parN
  split
  · decide
  · exact prt_lt σ T 6
section BND
variable {im σ : IM} {rm : RM} {pp ll : Nat → Nat}
theorem iab_rg {x : Int32} (h : -9 ≤ x.toInt ∧ x.toInt ≤ 9) : ∃ y, y ≤ 9 ∧ iab x = nI y := by
  unfold iab
  by_cases g : nI 0 ≤ x
  · rw [if_pos g]
    rw [i32_le, show (nI 0).toInt = 0 from by decide] at g
    refine ⟨x.toInt.toNat, by omega, ?_⟩
    apply Int32.toInt_inj.mp
    rw [nI_toInt (by omega)]
    omega
  · rw [if_neg g]
    rw [i32_le, show (nI 0).toInt = 0 from by decide] at g
    refine ⟨(-x.toInt).toNat, by omega, ?_⟩
    apply Int32.toInt_inj.mp
    rw [nI_toInt (by omega), Int32.toInt_neg, Int.bmod_eq_of_le (by omega) (by omega)]
    omega
theorem trs_rg (hI : INV σ rm pp ll) {d : Nat} (hd : d < 6) : ∀ n, n ≤ tk σ d → ∃ y, y ≤ 9 * n ∧ trs σ d n = nI y := by
  intro n
  induction n with
  | zero => intro _; exact ⟨0, by omega, rfl⟩
  | succ n ih =>
    intro hn
    obtain ⟨y, hy, ey⟩ := ih (by omega)
    obtain ⟨z, hz, ez⟩ := iab_rg ((hI.d d hd).rng n (by omega)).2.2.1
    refine ⟨y + z, by omega, ?_⟩
    show trs σ d n + iab (σ 135 (40 * d + n)) = _
    rw [ey, ez, nI_add]
theorem sot_rg (hI : INV σ rm pp ll) {d : Nat} (hd : d < 6) : ∀ n, n ≤ tk σ d → ∃ y, y ≤ 999 ∧ sot σ d n = nI y := by
  intro n
  induction n with
  | zero => intro _; exact ⟨0, by omega, rfl⟩
  | succ n ih =>
    intro hn
    obtain ⟨y, hy, ey⟩ := ih (by omega)
    obtain ⟨l, hl, el⟩ := pm_in_ex ((hI.d d hd).rng n (by omega)).2.1 (by decide)
    obtain ⟨tr, htr, etr⟩ := pm_in_ex hI.s.2.2.1 (by decide)
    show ∃ y, y ≤ 999 ∧ (if σ 139 1 < sot σ d n + σ 134 (40 * d + n) / nI 8 then nI 0 else sot σ d n + σ 134 (40 * d + n) / nI 8) = nI y
    rw [ey, el, etr, pk_div (by omega) (by decide) (by decide), nI_add]
    by_cases g : tr < y + l / 8
    · rw [if_pos (nI_lt g (by omega))]
      exact ⟨0, by omega, rfl⟩
    · rw [if_neg (fun h => g ((nI_ltI (by omega) (by omega)).mp h))]
      exact ⟨y + l / 8, by omega, rfl⟩
theorem rN_e (hI : INV σ rm pp ll) {d t r : Nat} (hd : d < 6) (ht : t < tk σ d) (hr : r < 8) : rdg σ d t r = nI (rN σ d t r) ∧ rN σ d t r ≤ 999 := by
  have n40 := (hI.d d hd).n40
  have G := (hI.d d hd).rng t ht
  have key : ∃ y, y ≤ 999 ∧ rdg σ d t r = nI y := by
    rcases (show r = 0 ∨ r = 1 ∨ r = 2 ∨ r = 3 ∨ r = 4 ∨ r = 5 ∨ r = 6 ∨ r = 7 by omega) with rfl | rfl | rfl | rfl | rfl | rfl | rfl | rfl
    · exact ⟨t, by omega, rfl⟩
    · obtain ⟨y, hy, ey⟩ := iab_rg G.2.2.1
      exact ⟨y, by omega, ey⟩
    · obtain ⟨y, hy, ey⟩ := trs_rg hI hd (t + 1) (by omega)
      exact ⟨y, by omega, ey⟩
    · obtain ⟨y, hy, ey⟩ := pm_in_ex G.2.2.2.1 (by decide)
      exact ⟨y, by omega, ey⟩
    · obtain ⟨y, hy, ey⟩ := pm_in_ex G.2.2.2.2 (by decide)
      exact ⟨y, by omega, ey⟩
    · obtain ⟨y, hy, ey⟩ := pm_in_ex G.1 (by decide)
      exact ⟨y, by omega, ey⟩
    · obtain ⟨y, hy, ey⟩ := pm_in_ex G.2.1 (by decide)
      exact ⟨y, by omega, ey⟩
    · obtain ⟨y, hy, ey⟩ := sot_rg hI hd t (by omega)
      exact ⟨y, by omega, ey⟩
  obtain ⟨y, hy, ey⟩ := key
  unfold rN
  rw [ey, nI_clamp (by omega)]
  exact ⟨rfl, hy⟩
theorem mmt_B (hI : INV σ rm pp ll) {d r : Nat} (hd : d < 6) (hr : r < 8) {s : Option (Nat × Nat)} (h : mmB s) : ∀ t, t ≤ tk σ d → mmB (mmt σ d r s t) := by
  intro t
  induction t with
  | zero => intro _; exact h
  | succ t ih => intro ht; exact mmB_s (ih (by omega)) (rN_e hI hd (by omega) hr).2
theorem mmD_B (hI : INV σ rm pp ll) {r : Nat} (hr : r < 8) : ∀ d, d ≤ 6 → mmB (mmD σ r d) := by
  intro d
  induction d with
  | zero => intro _ p hp; cases hp
  | succ d ih =>
    intro hd
    unfold mmD
    split
    · exact mmt_B hI (by omega) hr (ih (by omega)) _ (Nat.le_refl _)
    · exact ih (by omega)
theorem c86 {T : Nat} (hT : T < 16) : ev 86 0 [.int (nI T)] [] im rm = some (some (.int (bB (decide (T % 2 = 1)))), im, rm) := by
  rcases (show T % 2 = 0 ∨ T % 2 = 1 by omega) with h | h <;> simp only [s86_0, s86_1, s86_2, s86_3, s86_4, s86_7, s86_8, s86_11, s86_12, ↓reduceIte, Option.bind_some, Option.toList, List.cons_append, List.nil_append, bB_0, bB_z, z01_0, z01_1, n01, n00, pm_ro_some, reduceCtorEq, if_true, if_false, and_self, and_true, true_and, not_true, not_false_eq_true, Nat.reduceLeDiff, Nat.reduceAdd, nz2, rem2 T hT, h]
  · rfl
  · rfl
theorem seg87 (T dj : Int32) (a i : Nat) (b : Bool) (s : Option (Nat × Nat)) (hs : mmB s) {x : Nat} (hx : x ≤ 999) : ev 87 68 [.ref 0, .int T, .int (bB b), .int (eC b s), .int dj, .ref a, .int (nI i), .int (nI x)] [] im rm = ev 87 95 [.ref 0, .int T, .int (bB b), .int (eC b (mmS s x)), .int dj, .ref a, .int (nI i), pm_u] [] im rm := by
  cases s with
  | none => cases b <;> simp only [s87_68, s87_69, s87_70, s87_73, s87_74, s87_77, s87_79, s87_80, s87_83, s87_86, s87_88, s87_89, s87_92, s87_94, ↓reduceIte, Option.bind_some, Option.toList, List.cons_append, List.nil_append, bB_0, bB_z, z01_0, z01_1, n01, n00, pm_ro_some, reduceCtorEq, if_true, if_false, and_self, and_true, true_and, not_true, not_false_eq_true, Nat.reduceLeDiff, Nat.reduceAdd, kdX, eC, mmS, cond_true, cond_false]
  | some p =>
    have B := hs p rfl
    cases b
    · by_cases g : p.2 < x
      · simp only [s87_68, s87_69, s87_70, s87_73, s87_74, s87_77, s87_79, s87_80, s87_83, s87_86, s87_88, s87_89, s87_92, s87_94, ↓reduceIte, Option.bind_some, Option.toList, List.cons_append, List.nil_append, bB_0, bB_z, z01_0, z01_1, n01, n00, pm_ro_some, reduceCtorEq, if_true, if_false, and_self, and_true, true_and, not_true, not_false_eq_true, Nat.reduceLeDiff, Nat.reduceAdd, kdX, eC, mmS, cond_true, cond_false, nIm1 (show p.2 < 2 ^ 31 by omega), bB, lpF g (show x < 2 ^ 31 by omega), g]
      · simp only [s87_68, s87_69, s87_70, s87_73, s87_74, s87_77, s87_79, s87_80, s87_83, s87_86, s87_88, s87_89, s87_92, s87_94, ↓reduceIte, Option.bind_some, Option.toList, List.cons_append, List.nil_append, bB_0, bB_z, z01_0, z01_1, n01, n00, pm_ro_some, reduceCtorEq, if_true, if_false, and_self, and_true, true_and, not_true, not_false_eq_true, Nat.reduceLeDiff, Nat.reduceAdd, kdX, eC, mmS, cond_true, cond_false, nIm1 (show p.2 < 2 ^ 31 by omega), bB, lpG (show x ≤ p.2 by omega) (show p.2 < 2 ^ 31 by omega), g]
    · by_cases g : x < p.1
      · simp only [s87_68, s87_69, s87_70, s87_73, s87_74, s87_77, s87_79, s87_80, s87_83, s87_86, s87_88, s87_89, s87_92, s87_94, ↓reduceIte, Option.bind_some, Option.toList, List.cons_append, List.nil_append, bB_0, bB_z, z01_0, z01_1, n01, n00, pm_ro_some, reduceCtorEq, if_true, if_false, and_self, and_true, true_and, not_true, not_false_eq_true, Nat.reduceLeDiff, Nat.reduceAdd, kdX, eC, mmS, cond_true, cond_false, nIm1 (show p.1 < 2 ^ 31 by omega), bB, lpF g (show p.1 < 2 ^ 31 by omega), g]
      · simp only [s87_68, s87_69, s87_70, s87_73, s87_74, s87_77, s87_79, s87_80, s87_83, s87_86, s87_88, s87_89, s87_92, s87_94, ↓reduceIte, Option.bind_some, Option.toList, List.cons_append, List.nil_append, bB_0, bB_z, z01_0, z01_1, n01, n00, pm_ro_some, reduceCtorEq, if_true, if_false, and_self, and_true, true_and, not_true, not_false_eq_true, Nat.reduceLeDiff, Nat.reduceAdd, kdX, eC, mmS, cond_true, cond_false, nIm1 (show p.1 < 2 ^ 31 by omega), bB, lpG (show p.1 ≤ x by omega) (show x < 2 ^ 31 by omega), g]
theorem c87 (hI : INV σ rm pp ll) (hs : SS σ im) {T : Nat} (hT : T < 16) : ∃ im', ev 87 0 [.ref 0, .int (nI T), pm_u, pm_u, pm_u, pm_u, pm_u, pm_u] [] im rm = some (some (.int (bnd σ T)), im', rm) ∧ SS σ im' ∧ (∀ b i, b ≠ 38 → im' b i = im b i) := by
  have hx := hI.x
  have h8 : T / 2 < 8 := by omega
  generalize hb : decide (T % 2 = 1) = b
  have inner : ∀ j, j < 6 → σ 130 j = nI 0 → ∀ s, mmB s → ∀ t, t ≤ tk σ j → ∀ m : IM, SS σ m → (∀ b i, b ≠ 38 → m b i = im b i) → ∃ m', ev 87 29 [.ref 0, .int (nI T), .int (bB b), .int (eC b (mmt σ j (T / 2) s t)), .int (nI j), .ref (dr j), .int (nI t), pm_u] [] m rm = ev 87 101 [.ref 0, .int (nI T), .int (bB b), .int (eC b (mmt σ j (T / 2) s (tk σ j))), .int (nI j), pm_u, pm_u, pm_u] [] m' rm ∧ SS σ m' ∧ (∀ b i, b ≠ 38 → m' b i = im b i) := by
    intro j hj gs s hsB
    have D := hI.d j hj
    have dm := hI.dm hj
    have n40 := D.n40
    refine dn ?_ ?_
    · intro m h1 h2
      exact ⟨m, by simp only [s87_29, s87_31, s87_34, s87_37, s87_39, s87_41, s87_44, ↓reduceIte, Option.bind_some, Option.toList, List.cons_append, List.nil_append, bB_0, bB_z, z01_0, z01_1, n01, n00, pm_ro_some, reduceCtorEq, if_true, if_false, and_self, and_true, true_and, not_true, not_false_eq_true, Nat.reduceLeDiff, Nat.reduceAdd, kdX, dm, h1.d0 hj, D.so, D.le, gs, lpT], h1, h2⟩
    · intro t ht ih m h1 h2
      obtain ⟨m1, A1, A2, A3, A4⟩ := c6 hI h1 hj ht
      obtain ⟨m', e1, e2⟩ := ih m1 A2 (fun b i hb => by rw [A4 b i hb]; exact h2 b i hb)
      refine ⟨m', ?_, e2⟩
      have R := rN_e hI hj ht h8
      have q := A3 (T / 2) h8
      rw [R.1] at q
      have sg := seg87 (im := m1) (rm := rm) (nI T) (nI j) (dr j) t b (mmt σ j (T / 2) s t) (mmt_B hI hj h8 hsB t (by omega)) R.2
      rw [← e1, s87_29]
      simp only [s87_31, s87_34, s87_37, s87_39, s87_41, s87_44, s87_47, s87_49, s87_51, s87_52, s87_55, s87_58, s87_59, s87_62, s87_63, s87_64, s87_65, s87_66, ↓reduceIte, Option.bind_some, Option.toList, List.cons_append, List.nil_append, bB_0, bB_z, z01_0, z01_1, n01, n00, pm_ro_some, reduceCtorEq, if_true, if_false, and_self, and_true, true_and, not_true, not_false_eq_true, Nat.reduceLeDiff, Nat.reduceAdd, kdX, hx, dm, h1.d0 hj, D.so, D.le, gs, lpF ht (show tk σ j < 2 ^ 31 by omega), A1, nz2, dv2 T hT, ix h8, q, sg, s87_95, s87_98, nI_add, mmt]
  have outer : ∀ j, j ≤ 6 → ∀ m : IM, SS σ m → (∀ b i, b ≠ 38 → m b i = im b i) → ∃ m', ev 87 10 [.ref 0, .int (nI T), .int (bB b), .int (eC b (mmD σ (T / 2) j)), .int (nI j), pm_u, pm_u, pm_u] [] m rm = some (some (.int (bnd σ T)), m', rm) ∧ SS σ m' ∧ (∀ b i, b ≠ 38 → m' b i = im b i) := by
    refine dn ?_ ?_
    · intro m h1 h2
      refine ⟨m, ?_, h1, h2⟩
      have B := mmD_B hI h8 6 (by omega)
      unfold bnd
      generalize mmD σ (T / 2) 6 = s at B ⊢
      cases s with
      | none => simp only [s87_10, s87_12, s87_14, s87_107, s87_108, s87_109, s87_112, s87_113, s87_114, s87_115, s87_118, s87_119, s87_120, s87_121, s87_124, s87_125, s87_126, s87_127, ↓reduceIte, Option.bind_some, Option.toList, List.cons_append, List.nil_append, bB_0, bB_z, z01_0, z01_1, n01, n00, pm_ro_some, reduceCtorEq, if_true, if_false, and_self, and_true, true_and, not_true, not_false_eq_true, Nat.reduceLeDiff, Nat.reduceAdd, kdX, lpT, eC]
      | some p =>
        have := B p rfl
        rcases (show T % 2 = 0 ∨ T % 2 = 1 by omega) with h | h
        · rw [← hb]
          simp only [s87_10, s87_12, s87_14, s87_107, s87_108, s87_109, s87_112, s87_113, s87_114, s87_115, s87_118, s87_119, s87_120, s87_121, s87_124, s87_125, s87_126, s87_127, ↓reduceIte, Option.bind_some, Option.toList, List.cons_append, List.nil_append, bB_0, bB_z, z01_0, z01_1, n01, n00, pm_ro_some, reduceCtorEq, if_true, if_false, and_self, and_true, true_and, not_true, not_false_eq_true, Nat.reduceLeDiff, Nat.reduceAdd, kdX, lpT, eC, h, nIm1 (show p.2 < 2 ^ 31 by omega), bB, cond_false, decide_false, show decide ((0 : Nat) = 1) = false from by decide, show ((0 : Nat) = 1) = False from by decide]
        · rw [← hb]
          simp only [s87_10, s87_12, s87_14, s87_107, s87_108, s87_109, s87_112, s87_113, s87_114, s87_115, s87_118, s87_119, s87_120, s87_121, s87_124, s87_125, s87_126, s87_127, ↓reduceIte, Option.bind_some, Option.toList, List.cons_append, List.nil_append, bB_0, bB_z, z01_0, z01_1, n01, n00, pm_ro_some, reduceCtorEq, if_true, if_false, and_self, and_true, true_and, not_true, not_false_eq_true, Nat.reduceLeDiff, Nat.reduceAdd, kdX, lpT, eC, h, nIm1 (show p.1 < 2 ^ 31 by omega), bB, cond_true, decide_true]
    · intro j hj ih m h1 h2
      have D := hI.d j hj
      have dm := hI.dm hj
      by_cases g : σ 130 j = nI 0
      · obtain ⟨m1, A1, A2, A3⟩ := inner j hj g (mmD σ (T / 2) j) (mmD_B hI h8 j (by omega)) 0 (by omega) m h1 h2
        obtain ⟨m', e1, e2⟩ := ih m1 A2 A3
        refine ⟨m', ?_, e2⟩
        have z : mmt σ j (T / 2) (mmD σ (T / 2) j) 0 = mmD σ (T / 2) j := rfl
        rw [z] at A1
        rw [← e1, s87_10]
        simp only [s87_12, s87_14, s87_17, s87_18, s87_21, s87_23, s87_24, s87_26, s87_27, ↓reduceIte, Option.bind_some, Option.toList, List.cons_append, List.nil_append, bB_0, bB_z, z01_0, z01_1, n01, n00, pm_ro_some, reduceCtorEq, if_true, if_false, and_self, and_true, true_and, not_true, not_false_eq_true, Nat.reduceLeDiff, Nat.reduceAdd, kdX, hx, dm, ix hj, lpF hj (show 6 < 2 ^ 31 by decide), A1, s87_101, s87_104, nI_add, mmD, g]
      · obtain ⟨m', e1, e2⟩ := ih m h1 h2
        refine ⟨m', ?_, e2⟩
        rw [← e1, s87_10]
        simp only [s87_12, s87_14, s87_17, s87_18, s87_21, s87_23, s87_24, s87_26, s87_27, s87_29, s87_31, s87_34, ↓reduceIte, Option.bind_some, Option.toList, List.cons_append, List.nil_append, bB_0, bB_z, z01_0, z01_1, n01, n00, pm_ro_some, reduceCtorEq, if_true, if_false, and_self, and_true, true_and, not_true, not_false_eq_true, Nat.reduceLeDiff, Nat.reduceAdd, kdX, hx, dm, ix hj, lpF hj (show 6 < 2 ^ 31 by decide), h1.d0 hj, D.so, s87_101, s87_104, nI_add, mmD, g]
  obtain ⟨im', e1, e2⟩ := outer 0 (by omega) im hs (fun _ _ _ => rfl)
  refine ⟨im', ?_, e2⟩
  rw [← e1, ← hb]
  simp only [s87_0, s87_1, s87_4, s87_5, s87_6, s87_7, s87_8, ↓reduceIte, Option.bind_some, Option.toList, List.cons_append, List.nil_append, bB_0, bB_z, z01_0, z01_1, n01, n00, pm_ro_some, reduceCtorEq, if_true, if_false, and_self, and_true, true_and, not_true, not_false_eq_true, Nat.reduceLeDiff, Nat.reduceAdd, kdX, c86 hT]
  rfl
theorem seg138 (T dj : Int32) (i : Nat) (s : Option (Nat × Nat)) (hs : mmB s) {x : Nat} (hx : x ≤ 999) : ev 138 54 [.ref 129, .int T, .int (eL s), .int (eM s), .int dj, .int (nI i), .int (nI x)] [] im rm = ev 138 80 [.ref 129, .int T, .int (eL (mmS s x)), .int (eM (mmS s x)), .int dj, .int (nI i), pm_u] [] im rm := by
  cases s with
  | none =>
    have e : (nI x ≤ -1) = False := eq_false (fun q => by rw [i32_le, nI_toInt (by omega), show ((-1 : Int32)).toInt = -1 from by decide] at q; omega)
    simp only [s138_54, s138_56, s138_57, s138_60, s138_62, s138_65, s138_66, s138_67, s138_69, s138_70, s138_73, s138_75, s138_78, s138_79, ↓reduceIte, Option.bind_some, Option.toList, List.cons_append, List.nil_append, bB_0, bB_z, z01_0, z01_1, n01, n00, pm_ro_some, reduceCtorEq, if_true, if_false, and_self, and_true, true_and, not_true, not_false_eq_true, Nat.reduceLeDiff, Nat.reduceAdd, kdM, eL, eM, mmS, lpF (show x < 268435456 by omega) (by decide), e]
  | some p =>
    have B := hs p rfl
    by_cases g1 : x < p.1 <;> by_cases g2 : p.2 < x
    · simp only [s138_54, s138_56, s138_57, s138_60, s138_62, s138_65, s138_66, s138_67, s138_69, s138_70, s138_73, s138_75, s138_78, s138_79, ↓reduceIte, Option.bind_some, Option.toList, List.cons_append, List.nil_append, bB_0, bB_z, z01_0, z01_1, n01, n00, pm_ro_some, reduceCtorEq, if_true, if_false, and_self, and_true, true_and, not_true, not_false_eq_true, Nat.reduceLeDiff, Nat.reduceAdd, kdM, eL, eM, mmS, lpF g1 (show p.1 < 2 ^ 31 by omega), lpF g2 (show x < 2 ^ 31 by omega), g1, g2]
    · simp only [s138_54, s138_56, s138_57, s138_60, s138_62, s138_65, s138_66, s138_67, s138_69, s138_70, s138_73, s138_75, s138_78, s138_79, ↓reduceIte, Option.bind_some, Option.toList, List.cons_append, List.nil_append, bB_0, bB_z, z01_0, z01_1, n01, n00, pm_ro_some, reduceCtorEq, if_true, if_false, and_self, and_true, true_and, not_true, not_false_eq_true, Nat.reduceLeDiff, Nat.reduceAdd, kdM, eL, eM, mmS, lpF g1 (show p.1 < 2 ^ 31 by omega), lpG (show x ≤ p.2 by omega) (show p.2 < 2 ^ 31 by omega), g1, g2]
    · simp only [s138_54, s138_56, s138_57, s138_60, s138_62, s138_65, s138_66, s138_67, s138_69, s138_70, s138_73, s138_75, s138_78, s138_79, ↓reduceIte, Option.bind_some, Option.toList, List.cons_append, List.nil_append, bB_0, bB_z, z01_0, z01_1, n01, n00, pm_ro_some, reduceCtorEq, if_true, if_false, and_self, and_true, true_and, not_true, not_false_eq_true, Nat.reduceLeDiff, Nat.reduceAdd, kdM, eL, eM, mmS, lpG (show p.1 ≤ x by omega) (show x < 2 ^ 31 by omega), lpF g2 (show x < 2 ^ 31 by omega), g1, g2]
    · simp only [s138_54, s138_56, s138_57, s138_60, s138_62, s138_65, s138_66, s138_67, s138_69, s138_70, s138_73, s138_75, s138_78, s138_79, ↓reduceIte, Option.bind_some, Option.toList, List.cons_append, List.nil_append, bB_0, bB_z, z01_0, z01_1, n01, n00, pm_ro_some, reduceCtorEq, if_true, if_false, and_self, and_true, true_and, not_true, not_false_eq_true, Nat.reduceLeDiff, Nat.reduceAdd, kdM, eL, eM, mmS, lpG (show p.1 ≤ x by omega) (show x < 2 ^ 31 by omega), lpG (show x ≤ p.2 by omega) (show p.2 < 2 ^ 31 by omega), g1, g2]
theorem c138 (hI : INV σ rm pp ll) (hs : SS σ im) {T : Nat} (hT : T < 16) : ev 138 0 [.ref 129, .int (nI T), pm_u, pm_u, pm_u, pm_u, pm_u] [] im rm = some (some (.int (bnd σ T)), im, rm) := by
  have hm := hI.m
  have h8 : T / 2 < 8 := by omega
  have inner : ∀ j, j < 6 → σ 130 j = nI 0 → ∀ s, mmB s → ∀ t, t ≤ tk σ j → ev 138 19 [.ref 129, .int (nI T), .int (eL (mmt σ j (T / 2) s t)), .int (eM (mmt σ j (T / 2) s t)), .int (nI j), .int (nI t), pm_u] [] im rm = ev 138 86 [.ref 129, .int (nI T), .int (eL (mmt σ j (T / 2) s (tk σ j))), .int (eM (mmt σ j (T / 2) s (tk σ j))), .int (nI j), pm_u, pm_u] [] im rm := by
    intro j hj gs s hsB
    have D := hI.d j hj
    have n40 := D.n40
    refine dn ?_ ?_
    · simp only [s138_19, s138_21, s138_22, s138_25, s138_27, s138_28, ↓reduceIte, Option.bind_some, Option.toList, List.cons_append, List.nil_append, bB_0, bB_z, z01_0, z01_1, n01, n00, pm_ro_some, reduceCtorEq, if_true, if_false, and_self, and_true, true_and, not_true, not_false_eq_true, Nat.reduceLeDiff, Nat.reduceAdd, kdM, hm, hs.m, ix hj, D.mn, lpT]
    · intro t ht ih
      have R := rN_e hI hj ht h8
      have c := c115 hm hs hj (show t < 40 by omega) h8
      rw [R.1] at c
      have sg := seg138 (im := im) (rm := rm) (nI T) (nI j) t (mmt σ j (T / 2) s t) (mmt_B hI hj h8 hsB t (by omega)) R.2
      rw [← ih, s138_19]
      simp only [s138_21, s138_22, s138_25, s138_27, s138_28, s138_31, s138_32, s138_35, s138_37, s138_38, s138_41, s138_42, s138_44, s138_46, s138_47, s138_48, s138_49, s138_52, ↓reduceIte, Option.bind_some, Option.toList, List.cons_append, List.nil_append, bB_0, bB_z, z01_0, z01_1, n01, n00, pm_ro_some, reduceCtorEq, if_true, if_false, and_self, and_true, true_and, not_true, not_false_eq_true, Nat.reduceLeDiff, Nat.reduceAdd, kdM, hm, hs.m, ix hj, D.mn, lpF ht (show tk σ j < 2 ^ 31 by omega), gs, nz2, dv2 T hT, c, sg, s138_80, s138_83, nI_add, mmt]
  have outer : ∀ j, j ≤ 6 → ev 138 9 [.ref 129, .int (nI T), .int (eL (mmD σ (T / 2) j)), .int (eM (mmD σ (T / 2) j)), .int (nI j), pm_u, pm_u] [] im rm = some (some (.int (bnd σ T)), im, rm) := by
    refine dn ?_ ?_
    · have B := mmD_B hI h8 6 (by omega)
      unfold bnd
      generalize mmD σ (T / 2) 6 = s at B ⊢
      cases s with
      | none => simp only [s138_9, s138_11, s138_13, s138_92, s138_93, s138_94, s138_97, s138_98, s138_101, s138_102, s138_103, s138_104, s138_107, s138_108, s138_109, s138_110, s138_113, s138_114, s138_115, s138_116, ↓reduceIte, Option.bind_some, Option.toList, List.cons_append, List.nil_append, bB_0, bB_z, z01_0, z01_1, n01, n00, pm_ro_some, reduceCtorEq, if_true, if_false, and_self, and_true, true_and, not_true, not_false_eq_true, Nat.reduceLeDiff, Nat.reduceAdd, kdM, lpT, eL, eM]
      | some p =>
        have := B p rfl
        rcases (show T % 2 = 0 ∨ T % 2 = 1 by omega) with h | h
        · simp only [s138_9, s138_11, s138_13, s138_92, s138_93, s138_94, s138_97, s138_98, s138_101, s138_102, s138_103, s138_104, s138_107, s138_108, s138_109, s138_110, s138_113, s138_114, s138_115, s138_116, ↓reduceIte, Option.bind_some, Option.toList, List.cons_append, List.nil_append, bB_0, bB_z, z01_0, z01_1, n01, n00, pm_ro_some, reduceCtorEq, if_true, if_false, and_self, and_true, true_and, not_true, not_false_eq_true, Nat.reduceLeDiff, Nat.reduceAdd, kdM, lpT, eL, eM, h, nIm1 (show p.2 < 2 ^ 31 by omega), nz2, rem2 T hT, show ((0 : Nat) = 1) = False from by decide]
        · simp only [s138_9, s138_11, s138_13, s138_92, s138_93, s138_94, s138_97, s138_98, s138_101, s138_102, s138_103, s138_104, s138_107, s138_108, s138_109, s138_110, s138_113, s138_114, s138_115, s138_116, ↓reduceIte, Option.bind_some, Option.toList, List.cons_append, List.nil_append, bB_0, bB_z, z01_0, z01_1, n01, n00, pm_ro_some, reduceCtorEq, if_true, if_false, and_self, and_true, true_and, not_true, not_false_eq_true, Nat.reduceLeDiff, Nat.reduceAdd, kdM, lpT, eL, eM, h, nIm1 (show p.2 < 2 ^ 31 by omega), nz2, rem2 T hT]
    · intro j hj ih
      have D := hI.d j hj
      rw [← ih, s138_9]
      by_cases g : σ 130 j = nI 0
      · have A1 := inner j hj g (mmD σ (T / 2) j) (mmD_B hI h8 j (by omega)) 0 (by omega)
        have z : mmt σ j (T / 2) (mmD σ (T / 2) j) 0 = mmD σ (T / 2) j := rfl
        rw [z] at A1
        simp only [s138_11, s138_13, s138_16, s138_17, ↓reduceIte, Option.bind_some, Option.toList, List.cons_append, List.nil_append, bB_0, bB_z, z01_0, z01_1, n01, n00, pm_ro_some, reduceCtorEq, if_true, if_false, and_self, and_true, true_and, not_true, not_false_eq_true, Nat.reduceLeDiff, Nat.reduceAdd, kdM, lpF hj (show 6 < 2 ^ 31 by decide), A1, s138_86, s138_89, nI_add, mmD, g]
      · by_cases z : tk σ j = 0
        · have mn := D.mn
          rw [z] at mn
          simp only [s138_11, s138_13, s138_16, s138_17, s138_19, s138_21, s138_22, s138_25, s138_27, s138_28, ↓reduceIte, Option.bind_some, Option.toList, List.cons_append, List.nil_append, bB_0, bB_z, z01_0, z01_1, n01, n00, pm_ro_some, reduceCtorEq, if_true, if_false, and_self, and_true, true_and, not_true, not_false_eq_true, Nat.reduceLeDiff, Nat.reduceAdd, kdM, hm, hs.m, ix hj, mn, lpT, lpF hj (show 6 < 2 ^ 31 by decide), s138_86, s138_89, nI_add, mmD, g]
        · simp only [s138_11, s138_13, s138_16, s138_17, s138_19, s138_21, s138_22, s138_25, s138_27, s138_28, s138_31, s138_32, s138_35, s138_37, s138_38, ↓reduceIte, Option.bind_some, Option.toList, List.cons_append, List.nil_append, bB_0, bB_z, z01_0, z01_1, n01, n00, pm_ro_some, reduceCtorEq, if_true, if_false, and_self, and_true, true_and, not_true, not_false_eq_true, Nat.reduceLeDiff, Nat.reduceAdd, kdM, hm, hs.m, ix hj, D.mn, lpF (show 0 < tk σ j by omega) (show tk σ j < 2 ^ 31 by have := D.n40; omega), lpF hj (show 6 < 2 ^ 31 by decide), s138_86, s138_89, nI_add, mmD, g]
  rw [← outer 0 (by omega)]
  simp only [s138_0, s138_3, s138_4, s138_5, s138_6, s138_7]
  rfl
theorem p54 (hI : INV im rm pp ll) (x : Int32) : PAIR 54 [.ref 0, .int x] 141 [.ref 129, .int x] im rm := by
  have hx := hI.x
  have hm := hI.m
  by_cases g0 : pm_in x 16 = true
  rotate_left
  · exact PAIR.q hI (-3) ⟨im, by simp only [s54_0, s54_1, s54_3, s54_6, s54_9, s54_10, s54_11, s54_14, s54_17, s54_19, ↓reduceIte, Option.bind_some, Option.toList, List.cons_append, List.nil_append, bB_0, bB_z, z01_0, z01_1, n01, n00, pm_ro_some, reduceCtorEq, if_true, if_false, and_self, and_true, true_and, not_true, not_false_eq_true, Nat.reduceLeDiff, Nat.reduceAdd, kdX, b75_16, g0, hx], SS.rf⟩ (fun im1 s1 => ⟨im1, by simp only [s141_0, s141_1, s141_2, s141_3, s141_6, s141_9, s141_12, s141_13, s141_14, s141_17, s141_20, s141_22, ↓reduceIte, Option.bind_some, Option.toList, List.cons_append, List.nil_append, bB_0, bB_z, z01_0, z01_1, n01, n00, pm_ro_some, reduceCtorEq, if_true, if_false, and_self, and_true, true_and, not_true, not_false_eq_true, Nat.reduceLeDiff, Nat.reduceAdd, kdM, c104, inLs, hm, g0], s1⟩)
  obtain ⟨T, hT, rfl⟩ := pm_in_ex g0 (by decide)
  obtain ⟨m1, A1, A2, A3⟩ := c87 hI SS.rf hT
  exact PAIR.q hI (bnd im T) ⟨m1, by simp only [s54_0, s54_1, s54_3, s54_6, s54_9, s54_10, s54_11, s54_14, s54_17, s54_19, ↓reduceIte, Option.bind_some, Option.toList, List.cons_append, List.nil_append, bB_0, bB_z, z01_0, z01_1, n01, n00, pm_ro_some, reduceCtorEq, if_true, if_false, and_self, and_true, true_and, not_true, not_false_eq_true, Nat.reduceLeDiff, Nat.reduceAdd, kdX, b75_16, g0, hx, A1], A2⟩ (fun im1 s1 => ⟨im1, by simp only [s141_0, s141_1, s141_2, s141_3, s141_6, s141_9, s141_12, s141_13, s141_14, s141_17, s141_20, s141_22, ↓reduceIte, Option.bind_some, Option.toList, List.cons_append, List.nil_append, bB_0, bB_z, z01_0, z01_1, n01, n00, pm_ro_some, reduceCtorEq, if_true, if_false, and_self, and_true, true_and, not_true, not_false_eq_true, Nat.reduceLeDiff, Nat.reduceAdd, kdM, c104, inLs, hm, g0, c138 hI s1 hT], s1⟩)
end BND
