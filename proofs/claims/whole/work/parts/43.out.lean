-- needs: 42
/-! What comes of a version that runs a drive: both sides. -/
def raw (σ : IM) (d t : Nat) : Int32 := σ 134 (40 * d + t) + σ 133 (40 * d + t) / nI 2
def dos (σ : IM) (v d t : Nat) : Int32 := σ 138 (4 * (mpo σ v (rdg σ d t)).toNatClampNeg + (σ 133 (40 * d + t) / nI 40).toNatClampNeg)
def lft (σ : IM) (v d : Nat) : Nat → Int32
  | 0 => σ 139 0
  | t + 1 => lft σ v d t - (if dos σ v d t < lft σ v d t then dos σ v d t else lft σ v d t)
def usd (σ : IM) (v d t : Nat) : Int32 := if dos σ v d t < lft σ v d t then dos σ v d t else lft σ v d t
def off (σ : IM) (v d t : Nat) : Int32 := if nI 4 * usd σ v d t < raw σ d t then nI 4 * usd σ v d t else raw σ d t
def brn (σ : IM) (d t : Nat) : Bool := decide (σ 139 1 < sot σ d t + σ 134 (40 * d + t) / nI 8)
def air (σ : IM) (v d t : Nat) : Int32 := raw σ d t - off σ v d t + cond (brn σ d t) (nI 20) (nI 0)
def smf (f : Nat → Int32) : Nat → Int32
  | 0 => nI 0
  | n + 1 => smf f n + f n
def sU (σ : IM) (v d : Nat) : Nat → Int32 := smf (usd σ v d)
def sO (σ : IM) (v d : Nat) : Nat → Int32 := smf (off σ v d)
def sA (σ : IM) (v d : Nat) : Nat → Int32 := smf (air σ v d)
def sE (σ : IM) (d : Nat) : Nat → Int32 := smf (fun t => cond (brn σ d t) (nI 1) (nI 0))
section OUT
variable {im σ : IM} {rm : RM} {pp ll : Nat → Nat}
theorem c13 (hx : rmX rm pp ll) {t : Nat} (ht : t < 40) (rw use : Int32) (b : Bool) : ev 13 0 [.ref 32, .int (nI t), .int rw, .int use, .int (bB b), pm_u] [] im rm =
    some (none, pm_w2 (pm_w2 (pm_w2 (pm_w2 (pm_w2 (pm_w2 (pm_w2 im 35 t use) 36 t (if nI 4 * use < rw then nI 4 * use else rw)) 37 t (rw - (if nI 4 * use < rw then nI 4 * use else rw) + cond b (nI 20) (nI 0))) 32 5 (im 32 5 + use)) 32 6 (im 32 6 + (if nI 4 * use < rw then nI 4 * use else rw))) 32 7 (im 32 7 + (rw - (if nI 4 * use < rw then nI 4 * use else rw) + cond b (nI 20) (nI 0)))) 32 8 (im 32 8 + cond b (nI 1) (nI 0)), rm) := by
  have z : ∀ (f : IM) (a i : Nat) (x : Int32) (k : Nat), a ≠ 32 → pm_w2 f a i x 32 k = f 32 k := fun f a i x k h => w2_a (by omega)
  have y : ∀ (f : IM) (i : Nat) (x : Int32) (k : Nat), i ≠ k → pm_w2 f 32 i x 32 k = f 32 k := fun f i x k h => w2_i (by omega)
  have w : ∀ (f : IM) (i : Nat) (x : Int32) (k : Nat), pm_w2 f 32 i x 37 k = f 37 k := fun f i x k => w2_a (by omega)
  cases b
  · simp only [s13_0, s13_1, s13_2, s13_3, s13_4, s13_7, s13_9, s13_10, s13_13, s13_14, s13_15, s13_16, s13_17, s13_20, s13_21, s13_23, s13_24, s13_25, s13_28, s13_29, s13_30, s13_32, s13_33, s13_35, s13_38, s13_40, s13_43, s13_44, s13_45, s13_46, s13_47, s13_48, s13_51, s13_52, s13_53, s13_56, s13_57, s13_58, s13_61, s13_63, s13_64, s13_67, s13_68, s13_69, s13_72, s13_73, s13_76, s13_77, s13_78, s13_79, s13_82, s13_83, s13_84, s13_87, s13_89, s13_92, s13_93, s13_96, s13_97, s13_98, s13_101, ↓reduceIte, Option.bind_some, Option.toList, List.cons_append, List.nil_append, bB_0, bB_z, z01_0, z01_1, n01, n00, pm_ro_some, reduceCtorEq, if_true, if_false, and_self, and_true, true_and, not_true, not_false_eq_true, Nat.reduceLeDiff, Nat.reduceAdd, kdX, hx, c176, im_min (nI 4 * use) rw, ix ht, z _ 35 _ _ _ (by omega), z _ 36 _ _ _ (by omega), z _ 37 _ _ _ (by omega), y _ 5 _ 6 (by omega), y _ 5 _ 7 (by omega), y _ 5 _ 8 (by omega), y _ 6 _ 7 (by omega), y _ 6 _ 8 (by omega), y _ 7 _ 8 (by omega), w, w2_s, bB, cond_false]
  · simp only [s13_0, s13_1, s13_2, s13_3, s13_4, s13_7, s13_9, s13_10, s13_13, s13_14, s13_15, s13_16, s13_17, s13_20, s13_21, s13_23, s13_24, s13_25, s13_28, s13_29, s13_30, s13_32, s13_33, s13_35, s13_38, s13_40, s13_43, s13_44, s13_45, s13_46, s13_47, s13_48, s13_51, s13_52, s13_53, s13_56, s13_57, s13_58, s13_61, s13_63, s13_64, s13_67, s13_68, s13_69, s13_72, s13_73, s13_76, s13_77, s13_78, s13_79, s13_82, s13_83, s13_84, s13_87, s13_89, s13_92, s13_93, s13_96, s13_97, s13_98, s13_101, ↓reduceIte, Option.bind_some, Option.toList, List.cons_append, List.nil_append, bB_0, bB_z, z01_0, z01_1, n01, n00, pm_ro_some, reduceCtorEq, if_true, if_false, and_self, and_true, true_and, not_true, not_false_eq_true, Nat.reduceLeDiff, Nat.reduceAdd, kdX, hx, c176, im_min (nI 4 * use) rw, ix ht, z _ 35 _ _ _ (by omega), z _ 36 _ _ _ (by omega), z _ 37 _ _ _ (by omega), y _ 5 _ 6 (by omega), y _ 5 _ 7 (by omega), y _ 5 _ 8 (by omega), y _ 6 _ 7 (by omega), y _ 6 _ 8 (by omega), y _ 7 _ 8 (by omega), w, w2_s, bB, cond_true]
theorem c12 : ev 12 0 [.ref 32] [] im rm = some (none, pm_w2 (pm_w2 (pm_w2 (pm_w2 im 32 5 (nI 0)) 32 6 (nI 0)) 32 7 (nI 0)) 32 8 (nI 0), rm) := by
  simp only [s12_0, s12_1, s12_2, s12_5, s12_6, s12_7, s12_10, s12_11, s12_12, s12_15, s12_16, s12_17, s12_20, ↓reduceIte, Option.bind_some, Option.toList, List.cons_append, List.nil_append, bB_0, bB_z, z01_0, z01_1, n01, n00, pm_ro_some, reduceCtorEq, if_true, if_false, and_self, and_true, true_and, not_true, not_false_eq_true, Nat.reduceLeDiff, Nat.reduceAdd, kdX]
/-- the outcome of the first n ticks lies in the class's rows -/
def LO (σ : IM) (v d n : Nat) (m : IM) : Prop := (∀ t, t < n → m 33 t = mpo σ v (rdg σ d t) ∧ m 34 t = lin σ v (rdg σ d t) ∧ m 35 t = usd σ v d t ∧ m 36 t = off σ v d t ∧ m 37 t = air σ v d t) ∧ m 32 5 = sU σ v d n ∧ m 32 6 = sO σ v d n ∧ m 32 7 = sA σ v d n ∧ m 32 8 = sE σ d n
def LM (σ : IM) (v d n : Nat) (m : IM) : Prop := (∀ t, t < n → m 160 t = usd σ v d t ∧ m 161 t = off σ v d t ∧ m 162 t = air σ v d t) ∧ m 129 41 = sU σ v d n ∧ m 129 42 = sO σ v d n ∧ m 129 43 = sA σ v d n ∧ m 129 44 = sE σ d n
theorem cls {x : Int32} (h : pm_in x 160 = true) : ∃ c, c < 4 ∧ x / nI 40 = nI c := by
  obtain ⟨s, hs, rfl⟩ := pm_in_ex h (by decide)
  exact ⟨s / 40, by omega, pk_div (by omega) (by decide) (by decide)⟩
theorem kd_do {m : Nat} (h : m < 4) : kd (7 + m) = 0 ∧ ln (7 + m) = 4 := by
  rcases (show m = 0 ∨ m = 1 ∨ m = 2 ∨ m = 3 by omega) with rfl | rfl | rfl | rfl <;> exact ⟨kd_at (by decide), ln_at (by decide)⟩
theorem c80 (hI : INV σ rm pp ll) (hs : SS σ im) {v d : Nat} (hv : v < 4) (hd : d < 6) : ∃ im', ev 80 0 [.ref 0, .int (nI v), .int (nI d), pm_u, pm_u, pm_u, pm_u, pm_u, pm_u, pm_u, pm_u] [] im rm = some (none, im', rm) ∧ SS σ im' ∧ LO σ v d (tk σ d) im' ∧ (∀ b i, (b < 32 ∨ 39 ≤ b) → im' b i = im b i) := by
  have hx := hI.x
  have D := hI.d d hd
  have dm := hI.dm hd
  have P := hI.p v hv
  have pm := hI.pm (show v < 5 by omega)
  have n40 := D.n40
  have S := hI.s
  have hdr : dr d = 51 + 8 * d := rfl
  have hpv : rm 2 v = some (pp v) := hx.2.2.2.1 v hv
  have key : ∀ i, i ≤ tk σ d → ∀ m : IM, SS σ m → LO σ v d i m → (∀ b k, (b < 32 ∨ 39 ≤ b) → m b k = im b k) → ∃ im', ev 80 33 [.ref 0, pm_u, pm_u, .ref (pp v), .ref (dr d), .int (lft σ v d i), .int (nI i), pm_u, pm_u, pm_u, pm_u] [] m rm = some (none, im', rm) ∧ SS σ im' ∧ LO σ v d (tk σ d) im' ∧ (∀ b k, (b < 32 ∨ 39 ≤ b) → im' b k = im b k) := by
    refine dn ?_ ?_
    · intro m h1 h2 h3
      refine ⟨m, ?_, h1, h2, h3⟩
      simp only [s80_0, s80_1, s80_4, s80_5, s80_6, s80_7, s80_8, s80_11, s80_12, s80_13, s80_15, s80_16, s80_19, s80_20, s80_21, s80_23, s80_24, s80_27, s80_30, s80_31, s80_33, s80_35, s80_37, s80_40, s80_43, s80_45, s80_47, s80_48, s80_51, s80_54, s80_55, s80_56, s80_59, s80_62, s80_64, s80_65, s80_67, s80_70, s80_72, s80_74, s80_77, s80_79, s80_80, s80_82, s80_85, s80_87, s80_88, s80_89, s80_90, s80_91, s80_93, s80_94, s80_97, s80_99, s80_100, s80_102, s80_105, s80_107, s80_108, s80_110, s80_111, s80_112, s80_114, s80_117, s80_119, s80_121, s80_123, s80_124, s80_126, s80_127, s80_130, s80_133, s80_135, s80_137, s80_138, s80_139, s80_142, s80_145, s80_147, s80_149, s80_150, s80_151, s80_154, s80_156, s80_158, s80_160, s80_162, s80_164, s80_165, s80_168, s80_169, s80_170, s80_173, s80_176, s80_179, s80_182, ↓reduceIte, Option.bind_some, Option.toList, List.cons_append, List.nil_append, bB_0, bB_z, z01_0, z01_1, n01, n00, pm_ro_some, reduceCtorEq, if_true, if_false, and_self, and_true, true_and, not_true, not_false_eq_true, Nat.reduceLeDiff, Nat.reduceAdd, kdX, dm, h1.d0 hd, D.le, lpT]
    · intro i hi ih m h1 h2 h3
      obtain ⟨m1, A1, A2, A3, A4⟩ := c6 hI h1 hd hi
      have G := D.rng i hi
      have R := D.row i hi
      obtain ⟨c, hc, ec⟩ := cls G.1
      obtain ⟨mp, hmp, emp⟩ := pm_in_ex (mpo_rg P (rdg σ d i)) (by decide)
      have ed : dos σ v d i = σ 138 (4 * mp + c) := by
        unfold dos
        rw [ec, emp, nI_clamp (by omega), nI_clamp (by omega)]
      have O := hI.o mp c hmp hc
      have q1 := A2.d hd 1 (by omega) i
      have q2 := A2.d hd 2 (by omega) i
      rw [R.1] at q1
      rw [R.2.1] at q2
      have q7 : m1 (7 + mp) c = dos σ v d i := by
        rw [A2.1 _ _ (by omega) (by omega), O.1, ed]
      have l16 := c16 hI A2 A3 hv
      have l18 := c18 hI A2 (rdg σ d i) hv
      have hm6 : rm 6 mp = some (7 + mp) := hx.2.2.2.2.2.1 mp hmp
      generalize h4 : pm_w2 (pm_w2 m1 33 i (mpo σ v (rdg σ d i))) 34 i (lin σ v (rdg σ d i)) = m2
      have q8 : m2 11 1 = σ 139 1 := by
        rw [← h4]
        simp (disch := omega) only [w2_n]
        rw [(A2.c 1).2.2.2.2.2.2.2.1, S.1 1 (by omega)]
      have B := c5 (im := m2) (rm := rm) dm.2.2.1 ⟨dm.2.1.2.1, dm.2.1.2.2.2.2.2.2⟩ (kd_da hd (by omega) (by omega)) (kd_da hd (by omega) (by omega)) (show i < 40 by omega) (σ 139 1)
      have qb : (decide (σ 139 1 < m2 (dr d + 7) i + m2 (dr d + 2) i / nI 8)) = brn σ d i := by
        unfold brn
        have z7 : m2 (dr d + 7) i = sot σ d i := by
          rw [← h4]
          simp (disch := omega) only [w2_n]
          rw [A2.d hd 7 (by omega) i]
          exact R.2.2.2.2.2.2
        have z2 : m2 (dr d + 2) i = σ 134 (40 * d + i) := by
          rw [← h4]
          simp (disch := omega) only [w2_n]
          exact q2
        rw [z7, z2]
      rw [qb] at B
      have C := c13 (im := m2) hx (show i < 40 by omega) (raw σ d i) (usd σ v d i) (brn σ d i)
      have h2r := h2.1
      have h2s := h2.2
      have e5 : ∀ k, m2 32 k = m 32 k := by
        intro k
        rw [← h4]
        simp (disch := omega) only [w2_n]
        exact A4 _ _ (by omega)
      rw [e5, e5, e5, e5, h2s.1, h2s.2.1, h2s.2.2.1, h2s.2.2.2] at C
      have hoff : (if nI 4 * usd σ v d i < raw σ d i then nI 4 * usd σ v d i else raw σ d i) = off σ v d i := rfl
      rw [hoff] at C
      have hair : raw σ d i - off σ v d i + cond (brn σ d i) (nI 20) (nI 0) = air σ v d i := rfl
      rw [hair] at C
      generalize h5 : pm_w2 (pm_w2 (pm_w2 (pm_w2 (pm_w2 (pm_w2 (pm_w2 m2 35 i (usd σ v d i)) 36 i (off σ v d i)) 37 i (air σ v d i)) 32 5 (sU σ v d i + usd σ v d i)) 32 6 (sO σ v d i + off σ v d i)) 32 7 (sA σ v d i + air σ v d i)) 32 8 (sE σ d i + cond (brn σ d i) (nI 1) (nI 0)) = m3 at C
      have a1 : SS σ m3 := by
        rw [← h5, ← h4]
        exact ((((((((A2.w (by omega)).w (by omega)).w (by omega)).w (by omega)).w (by omega)).w (by omega)).w (by omega)).w (by omega)).w (by omega)
      have a2 : LO σ v d (i + 1) m3 := by
        refine ⟨?_, ?_, ?_, ?_, ?_⟩
        · intro t ht
          by_cases e : t = i
          · subst e
            rw [← h5, ← h4]
            simp (disch := omega) only [w2_n, w2_s, and_self]
          · rw [← h5, ← h4]
            simp (disch := omega) only [w2_n]
            rw [A4 33 _ (by omega), A4 34 _ (by omega), A4 35 _ (by omega), A4 36 _ (by omega), A4 37 _ (by omega)]
            exact h2r t (by omega)
        · rw [← h5]
          simp (disch := omega) only [w2_n, w2_s]
          rfl
        · rw [← h5]
          simp (disch := omega) only [w2_n, w2_s]
          rfl
        · rw [← h5]
          simp (disch := omega) only [w2_n, w2_s]
          rfl
        · rw [← h5]
          simp (disch := omega) only [w2_n, w2_s]
          rfl
      have a3 : ∀ b k, (b < 32 ∨ 39 ≤ b) → m3 b k = im b k := by
        intro b k hb
        rw [← h5, ← h4]
        simp (disch := omega) only [w2_n]
        rw [A4 _ _ (by omega)]
        exact h3 b k hb
      obtain ⟨im', e1, e2⟩ := ih m3 a1 a2 a3
      refine ⟨im', ?_, e2⟩
      rw [← e1, s80_33]
      have hl : lft σ v d (i + 1) = lft σ v d i - usd σ v d i := rfl
      have hus : (if lft σ v d i < dos σ v d i then lft σ v d i else dos σ v d i) = usd σ v d i := by rw [im_min]; rfl
      have hrw : σ 134 (40 * d + i) + σ 133 (40 * d + i) / nI 2 = raw σ d i := rfl
      simp only [s80_0, s80_1, s80_4, s80_5, s80_6, s80_7, s80_8, s80_11, s80_12, s80_13, s80_15, s80_16, s80_19, s80_20, s80_21, s80_23, s80_24, s80_27, s80_30, s80_31, s80_35, s80_37, s80_40, s80_43, s80_45, s80_47, s80_48, s80_51, s80_54, s80_55, s80_56, s80_59, s80_62, s80_64, s80_65, s80_67, s80_70, s80_72, s80_74, s80_77, s80_79, s80_80, s80_82, s80_85, s80_87, s80_88, s80_89, s80_90, s80_91, s80_93, s80_94, s80_97, s80_99, s80_100, s80_102, s80_105, s80_107, s80_108, s80_110, s80_111, s80_112, s80_114, s80_117, s80_119, s80_121, s80_123, s80_124, s80_126, s80_127, s80_130, s80_133, s80_135, s80_137, s80_138, s80_139, s80_142, s80_145, s80_147, s80_149, s80_150, s80_151, s80_154, s80_156, s80_158, s80_160, s80_162, s80_164, s80_165, s80_168, s80_169, s80_170, s80_173, s80_176, s80_179, s80_182, ↓reduceIte, Option.bind_some, Option.toList, List.cons_append, List.nil_append, bB_0, bB_z, z01_0, z01_1, n01, n00, pm_ro_some, reduceCtorEq, if_true, if_false, and_self, and_true, true_and, not_true, not_false_eq_true, Nat.reduceLeDiff, Nat.reduceAdd, kdX, hx, dm, pm, h1.d0 hd, D.le, lpF hi (by omega), A1, l16, l18, emp, hm6, ix hmp, kd_do hmp, q1, q2, ec, ix hc, q7, c176, hus, nz2, nz40, hrw, ix (show i < 40 by omega), ix (show 1 < 4 by omega), hl]
      rw [emp] at h4
      simp only [h4, q8, B, s80_173, s80_176, s80_179, ↓reduceIte, Option.bind_some, Option.toList, List.cons_append, List.nil_append, bB_0, bB_z, z01_0, z01_1, n01, n00, pm_ro_some, reduceCtorEq, if_true, if_false, and_self, and_true, true_and, not_true, not_false_eq_true, Nat.reduceLeDiff, Nat.reduceAdd, kdX, C, nI_add]
  generalize h0 : pm_w2 (pm_w2 (pm_w2 (pm_w2 im 32 5 (nI 0)) 32 6 (nI 0)) 32 7 (nI 0)) 32 8 (nI 0) = m0
  have C0 := c12 (im := im) (rm := rm)
  rw [h0] at C0
  have q0 : im 11 0 = σ 139 0 := by rw [(hs.c 0).2.2.2.2.2.2.2.1, S.1 0 (by omega)]
  obtain ⟨im', e1, e2⟩ := key 0 (by omega) m0 (by rw [← h0]; exact (((hs.w (by omega)).w (by omega)).w (by omega)).w (by omega)) ⟨fun t ht => absurd ht (by omega), by rw [← h0]; simp (disch := omega) only [w2_n, w2_s]; rfl, by rw [← h0]; simp (disch := omega) only [w2_n, w2_s]; rfl, by rw [← h0]; simp (disch := omega) only [w2_n, w2_s]; rfl, by rw [← h0]; simp (disch := omega) only [w2_n, w2_s]; rfl⟩ (fun b k hb => by rw [← h0]; simp (disch := omega) only [w2_n])
  refine ⟨im', ?_, e2⟩
  rw [← e1]
  have hl0 : lft σ v d 0 = σ 139 0 := rfl
  simp only [s80_0, s80_1, s80_4, s80_5, s80_6, s80_7, s80_8, s80_11, s80_12, s80_13, s80_15, s80_16, s80_19, s80_20, s80_21, s80_23, s80_24, s80_27, s80_30, s80_31, s80_35, s80_37, s80_40, s80_43, s80_45, s80_47, s80_48, s80_51, s80_54, s80_55, s80_56, s80_59, s80_62, s80_64, s80_65, s80_67, s80_70, s80_72, s80_74, s80_77, s80_79, s80_80, s80_82, s80_85, s80_87, s80_88, s80_89, s80_90, s80_91, s80_93, s80_94, s80_97, s80_99, s80_100, s80_102, s80_105, s80_107, s80_108, s80_110, s80_111, s80_112, s80_114, s80_117, s80_119, s80_121, s80_123, s80_124, s80_126, s80_127, s80_130, s80_133, s80_135, s80_137, s80_138, s80_139, s80_142, s80_145, s80_147, s80_149, s80_150, s80_151, s80_154, s80_156, s80_158, s80_160, s80_162, s80_164, s80_165, s80_168, s80_169, s80_170, s80_173, s80_176, s80_179, s80_182, ↓reduceIte, Option.bind_some, Option.toList, List.cons_append, List.nil_append, bB_0, bB_z, z01_0, z01_1, n01, n00, pm_ro_some, reduceCtorEq, if_true, if_false, and_self, and_true, true_and, not_true, not_false_eq_true, Nat.reduceLeDiff, Nat.reduceAdd, kdX, hx, dm, hpv, ix hv, ix hd, ix (show 0 < 4 by omega), q0, C0, hl0]
theorem c135 {a : Nat} (hI : INV σ rm pp ll) (hs : SS σ im) {v d : Nat} (P : IP σ a v) (hv : v < 4) (hd : d < 6) : ∃ im', ev 135 0 [.ref 129, .int (nI v), .int (nI d), pm_u, pm_u, pm_u, pm_u, pm_u, pm_u] [] im rm = some (none, im', rm) ∧ SS σ im' ∧ LM σ v d (tk σ d) im' ∧ (∀ b i, ¬ (b = 129 ∧ 41 ≤ i ∧ i ≤ 44) ∧ ¬ (160 ≤ b ∧ b ≤ 162) → im' b i = im b i) := by
  have hm := hI.m
  have D := hI.d d hd
  have n40 := D.n40
  have key : ∀ i, i ≤ tk σ d → ∀ m : IM, SS σ m → LM σ v d i m → (∀ b k, ¬ (b = 129 ∧ 41 ≤ k ∧ k ≤ 44) ∧ ¬ (160 ≤ b ∧ b ≤ 162) → m b k = im b k) → ∃ im', ev 135 33 [.ref 129, .int (nI v), .int (nI d), .int (lft σ v d i), .int (sot σ d i), .int (nI i), pm_u, pm_u, pm_u] [] m rm = some (none, im', rm) ∧ SS σ im' ∧ LM σ v d (tk σ d) im' ∧ (∀ b k, ¬ (b = 129 ∧ 41 ≤ k ∧ k ≤ 44) ∧ ¬ (160 ≤ b ∧ b ≤ 162) → im' b k = im b k) := by
    refine dn ?_ ?_
    · intro m h1 h2 h3
      refine ⟨m, ?_, h1, h2, h3⟩
      simp only [s135_0, s135_1, s135_4, s135_5, s135_6, s135_7, s135_8, s135_10, s135_11, s135_12, s135_15, s135_16, s135_17, s135_20, s135_21, s135_22, s135_25, s135_26, s135_27, s135_30, s135_31, s135_33, s135_35, s135_36, s135_39, s135_40, s135_41, s135_44, s135_46, s135_47, s135_48, s135_50, s135_51, s135_53, s135_54, s135_57, s135_59, s135_60, s135_61, s135_64, s135_66, s135_67, s135_68, s135_69, s135_70, s135_72, s135_73, s135_76, s135_77, s135_78, s135_79, s135_80, s135_82, s135_85, s135_86, s135_87, s135_90, s135_92, s135_93, s135_95, s135_96, s135_97, s135_98, s135_100, s135_101, s135_104, s135_106, s135_108, s135_109, s135_112, s135_114, s135_117, s135_118, s135_119, s135_120, s135_121, s135_124, s135_126, s135_127, s135_128, s135_129, s135_130, s135_133, s135_135, s135_136, s135_137, s135_140, s135_142, s135_143, s135_144, s135_146, s135_149, s135_150, s135_151, s135_154, s135_156, s135_157, s135_158, s135_161, s135_163, s135_164, s135_165, s135_168, s135_170, s135_172, s135_173, s135_176, s135_178, s135_179, s135_180, s135_181, s135_183, s135_184, s135_187, s135_189, s135_190, s135_192, s135_193, s135_194, s135_196, s135_198, s135_199, s135_202, s135_203, s135_204, s135_207, s135_208, s135_211, s135_213, s135_214, s135_215, s135_217, s135_218, s135_219, s135_220, s135_222, s135_223, s135_224, s135_227, s135_228, s135_229, s135_232, s135_233, s135_234, s135_237, s135_238, s135_241, s135_243, s135_244, s135_245, s135_248, s135_249, s135_250, s135_253, s135_254, s135_257, s135_259, s135_260, s135_261, s135_264, s135_265, s135_266, s135_269, s135_270, s135_273, s135_275, s135_276, s135_277, s135_280, s135_283, s135_286, ↓reduceIte, Option.bind_some, Option.toList, List.cons_append, List.nil_append, bB_0, bB_z, z01_0, z01_1, n01, n00, pm_ro_some, reduceCtorEq, if_true, if_false, and_self, and_true, true_and, not_true, not_false_eq_true, Nat.reduceLeDiff, Nat.reduceAdd, kdM, hm, h1.m, ix hd, D.mn, lpT]
    · intro i hi ih m h1 h2 h3
      have G := D.rng i hi
      obtain ⟨c, hc, ec⟩ := cls G.1
      obtain ⟨mp, hmp, emp⟩ := pm_in_ex (mpo_rg P (rdg σ d i)) (by decide)
      have ed : σ 138 (4 * mp + c) = dos σ v d i := by
        unfold dos
        rw [ec, emp, nI_clamp (by omega), nI_clamp (by omega)]
      have l134 := c134 hm h1 P hv hd (show i < 40 by omega)
      have h2r := h2.1
      have h2s := h2.2
      have a1 : SS σ (pm_w2 (pm_w2 (pm_w2 (pm_w2 (pm_w2 (pm_w2 (pm_w2 m 160 i (usd σ v d i)) 161 i (off σ v d i)) 162 i (air σ v d i)) 129 44 (sE σ d i + cond (brn σ d i) (nI 1) (nI 0))) 129 41 (sU σ v d i + usd σ v d i)) 129 42 (sO σ v d i + off σ v d i)) 129 43 (sA σ v d i + air σ v d i)) := by
        exact ((((((h1.w (by omega)).w (by omega)).w (by omega)).w (by omega)).w (by omega)).w (by omega)).w (by omega)
      have a2 : LM σ v d (i + 1) (pm_w2 (pm_w2 (pm_w2 (pm_w2 (pm_w2 (pm_w2 (pm_w2 m 160 i (usd σ v d i)) 161 i (off σ v d i)) 162 i (air σ v d i)) 129 44 (sE σ d i + cond (brn σ d i) (nI 1) (nI 0))) 129 41 (sU σ v d i + usd σ v d i)) 129 42 (sO σ v d i + off σ v d i)) 129 43 (sA σ v d i + air σ v d i)) := by
        refine ⟨?_, ?_, ?_, ?_, ?_⟩
        · intro t ht
          by_cases e : t = i
          · subst e
            simp (disch := omega) only [w2_n, w2_s, and_self]
          · simp (disch := omega) only [w2_n]
            exact h2r t (by omega)
        · simp (disch := omega) only [w2_n, w2_s]
          rfl
        · simp (disch := omega) only [w2_n, w2_s]
          rfl
        · simp (disch := omega) only [w2_n, w2_s]
          rfl
        · simp (disch := omega) only [w2_n, w2_s]
          rfl
      have a3 : ∀ b k, ¬ (b = 129 ∧ 41 ≤ k ∧ k ≤ 44) ∧ ¬ (160 ≤ b ∧ b ≤ 162) → (pm_w2 (pm_w2 (pm_w2 (pm_w2 (pm_w2 (pm_w2 (pm_w2 m 160 i (usd σ v d i)) 161 i (off σ v d i)) 162 i (air σ v d i)) 129 44 (sE σ d i + cond (brn σ d i) (nI 1) (nI 0))) 129 41 (sU σ v d i + usd σ v d i)) 129 42 (sO σ v d i + off σ v d i)) 129 43 (sA σ v d i + air σ v d i)) b k = im b k := by
        intro b k hb
        simp (disch := omega) only [w2_n]
        exact h3 b k hb
      obtain ⟨im', e1, e2⟩ := ih (pm_w2 (pm_w2 (pm_w2 (pm_w2 (pm_w2 (pm_w2 (pm_w2 m 160 i (usd σ v d i)) 161 i (off σ v d i)) 162 i (air σ v d i)) 129 44 (sE σ d i + cond (brn σ d i) (nI 1) (nI 0))) 129 41 (sU σ v d i + usd σ v d i)) 129 42 (sO σ v d i + off σ v d i)) 129 43 (sA σ v d i + air σ v d i)) a1 a2 a3
      refine ⟨im', ?_, e2⟩
      rw [← e1, s135_33]
      have hl : lft σ v d (i + 1) = lft σ v d i - usd σ v d i := rfl
      have hso : sot σ d (i + 1) = if σ 139 1 < sot σ d i + σ 134 (40 * d + i) / nI 8 then nI 0 else sot σ d i + σ 134 (40 * d + i) / nI 8 := rfl
      have hrw : σ 134 (40 * d + i) + σ 133 (40 * d + i) / nI 2 = raw σ d i := rfl
      have segA : ev 135 33 [.ref 129, .int (nI v), .int (nI d), .int (lft σ v d i), .int (sot σ d i), .int (nI i), pm_u, pm_u, pm_u] [] m rm = ev 135 118 [.ref 129, .int (nI v), .int (nI d), .int (lft σ v d i), .int (sot σ d i), .int (nI i), .int (nI (40 * d + i)), .int (raw σ d i), pm_u] [.int (usd σ v d i), .int (nI i), .ref 160] m rm := by
        by_cases g1 : dos σ v d i < lft σ v d i
        · have hu : usd σ v d i = dos σ v d i := if_pos g1
          simp only [s135_33, s135_35, s135_36, s135_39, s135_40, s135_41, s135_44, s135_46, s135_47, s135_48, s135_50, s135_51, s135_53, s135_54, s135_57, s135_59, s135_60, s135_61, s135_64, s135_66, s135_67, s135_68, s135_69, s135_70, s135_72, s135_73, s135_76, s135_77, s135_78, s135_79, s135_80, s135_82, s135_85, s135_86, s135_87, s135_90, s135_92, s135_93, s135_95, s135_96, s135_97, s135_98, s135_100, s135_101, s135_104, s135_106, s135_108, s135_109, s135_112, s135_114, s135_117, ↓reduceIte, Option.bind_some, Option.toList, List.cons_append, List.nil_append, bB_0, bB_z, z01_0, z01_1, n01, n00, pm_ro_some, reduceCtorEq, if_true, if_false, and_self, and_true, true_and, not_true, not_false_eq_true, Nat.reduceLeDiff, Nat.reduceAdd, kdM, hm, h1.m, ix hd, D.mn, lpF hi (show tk σ d < 2 ^ 31 by omega), i40, ix (show 40 * d + i < 240 by omega), hrw, l134, emp, ec, pk_mul, nI_add, ix (show 4 * mp + c < 16 by omega), ed, nz2, nz40, Int32.not_le.mpr g1, hu]
        · have hu : usd σ v d i = lft σ v d i := if_neg g1
          simp only [s135_33, s135_35, s135_36, s135_39, s135_40, s135_41, s135_44, s135_46, s135_47, s135_48, s135_50, s135_51, s135_53, s135_54, s135_57, s135_59, s135_60, s135_61, s135_64, s135_66, s135_67, s135_68, s135_69, s135_70, s135_72, s135_73, s135_76, s135_77, s135_78, s135_79, s135_80, s135_82, s135_85, s135_86, s135_87, s135_90, s135_92, s135_93, s135_95, s135_96, s135_97, s135_98, s135_100, s135_101, s135_104, s135_106, s135_108, s135_109, s135_112, s135_114, s135_117, ↓reduceIte, Option.bind_some, Option.toList, List.cons_append, List.nil_append, bB_0, bB_z, z01_0, z01_1, n01, n00, pm_ro_some, reduceCtorEq, if_true, if_false, and_self, and_true, true_and, not_true, not_false_eq_true, Nat.reduceLeDiff, Nat.reduceAdd, kdM, hm, h1.m, ix hd, D.mn, lpF hi (show tk σ d < 2 ^ 31 by omega), i40, ix (show 40 * d + i < 240 by omega), hrw, l134, emp, ec, pk_mul, nI_add, ix (show 4 * mp + c < 16 by omega), ed, nz2, nz40, Int32.not_lt.mp g1, hu]
      have segB : ev 135 118 [.ref 129, .int (nI v), .int (nI d), .int (lft σ v d i), .int (sot σ d i), .int (nI i), .int (nI (40 * d + i)), .int (raw σ d i), pm_u] [.int (usd σ v d i), .int (nI i), .ref 160] m rm = ev 135 163 [.ref 129, .int (nI v), .int (nI d), .int (lft σ v d (i + 1)), .int (sot σ d i), .int (nI i), .int (nI (40 * d + i)), .int (raw σ d i), pm_u] [.int (off σ v d i), .int (nI i), .ref 161] (pm_w2 m 160 i (usd σ v d i)) rm := by
        by_cases g2 : nI 4 * usd σ v d i < raw σ d i
        · have ho : off σ v d i = nI 4 * usd σ v d i := if_pos g2
          simp only [s135_118, s135_119, s135_120, s135_121, s135_124, s135_126, s135_127, s135_128, s135_129, s135_130, s135_133, s135_135, s135_136, s135_137, s135_140, s135_142, s135_143, s135_144, s135_146, s135_149, s135_150, s135_151, s135_154, s135_156, s135_157, s135_158, s135_161, ↓reduceIte, Option.bind_some, Option.toList, List.cons_append, List.nil_append, bB_0, bB_z, z01_0, z01_1, n01, n00, pm_ro_some, reduceCtorEq, if_true, if_false, and_self, and_true, true_and, not_true, not_false_eq_true, Nat.reduceLeDiff, Nat.reduceAdd, kdM, hm, ix (show i < 40 by omega), w2_s, Int32.not_le.mpr g2, ho, hl]
        · have ho : off σ v d i = raw σ d i := if_neg g2
          simp only [s135_118, s135_119, s135_120, s135_121, s135_124, s135_126, s135_127, s135_128, s135_129, s135_130, s135_133, s135_135, s135_136, s135_137, s135_140, s135_142, s135_143, s135_144, s135_146, s135_149, s135_150, s135_151, s135_154, s135_156, s135_157, s135_158, s135_161, ↓reduceIte, Option.bind_some, Option.toList, List.cons_append, List.nil_append, bB_0, bB_z, z01_0, z01_1, n01, n00, pm_ro_some, reduceCtorEq, if_true, if_false, and_self, and_true, true_and, not_true, not_false_eq_true, Nat.reduceLeDiff, Nat.reduceAdd, kdM, hm, ix (show i < 40 by omega), w2_s, Int32.not_lt.mp g2, ho, hl]
      have segC : ev 135 163 [.ref 129, .int (nI v), .int (nI d), .int (lft σ v d (i + 1)), .int (sot σ d i), .int (nI i), .int (nI (40 * d + i)), .int (raw σ d i), pm_u] [.int (off σ v d i), .int (nI i), .ref 161] (pm_w2 m 160 i (usd σ v d i)) rm = ev 135 232 [.ref 129, .int (nI v), .int (nI d), .int (lft σ v d (i + 1)), .int (sot σ d (i + 1)), .int (nI i), pm_u, pm_u, pm_u] [] (pm_w2 (pm_w2 (pm_w2 (pm_w2 m 160 i (usd σ v d i)) 161 i (off σ v d i)) 162 i (air σ v d i)) 129 44 (sE σ d i + cond (brn σ d i) (nI 1) (nI 0))) rm := by
        rw [hso]
        by_cases g3 : σ 139 1 < sot σ d i + σ 134 (40 * d + i) / nI 8
        · have ha : air σ v d i = raw σ d i - off σ v d i + nI 20 := by unfold air brn; rw [decide_eq_true g3]; rfl
          have hb : brn σ d i = true := decide_eq_true g3
          have w3 : ∀ (f : IM) (x y : Int32), pm_w2 (pm_w2 f 162 i x) 162 i y = pm_w2 f 162 i y := by
            intro f x y
            funext b k
            by_cases h : b = 162 ∧ k = i
            · rw [h.1, h.2, w2_s, w2_s]
            · rw [w2_n h, w2_n h, w2_n h]
          simp only [s135_163, s135_164, s135_165, s135_168, s135_170, s135_172, s135_173, s135_176, s135_178, s135_179, s135_180, s135_181, s135_183, s135_184, s135_187, s135_189, s135_190, s135_192, s135_193, s135_194, s135_196, s135_198, s135_199, s135_202, s135_203, s135_204, s135_207, s135_208, s135_211, s135_213, s135_214, s135_215, s135_217, s135_218, s135_219, s135_220, s135_222, s135_223, s135_224, s135_227, s135_228, s135_229, ↓reduceIte, Option.bind_some, Option.toList, List.cons_append, List.nil_append, bB_0, bB_z, z01_0, z01_1, n01, n00, pm_ro_some, reduceCtorEq, if_true, if_false, and_self, and_true, true_and, not_true, not_false_eq_true, Nat.reduceLeDiff, Nat.reduceAdd, kdM, w2_a, w2_i, w2_s, ne_eq, Nat.reduceEqDiff, hm, ix (show i < 40 by omega), ix (show 40 * d + i < 240 by omega), ix (show 1 < 4 by omega), h1.m, nz8, Int32.not_le.mpr g3, g3, ha, hb, w3, h2s, cond_true]
        · have ha : air σ v d i = raw σ d i - off σ v d i := by unfold air brn; rw [decide_eq_false g3]; exact i32_add0 _
          have hb : brn σ d i = false := decide_eq_false g3
          have w4 : pm_w2 (pm_w2 (pm_w2 (pm_w2 m 160 i (usd σ v d i)) 161 i (off σ v d i)) 162 i (raw σ d i - off σ v d i)) 129 44 (sE σ d i) = pm_w2 (pm_w2 (pm_w2 m 160 i (usd σ v d i)) 161 i (off σ v d i)) 162 i (raw σ d i - off σ v d i) := by
            funext b k
            by_cases h : b = 129 ∧ k = 44
            · rw [h.1, h.2, w2_s]
              simp only [w2_a, w2_i, w2_s, ne_eq, Nat.reduceEqDiff, not_false_eq_true, h2s]
            · rw [w2_n h]
          simp only [s135_163, s135_164, s135_165, s135_168, s135_170, s135_172, s135_173, s135_176, s135_178, s135_179, s135_180, s135_181, s135_183, s135_184, s135_187, s135_189, s135_190, s135_192, s135_193, s135_194, s135_196, s135_198, s135_199, s135_202, s135_203, s135_204, s135_207, s135_208, s135_211, s135_213, s135_214, s135_215, s135_217, s135_218, s135_219, s135_220, s135_222, s135_223, s135_224, s135_227, s135_228, s135_229, ↓reduceIte, Option.bind_some, Option.toList, List.cons_append, List.nil_append, bB_0, bB_z, z01_0, z01_1, n01, n00, pm_ro_some, reduceCtorEq, if_true, if_false, and_self, and_true, true_and, not_true, not_false_eq_true, Nat.reduceLeDiff, Nat.reduceAdd, kdM, w2_a, w2_i, w2_s, ne_eq, Nat.reduceEqDiff, hm, ix (show i < 40 by omega), ix (show 40 * d + i < 240 by omega), ix (show 1 < 4 by omega), h1.m, nz8, Int32.not_lt.mp g3, g3, ha, hb, cond_false, i32_add0, w4]
      rw [← s135_33, segA, segB, segC]
      simp only [s135_232, s135_233, s135_234, s135_237, s135_238, s135_241, s135_243, s135_244, s135_245, s135_248, s135_249, s135_250, s135_253, s135_254, s135_257, s135_259, s135_260, s135_261, s135_264, s135_265, s135_266, s135_269, s135_270, s135_273, s135_275, s135_276, s135_277, s135_280, s135_283, ↓reduceIte, Option.bind_some, Option.toList, List.cons_append, List.nil_append, bB_0, bB_z, z01_0, z01_1, n01, n00, pm_ro_some, reduceCtorEq, if_true, if_false, and_self, and_true, true_and, not_true, not_false_eq_true, Nat.reduceLeDiff, Nat.reduceAdd, kdM, w2_a, w2_i, w2_s, ne_eq, Nat.reduceEqDiff, hm, ix (show i < 40 by omega), h2s, nI_add]
  obtain ⟨im', e1, e2⟩ := key 0 (by omega) (pm_w2 (pm_w2 (pm_w2 (pm_w2 im 129 41 (nI 0)) 129 42 (nI 0)) 129 43 (nI 0)) 129 44 (nI 0)) ((((hs.w (by omega)).w (by omega)).w (by omega)).w (by omega)) ⟨fun t ht => absurd ht (by omega), by simp (disch := omega) only [w2_n, w2_s]; rfl, by simp (disch := omega) only [w2_n, w2_s]; rfl, by simp (disch := omega) only [w2_n, w2_s]; rfl, by simp (disch := omega) only [w2_n, w2_s]; rfl⟩ (fun b k hb => by simp (disch := omega) only [w2_n])
  refine ⟨im', ?_, e2⟩
  rw [← e1]
  have hl0 : lft σ v d 0 = σ 139 0 := rfl
  have hl1 : sot σ d 0 = nI 0 := rfl
  simp only [s135_0, s135_1, s135_4, s135_5, s135_6, s135_7, s135_8, s135_10, s135_11, s135_12, s135_15, s135_16, s135_17, s135_20, s135_21, s135_22, s135_25, s135_26, s135_27, s135_30, s135_31, s135_35, s135_36, s135_39, s135_40, s135_41, s135_44, s135_46, s135_47, s135_48, s135_50, s135_51, s135_53, s135_54, s135_57, s135_59, s135_60, s135_61, s135_64, s135_66, s135_67, s135_68, s135_69, s135_70, s135_72, s135_73, s135_76, s135_77, s135_78, s135_79, s135_80, s135_82, s135_85, s135_86, s135_87, s135_90, s135_92, s135_93, s135_95, s135_96, s135_97, s135_98, s135_100, s135_101, s135_104, s135_106, s135_108, s135_109, s135_112, s135_114, s135_117, s135_118, s135_119, s135_120, s135_121, s135_124, s135_126, s135_127, s135_128, s135_129, s135_130, s135_133, s135_135, s135_136, s135_137, s135_140, s135_142, s135_143, s135_144, s135_146, s135_149, s135_150, s135_151, s135_154, s135_156, s135_157, s135_158, s135_161, s135_163, s135_164, s135_165, s135_168, s135_170, s135_172, s135_173, s135_176, s135_178, s135_179, s135_180, s135_181, s135_183, s135_184, s135_187, s135_189, s135_190, s135_192, s135_193, s135_194, s135_196, s135_198, s135_199, s135_202, s135_203, s135_204, s135_207, s135_208, s135_211, s135_213, s135_214, s135_215, s135_217, s135_218, s135_219, s135_220, s135_222, s135_223, s135_224, s135_227, s135_228, s135_229, s135_232, s135_233, s135_234, s135_237, s135_238, s135_241, s135_243, s135_244, s135_245, s135_248, s135_249, s135_250, s135_253, s135_254, s135_257, s135_259, s135_260, s135_261, s135_264, s135_265, s135_266, s135_269, s135_270, s135_273, s135_275, s135_276, s135_277, s135_280, s135_283, s135_286, ↓reduceIte, Option.bind_some, Option.toList, List.cons_append, List.nil_append, bB_0, bB_z, z01_0, z01_1, n01, n00, pm_ro_some, reduceCtorEq, if_true, if_false, and_self, and_true, true_and, not_true, not_false_eq_true, Nat.reduceLeDiff, Nat.reduceAdd, kdM, hm, hs.m, ix (show 0 < 4 by omega), hl0, hl1]
end OUT
