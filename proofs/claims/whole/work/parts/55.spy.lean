-- needs: 54
/-! spy: both sides. -/
theorem tst_cg {σ σ' : IM} {v : Nat} {R : Nat → Int32} (h : ∀ a i, 141 ≤ a → a ≤ 146 → σ' a i = σ a i) (q : Nat) : tst σ' v R q = tst σ v R q := by
  unfold tst
  rw [h 144 _ (by omega) (by omega), h 145 _ (by omega) (by omega), h 146 _ (by omega) (by omega)]
theorem tkn_cg {σ σ' : IM} {v : Nat} {R : Nat → Int32} (h : ∀ a i, 141 ≤ a → a ≤ 146 → σ' a i = σ a i) (i : Nat) : ∀ k, tkn σ' v R i k = tkn σ v R i k := by
  intro k
  induction k with
  | zero => rfl
  | succ k ih => show (tkn σ' v R i k && tst σ' v R (4 * i + k)) = (tkn σ v R i k && tst σ v R (4 * i + k)); rw [ih, tst_cg h]
theorem mpo_cg {σ σ' : IM} {v : Nat} {R : Nat → Int32} (h : ∀ a i, 141 ≤ a → a ≤ 146 → σ' a i = σ a i) : mpo σ' v R = mpo σ v R := by
  have e : lin σ' v R = lin σ v R := by
    unfold lin
    have e1 : pn σ' v = pn σ v := by unfold pn; rw [h 141 _ (by omega) (by omega)]
    have e2 : (fun i => tkn σ' v R i (tn σ' v i)) = (fun i => tkn σ v R i (tn σ v i)) := by
      funext i
      have : tn σ' v i = tn σ v i := by unfold tn; rw [h 143 _ (by omega) (by omega)]
      rw [this, tkn_cg h]
    rw [e1, e2]
  unfold mpo
  rw [e, h 142 _ (by omega) (by omega)]
/-- what lies there when the turn of tick t of drive d is u -/
def tw (σ : IM) (d t u : Nat) : IM := pm_w2 σ 135 (40 * d + t) (nI u)
theorem tw_n (σ : IM) (d t u : Nat) {a i : Nat} (h : ¬ (a = 135 ∧ i = 40 * d + t)) : tw σ d t u a i = σ a i := w2_n h
theorem tw_s (σ : IM) (d t u : Nat) : tw σ d t u 135 (40 * d + t) = nI u := w2_s _ _ _ _
theorem w2_back {f : IM} {a i : Nat} {x : Int32} : pm_w2 (pm_w2 f a i x) a i (f a i) = f := by
  funext b j
  by_cases h : b = a ∧ j = i
  · rw [h.1, h.2, w2_s]
  · rw [w2_n h, w2_n h]
theorem trs_tw (σ : IM) (d t u : Nat) : ∀ n, trs (tw σ d t u) d n = if n ≤ t then trs σ d n else trs σ d n + (iab (nI u) - iab (σ 135 (40 * d + t))) := by
  intro n
  induction n with
  | zero => rw [if_pos (by omega)]; rfl
  | succ n ih =>
    have e : trs (tw σ d t u) d (n + 1) = trs (tw σ d t u) d n + iab (tw σ d t u 135 (40 * d + n)) := rfl
    have e2 : trs σ d (n + 1) = trs σ d n + iab (σ 135 (40 * d + n)) := rfl
    rw [e, e2, ih]
    by_cases h1 : n < t
    · rw [if_pos (by omega), if_pos (by omega), tw_n _ _ _ _ (by omega)]
    · rw [if_neg (show ¬ n + 1 ≤ t by omega)]
      by_cases h2 : n = t
      · subst h2
        rw [if_pos (Nat.le_refl _), tw_s, Int32.add_assoc, Int32.add_comm (iab (σ 135 (40 * d + n))), Int32.sub_add_cancel]
      · rw [if_neg (by omega), tw_n _ _ _ _ (by omega), Int32.add_assoc, Int32.add_assoc, Int32.add_comm (iab (nI u) - _)]
def hdd (σ : IM) (v : Nat) (mp : Int32) (d u t : Nat) : Nat → Bool
  | 0 => true
  | n + 1 => hdd σ v mp d u t n && !decide (mpo σ v (rdg (tw σ d t u) d (t + n)) = mp)
theorem hdd_f {σ : IM} {v : Nat} {mp : Int32} {d u t j : Nat} (h : hdd σ v mp d u t j = false) : ∀ n, hdd σ v mp d u t (j + n) = false := by
  intro n
  induction n with
  | zero => exact h
  | succ n ih => show (hdd σ v mp d u t (j + n) && _) = false; rw [ih, Bool.false_and]
def spc (σ : IM) (v : Nat) (mp : Int32) (d u t : Nat) : Bool := !decide (σ 135 (40 * d + t) = nI u) && hdd σ v mp d u t (tk σ d - t)
def spt (σ : IM) (v : Nat) (mp : Int32) (d u : Nat) : Nat → Nat → Option Nat
  | _, 0 => none
  | i, n + 1 => if spc σ v mp d u i = true then some (64 * u + i) else spt σ v mp d u (i + 1) n
def spu (σ : IM) (v : Nat) (mp : Int32) (d : Nat) : Nat → Nat → Int32
  | _, 0 => -1
  | u, n + 1 => match spt σ v mp d u 0 (tk σ d) with
    | some x => nI x
    | none => spu σ v mp d (u + 1) n
def spk {γ : Type} (o : Option Nat) (a : Int32 → γ) (b : γ) : γ := match o with
  | some x => a (nI x)
  | none => b
section SPY
variable {im σ : IM} {rm : RM} {pp ll : Nat → Nat}
theorem iab_nI {u : Nat} (h : u ≤ 9) : iab (nI u) = nI u := by
  unfold iab
  rw [if_pos (nI_le (Nat.zero_le _) (by omega))]
theorem rd_tw (σ : IM) (d t u k r : Nat) (h1 : r ≠ 1) (h2 : r ≠ 2) : rdg (tw σ d t u) d k r = rdg σ d k r := by
  have e : ∀ a i, a ≠ 135 → tw σ d t u a i = σ a i := fun a i h => tw_n _ _ _ _ (fun q => h q.1)
  have w7 : sot (tw σ d t u) d k = sot σ d k := sot_cg (fun s _ => e _ _ (by decide)) (e _ _ (by decide))
  unfold rdg
  split
  · rfl
  · exact absurd rfl h1
  · exact absurd rfl h2
  · exact e _ _ (by decide)
  · exact e _ _ (by decide)
  · exact e _ _ (by decide)
  · exact e _ _ (by decide)
  · exact w7
theorem row_tw {σ m1 : IM} {d t u n : Nat} {mo : Int32} (hu : u ≤ 9) (hmo : nI u - iab (σ 135 (40 * d + t)) = mo) (A3 : ∀ r, r < 8 → m1 38 r = rdg σ d (t + n) r) (r : Nat) (hr : r < 8) : (if n = 0 then pm_w2 (pm_w2 m1 38 2 (rdg σ d (t + n) 2 + mo)) 38 1 (nI u) else pm_w2 m1 38 2 (rdg σ d (t + n) 2 + mo)) 38 r = rdg (tw σ d t u) d (t + n) r := by
  have T := trs_tw σ d t u (t + n + 1)
  rw [if_neg (by omega), iab_nI hu, hmo] at T
  have e2 : rdg σ d (t + n) 2 = trs σ d (t + n + 1) := rfl
  have e3 : rdg (tw σ d t u) d (t + n) 2 = trs (tw σ d t u) d (t + n + 1) := rfl
  have w1 : rdg (tw σ d t u) d (t + n) 1 = if n = 0 then nI u else rdg σ d (t + n) 1 := by
    have e4 : rdg (tw σ d t u) d (t + n) 1 = iab (tw σ d t u 135 (40 * d + (t + n))) := rfl
    have e5 : rdg σ d (t + n) 1 = iab (σ 135 (40 * d + (t + n))) := rfl
    rw [e4, e5]
    by_cases e : n = 0
    · subst e
      rw [if_pos rfl, Nat.add_zero, tw_s, iab_nI hu]
    · rw [if_neg e, tw_n _ _ _ _ (by omega)]
  by_cases r1 : r = 1
  · subst r1
    rw [w1]
    by_cases e : n = 0
    · rw [if_pos e, if_pos e, w2_s]
    · rw [if_neg e, if_neg e, w2_i (by omega)]
      exact A3 1 hr
  · by_cases r2 : r = 2
    · subst r2
      rw [e3, T, ← e2]
      by_cases e : n = 0
      · rw [if_pos e, w2_i (by omega), w2_s]
      · rw [if_neg e, w2_s]
    · rw [rd_tw σ d t u (t + n) r r1 r2, ← A3 r hr]
      by_cases e : n = 0
      · rw [if_pos e, w2_i r1, w2_i r2]
      · rw [if_neg e, w2_i r2]
theorem c85 (hI : INV σ rm pp ll) (hs : SS σ im) {v d t u : Nat} (hv : v < 4) (hd : d < 6) (ht : t < tk σ d) (hu : u ≤ 9) (mp : Int32) : ∃ im', ev 85 0 [.ref 0, .ref (pp v), .ref (dr d), .int mp, .int (nI t), .int (nI u), pm_u, pm_u] [] im rm = some (some (.int (bB (hdd σ v mp d u t (tk σ d - t)))), im', rm) ∧ SS σ im' := by
  have hx := hI.x
  have D := hI.d d hd
  have dm := hI.dm hd
  have pm := hI.pm (show v < 5 by omega)
  have n40 := D.n40
  have hdr : dr d = 51 + 8 * d := rfl
  generalize hmo : nI u - iab (σ 135 (40 * d + t)) = mo
  have key : ∀ n, n ≤ tk σ d - t → hdd σ v mp d u t n = true → ∀ m : IM, SS σ m → ∃ im', ev 85 19 [.ref 0, .ref (pp v), .ref (dr d), .int mp, .int (nI t), .int (nI u), .int mo, .int (nI (t + n))] [] m rm = some (some (.int (bB (hdd σ v mp d u t (tk σ d - t)))), im', rm) ∧ SS σ im' := by
    refine dn ?_ ?_
    · intro h m h1
      refine ⟨m, ?_, h1⟩
      rw [h, show t + (tk σ d - t) = tk σ d by omega]
      simp only [s85_19, s85_21, s85_22, s85_25, s85_88, s85_89, ↓reduceIte, Option.bind_some, Option.toList, List.cons_append, List.nil_append, bB_0, bB_z, z01_0, z01_1, n01, n00, pm_ro_some, reduceCtorEq, if_true, if_false, and_self, and_true, true_and, not_true, not_false_eq_true, Nat.reduceLeDiff, Nat.reduceAdd, kdX, dm, h1.d0 hd, D.le, lpT]
      rfl
    · intro n hn ih h m h1
      have hk : t + n < tk σ d := by omega
      obtain ⟨m1, A1, A2, A3, A4⟩ := c6 hI h1 hd hk
      generalize hm2 : (if n = 0 then pm_w2 (pm_w2 m1 38 2 (rdg σ d (t + n) 2 + mo)) 38 1 (nI u) else pm_w2 m1 38 2 (rdg σ d (t + n) 2 + mo)) = m2
      have s2 : SS σ m2 := by
        rw [← hm2]
        split
        · exact (A2.w (by omega)).w (by omega)
        · exact A2.w (by omega)
      have row : ∀ r, r < 8 → m2 38 r = rdg (tw σ d t u) d (t + n) r := by
        intro r hr
        rw [← hm2]
        exact row_tw hu hmo A3 r hr
      have l16 := c16 hI s2 row hv
      have l18 := c18 hI s2 (rdg (tw σ d t u) d (t + n)) hv
      have et : hdd σ v mp d u t (n + 1) = !decide (mpo σ v (rdg (tw σ d t u) d (t + n)) = mp) := by
        show (hdd σ v mp d u t n && _) = _
        rw [h, Bool.true_and]
      have seg : ev 85 19 [.ref 0, .ref (pp v), .ref (dr d), .int mp, .int (nI t), .int (nI u), .int mo, .int (nI (t + n))] [] m rm = ev 85 64 [.ref 0, .ref (pp v), .ref (dr d), .int mp, .int (nI t), .int (nI u), .int mo, .int (nI (t + n))] [] m2 rm := by
        rw [← hm2, s85_19]
        have e' := nI_eqq (show t + n < 2 ^ 31 by omega) (show t < 2 ^ 31 by omega)
        by_cases e : n = 0
        · have q : (t + n = t) = True := eq_true (by omega)
          rw [if_pos e]
          simp only [s85_21, s85_22, s85_25, s85_28, s85_29, s85_31, s85_32, s85_35, s85_38, s85_39, s85_42, s85_43, s85_44, s85_45, s85_47, s85_48, s85_49, s85_51, s85_53, s85_56, s85_57, s85_60, s85_61, s85_63, ↓reduceIte, Option.bind_some, Option.toList, List.cons_append, List.nil_append, bB_0, bB_z, z01_0, z01_1, n01, n00, pm_ro_some, reduceCtorEq, if_true, if_false, and_self, and_true, true_and, not_true, not_false_eq_true, Nat.reduceLeDiff, Nat.reduceAdd, kdX, hx, dm, h1.d0 hd, D.le, lpF hk (show tk σ d < 2 ^ 31 by omega), A1, ix (show 2 < 8 by decide), ix (show 1 < 8 by decide), A3 2 (by decide), e', q]
        · have q : (t + n = t) = False := eq_false (by omega)
          rw [if_neg e]
          simp only [s85_21, s85_22, s85_25, s85_28, s85_29, s85_31, s85_32, s85_35, s85_38, s85_39, s85_42, s85_43, s85_44, s85_45, s85_47, s85_48, s85_49, s85_51, s85_53, ↓reduceIte, Option.bind_some, Option.toList, List.cons_append, List.nil_append, bB_0, bB_z, z01_0, z01_1, n01, n00, pm_ro_some, reduceCtorEq, if_true, if_false, and_self, and_true, true_and, not_true, not_false_eq_true, Nat.reduceLeDiff, Nat.reduceAdd, kdX, hx, dm, h1.d0 hd, D.le, lpF hk (show tk σ d < 2 ^ 31 by omega), A1, ix (show 2 < 8 by decide), A3 2 (by decide), e', q]
      rw [seg]
      by_cases g : mpo σ v (rdg (tw σ d t u) d (t + n)) = mp
      · refine ⟨m2, ?_, s2⟩
        have e2 : hdd σ v mp d u t (tk σ d - t) = false := by
          have := hdd_f (et.trans (by rw [decide_eq_true g]; rfl)) (tk σ d - t - (n + 1))
          rw [show n + 1 + (tk σ d - t - (n + 1)) = tk σ d - t by omega] at this
          exact this
        rw [e2]
        simp only [s85_64, s85_65, s85_66, s85_67, s85_70, s85_73, s85_76, s85_77, s85_80, s85_81, ↓reduceIte, Option.bind_some, Option.toList, List.cons_append, List.nil_append, bB_0, bB_z, z01_0, z01_1, n01, n00, pm_ro_some, reduceCtorEq, if_true, if_false, and_self, and_true, true_and, not_true, not_false_eq_true, Nat.reduceLeDiff, Nat.reduceAdd, kdX, hx, pm, l16, l18, g]
        rfl
      · obtain ⟨im', E1, E2⟩ := ih (et.trans (by rw [decide_eq_false g]; rfl)) m2 s2
        refine ⟨im', ?_, E2⟩
        rw [← E1]
        simp only [s85_64, s85_65, s85_66, s85_67, s85_70, s85_73, s85_76, s85_77, s85_80, s85_81, s85_82, s85_85, ↓reduceIte, Option.bind_some, Option.toList, List.cons_append, List.nil_append, bB_0, bB_z, z01_0, z01_1, n01, n00, pm_ro_some, reduceCtorEq, if_true, if_false, and_self, and_true, true_and, not_true, not_false_eq_true, Nat.reduceLeDiff, Nat.reduceAdd, kdX, hx, pm, l16, l18, g, nI_add, Nat.add_assoc]
  obtain ⟨im', E1, E2⟩ := key 0 (by omega) rfl im hs
  refine ⟨im', ?_, E2⟩
  rw [← E1, Nat.add_zero]
  have q3 : im (dr d + 3) t = σ 135 (40 * d + t) := by rw [hs.d hd 3 (by omega)]; exact (D.row t ht).2.2.1
  simp only [s85_0, s85_2, s85_3, s85_6, s85_8, s85_9, s85_12, s85_13, s85_15, s85_17, ↓reduceIte, Option.bind_some, Option.toList, List.cons_append, List.nil_append, bB_0, bB_z, z01_0, z01_1, n01, n00, pm_ro_some, reduceCtorEq, if_true, if_false, and_self, and_true, true_and, not_true, not_false_eq_true, Nat.reduceLeDiff, Nat.reduceAdd, kdX, dm, ix (show t < 40 by omega), q3, c174, hmo]
theorem c56 (hI : INV σ rm pp ll) (hs : SS σ im) {v d : Nat} (hv : v < 4) (hd : d < 6) (mp : Int32) : ∃ im', ev 56 39 [.ref 0, .int (nI v), pm_u, .int mp, .ref (dr d), .int (nI 0), pm_u] [] im rm = some (some (.int (spu σ v mp d 0 10)), im', rm) ∧ SS σ im' := by
  have hx := hI.x
  have D := hI.d d hd
  have dm := hI.dm hd
  have n40 := D.n40
  have hpv : rm 2 v = some (pp v) := hx.2.2.2.1 v hv
  have inner : ∀ u, u ≤ 9 → ∀ i, i ≤ tk σ d → ∀ m : IM, SS σ m → ∃ m', SS σ m' ∧ ev 56 49 [.ref 0, .int (nI v), pm_u, .int mp, .ref (dr d), .int (nI u), .int (nI i)] [] m rm = spk (spt σ v mp d u i (tk σ d - i)) (fun x => some (some (.int x), m', rm)) (ev 56 107 [.ref 0, .int (nI v), pm_u, .int mp, .ref (dr d), .int (nI u), pm_u] [] m' rm) := by
    intro u hu
    refine dn ?_ ?_
    · intro m h1
      refine ⟨m, h1, ?_⟩
      rw [Nat.sub_self]
      simp only [s56_49, s56_51, s56_53, s56_56, ↓reduceIte, Option.bind_some, Option.toList, List.cons_append, List.nil_append, bB_0, bB_z, z01_0, z01_1, n01, n00, pm_ro_some, reduceCtorEq, if_true, if_false, and_self, and_true, true_and, not_true, not_false_eq_true, Nat.reduceLeDiff, Nat.reduceAdd, kdX, dm, h1.d0 hd, D.le, lpT, spt, spk]
    · intro i hi ih m h1
      have q3 : m (dr d + 3) i = σ 135 (40 * d + i) := by rw [h1.d hd 3 (by omega)]; exact (D.row i hi).2.2.1
      have e : spt σ v mp d u i (tk σ d - i) = if spc σ v mp d u i = true then some (64 * u + i) else spt σ v mp d u (i + 1) (tk σ d - (i + 1)) := by
        rw [show tk σ d - i = tk σ d - (i + 1) + 1 by omega]
        rfl
      rw [e]
      by_cases g : σ 135 (40 * d + i) = nI u
      · obtain ⟨m', E1, E2⟩ := ih m h1
        refine ⟨m', E1, ?_⟩
        have sp : spc σ v mp d u i = false := by unfold spc; rw [decide_eq_true g]; rfl
        rw [sp, if_neg (by decide), ← E2, s56_49]
        simp only [s56_51, s56_53, s56_56, s56_59, s56_61, s56_64, s56_66, s56_67, s56_69, s56_101, s56_104, ↓reduceIte, Option.bind_some, Option.toList, List.cons_append, List.nil_append, bB_0, bB_z, z01_0, z01_1, n01, n00, pm_ro_some, reduceCtorEq, if_true, if_false, and_self, and_true, true_and, not_true, not_false_eq_true, Nat.reduceLeDiff, Nat.reduceAdd, kdX, dm, h1.d0 hd, D.le, lpF hi (show tk σ d < 2 ^ 31 by omega), ix (show i < 40 by omega), q3, g, nI_add]
      · obtain ⟨m1, A1, A2⟩ := c85 hI h1 hv hd hi hu mp
        have sp : spc σ v mp d u i = hdd σ v mp d u i (tk σ d - i) := by unfold spc; rw [decide_eq_false g]; rfl
        rw [sp]
        by_cases g2 : hdd σ v mp d u i (tk σ d - i) = true
        · refine ⟨m1, A2, ?_⟩
          rw [if_pos g2, s56_49]
          simp only [s56_51, s56_53, s56_56, s56_59, s56_61, s56_64, s56_66, s56_67, s56_69, s56_72, s56_73, s56_74, s56_77, s56_78, s56_79, s56_81, s56_82, s56_84, s56_86, s56_89, s56_92, s56_94, s56_96, s56_97, s56_99, s56_100, ↓reduceIte, Option.bind_some, Option.toList, List.cons_append, List.nil_append, bB_0, bB_z, z01_0, z01_1, n01, n00, pm_ro_some, reduceCtorEq, if_true, if_false, and_self, and_true, true_and, not_true, not_false_eq_true, Nat.reduceLeDiff, Nat.reduceAdd, kdX, hx, dm, hpv, ix hv, h1.d0 hd, D.le, lpF hi (show tk σ d < 2 ^ 31 by omega), ix (show i < 40 by omega), q3, g, A1, g2, pk_mul, nI_add, spk]
        · obtain ⟨m', E1, E2⟩ := ih m1 A2
          refine ⟨m', E1, ?_⟩
          rw [if_neg g2, ← E2, s56_49]
          simp only [s56_51, s56_53, s56_56, s56_59, s56_61, s56_64, s56_66, s56_67, s56_69, s56_72, s56_73, s56_74, s56_77, s56_78, s56_79, s56_81, s56_82, s56_84, s56_86, s56_89, s56_101, s56_104, ↓reduceIte, Option.bind_some, Option.toList, List.cons_append, List.nil_append, bB_0, bB_z, z01_0, z01_1, n01, n00, pm_ro_some, reduceCtorEq, if_true, if_false, and_self, and_true, true_and, not_true, not_false_eq_true, Nat.reduceLeDiff, Nat.reduceAdd, kdX, hx, dm, hpv, ix hv, h1.d0 hd, D.le, lpF hi (show tk σ d < 2 ^ 31 by omega), ix (show i < 40 by omega), q3, g, A1, g2, nI_add]
  have outer : ∀ u, u ≤ 10 → ∀ m : IM, SS σ m → ∃ im', ev 56 39 [.ref 0, .int (nI v), pm_u, .int mp, .ref (dr d), .int (nI u), pm_u] [] m rm = some (some (.int (spu σ v mp d u (10 - u))), im', rm) ∧ SS σ im' := by
    refine dn ?_ ?_
    · intro m h1
      exact ⟨m, by simp only [s56_39, s56_41, s56_43, s56_113, s56_114, ↓reduceIte, Option.bind_some, Option.toList, List.cons_append, List.nil_append, bB_0, bB_z, z01_0, z01_1, n01, n00, pm_ro_some, reduceCtorEq, if_true, if_false, and_self, and_true, true_and, not_true, not_false_eq_true, Nat.reduceLeDiff, Nat.reduceAdd, kdX, lpF (show 9 < 10 by decide) (show 10 < 2 ^ 31 by decide), Nat.sub_self, spu], h1⟩
    · intro u hu ih m h1
      obtain ⟨m', E1, E2⟩ := inner u (by omega) 0 (by omega) m h1
      rw [Nat.sub_zero] at E2
      have e : spu σ v mp d u (10 - u) = match spt σ v mp d u 0 (tk σ d) with
          | some x => nI x
          | none => spu σ v mp d (u + 1) (10 - (u + 1)) := by
        rw [show 10 - u = 10 - (u + 1) + 1 by omega]
        rfl
      rw [e]
      generalize spt σ v mp d u 0 (tk σ d) = o at E2 ⊢
      cases o with
      | some x =>
        refine ⟨m', ?_, E1⟩
        simp only [s56_39, s56_41, s56_43, s56_46, s56_47, ↓reduceIte, Option.bind_some, Option.toList, List.cons_append, List.nil_append, bB_0, bB_z, z01_0, z01_1, n01, n00, pm_ro_some, reduceCtorEq, if_true, if_false, and_self, and_true, true_and, not_true, not_false_eq_true, Nat.reduceLeDiff, Nat.reduceAdd, kdX, lpG (show u ≤ 9 by omega) (show 9 < 2 ^ 31 by decide), E2, spk]
      | none =>
        obtain ⟨im', F1, F2⟩ := ih m' E1
        refine ⟨im', ?_, F2⟩
        simp only
        rw [← F1, s56_39]
        simp only [s56_41, s56_43, s56_46, s56_47, s56_107, s56_110, ↓reduceIte, Option.bind_some, Option.toList, List.cons_append, List.nil_append, bB_0, bB_z, z01_0, z01_1, n01, n00, pm_ro_some, reduceCtorEq, if_true, if_false, and_self, and_true, true_and, not_true, not_false_eq_true, Nat.reduceLeDiff, Nat.reduceAdd, kdX, lpG (show u ≤ 9 by omega) (show 9 < 2 ^ 31 by decide), E2, spk, nI_add]
  exact outer 0 (by omega) im hs
theorem c144 (hI : INV σ rm pp ll) (hs : SS σ im) {v d : Nat} (hv : v < 4) (hd : d < 6) (mp : Int32) : ev 144 27 [.ref 129, .int (nI v), .int (nI d), .int mp, .int (nI 0), pm_u, pm_u, pm_u, pm_u] [] im rm = some (some (.int (spu σ v mp d 0 10)), im, rm) := by
  have hm := hI.m
  have D := hI.d d hd
  have n40 := D.n40
  have mn : im 132 d = nI (tk σ d) := by rw [(hs.m d).2.2.1]; exact D.mn
  have look : ∀ u, u ≤ 9 → ∀ i, i < tk σ d → ∀ b0 : Bool, ∀ n, n ≤ tk σ d - i → ev 144 94 [.ref 129, .int (nI v), .int (nI d), .int mp, .int (nI u), .int (nI i), .int (σ 135 (40 * d + i)), .int (bB (b0 && hdd σ v mp d u i n)), .int (nI (i + n))] [] (pm_w2 im 135 (40 * d + i) (nI u)) rm = ev 144 135 [.ref 129, .int (nI v), .int (nI d), .int mp, .int (nI u), .int (nI i), .int (σ 135 (40 * d + i)), .int (bB (b0 && hdd σ v mp d u i (tk σ d - i))), pm_u] [] (pm_w2 im 135 (40 * d + i) (nI u)) rm := by
    intro u hu i hi b0
    have mn1 : pm_w2 im 135 (40 * d + i) (nI u) 132 d = nI (tk σ d) := by rw [w2_a (by decide)]; exact mn
    have s1 : SS (tw σ d i u) (pm_w2 im 135 (40 * d + i) (nI u)) := by
      refine ⟨fun a j h1 h2 => ?_, fun a j h1 h2 => ?_, fun j h1 => ?_⟩
      · rw [w2_a (by omega), tw_n _ _ _ _ (by omega)]; exact hs.1 a j h1 h2
      · by_cases e : a = 135 ∧ j = 40 * d + i
        · rw [e.1, e.2, w2_s, tw_s]
        · rw [w2_n e, tw_n _ _ _ _ e]; exact hs.2.1 a j h1 h2
      · rw [w2_a (by omega), tw_n _ _ _ _ (by omega)]; exact hs.2.2 j h1
    have hp := hI.r.p v (by omega)
    have P1 : IP (tw σ d i u) (pp v) v := (hI.p v hv).cg (fun j k hj => tw_n _ _ _ _ (by omega)) (tw_n _ _ _ _ (by omega)) (fun k hk => ⟨tw_n _ _ _ _ (by omega), tw_n _ _ _ _ (by omega)⟩) (fun k hk => ⟨tw_n _ _ _ _ (by omega), tw_n _ _ _ _ (by omega), tw_n _ _ _ _ (by omega)⟩)
    refine dn ?_ ?_
    · rw [show i + (tk σ d - i) = tk σ d by omega]
      simp only [s144_94, s144_96, s144_97, s144_100, s144_101, s144_102, ↓reduceIte, Option.bind_some, Option.toList, List.cons_append, List.nil_append, bB_0, bB_z, z01_0, z01_1, n01, n00, pm_ro_some, reduceCtorEq, if_true, if_false, and_self, and_true, true_and, not_true, not_false_eq_true, Nat.reduceLeDiff, Nat.reduceAdd, kdM, hm, ix hd, mn1, lpT]
    · intro n hn ih
      have k := c134 hm s1 P1 hv hd (show i + n < 40 by omega)
      rw [mpo_cg (σ := σ) (fun a j h1 h2 => tw_n _ _ _ _ (by omega))] at k
      have e : hdd σ v mp d u i (n + 1) = (hdd σ v mp d u i n && !decide (mpo σ v (rdg (tw σ d i u) d (i + n)) = mp)) := rfl
      rw [← ih, s144_94, e]
      by_cases b : (b0 && hdd σ v mp d u i n) = true
      · by_cases g : mpo σ v (rdg (tw σ d i u) d (i + n)) = mp
        · rw [← Bool.and_assoc, b, decide_eq_true g]
          simp only [s144_96, s144_97, s144_100, s144_101, s144_102, s144_105, s144_107, s144_110, s144_111, s144_112, s144_113, s144_115, s144_118, s144_119, s144_122, s144_123, s144_126, s144_127, s144_129, s144_132, ↓reduceIte, Option.bind_some, Option.toList, List.cons_append, List.nil_append, bB_0, bB_z, z01_0, z01_1, n01, n00, pm_ro_some, reduceCtorEq, if_true, if_false, and_self, and_true, true_and, not_true, not_false_eq_true, Nat.reduceLeDiff, Nat.reduceAdd, kdM, hm, ix hd, mn1, lpF (show i + n < tk σ d by omega) (show tk σ d < 2 ^ 31 by omega), k, g, nI_add, Nat.add_assoc, Bool.not_true, Bool.and_false, bB, cond_true, cond_false]
        · rw [← Bool.and_assoc, b, decide_eq_false g]
          simp only [s144_96, s144_97, s144_100, s144_101, s144_102, s144_105, s144_107, s144_110, s144_111, s144_112, s144_113, s144_115, s144_118, s144_119, s144_122, s144_123, s144_126, s144_127, s144_129, s144_132, ↓reduceIte, Option.bind_some, Option.toList, List.cons_append, List.nil_append, bB_0, bB_z, z01_0, z01_1, n01, n00, pm_ro_some, reduceCtorEq, if_true, if_false, and_self, and_true, true_and, not_true, not_false_eq_true, Nat.reduceLeDiff, Nat.reduceAdd, kdM, hm, ix hd, mn1, lpF (show i + n < tk σ d by omega) (show tk σ d < 2 ^ 31 by omega), k, g, nI_add, Nat.add_assoc, Bool.not_false, Bool.and_true, bB, cond_true, cond_false]
      · rw [← Bool.and_assoc, bf b, Bool.false_and]
        simp only [s144_96, s144_97, s144_100, s144_101, s144_102, s144_105, s144_107, s144_110, s144_111, s144_112, s144_113, s144_115, s144_118, s144_119, s144_122, s144_123, s144_126, s144_127, s144_129, s144_132, ↓reduceIte, Option.bind_some, Option.toList, List.cons_append, List.nil_append, bB_0, bB_z, z01_0, z01_1, n01, n00, pm_ro_some, reduceCtorEq, if_true, if_false, and_self, and_true, true_and, not_true, not_false_eq_true, Nat.reduceLeDiff, Nat.reduceAdd, kdM, hm, ix hd, mn1, lpF (show i + n < tk σ d by omega) (show tk σ d < 2 ^ 31 by omega), nI_add, Nat.add_assoc, bB, cond_true, cond_false]
  have inner : ∀ u, u ≤ 9 → ∀ i, i ≤ tk σ d → ev 144 37 [.ref 129, .int (nI v), .int (nI d), .int mp, .int (nI u), .int (nI i), pm_u, pm_u, pm_u] [] im rm = spk (spt σ v mp d u i (tk σ d - i)) (fun x => some (some (.int x), im, rm)) (ev 144 169 [.ref 129, .int (nI v), .int (nI d), .int mp, .int (nI u), pm_u, pm_u, pm_u, pm_u] [] im rm) := by
    intro u hu
    refine dn ?_ ?_
    · rw [Nat.sub_self]
      simp only [s144_37, s144_39, s144_40, s144_43, s144_44, s144_45, ↓reduceIte, Option.bind_some, Option.toList, List.cons_append, List.nil_append, bB_0, bB_z, z01_0, z01_1, n01, n00, pm_ro_some, reduceCtorEq, if_true, if_false, and_self, and_true, true_and, not_true, not_false_eq_true, Nat.reduceLeDiff, Nat.reduceAdd, kdM, hm, ix hd, mn, lpT, spt, spk]
    · intro i hi ih
      have q3 : im 135 (40 * d + i) = σ 135 (40 * d + i) := (hs.m _).2.2.2.2.2.1
      have e : spt σ v mp d u i (tk σ d - i) = if spc σ v mp d u i = true then some (64 * u + i) else spt σ v mp d u (i + 1) (tk σ d - (i + 1)) := by
        rw [show tk σ d - i = tk σ d - (i + 1) + 1 by omega]
        rfl
      have back : pm_w2 (pm_w2 im 135 (40 * d + i) (nI u)) 135 (40 * d + i) (σ 135 (40 * d + i)) = im := by rw [← q3]; exact w2_back
      have L := look u hu i hi (!decide (σ 135 (40 * d + i) = nI u)) 0 (by omega)
      have z : hdd σ v mp d u i 0 = true := rfl
      rw [z, Bool.and_true, Nat.add_zero] at L
      have sp : (!decide (σ 135 (40 * d + i) = nI u) && hdd σ v mp d u i (tk σ d - i)) = spc σ v mp d u i := rfl
      rw [sp] at L
      have seg : ev 144 37 [.ref 129, .int (nI v), .int (nI d), .int mp, .int (nI u), .int (nI i), pm_u, pm_u, pm_u] [] im rm = ev 144 94 [.ref 129, .int (nI v), .int (nI d), .int mp, .int (nI u), .int (nI i), .int (σ 135 (40 * d + i)), .int (bB (!decide (σ 135 (40 * d + i) = nI u))), .int (nI i)] [] (pm_w2 im 135 (40 * d + i) (nI u)) rm := by
        by_cases g : σ 135 (40 * d + i) = nI u
        · rw [decide_eq_true g]
          simp only [s144_37, s144_39, s144_40, s144_43, s144_44, s144_45, s144_48, s144_49, s144_52, s144_54, s144_55, s144_56, s144_58, s144_59, s144_60, s144_62, s144_63, s144_66, s144_68, s144_69, s144_70, s144_72, s144_73, s144_75, s144_76, s144_78, s144_80, s144_83, s144_84, s144_87, s144_88, s144_90, s144_92, ↓reduceIte, Option.bind_some, Option.toList, List.cons_append, List.nil_append, bB_0, bB_z, z01_0, z01_1, n01, n00, pm_ro_some, reduceCtorEq, if_true, if_false, and_self, and_true, true_and, not_true, not_false_eq_true, Nat.reduceLeDiff, Nat.reduceAdd, kdM, hm, ix hd, mn, lpF hi (show tk σ d < 2 ^ 31 by omega), i40, ix (show 40 * d + i < 240 by omega), q3, g, Bool.not_true, bB, cond_false]
        · rw [decide_eq_false g]
          simp only [s144_37, s144_39, s144_40, s144_43, s144_44, s144_45, s144_48, s144_49, s144_52, s144_54, s144_55, s144_56, s144_58, s144_59, s144_60, s144_62, s144_63, s144_66, s144_68, s144_69, s144_70, s144_72, s144_73, s144_75, s144_76, s144_78, s144_80, s144_83, s144_84, s144_87, s144_88, s144_90, s144_92, ↓reduceIte, Option.bind_some, Option.toList, List.cons_append, List.nil_append, bB_0, bB_z, z01_0, z01_1, n01, n00, pm_ro_some, reduceCtorEq, if_true, if_false, and_self, and_true, true_and, not_true, not_false_eq_true, Nat.reduceLeDiff, Nat.reduceAdd, kdM, hm, ix hd, mn, lpF hi (show tk σ d < 2 ^ 31 by omega), i40, ix (show 40 * d + i < 240 by omega), q3, g, Bool.not_false, bB, cond_true]
      rw [seg, L, e]
      by_cases g : spc σ v mp d u i = true
      · rw [if_pos g, g]
        simp only [s144_135, s144_136, s144_139, s144_141, s144_142, s144_143, s144_145, s144_146, s144_148, s144_149, s144_151, s144_154, s144_156, s144_158, s144_159, s144_161, s144_162, ↓reduceIte, Option.bind_some, Option.toList, List.cons_append, List.nil_append, bB_0, bB_z, z01_0, z01_1, n01, n00, pm_ro_some, reduceCtorEq, if_true, if_false, and_self, and_true, true_and, not_true, not_false_eq_true, Nat.reduceLeDiff, Nat.reduceAdd, kdM, hm, i40, ix (show 40 * d + i < 240 by omega), back, bB, cond_true, pk_mul, nI_add, spk]
      · rw [if_neg g, bf g, ← ih]
        simp only [s144_135, s144_136, s144_139, s144_141, s144_142, s144_143, s144_145, s144_146, s144_148, s144_149, s144_151, s144_163, s144_166, ↓reduceIte, Option.bind_some, Option.toList, List.cons_append, List.nil_append, bB_0, bB_z, z01_0, z01_1, n01, n00, pm_ro_some, reduceCtorEq, if_true, if_false, and_self, and_true, true_and, not_true, not_false_eq_true, Nat.reduceLeDiff, Nat.reduceAdd, kdM, hm, i40, ix (show 40 * d + i < 240 by omega), back, bB, cond_false, nI_add]
  have outer : ∀ u, u ≤ 10 → ev 144 27 [.ref 129, .int (nI v), .int (nI d), .int mp, .int (nI u), pm_u, pm_u, pm_u, pm_u] [] im rm = some (some (.int (spu σ v mp d u (10 - u))), im, rm) := by
    refine dn ?_ ?_
    · simp only [s144_27, s144_29, s144_31, s144_175, s144_176, ↓reduceIte, Option.bind_some, Option.toList, List.cons_append, List.nil_append, bB_0, bB_z, z01_0, z01_1, n01, n00, pm_ro_some, reduceCtorEq, if_true, if_false, and_self, and_true, true_and, not_true, not_false_eq_true, Nat.reduceLeDiff, Nat.reduceAdd, kdM, lpT, Nat.sub_self, spu]
    · intro u hu ih
      have E2 := inner u (by omega) 0 (by omega)
      rw [Nat.sub_zero] at E2
      have e : spu σ v mp d u (10 - u) = match spt σ v mp d u 0 (tk σ d) with
          | some x => nI x
          | none => spu σ v mp d (u + 1) (10 - (u + 1)) := by
        rw [show 10 - u = 10 - (u + 1) + 1 by omega]
        rfl
      rw [e]
      generalize spt σ v mp d u 0 (tk σ d) = o at E2 ⊢
      cases o with
      | some x => simp only [s144_27, s144_29, s144_31, s144_34, s144_35, ↓reduceIte, Option.bind_some, Option.toList, List.cons_append, List.nil_append, bB_0, bB_z, z01_0, z01_1, n01, n00, pm_ro_some, reduceCtorEq, if_true, if_false, and_self, and_true, true_and, not_true, not_false_eq_true, Nat.reduceLeDiff, Nat.reduceAdd, kdM, lpF hu (show 10 < 2 ^ 31 by decide), E2, spk]
      | none =>
        simp only
        rw [← ih, s144_27]
        simp only [s144_29, s144_31, s144_34, s144_35, s144_169, s144_172, ↓reduceIte, Option.bind_some, Option.toList, List.cons_append, List.nil_append, bB_0, bB_z, z01_0, z01_1, n01, n00, pm_ro_some, reduceCtorEq, if_true, if_false, and_self, and_true, true_and, not_true, not_false_eq_true, Nat.reduceLeDiff, Nat.reduceAdd, kdM, lpF hu (show 10 < 2 ^ 31 by decide), E2, spk, nI_add]
  exact outer 0 (by omega)
theorem p56 (hI : INV im rm pp ll) (v d mp : Int32) : PAIR 56 [.ref 0, .int v, .int d, .int mp, pm_u, pm_u, pm_u] 144 [.ref 129, .int v, .int d, .int mp, pm_u, pm_u, pm_u, pm_u, pm_u] im rm := by
  have hx := hI.x
  have hm := hI.m
  by_cases g0 : pm_in v 4 = true
  rotate_left
  · exact PAIR.q hI (-2) ⟨im, by simp only [s56_0, s56_1, s56_2, s56_5, s56_8, s56_9, s56_11, s56_14, s56_17, s56_18, s56_19, s56_22, s56_25, s56_27, s56_28, ↓reduceIte, Option.bind_some, Option.toList, List.cons_append, List.nil_append, bB_0, bB_z, z01_0, z01_1, n01, n00, pm_ro_some, reduceCtorEq, if_true, if_false, and_self, and_true, true_and, not_true, not_false_eq_true, Nat.reduceLeDiff, Nat.reduceAdd, kdX, b75_4, b75_6, g0, hx], SS.rf⟩ (fun im1 s1 => ⟨im1, by simp only [s144_0, s144_1, s144_4, s144_7, s144_8, s144_11, s144_14, s144_15, s144_18, s144_21, s144_23, s144_24, ↓reduceIte, Option.bind_some, Option.toList, List.cons_append, List.nil_append, bB_0, bB_z, z01_0, z01_1, n01, n00, pm_ro_some, reduceCtorEq, if_true, if_false, and_self, and_true, true_and, not_true, not_false_eq_true, Nat.reduceLeDiff, Nat.reduceAdd, kdM, c106, c105, hm, g0], s1⟩)
  by_cases g1 : pm_in d 6 = true
  rotate_left
  · exact PAIR.q hI (-2) ⟨im, by simp only [s56_0, s56_1, s56_2, s56_5, s56_8, s56_9, s56_11, s56_14, s56_17, s56_18, s56_19, s56_22, s56_25, s56_27, s56_28, ↓reduceIte, Option.bind_some, Option.toList, List.cons_append, List.nil_append, bB_0, bB_z, z01_0, z01_1, n01, n00, pm_ro_some, reduceCtorEq, if_true, if_false, and_self, and_true, true_and, not_true, not_false_eq_true, Nat.reduceLeDiff, Nat.reduceAdd, kdX, b75_4, b75_6, g0, g1, hx], SS.rf⟩ (fun im1 s1 => ⟨im1, by simp only [s144_0, s144_1, s144_4, s144_7, s144_8, s144_11, s144_14, s144_15, s144_18, s144_21, s144_23, s144_24, ↓reduceIte, Option.bind_some, Option.toList, List.cons_append, List.nil_append, bB_0, bB_z, z01_0, z01_1, n01, n00, pm_ro_some, reduceCtorEq, if_true, if_false, and_self, and_true, true_and, not_true, not_false_eq_true, Nat.reduceLeDiff, Nat.reduceAdd, kdM, c106, c105, hm, g0, g1], s1⟩)
  by_cases g2 : pm_in mp 4 = true
  rotate_left
  · exact PAIR.q hI (-2) ⟨im, by simp only [s56_0, s56_1, s56_2, s56_5, s56_8, s56_9, s56_11, s56_14, s56_17, s56_18, s56_19, s56_22, s56_25, s56_27, s56_28, ↓reduceIte, Option.bind_some, Option.toList, List.cons_append, List.nil_append, bB_0, bB_z, z01_0, z01_1, n01, n00, pm_ro_some, reduceCtorEq, if_true, if_false, and_self, and_true, true_and, not_true, not_false_eq_true, Nat.reduceLeDiff, Nat.reduceAdd, kdX, b75_4, b75_6, g0, g1, g2, hx], SS.rf⟩ (fun im1 s1 => ⟨im1, by simp only [s144_0, s144_1, s144_4, s144_7, s144_8, s144_11, s144_14, s144_15, s144_18, s144_21, s144_23, s144_24, ↓reduceIte, Option.bind_some, Option.toList, List.cons_append, List.nil_append, bB_0, bB_z, z01_0, z01_1, n01, n00, pm_ro_some, reduceCtorEq, if_true, if_false, and_self, and_true, true_and, not_true, not_false_eq_true, Nat.reduceLeDiff, Nat.reduceAdd, kdM, c106, c105, hm, g0, g1, g2], s1⟩)
  obtain ⟨i, hi, rfl⟩ := pm_in_ex g0 (by decide)
  obtain ⟨j, hj, rfl⟩ := pm_in_ex g1 (by decide)
  obtain ⟨m1, A1, A2⟩ := c56 hI SS.rf hi hj mp
  refine PAIR.q hI (spu im i mp j 0 10) ⟨m1, ?_, A2⟩ (fun im1 s1 => ⟨im1, ?_, s1⟩)
  · simp only [s56_0, s56_1, s56_2, s56_5, s56_8, s56_9, s56_11, s56_14, s56_17, s56_18, s56_19, s56_22, s56_25, s56_27, s56_28, s56_29, s56_32, s56_33, s56_34, s56_36, s56_37, ↓reduceIte, Option.bind_some, Option.toList, List.cons_append, List.nil_append, bB_0, bB_z, z01_0, z01_1, n01, n00, pm_ro_some, reduceCtorEq, if_true, if_false, and_self, and_true, true_and, not_true, not_false_eq_true, Nat.reduceLeDiff, Nat.reduceAdd, kdX, b75_4, b75_6, g0, g1, g2, hx, hI.dm hj, ix hj, A1]
  · simp only [s144_0, s144_1, s144_4, s144_7, s144_8, s144_11, s144_14, s144_15, s144_18, s144_21, s144_23, s144_24, s144_25, ↓reduceIte, Option.bind_some, Option.toList, List.cons_append, List.nil_append, bB_0, bB_z, z01_0, z01_1, n01, n00, pm_ro_some, reduceCtorEq, if_true, if_false, and_self, and_true, true_and, not_true, not_false_eq_true, Nat.reduceLeDiff, Nat.reduceAdd, kdM, c106, c105, hm, g0, g1, g2, c144 hI s1 hi hj mp]
end SPY
