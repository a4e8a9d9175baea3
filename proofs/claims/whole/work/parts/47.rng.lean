-- needs: 46
/-! Bits of small numbers; how large what comes of a run can be. -/
theorem s31 : ∀ n, n < 32 → ((nI n &&& 31).toBitVec.smod 32).toNat = n := by decide
theorem nI_bv (n : Nat) : (nI n).toBitVec = BitVec.ofNat 32 n := rfl
theorem or_nI (a b : Nat) : nI a ||| nI b = nI (a ||| b) := by
  apply Int32.toBitVec_inj.mp
  rw [Int32.toBitVec_or, nI_bv, nI_bv, nI_bv]
  apply BitVec.eq_of_getLsbD_eq
  intro i hi
  simp [BitVec.getLsbD_or, BitVec.getLsbD_ofNat, Nat.testBit_or, hi]
theorem and_nI (a b : Nat) : nI a &&& nI b = nI (a &&& b) := by
  apply Int32.toBitVec_inj.mp
  rw [Int32.toBitVec_and, nI_bv, nI_bv, nI_bv]
  apply BitVec.eq_of_getLsbD_eq
  intro i hi
  simp [BitVec.getLsbD_and, BitVec.getLsbD_ofNat, Nat.testBit_and, hi]
theorem shl1 {v : Nat} (hv : v < 31) : nI 1 <<< (nI v &&& 31) = nI (2 ^ v) := by
  rw [pk_shlN _ v (s31 v (by omega)) (by rw [Nat.one_mul]; exact Nat.pow_lt_pow_right (by decide) (by omega)), Nat.one_mul]
theorem shr_and {n v : Nat} (hn : n < 2 ^ 31) (hv : v < 31) : (nI n >>> (nI v &&& 31)) &&& nI 1 = nI (n / 2 ^ v % 2) := by
  rw [pk_shrN hn _ v (s31 v (by omega)), and_nI, Nat.and_one_is_mod]
theorem bt_nI {n v : Nat} (hn : n < 2 ^ 31) (hv : v < 31) : bt (nI n) v = n.testBit v := by
  unfold bt
  rw [shr_and hn hv, Nat.testBit_eq_decide_div_mod_eq]
  apply Bool.eq_iff_iff.mpr
  rw [decide_eq_true_eq, decide_eq_true_eq, nI_eqq (by omega) (by decide)]
theorem btc {n v : Nat} (hn : n < 2 ^ 31) (hv : v < 31) : ((nI n >>> (nI v &&& 31)) &&& nI 1 = nI 1) = (n.testBit v = true) := by
  rw [← bt_nI hn hv]
  unfold bt
  rw [decide_eq_true_eq]
theorem bt0 {n v : Nat} (hn : n < 2 ^ 31) (hv : v < 31) : ((nI n >>> (nI v &&& 31)) &&& nI 1 = nI 0) = (n.testBit v = false) := by
  rw [shr_and hn hv, Nat.testBit_eq_decide_div_mod_eq, decide_eq_false_iff_not, nI_eqq (by omega) (by decide)]
  apply propext
  omega
theorem nI_sbn {a b : Nat} (h : b ≤ a) : nI a - nI b = nI (a - b) := by
  have := nI_sb b (a - b)
  rw [show b + (a - b) = a by omega] at this
  exact this
theorem smf_rg {f : Nat → Int32} {c : Nat} : ∀ n, (∀ t, t < n → ∃ x, x ≤ c ∧ f t = nI x) → ∃ x, x ≤ c * n ∧ smf f n = nI x := by
  intro n
  induction n with
  | zero => intro _; exact ⟨0, by omega, rfl⟩
  | succ n ih =>
    intro h
    obtain ⟨x, hx, ex⟩ := ih (fun t ht => h t (by omega))
    obtain ⟨y, hy, ey⟩ := h n (by omega)
    refine ⟨x + y, by rw [Nat.mul_succ]; omega, ?_⟩
    show smf f n + f n = _
    rw [ex, ey, nI_add]
section RNG
variable {im σ : IM} {rm : RM} {pp ll : Nat → Nat}
theorem raw_rg (hI : INV σ rm pp ll) {d t : Nat} (hd : d < 6) (ht : t < tk σ d) : ∃ r, r ≤ 178 ∧ raw σ d t = nI r := by
  have G := (hI.d d hd).rng t ht
  obtain ⟨s, hs, es⟩ := pm_in_ex G.1 (by decide)
  obtain ⟨l, hl, el⟩ := pm_in_ex G.2.1 (by decide)
  refine ⟨l + s / 2, by omega, ?_⟩
  unfold raw
  rw [es, el, pk_div (by omega) (by decide) (by decide), nI_add]
theorem dos_rg (hI : INV σ rm pp ll) {v d t : Nat} (hv : v < 4) (hd : d < 6) (ht : t < tk σ d) : ∃ r, r ≤ 60 ∧ dos σ v d t = nI r := by
  have G := (hI.d d hd).rng t ht
  obtain ⟨c, hc, ec⟩ := cls G.1
  obtain ⟨mp, hmp, emp⟩ := pm_in_ex (mpo_rg (hI.p v hv) (rdg σ d t)) (by decide)
  obtain ⟨r, hr, er⟩ := pm_in_ex (hI.o mp c hmp hc).2 (by decide)
  refine ⟨r, by omega, ?_⟩
  unfold dos
  rw [ec, emp, nI_clamp (by omega), nI_clamp (by omega), er]
theorem lft_rg (hI : INV σ rm pp ll) {v d : Nat} (hv : v < 4) (hd : d < 6) : ∀ t, t ≤ tk σ d → ∃ x, x ≤ 9999 ∧ lft σ v d t = nI x := by
  intro t
  induction t with
  | zero =>
    intro _
    obtain ⟨x, hx, ex⟩ := pm_in_ex hI.s.2.1 (by decide)
    exact ⟨x, by omega, ex⟩
  | succ t ih =>
    intro ht
    obtain ⟨x, hx, ex⟩ := ih (by omega)
    obtain ⟨q, hq, eq⟩ := dos_rg hI hv hd (show t < tk σ d by omega)
    show ∃ x, x ≤ 9999 ∧ lft σ v d t - (if dos σ v d t < lft σ v d t then dos σ v d t else lft σ v d t) = nI x
    rw [ex, eq]
    by_cases g : q < x
    · rw [if_pos (nI_lt g (by omega)), nI_sbn (by omega)]
      exact ⟨x - q, by omega, rfl⟩
    · rw [if_neg (fun h => g ((nI_ltI (by omega) (by omega)).mp h)), nI_sbn (Nat.le_refl _)]
      exact ⟨x - x, by omega, rfl⟩
theorem usd_rg (hI : INV σ rm pp ll) {v d t : Nat} (hv : v < 4) (hd : d < 6) (ht : t < tk σ d) : ∃ r, r ≤ 60 ∧ usd σ v d t = nI r := by
  obtain ⟨x, hx, ex⟩ := lft_rg hI hv hd t (by omega)
  obtain ⟨q, hq, eq⟩ := dos_rg hI hv hd ht
  unfold usd
  rw [ex, eq]
  by_cases g : q < x
  · rw [if_pos (nI_lt g (by omega))]
    exact ⟨q, by omega, rfl⟩
  · rw [if_neg (fun h => g ((nI_ltI (by omega) (by omega)).mp h))]
    exact ⟨x, by omega, rfl⟩
theorem air_rg (hI : INV σ rm pp ll) {v d t : Nat} (hv : v < 4) (hd : d < 6) (ht : t < tk σ d) : ∃ r, r ≤ 198 ∧ air σ v d t = nI r := by
  obtain ⟨r, hr, er⟩ := raw_rg hI hd ht
  obtain ⟨u, hu, eu⟩ := usd_rg hI hv hd ht
  have ho : ∃ o, o ≤ r ∧ off σ v d t = nI o := by
    unfold off
    rw [er, eu, pk_mul]
    by_cases g : 4 * u < r
    · rw [if_pos (nI_lt g (by omega))]
      exact ⟨4 * u, by omega, rfl⟩
    · rw [if_neg (fun h => g ((nI_ltI (by omega) (by omega)).mp h))]
      exact ⟨r, by omega, rfl⟩
  obtain ⟨o, ho, eo⟩ := ho
  unfold air
  rw [er, eo, nI_sbn ho]
  cases brn σ d t
  · exact ⟨r - o + 0, by omega, by rw [← nI_add]; rfl⟩
  · exact ⟨r - o + 20, by omega, by rw [← nI_add]; rfl⟩
/-- all air, all used, as numbers -/
def aN (σ : IM) (v d : Nat) : Nat := (aA σ v d).toNatClampNeg
def uN (σ : IM) (v d : Nat) : Nat := (uU σ v d).toNatClampNeg
theorem aN_e (hI : INV σ rm pp ll) {v d : Nat} (hv : v < 4) (hd : d < 6) : aA σ v d = nI (aN σ v d) ∧ aN σ v d ≤ 7920 ∧ (tk σ d = 0 → aN σ v d = 0) := by
  obtain ⟨x, hx, ex⟩ := smf_rg (f := air σ v d) (tk σ d) (fun t ht => air_rg hI hv hd ht)
  have n40 := (hI.d d hd).n40
  have e : aA σ v d = nI x := ex
  have x2 : x ≤ 7920 := Nat.le_trans hx (Nat.mul_le_mul_left 198 n40)
  unfold aN
  rw [e, nI_clamp (by omega)]
  refine ⟨rfl, x2, fun h => ?_⟩
  rw [h] at hx
  omega
theorem uN_e (hI : INV σ rm pp ll) {v d : Nat} (hv : v < 4) (hd : d < 6) : uU σ v d = nI (uN σ v d) ∧ uN σ v d ≤ 2400 := by
  obtain ⟨x, hx, ex⟩ := smf_rg (f := usd σ v d) (tk σ d) (fun t ht => usd_rg hI hv hd ht)
  have n40 := (hI.d d hd).n40
  have e : uU σ v d = nI x := ex
  have x2 : x ≤ 2400 := Nat.le_trans hx (Nat.mul_le_mul_left 60 n40)
  unfold uN
  rw [e, nI_clamp (by omega)]
  exact ⟨rfl, x2⟩
theorem uor_e (hI : INV σ rm pp ll) {v : Nat} (hv : v < 4) : ∀ d, d ≤ 6 → ∃ x, x ≤ 2400 * d ∧ uor σ v d = nI x := by
  intro d
  induction d with
  | zero => intro _; exact ⟨0, by omega, rfl⟩
  | succ d ih =>
    intro hd
    obtain ⟨x, hx, ex⟩ := ih (by omega)
    have U := uN_e hI hv (show d < 6 by omega)
    unfold uor
    by_cases g : σ 130 d = nI 1
    · rw [if_pos g, ex, U.1, nI_add]
      exact ⟨x + uN σ v d, by omega, rfl⟩
    · rw [if_neg g]
      exact ⟨x, by omega, ex⟩
theorem lgle (x y : Int64) : (lg_cmp x y ≤ nI 0) = (x ≤ y) := by
  apply propext
  unfold lg_cmp
  by_cases h : x > y
  · have h2 := i64_lt y x |>.mp h
    simp only [h, if_true]
    constructor
    · intro q; exact absurd q (by decide)
    · intro q; rw [i64_le] at q; omega
  · have h2 : ¬ y.toInt < x.toInt := fun q => h ((i64_lt y x).mpr q)
    have h3 : x ≤ y := by rw [i64_le]; omega
    by_cases e : x = y
    · simp [h, e, nI]
    · simp [h, e, nI, h3]
theorem lNle {a b : Nat} (ha : a < 2 ^ 31) (hb : b < 2 ^ 31) : (lN a ≤ lN b) = (a ≤ b) := by
  rw [i64_le, lN_toInt ha, lN_toInt hb]
  apply propext
  omega
theorem nIle {a b : Nat} (ha : a < 2 ^ 31) (hb : b < 2 ^ 31) : (nI a ≤ nI b) = (a ≤ b) := propext (nI_leI ha hb)
theorem nIlt {a b : Nat} (ha : a < 2 ^ 31) (hb : b < 2 ^ 31) : (nI a < nI b) = (a < b) := propext (nI_ltI ha hb)
end RNG
