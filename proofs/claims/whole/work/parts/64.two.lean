-- needs: 63
/-! Two lines that are one; drafts; references that change places. -/
theorem nok_in {B : Nat → Int32} {N most : Nat} {T : Nat × Nat} (o : oT B N T) (hm : most ≤ 999) (h : nok B most T = true) : pm_in (nuv B T) (most + 1) = true := by
  unfold nok at h
  rw [Bool.and_eq_true, decide_eq_true_eq] at h
  have V := nuN_e o h.1
  have q := h.2
  rw [V.1] at q ⊢
  rw [nIle (by omega) (by omega)] at q
  exact pm_in_nI (by omega) (by omega)
theorem rdx_in {B : Nat → Int32} {T : Nat × Nat} (h : ¬ rdx B T = -1) : pm_in (rdx B T) 8 = true := by
  rcases rdx_or B T with q | ⟨q, hq, e⟩
  · exact absurd q h
  · rw [e]; exact pm_in_nI hq (by decide)
theorem bB_in (b : Bool) : pm_in (bB b) 2 = true := by cases b <;> decide
theorem in_mono {x : Int32} {a b : Nat} (h : pm_in x a = true) (hab : a ≤ b) : pm_in x b = true := by
  rw [pm_in_eq] at *
  omega
theorem cL_two {B : Nat → Int32} {N : Nat} {T : Nat × Nat} {x y x' y' : Int32} {f g h f' g' h' : Nat → Int32} {q q' : Nat} (o : oT B N T) (c : cL B N T x y f g h q) (c' : cL B N T x' y' f' g' h' q') : x = x' ∧ pm_in x' 4 = true ∧ ∃ n, n ≤ 4 ∧ y = nI n ∧ y' = nI n ∧ ∀ j, j < n → f (q + j) = f' (q' + j) ∧ pm_in (f' (q' + j)) 8 = true ∧ g (q + j) = g' (q' + j) ∧ pm_in (g' (q' + j)) 2 = true ∧ h (q + j) = h' (q' + j) ∧ pm_in (h' (q' + j)) 1000 = true := by
  obtain ⟨a1, a2, a3, a4⟩ := c
  obtain ⟨b1, b2, b3, b4⟩ := c'
  have o1 := oT_n o
  have o3 : oT B N (linT B N T) := oT_n (oT_n o1)
  refine ⟨a2.trans b2.symm, ?_, (lnp B N T).2.1, (lnp_o o).2, a3, b3, fun j hj => ?_⟩
  · rw [b2]; exact nok_in o1 (by decide) b1
  · obtain ⟨k1, k2, k3, k4⟩ := a4 j hj
    obtain ⟨l1, l2, l3, l4⟩ := b4 j hj
    have oj := oT_q o3 j
    unfold okT at l1
    rw [Bool.and_eq_true, Bool.and_eq_true] at l1
    have r : ¬ rdx B (qt B N (linT B N T) j) = -1 := fun q => by
      have := l1.1.1
      rw [decide_eq_true q] at this
      cases this
    refine ⟨k2.trans l2.symm, by rw [l2]; exact rdx_in r, k3.trans l3.symm, by rw [l3]; exact bB_in _, k4.trans l4.symm, by rw [l4]; exact nok_in (oT_n (oT_n oj)) (Nat.le_refl 999) l1.2⟩
theorem cW_two {B : Nat → Int32} {N : Nat} {T : Nat × Nat} {x y x' y' : Int32} (o : oT B N T) (c : cW B N T x y) (c' : cW B N T x' y') : x = x' ∧ pm_in x' 4 = true ∧ y = y' ∧ pm_in y' 1000 = true ∧ (nI 2 ≤ x' → pm_in y' 8 = true) := by
  obtain ⟨a1, a2, a3⟩ := c
  obtain ⟨_, b2, b3⟩ := c'
  have o1 := oT_n o
  refine ⟨a2.trans b2.symm, ?_, a3.trans b3.symm, ?_⟩
  · rw [b2]
    rcases kdx_or B T with q | q | q | q | q
    · exfalso
      unfold lwp at a1
      rw [if_pos q] at a1
      cases a1
    all_goals (rw [q]; decide)
  · rw [b2, b3]
    unfold lwp at a1
    unfold lwv
    by_cases g : kdx B T = -1
    · rw [if_pos g] at a1; cases a1
    rw [if_neg g] at a1
    by_cases gk : kdx B T = nI 0 ∨ kdx B T = nI 1
    · rw [if_pos gk] at a1
      rw [if_pos gk]
      refine ⟨nok_in o1 (Nat.le_refl 999) a1, fun q => ?_⟩
      exfalso
      rcases gk with e | e <;> rw [e] at q <;> revert q <;> decide
    · rw [if_neg gk] at a1
      rw [if_neg gk]
      have r : ¬ rdx B (nx B N T) = -1 := fun q => by
        have a2' : (!decide (rdx B (nx B N T) = -1)) = true := a1
        rw [decide_eq_true q] at a2'
        cases a2'
      exact ⟨in_mono (rdx_in r) (by decide), fun _ => rdx_in r⟩
theorem IP_of {B : Nat → Int32} {N : Nat} {m : IM} {a v c : Nat} (hc : c ≤ 6) (e1 : m 141 v = nI c) (e2 : m a 0 = nI c) (G : ∀ i, i < c → gP B N a i m) (H : ∀ i, i < c → cL B N (lst B N (LPt B N) (t0 B N) i) (m 142 (6 * v + i)) (m 143 (6 * v + i)) (m 144) (m 145) (m 146) (24 * v + 4 * i)) : IP m a v := by
  have ep : pn m v = c := by unfold pn; rw [e1, nI_clamp (by omega)]
  have two := fun i hi => cL_two (oT_l LPt_o i) (G i hi) (H i hi)
  refine ⟨by rw [ep]; exact e1, by omega, by rw [ep]; exact e2, fun i hi => ?_, fun i hi k hk => ?_⟩
  · rw [ep] at hi
    obtain ⟨a1, a2, n, n4, a3, a4, _⟩ := two i hi
    have et : tn m v i = n := by unfold tn; rw [a4, nI_clamp (by omega)]
    rw [et]
    exact ⟨a1, a2, a3, a4, n4⟩
  · rw [ep] at hi
    obtain ⟨a1, a2, n, n4, a3, a4, a5⟩ := two i hi
    have et : tn m v i = n := by unfold tn; rw [a4, nI_clamp (by omega)]
    rw [et] at hk
    have q := a5 k hk
    rw [Nat.add_assoc] at q
    exact q
theorem IL_of {B : Nat → Int32} {N : Nat} {m : IM} {a l c : Nat} (hc : c ≤ 8) (e1 : m 147 l = nI c) (e2 : m a 0 = nI c) (G : ∀ i, i < c → gW B N a i m) (H : ∀ i, i < c → cW B N (lst B N (LWt B N) (t0 B N) i) (m 148 (8 * l + i)) (m 149 (8 * l + i))) : IL m a l := by
  have ep : wn m l = c := by unfold wn; rw [e1, nI_clamp (by omega)]
  refine ⟨by rw [ep]; exact e1, by omega, by rw [ep]; exact e2, fun i hi => ?_⟩
  rw [ep] at hi
  exact cW_two (oT_l LWt_o i) (G i hi) (H i hi)
/-- v and the draft k change places -/
def sw (v k w : Nat) : Nat := if w = v then k else if w = k then v else w
theorem sw_lt {v k w n : Nat} (hv : v < n) (hk : k < n) (hw : w < n) : sw v k w < n := by
  unfold sw
  repeat' split
  all_goals omega
theorem sw_in {v k a b : Nat} (h : sw v k a = sw v k b) : a = b := by
  unfold sw at h
  repeat' split at h
  all_goals omega
theorem sw_v {v k : Nat} : sw v k v = k := if_pos rfl
theorem sw_k {v k : Nat} (h : v ≠ k) : sw v k k = v := by unfold sw; rw [if_neg (Ne.symm h), if_pos rfl]
theorem sw_o {v k w : Nat} (h : w ≠ v) (h' : w ≠ k) : sw v k w = w := by unfold sw; rw [if_neg h, if_neg h']
section TWO
variable {im im2 σ : IM} {rm : RM} {pp ll : Nat → Nat}
theorem PR.sp (h : PR pp ll) {v : Nat} (hv : v < 4) : PR (fun w => pp (sw v 4 w)) ll :=
  ⟨fun w hw => h.p _ (sw_lt (by omega) (by omega) hw), fun a b ha hb e => sw_in (h.pi _ _ (sw_lt (by omega) (by omega) ha) (sw_lt (by omega) (by omega) hb) e), h.l, h.li⟩
theorem PR.sl (h : PR pp ll) {v : Nat} (hv : v < 2) : PR pp (fun w => ll (sw v 2 w)) :=
  ⟨h.p, h.pi, fun w hw => h.l _ (sw_lt (by omega) (by omega) hw), fun a b ha hb e => sw_in (h.li _ _ (sw_lt (by omega) (by omega) ha) (sw_lt (by omega) (by omega) hb) e)⟩
theorem rmX.sp (hx : rmX rm pp ll) (hr : PR pp ll) {v : Nat} (hv : v < 4) : rmX (pm_w2 (pm_w2 rm 2 v (some (pp 4))) 0 11 (some (pp v))) (fun w => pp (sw v 4 w)) ll := by
  generalize hq : pm_w2 (pm_w2 rm 2 v (some (pp 4))) 0 11 (some (pp v)) = r
  have R : ∀ b i, ¬ (b = 2 ∧ i = v) → ¬ (b = 0 ∧ i = 11) → r b i = rm b i := fun b i q1 q2 => by rw [← hq, w2_n q2, w2_n q1]
  have rf : r 0 11 = some (pp v) := by rw [← hq, w2_s]
  have rc : r 2 v = some (pp 4) := by rw [← hq, w2_a (by omega), w2_s]
  refine ⟨⟨(R 0 0 (by omega) (by omega)).trans hx.1.1, (R 0 1 (by omega) (by omega)).trans hx.1.2.1, (R 0 2 (by omega) (by omega)).trans hx.1.2.2.1, (R 0 3 (by omega) (by omega)).trans hx.1.2.2.2.1, (R 0 4 (by omega) (by omega)).trans hx.1.2.2.2.2.1, (R 0 5 (by omega) (by omega)).trans hx.1.2.2.2.2.2.1, (R 0 6 (by omega) (by omega)).trans hx.1.2.2.2.2.2.2.1, (R 0 7 (by omega) (by omega)).trans hx.1.2.2.2.2.2.2.2.1, (R 0 8 (by omega) (by omega)).trans hx.1.2.2.2.2.2.2.2.2.1, (R 0 9 (by omega) (by omega)).trans hx.1.2.2.2.2.2.2.2.2.2.1, (by rw [rf]; show some (pp v) = some (pp (sw v 4 4)); rw [sw_k (by omega)]), (R 0 12 (by omega) (by omega)).trans hx.1.2.2.2.2.2.2.2.2.2.2.2.1, (R 0 13 (by omega) (by omega)).trans hx.1.2.2.2.2.2.2.2.2.2.2.2.2.1, (R 0 14 (by omega) (by omega)).trans hx.1.2.2.2.2.2.2.2.2.2.2.2.2.2.1, (R 0 15 (by omega) (by omega)).trans hx.1.2.2.2.2.2.2.2.2.2.2.2.2.2.2.1, (R 0 16 (by omega) (by omega)).trans hx.1.2.2.2.2.2.2.2.2.2.2.2.2.2.2.2.1, (R 0 17 (by omega) (by omega)).trans hx.1.2.2.2.2.2.2.2.2.2.2.2.2.2.2.2.2.1, (R 0 18 (by omega) (by omega)).trans hx.1.2.2.2.2.2.2.2.2.2.2.2.2.2.2.2.2.2⟩,
    ⟨(R 4 1 (by omega) (by omega)).trans hx.2.1.1, (R 14 1 (by omega) (by omega)).trans hx.2.1.2.1, (R 14 2 (by omega) (by omega)).trans hx.2.1.2.2.1, (R 14 3 (by omega) (by omega)).trans hx.2.1.2.2.2.1, (R 18 1 (by omega) (by omega)).trans hx.2.1.2.2.2.2.1, (R 18 2 (by omega) (by omega)).trans hx.2.1.2.2.2.2.2.1, (R 18 3 (by omega) (by omega)).trans hx.2.1.2.2.2.2.2.2.1, (R 18 4 (by omega) (by omega)).trans hx.2.1.2.2.2.2.2.2.2.1, (R 32 0 (by omega) (by omega)).trans hx.2.1.2.2.2.2.2.2.2.2.1, (R 32 1 (by omega) (by omega)).trans hx.2.1.2.2.2.2.2.2.2.2.2.1, (R 32 2 (by omega) (by omega)).trans hx.2.1.2.2.2.2.2.2.2.2.2.2.1, (R 32 3 (by omega) (by omega)).trans hx.2.1.2.2.2.2.2.2.2.2.2.2.2.1, (R 32 4 (by omega) (by omega)).trans hx.2.1.2.2.2.2.2.2.2.2.2.2.2.2⟩,
    fun w hw => (R 1 w (by omega) (by omega)).trans (hx.2.2.1 w hw),
    fun w hw => (by
    by_cases e : w = v
    · rw [e, rc]; show some (pp 4) = some (pp (sw v 4 v)); rw [sw_v]
    · rw [R _ _ (by omega) (by omega), hx.2.2.2.1 w hw]; show some (pp w) = some (pp (sw v 4 w)); rw [sw_o e (by omega)]),
    fun w hw => (R 3 w (by omega) (by omega)).trans (hx.2.2.2.2.1 w hw),
    fun w hw => (R 6 w (by omega) (by omega)).trans (hx.2.2.2.2.2.1 w hw),
    fun w hw => (R 39 w (by omega) (by omega)).trans (hx.2.2.2.2.2.2.1 w hw),
    fun w hw => (R 44 w (by omega) (by omega)).trans (hx.2.2.2.2.2.2.2.1 w hw),
    fun w hw => ⟨(R _ 4 (by unfold dr; omega) (by unfold dr; omega)).trans (hx.2.2.2.2.2.2.2.2.1 w hw).1, (R _ 5 (by unfold dr; omega) (by unfold dr; omega)).trans (hx.2.2.2.2.2.2.2.2.1 w hw).2.1, (R _ 6 (by unfold dr; omega) (by unfold dr; omega)).trans (hx.2.2.2.2.2.2.2.2.1 w hw).2.2.1, (R _ 7 (by unfold dr; omega) (by unfold dr; omega)).trans (hx.2.2.2.2.2.2.2.2.1 w hw).2.2.2.1, (R _ 8 (by unfold dr; omega) (by unfold dr; omega)).trans (hx.2.2.2.2.2.2.2.2.1 w hw).2.2.2.2.1, (R _ 9 (by unfold dr; omega) (by unfold dr; omega)).trans (hx.2.2.2.2.2.2.2.2.1 w hw).2.2.2.2.2.1, (R _ 10 (by unfold dr; omega) (by unfold dr; omega)).trans (hx.2.2.2.2.2.2.2.2.1 w hw).2.2.2.2.2.2⟩,
    fun w hw => (by
    have q := hr.p (sw v 4 w) (sw_lt (by omega) (by omega) hw)
    have z := hx.2.2.2.2.2.2.2.2.2.1 (sw v 4 w) (sw_lt (by omega) (by omega) hw)
    exact ⟨(R (pp (sw v 4 w)) 1 (by omega) (by omega)).trans z.1, (R (pp (sw v 4 w)) 2 (by omega) (by omega)).trans z.2.1, (R (pp (sw v 4 w)) 3 (by omega) (by omega)).trans z.2.2.1, (R (pp (sw v 4 w)) 4 (by omega) (by omega)).trans z.2.2.2.1, (R (pp (sw v 4 w)) 5 (by omega) (by omega)).trans z.2.2.2.2⟩),
    fun w hw => (by
    have q := hr.l w hw
    have z := hx.2.2.2.2.2.2.2.2.2.2 w hw
    exact ⟨(R (ll w) 1 (by omega) (by omega)).trans z.1, (R (ll w) 2 (by omega) (by omega)).trans z.2⟩)⟩
theorem rmM.sp (hm : rmM rm) {v : Nat} {x y : Option Nat} : rmM (pm_w2 (pm_w2 rm 2 v x) 0 11 y) := by
  generalize hq : pm_w2 (pm_w2 rm 2 v x) 0 11 y = r
  have R : ∀ i, r 129 i = rm 129 i := fun i => by rw [← hq, w2_a (by omega), w2_a (by omega)]
  exact ⟨(R 0).trans hm.1, (R 1).trans hm.2.1, (R 2).trans hm.2.2.1, (R 3).trans hm.2.2.2.1, (R 4).trans hm.2.2.2.2.1, (R 5).trans hm.2.2.2.2.2.1, (R 6).trans hm.2.2.2.2.2.2.1, (R 7).trans hm.2.2.2.2.2.2.2.1, (R 8).trans hm.2.2.2.2.2.2.2.2.1, (R 9).trans hm.2.2.2.2.2.2.2.2.2.1, (R 10).trans hm.2.2.2.2.2.2.2.2.2.2.1, (R 12).trans hm.2.2.2.2.2.2.2.2.2.2.2.1, (R 13).trans hm.2.2.2.2.2.2.2.2.2.2.2.2.1, (R 14).trans hm.2.2.2.2.2.2.2.2.2.2.2.2.2.1, (R 15).trans hm.2.2.2.2.2.2.2.2.2.2.2.2.2.2.1, (R 16).trans hm.2.2.2.2.2.2.2.2.2.2.2.2.2.2.2.1, (R 17).trans hm.2.2.2.2.2.2.2.2.2.2.2.2.2.2.2.2.1, (R 18).trans hm.2.2.2.2.2.2.2.2.2.2.2.2.2.2.2.2.2.1, (R 19).trans hm.2.2.2.2.2.2.2.2.2.2.2.2.2.2.2.2.2.2.1, (R 20).trans hm.2.2.2.2.2.2.2.2.2.2.2.2.2.2.2.2.2.2.2.1, (R 21).trans hm.2.2.2.2.2.2.2.2.2.2.2.2.2.2.2.2.2.2.2.2.1, (R 22).trans hm.2.2.2.2.2.2.2.2.2.2.2.2.2.2.2.2.2.2.2.2.2.1, (R 23).trans hm.2.2.2.2.2.2.2.2.2.2.2.2.2.2.2.2.2.2.2.2.2.2.1, (R 25).trans hm.2.2.2.2.2.2.2.2.2.2.2.2.2.2.2.2.2.2.2.2.2.2.2.1, (R 26).trans hm.2.2.2.2.2.2.2.2.2.2.2.2.2.2.2.2.2.2.2.2.2.2.2.2.1, (R 27).trans hm.2.2.2.2.2.2.2.2.2.2.2.2.2.2.2.2.2.2.2.2.2.2.2.2.2.1, (R 29).trans hm.2.2.2.2.2.2.2.2.2.2.2.2.2.2.2.2.2.2.2.2.2.2.2.2.2.2.1, (R 30).trans hm.2.2.2.2.2.2.2.2.2.2.2.2.2.2.2.2.2.2.2.2.2.2.2.2.2.2.2.1, (R 31).trans hm.2.2.2.2.2.2.2.2.2.2.2.2.2.2.2.2.2.2.2.2.2.2.2.2.2.2.2.2.1, (R 32).trans hm.2.2.2.2.2.2.2.2.2.2.2.2.2.2.2.2.2.2.2.2.2.2.2.2.2.2.2.2.2.1, (R 38).trans hm.2.2.2.2.2.2.2.2.2.2.2.2.2.2.2.2.2.2.2.2.2.2.2.2.2.2.2.2.2.2.1, (R 39).trans hm.2.2.2.2.2.2.2.2.2.2.2.2.2.2.2.2.2.2.2.2.2.2.2.2.2.2.2.2.2.2.2.1, (R 40).trans hm.2.2.2.2.2.2.2.2.2.2.2.2.2.2.2.2.2.2.2.2.2.2.2.2.2.2.2.2.2.2.2.2.1, (R 45).trans hm.2.2.2.2.2.2.2.2.2.2.2.2.2.2.2.2.2.2.2.2.2.2.2.2.2.2.2.2.2.2.2.2.2.1, (R 46).trans hm.2.2.2.2.2.2.2.2.2.2.2.2.2.2.2.2.2.2.2.2.2.2.2.2.2.2.2.2.2.2.2.2.2.2.1, (R 48).trans hm.2.2.2.2.2.2.2.2.2.2.2.2.2.2.2.2.2.2.2.2.2.2.2.2.2.2.2.2.2.2.2.2.2.2.2⟩
theorem rmX.sl (hx : rmX rm pp ll) (hr : PR pp ll) {v : Nat} (hv : v < 2) : rmX (pm_w2 (pm_w2 rm 3 v (some (ll 2))) 0 12 (some (ll v))) pp (fun w => ll (sw v 2 w)) := by
  generalize hq : pm_w2 (pm_w2 rm 3 v (some (ll 2))) 0 12 (some (ll v)) = r
  have R : ∀ b i, ¬ (b = 3 ∧ i = v) → ¬ (b = 0 ∧ i = 12) → r b i = rm b i := fun b i q1 q2 => by rw [← hq, w2_n q2, w2_n q1]
  have rf : r 0 12 = some (ll v) := by rw [← hq, w2_s]
  have rc : r 3 v = some (ll 2) := by rw [← hq, w2_a (by omega), w2_s]
  refine ⟨⟨(R 0 0 (by omega) (by omega)).trans hx.1.1, (R 0 1 (by omega) (by omega)).trans hx.1.2.1, (R 0 2 (by omega) (by omega)).trans hx.1.2.2.1, (R 0 3 (by omega) (by omega)).trans hx.1.2.2.2.1, (R 0 4 (by omega) (by omega)).trans hx.1.2.2.2.2.1, (R 0 5 (by omega) (by omega)).trans hx.1.2.2.2.2.2.1, (R 0 6 (by omega) (by omega)).trans hx.1.2.2.2.2.2.2.1, (R 0 7 (by omega) (by omega)).trans hx.1.2.2.2.2.2.2.2.1, (R 0 8 (by omega) (by omega)).trans hx.1.2.2.2.2.2.2.2.2.1, (R 0 9 (by omega) (by omega)).trans hx.1.2.2.2.2.2.2.2.2.2.1, (R 0 11 (by omega) (by omega)).trans hx.1.2.2.2.2.2.2.2.2.2.2.1, (by rw [rf]; show some (ll v) = some (ll (sw v 2 2)); rw [sw_k (by omega)]), (R 0 13 (by omega) (by omega)).trans hx.1.2.2.2.2.2.2.2.2.2.2.2.2.1, (R 0 14 (by omega) (by omega)).trans hx.1.2.2.2.2.2.2.2.2.2.2.2.2.2.1, (R 0 15 (by omega) (by omega)).trans hx.1.2.2.2.2.2.2.2.2.2.2.2.2.2.2.1, (R 0 16 (by omega) (by omega)).trans hx.1.2.2.2.2.2.2.2.2.2.2.2.2.2.2.2.1, (R 0 17 (by omega) (by omega)).trans hx.1.2.2.2.2.2.2.2.2.2.2.2.2.2.2.2.2.1, (R 0 18 (by omega) (by omega)).trans hx.1.2.2.2.2.2.2.2.2.2.2.2.2.2.2.2.2.2⟩,
    ⟨(R 4 1 (by omega) (by omega)).trans hx.2.1.1, (R 14 1 (by omega) (by omega)).trans hx.2.1.2.1, (R 14 2 (by omega) (by omega)).trans hx.2.1.2.2.1, (R 14 3 (by omega) (by omega)).trans hx.2.1.2.2.2.1, (R 18 1 (by omega) (by omega)).trans hx.2.1.2.2.2.2.1, (R 18 2 (by omega) (by omega)).trans hx.2.1.2.2.2.2.2.1, (R 18 3 (by omega) (by omega)).trans hx.2.1.2.2.2.2.2.2.1, (R 18 4 (by omega) (by omega)).trans hx.2.1.2.2.2.2.2.2.2.1, (R 32 0 (by omega) (by omega)).trans hx.2.1.2.2.2.2.2.2.2.2.1, (R 32 1 (by omega) (by omega)).trans hx.2.1.2.2.2.2.2.2.2.2.2.1, (R 32 2 (by omega) (by omega)).trans hx.2.1.2.2.2.2.2.2.2.2.2.2.1, (R 32 3 (by omega) (by omega)).trans hx.2.1.2.2.2.2.2.2.2.2.2.2.2.1, (R 32 4 (by omega) (by omega)).trans hx.2.1.2.2.2.2.2.2.2.2.2.2.2.2⟩,
    fun w hw => (R 1 w (by omega) (by omega)).trans (hx.2.2.1 w hw),
    fun w hw => (R 2 w (by omega) (by omega)).trans (hx.2.2.2.1 w hw),
    fun w hw => (by
    by_cases e : w = v
    · rw [e, rc]; show some (ll 2) = some (ll (sw v 2 v)); rw [sw_v]
    · rw [R _ _ (by omega) (by omega), hx.2.2.2.2.1 w hw]; show some (ll w) = some (ll (sw v 2 w)); rw [sw_o e (by omega)]),
    fun w hw => (R 6 w (by omega) (by omega)).trans (hx.2.2.2.2.2.1 w hw),
    fun w hw => (R 39 w (by omega) (by omega)).trans (hx.2.2.2.2.2.2.1 w hw),
    fun w hw => (R 44 w (by omega) (by omega)).trans (hx.2.2.2.2.2.2.2.1 w hw),
    fun w hw => ⟨(R _ 4 (by unfold dr; omega) (by unfold dr; omega)).trans (hx.2.2.2.2.2.2.2.2.1 w hw).1, (R _ 5 (by unfold dr; omega) (by unfold dr; omega)).trans (hx.2.2.2.2.2.2.2.2.1 w hw).2.1, (R _ 6 (by unfold dr; omega) (by unfold dr; omega)).trans (hx.2.2.2.2.2.2.2.2.1 w hw).2.2.1, (R _ 7 (by unfold dr; omega) (by unfold dr; omega)).trans (hx.2.2.2.2.2.2.2.2.1 w hw).2.2.2.1, (R _ 8 (by unfold dr; omega) (by unfold dr; omega)).trans (hx.2.2.2.2.2.2.2.2.1 w hw).2.2.2.2.1, (R _ 9 (by unfold dr; omega) (by unfold dr; omega)).trans (hx.2.2.2.2.2.2.2.2.1 w hw).2.2.2.2.2.1, (R _ 10 (by unfold dr; omega) (by unfold dr; omega)).trans (hx.2.2.2.2.2.2.2.2.1 w hw).2.2.2.2.2.2⟩,
    fun w hw => (by
    have q := hr.p w hw
    have z := hx.2.2.2.2.2.2.2.2.2.1 w hw
    exact ⟨(R (pp w) 1 (by omega) (by omega)).trans z.1, (R (pp w) 2 (by omega) (by omega)).trans z.2.1, (R (pp w) 3 (by omega) (by omega)).trans z.2.2.1, (R (pp w) 4 (by omega) (by omega)).trans z.2.2.2.1, (R (pp w) 5 (by omega) (by omega)).trans z.2.2.2.2⟩),
    fun w hw => (by
    have q := hr.l (sw v 2 w) (sw_lt (by omega) (by omega) hw)
    have z := hx.2.2.2.2.2.2.2.2.2.2 (sw v 2 w) (sw_lt (by omega) (by omega) hw)
    exact ⟨(R (ll (sw v 2 w)) 1 (by omega) (by omega)).trans z.1, (R (ll (sw v 2 w)) 2 (by omega) (by omega)).trans z.2⟩)⟩
theorem rmM.sl (hm : rmM rm) {v : Nat} {x y : Option Nat} : rmM (pm_w2 (pm_w2 rm 3 v x) 0 12 y) := by
  generalize hq : pm_w2 (pm_w2 rm 3 v x) 0 12 y = r
  have R : ∀ i, r 129 i = rm 129 i := fun i => by rw [← hq, w2_a (by omega), w2_a (by omega)]
  exact ⟨(R 0).trans hm.1, (R 1).trans hm.2.1, (R 2).trans hm.2.2.1, (R 3).trans hm.2.2.2.1, (R 4).trans hm.2.2.2.2.1, (R 5).trans hm.2.2.2.2.2.1, (R 6).trans hm.2.2.2.2.2.2.1, (R 7).trans hm.2.2.2.2.2.2.2.1, (R 8).trans hm.2.2.2.2.2.2.2.2.1, (R 9).trans hm.2.2.2.2.2.2.2.2.2.1, (R 10).trans hm.2.2.2.2.2.2.2.2.2.2.1, (R 12).trans hm.2.2.2.2.2.2.2.2.2.2.2.1, (R 13).trans hm.2.2.2.2.2.2.2.2.2.2.2.2.1, (R 14).trans hm.2.2.2.2.2.2.2.2.2.2.2.2.2.1, (R 15).trans hm.2.2.2.2.2.2.2.2.2.2.2.2.2.2.1, (R 16).trans hm.2.2.2.2.2.2.2.2.2.2.2.2.2.2.2.1, (R 17).trans hm.2.2.2.2.2.2.2.2.2.2.2.2.2.2.2.2.1, (R 18).trans hm.2.2.2.2.2.2.2.2.2.2.2.2.2.2.2.2.2.1, (R 19).trans hm.2.2.2.2.2.2.2.2.2.2.2.2.2.2.2.2.2.2.1, (R 20).trans hm.2.2.2.2.2.2.2.2.2.2.2.2.2.2.2.2.2.2.2.1, (R 21).trans hm.2.2.2.2.2.2.2.2.2.2.2.2.2.2.2.2.2.2.2.2.1, (R 22).trans hm.2.2.2.2.2.2.2.2.2.2.2.2.2.2.2.2.2.2.2.2.2.1, (R 23).trans hm.2.2.2.2.2.2.2.2.2.2.2.2.2.2.2.2.2.2.2.2.2.2.1, (R 25).trans hm.2.2.2.2.2.2.2.2.2.2.2.2.2.2.2.2.2.2.2.2.2.2.2.1, (R 26).trans hm.2.2.2.2.2.2.2.2.2.2.2.2.2.2.2.2.2.2.2.2.2.2.2.2.1, (R 27).trans hm.2.2.2.2.2.2.2.2.2.2.2.2.2.2.2.2.2.2.2.2.2.2.2.2.2.1, (R 29).trans hm.2.2.2.2.2.2.2.2.2.2.2.2.2.2.2.2.2.2.2.2.2.2.2.2.2.2.1, (R 30).trans hm.2.2.2.2.2.2.2.2.2.2.2.2.2.2.2.2.2.2.2.2.2.2.2.2.2.2.2.1, (R 31).trans hm.2.2.2.2.2.2.2.2.2.2.2.2.2.2.2.2.2.2.2.2.2.2.2.2.2.2.2.2.1, (R 32).trans hm.2.2.2.2.2.2.2.2.2.2.2.2.2.2.2.2.2.2.2.2.2.2.2.2.2.2.2.2.2.1, (R 38).trans hm.2.2.2.2.2.2.2.2.2.2.2.2.2.2.2.2.2.2.2.2.2.2.2.2.2.2.2.2.2.2.1, (R 39).trans hm.2.2.2.2.2.2.2.2.2.2.2.2.2.2.2.2.2.2.2.2.2.2.2.2.2.2.2.2.2.2.2.1, (R 40).trans hm.2.2.2.2.2.2.2.2.2.2.2.2.2.2.2.2.2.2.2.2.2.2.2.2.2.2.2.2.2.2.2.2.1, (R 45).trans hm.2.2.2.2.2.2.2.2.2.2.2.2.2.2.2.2.2.2.2.2.2.2.2.2.2.2.2.2.2.2.2.2.2.1, (R 46).trans hm.2.2.2.2.2.2.2.2.2.2.2.2.2.2.2.2.2.2.2.2.2.2.2.2.2.2.2.2.2.2.2.2.2.2.1, (R 48).trans hm.2.2.2.2.2.2.2.2.2.2.2.2.2.2.2.2.2.2.2.2.2.2.2.2.2.2.2.2.2.2.2.2.2.2.2⟩
theorem INV.df (hI : INV im rm pp ll) (E : ∀ b k, ¬ (b = 4 ∧ (k = 2 ∨ k = 3)) ∧ ¬ (pp 4 ≤ b ∧ b ≤ pp 4 + 5) ∧ ¬ (ll 2 ≤ b ∧ b ≤ ll 2 + 2) ∧ ¬ (b = 129 ∧ 34 ≤ k ∧ k ≤ 37) ∧ ¬ ((b = 142 ∨ b = 143) ∧ 24 ≤ k) ∧ ¬ (144 ≤ b ∧ b ≤ 146 ∧ 96 ≤ k) ∧ ¬ (b = 141 ∧ k = 4) ∧ ¬ (b = 147 ∧ k = 2) ∧ ¬ ((b = 148 ∨ b = 149) ∧ 16 ≤ k) → im2 b k = im b k) : INV im2 rm pp ll := by
  have h4 := hI.r.p 4 (by decide)
  have h2 := hI.r.l 2 (by decide)
  have dp : ∀ v, v < 4 → pp v ≠ pp 4 := fun v hv e => by have := hI.r.pi v 4 (by omega) (by decide) e; omega
  have dl : ∀ v, v < 2 → ll v ≠ ll 2 := fun v hv e => by have := hI.r.li v 2 (by omega) (by decide) e; omega
  refine ⟨fun d hd => (hI.d d hd).cg (fun k i hk => E _ _ (by unfold dr; omega)) ⟨E _ _ (by omega), E _ _ (by omega), E _ _ (by omega), E _ _ (by omega)⟩ (fun t ht => ⟨E _ _ (by omega), E _ _ (by omega), E _ _ (by omega), E _ _ (by omega), E _ _ (by omega)⟩) (E _ _ (by omega)), hI.s.cg (fun a i q => E a i (by omega)), hI.o.cg (fun a i q => E a i (by omega)), hI.t.cg (fun a i q => E a i (by omega)), fun v hv => (hI.p v hv).cg (fun k i hk => E _ _ (by have := hI.r.p v (by omega); have := dp v hv; omega)) (E _ _ (by omega)) (fun i hi => ⟨E _ _ (by omega), E _ _ (by omega)⟩) (fun i hi => ⟨E _ _ (by omega), E _ _ (by omega), E _ _ (by omega)⟩), fun v hv => (hI.l v hv).cg (fun k i hk => E _ _ (by have := hI.r.l v (by omega); have := dl v hv; omega)) (E _ _ (by omega)) (fun i hi => ⟨E _ _ (by omega), E _ _ (by omega)⟩), hI.e.cg (fun a i q => E a i (by omega)), hI.c.cg (fun a i q => E a i (by omega)), hI.n.cg (fun a i q => E a i (by omega)), hI.q.cg (fun a i q => E a i (by omega)), hI.r, hI.x, hI.m⟩
theorem INV.np (hI : INV im rm pp ll) {v : Nat} (hv : v < 4) (E : ∀ b k, ¬ (b = 4 ∧ (k = 0 ∨ k = 2 ∨ k = 3)) ∧ ¬ (pp 4 ≤ b ∧ b ≤ pp 4 + 5) ∧ ¬ (b = 129 ∧ (k = 11 ∨ (34 ≤ k ∧ k ≤ 37))) ∧ ¬ ((b = 142 ∨ b = 143) ∧ (24 ≤ k ∨ (6 * v ≤ k ∧ k < 6 * v + 6))) ∧ ¬ (144 ≤ b ∧ b ≤ 146 ∧ (96 ≤ k ∨ (24 * v ≤ k ∧ k < 24 * v + 24))) ∧ ¬ (b = 141 ∧ (k = 4 ∨ k = v)) ∧ ¬ (b = 147 ∧ k = 2) ∧ ¬ ((b = 148 ∨ b = 149) ∧ 16 ≤ k) → im2 b k = im b k) (hT : im2 4 0 = nI 0 ∧ im2 129 11 = nI 0) (hP : IP im2 (pp 4) v) : INV im2 (pm_w2 (pm_w2 rm 2 v (some (pp 4))) 0 11 (some (pp v))) (fun w => pp (sw v 4 w)) ll := by
  have h4 := hI.r.p 4 (by decide)
  have h2 := hI.r.l 2 (by decide)
  have dp : ∀ v, v < 4 → pp v ≠ pp 4 := fun v hv e => by have := hI.r.pi v 4 (by omega) (by decide) e; omega
  have dl : ∀ v, v < 2 → ll v ≠ ll 2 := fun v hv e => by have := hI.r.li v 2 (by omega) (by decide) e; omega
  have gt : IT im2 := by
    have e : tx im2 = 0 := by unfold tx; rw [hT.2, nI_clamp (by decide)]
    exact ⟨by rw [hT.1, e], by rw [hT.2, e], by omega, fun i hi => absurd hi (by omega)⟩
  refine ⟨fun d hd => (hI.d d hd).cg (fun k i hk => E _ _ (by unfold dr; omega)) ⟨E _ _ (by omega), E _ _ (by omega), E _ _ (by omega), E _ _ (by omega)⟩ (fun t ht => ⟨E _ _ (by omega), E _ _ (by omega), E _ _ (by omega), E _ _ (by omega), E _ _ (by omega)⟩) (E _ _ (by omega)), hI.s.cg (fun a i q => E a i (by omega)), hI.o.cg (fun a i q => E a i (by omega)), gt, fun w hw => (by
    by_cases e : w = v
    · rw [e]; show IP im2 (pp (sw v 4 v)) v; rw [sw_v]; exact hP
    · show IP im2 (pp (sw v 4 w)) w
      rw [sw_o e (by omega)]
      exact ((hI.p w hw).cg (fun k i hk => E _ _ (by have := hI.r.p w (by omega); have := dp w hw; omega)) (E _ _ (by omega)) (fun i hi => ⟨E _ _ (by omega), E _ _ (by omega)⟩) (fun i hi => ⟨E _ _ (by omega), E _ _ (by omega), E _ _ (by omega)⟩))), fun v hv => (hI.l v hv).cg (fun k i hk => E _ _ (by have := hI.r.l v (by omega); have := dl v hv; omega)) (E _ _ (by omega)) (fun i hi => ⟨E _ _ (by omega), E _ _ (by omega)⟩), hI.e.cg (fun a i q => E a i (by omega)), hI.c.cg (fun a i q => E a i (by omega)), hI.n.cg (fun a i q => E a i (by omega)), hI.q.cg (fun a i q => E a i (by omega)), hI.r.sp hv, rmX.sp hI.x hI.r hv, rmM.sp hI.m⟩
theorem INV.nl (hI : INV im rm pp ll) {v : Nat} (hv : v < 2) (E : ∀ b k, ¬ (b = 4 ∧ (k = 0 ∨ k = 2 ∨ k = 3)) ∧ ¬ (ll 2 ≤ b ∧ b ≤ ll 2 + 2) ∧ ¬ (b = 129 ∧ (k = 11 ∨ (34 ≤ k ∧ k ≤ 37))) ∧ ¬ ((b = 142 ∨ b = 143) ∧ 24 ≤ k) ∧ ¬ (144 ≤ b ∧ b ≤ 146 ∧ 96 ≤ k) ∧ ¬ (b = 141 ∧ k = 4) ∧ ¬ (b = 147 ∧ (k = 2 ∨ k = v)) ∧ ¬ ((b = 148 ∨ b = 149) ∧ (16 ≤ k ∨ (8 * v ≤ k ∧ k < 8 * v + 8))) → im2 b k = im b k) (hT : im2 4 0 = nI 0 ∧ im2 129 11 = nI 0) (hP : IL im2 (ll 2) v) : INV im2 (pm_w2 (pm_w2 rm 3 v (some (ll 2))) 0 12 (some (ll v))) pp (fun w => ll (sw v 2 w)) := by
  have h4 := hI.r.p 4 (by decide)
  have h2 := hI.r.l 2 (by decide)
  have dp : ∀ v, v < 4 → pp v ≠ pp 4 := fun v hv e => by have := hI.r.pi v 4 (by omega) (by decide) e; omega
  have dl : ∀ v, v < 2 → ll v ≠ ll 2 := fun v hv e => by have := hI.r.li v 2 (by omega) (by decide) e; omega
  have gt : IT im2 := by
    have e : tx im2 = 0 := by unfold tx; rw [hT.2, nI_clamp (by decide)]
    exact ⟨by rw [hT.1, e], by rw [hT.2, e], by omega, fun i hi => absurd hi (by omega)⟩
  refine ⟨fun d hd => (hI.d d hd).cg (fun k i hk => E _ _ (by unfold dr; omega)) ⟨E _ _ (by omega), E _ _ (by omega), E _ _ (by omega), E _ _ (by omega)⟩ (fun t ht => ⟨E _ _ (by omega), E _ _ (by omega), E _ _ (by omega), E _ _ (by omega), E _ _ (by omega)⟩) (E _ _ (by omega)), hI.s.cg (fun a i q => E a i (by omega)), hI.o.cg (fun a i q => E a i (by omega)), gt, fun v hv => (hI.p v hv).cg (fun k i hk => E _ _ (by have := hI.r.p v (by omega); have := dp v hv; omega)) (E _ _ (by omega)) (fun i hi => ⟨E _ _ (by omega), E _ _ (by omega)⟩) (fun i hi => ⟨E _ _ (by omega), E _ _ (by omega), E _ _ (by omega)⟩), fun w hw => (by
    by_cases e : w = v
    · rw [e]; show IL im2 (ll (sw v 2 v)) v; rw [sw_v]; exact hP
    · show IL im2 (ll (sw v 2 w)) w
      rw [sw_o e (by omega)]
      exact ((hI.l w hw).cg (fun k i hk => E _ _ (by have := hI.r.l w (by omega); have := dl w hw; omega)) (E _ _ (by omega)) (fun i hi => ⟨E _ _ (by omega), E _ _ (by omega)⟩))), hI.e.cg (fun a i q => E a i (by omega)), hI.c.cg (fun a i q => E a i (by omega)), hI.n.cg (fun a i q => E a i (by omega)), hI.q.cg (fun a i q => E a i (by omega)), hI.r.sl hv, rmX.sl hI.x hI.r hv, rmM.sl hI.m⟩
end TWO
