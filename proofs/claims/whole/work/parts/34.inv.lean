-- needs: 33
/-! Tools; what holds between two calls. -/
theorem ix {j n : Nat} (h : j < n) (hn : n < 2 ^ 31 := by decide) : pm_in (nI j) n = true ∧ (nI j).toNatClampNeg = j := ⟨pm_in_nI h hn, nI_clamp (by omega)⟩
theorem lpF {i n : Nat} (h : i < n) (hn : n < 2 ^ 31) : (nI n ≤ nI i) = False ∧ (nI i < nI n) = True := ⟨eq_false (fun q => by have := (nI_leI hn (by omega)).mp q; omega), eq_true (nI_lt h hn)⟩
theorem lpT {n : Nat} : (nI n ≤ nI n) = True ∧ (nI n < nI n) = False := ⟨eq_true (Int32.le_refl _), eq_false Int32.lt_irrefl⟩
theorem lpG {i n : Nat} (h : n ≤ i) (hn : i < 2 ^ 31) : (nI n ≤ nI i) = True ∧ (nI i < nI n) = False := ⟨eq_true (nI_le h hn), eq_false (fun q => by have := (nI_ltI hn (by omega)).mp q; omega)⟩
theorem dn {P : Nat → Prop} {N : Nat} (last : P N) (step : ∀ i, i < N → P (i + 1) → P i) : ∀ i, i ≤ N → P i := by
  have h : ∀ n i, i + n = N → P i := by
    intro n
    induction n with
    | zero => intro i h; rw [show i = N by omega]; exact last
    | succ n ih => intro i h; exact step i (by omega) (ih (i + 1) (by omega))
  exact fun i hi => h (N - i) i (by omega)
theorem w2_n {α : Type} {f : Nat → Nat → α} {a b i j : Nat} {v : α} (h : ¬ (b = a ∧ j = i)) : pm_w2 f a i v b j = f b j := by
  unfold pm_w2
  by_cases h1 : b = a
  · rw [if_pos h1, if_neg (fun q => h ⟨h1, q⟩)]
  · rw [if_neg h1]
theorem bf {b : Bool} (h : ¬ b = true) : b = false := by cases b <;> simp_all
theorem nz8 : (nI 8 = (0 : Int32)) = False := by decide
theorem nz2 : (nI 2 = (0 : Int32)) = False := by decide
theorem nz4 : (nI 4 = (0 : Int32)) = False := by decide
theorem nz40 : (nI 40 = (0 : Int32)) = False := by decide
theorem im_min (x y : Int32) : (if y < x then y else x) = (if x < y then x else y) := by
  by_cases h : y < x
  · rw [if_pos h, if_neg (Int32.not_lt.mpr (Int32.le_of_lt h))]
  · rw [if_neg h]
    by_cases h2 : x < y
    · rw [if_pos h2]
    · rw [if_neg h2]; exact Int32.le_antisymm (Int32.not_lt.mp h) (Int32.not_lt.mp h2)
theorem i32_add0 (x : Int32) : x + nI 0 = x := by simp [nI]
theorem i32_0add (x : Int32) : nI 0 + x = x := by simp [nI]
theorem sotf_cg {L L' : Nat → Int32} {trap : Int32} : ∀ n, (∀ i, i < n → L' i = L i) → sotf L' trap n = sotf L trap n := by
  intro n
  induction n with
  | zero => intro _; rfl
  | succ n ih => intro h; unfold sotf; rw [ih (fun i hi => h i (by omega)), h n (by omega)]
theorem trsf_cg {L L' : Nat → Int32} : ∀ n, (∀ i, i < n → L' i = L i) → trsf L' n = trsf L n := by
  intro n
  induction n with
  | zero => intro _; rfl
  | succ n ih => intro h; unfold trsf; rw [ih (fun i hi => h i (by omega)), h n (by omega)]
/-- drive d -/
def ID (σ : IM) (d : Nat) : Prop := (σ (dr d) 0 = σ 130 d) ∧ (σ (dr d) 1 = σ 131 d) ∧ (σ (dr d) 2 = nI (tk σ d)) ∧ (σ (dr d) 3 = σ 155 d) ∧ (pm_in (σ 130 d) 2 = true) ∧ (pm_in (σ 131 d) 4 = true) ∧ (pm_in (σ 155 d) 100 = true) ∧ (σ 132 d = nI (tk σ d)) ∧ (tk σ d ≤ 40) ∧ (∀ t, t < tk σ d → σ (dr d + 1) t = σ 133 (40 * d + t) ∧ σ (dr d + 2) t = σ 134 (40 * d + t) ∧ σ (dr d + 3) t = σ 135 (40 * d + t) ∧ σ (dr d + 4) t = σ 136 (40 * d + t) ∧ σ (dr d + 5) t = σ 137 (40 * d + t) ∧ σ (dr d + 6) t = trs σ d (t + 1) ∧ σ (dr d + 7) t = sot σ d t) ∧ (∀ t, t < tk σ d → pm_in (σ 133 (40 * d + t)) 160 = true ∧ pm_in (σ 134 (40 * d + t)) 100 = true ∧ (-9 ≤ (σ 135 (40 * d + t)).toInt ∧ (σ 135 (40 * d + t)).toInt ≤ 9) ∧ pm_in (σ 136 (40 * d + t)) 31 = true ∧ pm_in (σ 137 (40 * d + t)) 61 = true)
theorem ID.so {σ : IM} {d : Nat} (h : ID σ d) : σ (dr d) 0 = σ 130 d := h.1
theorem ID.st {σ : IM} {d : Nat} (h : ID σ d) : σ (dr d) 1 = σ 131 d := h.2.1
theorem ID.le {σ : IM} {d : Nat} (h : ID σ d) : σ (dr d) 2 = nI (tk σ d) := h.2.2.1
theorem ID.lc {σ : IM} {d : Nat} (h : ID σ d) : σ (dr d) 3 = σ 155 d := h.2.2.2.1
theorem ID.so2 {σ : IM} {d : Nat} (h : ID σ d) : pm_in (σ 130 d) 2 = true := h.2.2.2.2.1
theorem ID.st4 {σ : IM} {d : Nat} (h : ID σ d) : pm_in (σ 131 d) 4 = true := h.2.2.2.2.2.1
theorem ID.lc9 {σ : IM} {d : Nat} (h : ID σ d) : pm_in (σ 155 d) 100 = true := h.2.2.2.2.2.2.1
theorem ID.mn {σ : IM} {d : Nat} (h : ID σ d) : σ 132 d = nI (tk σ d) := h.2.2.2.2.2.2.2.1
theorem ID.n40 {σ : IM} {d : Nat} (h : ID σ d) : tk σ d ≤ 40 := h.2.2.2.2.2.2.2.2.1
theorem ID.row {σ : IM} {d : Nat} (h : ID σ d) : ∀ t, t < tk σ d → σ (dr d + 1) t = σ 133 (40 * d + t) ∧ σ (dr d + 2) t = σ 134 (40 * d + t) ∧ σ (dr d + 3) t = σ 135 (40 * d + t) ∧ σ (dr d + 4) t = σ 136 (40 * d + t) ∧ σ (dr d + 5) t = σ 137 (40 * d + t) ∧ σ (dr d + 6) t = trs σ d (t + 1) ∧ σ (dr d + 7) t = sot σ d t := h.2.2.2.2.2.2.2.2.2.1
theorem ID.rng {σ : IM} {d : Nat} (h : ID σ d) : ∀ t, t < tk σ d → pm_in (σ 133 (40 * d + t)) 160 = true ∧ pm_in (σ 134 (40 * d + t)) 100 = true ∧ (-9 ≤ (σ 135 (40 * d + t)).toInt ∧ (σ 135 (40 * d + t)).toInt ≤ 9) ∧ pm_in (σ 136 (40 * d + t)) 31 = true ∧ pm_in (σ 137 (40 * d + t)) 61 = true := h.2.2.2.2.2.2.2.2.2.2
theorem trs_cg {σ σ' : IM} {d n : Nat} (h : ∀ t, t < n → σ' 135 (40 * d + t) = σ 135 (40 * d + t)) : trs σ' d n = trs σ d n := trsf_cg n h
theorem sot_cg {σ σ' : IM} {d n : Nat} (h : ∀ t, t < n → σ' 134 (40 * d + t) = σ 134 (40 * d + t)) (h1 : σ' 139 1 = σ 139 1) : sot σ' d n = sot σ d n := by
  unfold sot
  rw [h1]
  exact sotf_cg n h
theorem ID.cg {σ σ' : IM} {d : Nat} (h : ID σ d) (e1 : ∀ j i, j ≤ 7 → σ' (dr d + j) i = σ (dr d + j) i) (e2 : σ' 130 d = σ 130 d ∧ σ' 131 d = σ 131 d ∧ σ' 132 d = σ 132 d ∧ σ' 155 d = σ 155 d) (e3 : ∀ t, t < 40 → σ' 133 (40 * d + t) = σ 133 (40 * d + t) ∧ σ' 134 (40 * d + t) = σ 134 (40 * d + t) ∧ σ' 135 (40 * d + t) = σ 135 (40 * d + t) ∧ σ' 136 (40 * d + t) = σ 136 (40 * d + t) ∧ σ' 137 (40 * d + t) = σ 137 (40 * d + t)) (e4 : σ' 139 1 = σ 139 1) : ID σ' d := by
  have et : tk σ' d = tk σ d := by unfold tk; rw [e2.2.2.1]
  have e0 : ∀ i, σ' (dr d) i = σ (dr d) i := fun i => e1 0 i (by omega)
  have hn := h.n40
  refine ⟨?_, ?_, ?_, ?_, ?_, ?_, ?_, ?_, ?_, ?_, ?_⟩
  · rw [e0, e2.1]; exact h.so
  · rw [e0, e2.2.1]; exact h.st
  · rw [e0, et]; exact h.le
  · rw [e0, e2.2.2.2]; exact h.lc
  · rw [e2.1]; exact h.so2
  · rw [e2.2.1]; exact h.st4
  · rw [e2.2.2.2]; exact h.lc9
  · rw [e2.2.2.1, et]; exact h.mn
  · rw [et]; exact h.n40
  · intro t ht
    rw [et] at ht
    have := e3 t (by omega)
    rw [e1 1 t (by omega), e1 2 t (by omega), e1 3 t (by omega), e1 4 t (by omega), e1 5 t (by omega), e1 6 t (by omega), e1 7 t (by omega), this.1, this.2.1, this.2.2.1, this.2.2.2.1, this.2.2.2.2, trs_cg (σ := σ) (fun s hs => (e3 s (by omega)).2.2.1), sot_cg (σ := σ) (fun s hs => (e3 s (by omega)).2.1) e4]
    exact h.row t ht
  · intro t ht
    rw [et] at ht
    have := e3 t (by omega)
    rw [this.1, this.2.1, this.2.2.1, this.2.2.2.1, this.2.2.2.2]
    exact h.rng t ht
/-- settings -/
def IS (σ : IM) : Prop := (∀ i, i < 4 → σ 11 i = σ 139 i) ∧ pm_in (σ 139 0) 10000 = true ∧ pm_in (σ 139 1) 1000 = true ∧ pm_in (σ 139 2) 100000 = true ∧ pm_in (σ 139 3) 101 = true
theorem IS.cg {σ σ' : IM} (h : IS σ) (e : ∀ a i, a = 11 ∨ a = 139 → σ' a i = σ a i) : IS σ' := by
  unfold IS at *
  simp only [fun i => e 11 i (Or.inl rfl), fun i => e 139 i (Or.inr rfl)]
  exact h
def IDo (σ : IM) : Prop := ∀ m c, m < 4 → c < 4 → σ (7 + m) c = σ 138 (4 * m + c) ∧ pm_in (σ 138 (4 * m + c)) 61 = true
theorem IDo.cg {σ σ' : IM} (h : IDo σ) (e : ∀ a i, (7 ≤ a ∧ a < 11) ∨ a = 138 → σ' a i = σ a i) : IDo σ' := by
  intro m c hm hc
  rw [e (7 + m) c (by omega), e 138 _ (by omega)]
  exact h m c hm hc
def tx (σ : IM) : Nat := (σ 129 11).toNatClampNeg
def IT (σ : IM) : Prop := σ 4 0 = nI (tx σ) ∧ σ 129 11 = nI (tx σ) ∧ tx σ ≤ 160 ∧ ∀ i, i < tx σ → σ 5 i = σ 140 i
theorem IT.cg {σ σ' : IM} (h : IT σ) (e : ∀ a i, (a = 4 ∧ i = 0) ∨ a = 5 ∨ a = 140 ∨ (a = 129 ∧ i = 11) → σ' a i = σ a i) : IT σ' := by
  unfold IT tx at *
  simp only [e 4 0 (by omega), e 129 11 (by omega), fun i => e 5 i (by omega), fun i => e 140 i (by omega)]
  exact h
def pn (σ : IM) (v : Nat) : Nat := (σ 141 v).toNatClampNeg
def tn (σ : IM) (v i : Nat) : Nat := (σ 143 (6 * v + i)).toNatClampNeg
/-- the program of version v at cell a -/
def IP (σ : IM) (a v : Nat) : Prop := (σ 141 v = nI (pn σ v)) ∧ (pn σ v ≤ 6) ∧ (σ a 0 = nI (pn σ v)) ∧ (∀ i, i < pn σ v → σ (a + 1) i = σ 142 (6 * v + i) ∧ pm_in (σ 142 (6 * v + i)) 4 = true ∧ σ (a + 2) i = nI (tn σ v i) ∧ σ 143 (6 * v + i) = nI (tn σ v i) ∧ tn σ v i ≤ 4) ∧ (∀ i, i < pn σ v → ∀ k, k < tn σ v i → σ (a + 3) (4 * i + k) = σ 144 (24 * v + (4 * i + k)) ∧ pm_in (σ 144 (24 * v + (4 * i + k))) 8 = true ∧ σ (a + 4) (4 * i + k) = σ 145 (24 * v + (4 * i + k)) ∧ pm_in (σ 145 (24 * v + (4 * i + k))) 2 = true ∧ σ (a + 5) (4 * i + k) = σ 146 (24 * v + (4 * i + k)) ∧ pm_in (σ 146 (24 * v + (4 * i + k))) 1000 = true)
theorem IP.mn {σ : IM} {a v : Nat} (h : IP σ a v) : σ 141 v = nI (pn σ v) := h.1
theorem IP.n6 {σ : IM} {a v : Nat} (h : IP σ a v) : pn σ v ≤ 6 := h.2.1
theorem IP.le {σ : IM} {a v : Nat} (h : IP σ a v) : σ a 0 = nI (pn σ v) := h.2.2.1
theorem IP.li {σ : IM} {a v : Nat} (h : IP σ a v) : ∀ i, i < pn σ v → σ (a + 1) i = σ 142 (6 * v + i) ∧ pm_in (σ 142 (6 * v + i)) 4 = true ∧ σ (a + 2) i = nI (tn σ v i) ∧ σ 143 (6 * v + i) = nI (tn σ v i) ∧ tn σ v i ≤ 4 := h.2.2.2.1
theorem IP.te {σ : IM} {a v : Nat} (h : IP σ a v) : ∀ i, i < pn σ v → ∀ k, k < tn σ v i → σ (a + 3) (4 * i + k) = σ 144 (24 * v + (4 * i + k)) ∧ pm_in (σ 144 (24 * v + (4 * i + k))) 8 = true ∧ σ (a + 4) (4 * i + k) = σ 145 (24 * v + (4 * i + k)) ∧ pm_in (σ 145 (24 * v + (4 * i + k))) 2 = true ∧ σ (a + 5) (4 * i + k) = σ 146 (24 * v + (4 * i + k)) ∧ pm_in (σ 146 (24 * v + (4 * i + k))) 1000 = true := h.2.2.2.2
theorem IP.cg {σ σ' : IM} {a v : Nat} (h : IP σ a v) (e1 : ∀ j i, j ≤ 5 → σ' (a + j) i = σ (a + j) i) (e2 : σ' 141 v = σ 141 v) (e3 : ∀ i, i < 6 → σ' 142 (6 * v + i) = σ 142 (6 * v + i) ∧ σ' 143 (6 * v + i) = σ 143 (6 * v + i)) (e4 : ∀ k, k < 24 → σ' 144 (24 * v + k) = σ 144 (24 * v + k) ∧ σ' 145 (24 * v + k) = σ 145 (24 * v + k) ∧ σ' 146 (24 * v + k) = σ 146 (24 * v + k)) : IP σ' a v := by
  have ep : pn σ' v = pn σ v := by unfold pn; rw [e2]
  have et : ∀ i, i < 6 → tn σ' v i = tn σ v i := fun i hi => by unfold tn; rw [(e3 i hi).2]
  have hn := h.n6
  refine ⟨by rw [ep, e2]; exact h.mn, by rw [ep]; exact h.n6, by rw [show a = a + 0 from rfl, e1 0 0 (by omega), ep]; exact h.le, ?_, ?_⟩
  · intro i hi
    rw [ep] at hi
    rw [e1 1 i (by omega), e1 2 i (by omega), (e3 i (by omega)).1, (e3 i (by omega)).2, et i (by omega)]
    exact h.li i hi
  · intro i hi k hk
    rw [ep] at hi
    rw [et i (by omega)] at hk
    have h4 := (h.li i hi).2.2.2.2
    have := e4 (4 * i + k) (by omega)
    rw [e1 3 _ (by omega), e1 4 _ (by omega), e1 5 _ (by omega), this.1, this.2.1, this.2.2]
    exact h.te i hi k hk
def wn (σ : IM) (l : Nat) : Nat := (σ 147 l).toNatClampNeg
def IL (σ : IM) (a l : Nat) : Prop := (σ 147 l = nI (wn σ l)) ∧ (wn σ l ≤ 8) ∧ (σ a 0 = nI (wn σ l)) ∧ (∀ i, i < wn σ l → σ (a + 1) i = σ 148 (8 * l + i) ∧ pm_in (σ 148 (8 * l + i)) 4 = true ∧ σ (a + 2) i = σ 149 (8 * l + i) ∧ pm_in (σ 149 (8 * l + i)) 1000 = true ∧ (nI 2 ≤ σ 148 (8 * l + i) → pm_in (σ 149 (8 * l + i)) 8 = true))
theorem IL.mn {σ : IM} {a l : Nat} (h : IL σ a l) : σ 147 l = nI (wn σ l) := h.1
theorem IL.n8 {σ : IM} {a l : Nat} (h : IL σ a l) : wn σ l ≤ 8 := h.2.1
theorem IL.le {σ : IM} {a l : Nat} (h : IL σ a l) : σ a 0 = nI (wn σ l) := h.2.2.1
theorem IL.li {σ : IM} {a l : Nat} (h : IL σ a l) : ∀ i, i < wn σ l → σ (a + 1) i = σ 148 (8 * l + i) ∧ pm_in (σ 148 (8 * l + i)) 4 = true ∧ σ (a + 2) i = σ 149 (8 * l + i) ∧ pm_in (σ 149 (8 * l + i)) 1000 = true ∧ (nI 2 ≤ σ 148 (8 * l + i) → pm_in (σ 149 (8 * l + i)) 8 = true) := h.2.2.2
theorem IL.cg {σ σ' : IM} {a l : Nat} (h : IL σ a l) (e1 : ∀ j i, j ≤ 2 → σ' (a + j) i = σ (a + j) i) (e2 : σ' 147 l = σ 147 l) (e3 : ∀ i, i < 8 → σ' 148 (8 * l + i) = σ 148 (8 * l + i) ∧ σ' 149 (8 * l + i) = σ 149 (8 * l + i)) : IL σ' a l := by
  have ep : wn σ' l = wn σ l := by unfold wn; rw [e2]
  have hn := h.n8
  refine ⟨by rw [ep, e2]; exact h.mn, by rw [ep]; exact h.n8, by rw [show a = a + 0 from rfl, e1 0 0 (by omega), ep]; exact h.le, ?_⟩
  intro i hi
  rw [ep] at hi
  rw [e1 1 i (by omega), e1 2 i (by omega), (e3 i (by omega)).1, (e3 i (by omega)).2]
  exact h.li i hi
def mn (σ : IM) : Nat := (σ 129 24).toNatClampNeg
def IE (σ : IM) : Prop := σ 14 0 = nI (mn σ) ∧ σ 129 24 = nI (mn σ) ∧ mn σ ≤ 20 ∧ ∀ i, i < mn σ → σ 15 i = σ 150 i ∧ pm_in (σ 150 i) 6 = true ∧ σ 16 i = σ 151 i ∧ pm_in (σ 151 i) 40 = true ∧ σ 17 i = σ 152 i
theorem IE.cg {σ σ' : IM} (h : IE σ) (e : ∀ a i, (14 ≤ a ∧ a ≤ 17) ∨ (150 ≤ a ∧ a ≤ 152) ∨ (a = 129 ∧ i = 24) → σ' a i = σ a i) : IE σ' := by
  unfold IE mn at *
  simp only [e 14 0 (by omega), e 129 24 (by omega), fun i => e 15 i (by omega), fun i => e 16 i (by omega), fun i => e 17 i (by omega), fun i => e 150 i (by omega), fun i => e 151 i (by omega), fun i => e 152 i (by omega)]
  exact h
def IC (σ : IM) : Prop := ∀ i, i < 4 → σ 12 i = σ 153 i ∧ pm_in (σ 153 i) 10000 = true ∧ σ 13 i = σ 154 i ∧ pm_in (σ 154 i) 1000 = true
theorem IC.cg {σ σ' : IM} (h : IC σ) (e : ∀ a i, (12 ≤ a ∧ a ≤ 13) ∨ (153 ≤ a ∧ a ≤ 154) → σ' a i = σ a i) : IC σ' := by
  unfold IC at *
  simp only [fun i => e 12 i (by omega), fun i => e 13 i (by omega), fun i => e 153 i (by omega), fun i => e 154 i (by omega)]
  exact h
def IN (σ : IM) : Prop := σ 0 10 = σ 129 28 ∧ pm_in (σ 129 28) 201 = true
theorem IN.cg {σ σ' : IM} (h : IN σ) (e : ∀ a i, (a = 0 ∧ i = 10) ∨ (a = 129 ∧ i = 28) → σ' a i = σ a i) : IN σ' := by
  unfold IN at *
  simp only [e 0 10 (by omega), e 129 28 (by omega)]
  exact h
def qn (σ : IM) : Nat := (σ 129 33).toNatClampNeg
def IQ (σ : IM) : Prop := σ 18 0 = nI (qn σ) ∧ σ 129 33 = nI (qn σ) ∧ qn σ ≤ 20 ∧ ∀ i, i < qn σ → σ 19 i = σ 156 i ∧ pm_in (σ 156 i) 2 = true ∧ σ 20 i = σ 157 i ∧ pm_in (σ 157 i) 4 = true ∧ σ 21 i = σ 158 i ∧ pm_in (σ 158 i) 8 = true ∧ σ 22 i = σ 159 i ∧ (σ 159 i = -1 ∨ pm_in (σ 159 i) 201 = true)
theorem IQ.cg {σ σ' : IM} (h : IQ σ) (e : ∀ a i, (18 ≤ a ∧ a ≤ 22) ∨ (156 ≤ a ∧ a ≤ 159) ∨ (a = 129 ∧ i = 33) → σ' a i = σ a i) : IQ σ' := by
  unfold IQ qn at *
  simp only [e 18 0 (by omega), e 129 33 (by omega), fun i => e 19 i (by omega), fun i => e 20 i (by omega), fun i => e 21 i (by omega), fun i => e 22 i (by omega), fun i => e 156 i (by omega), fun i => e 157 i (by omega), fun i => e 158 i (by omega), fun i => e 159 i (by omega)]
  exact h
/-- where the programs and the laws lie -/
def PR (pp ll : Nat → Nat) : Prop := (∀ v, v < 5 → pp v = 23 ∨ pp v = 99 ∨ pp v = 105 ∨ pp v = 111 ∨ pp v = 117) ∧ (∀ v w, v < 5 → w < 5 → pp v = pp w → v = w) ∧ (∀ v, v < 3 → ll v = 29 ∨ ll v = 123 ∨ ll v = 126) ∧ (∀ v w, v < 3 → w < 3 → ll v = ll w → v = w)
theorem PR.p {pp ll : Nat → Nat} (h : PR pp ll) : ∀ v, v < 5 → pp v = 23 ∨ pp v = 99 ∨ pp v = 105 ∨ pp v = 111 ∨ pp v = 117 := h.1
theorem PR.pi {pp ll : Nat → Nat} (h : PR pp ll) : ∀ v w, v < 5 → w < 5 → pp v = pp w → v = w := h.2.1
theorem PR.l {pp ll : Nat → Nat} (h : PR pp ll) : ∀ v, v < 3 → ll v = 29 ∨ ll v = 123 ∨ ll v = 126 := h.2.2.1
theorem PR.li {pp ll : Nat → Nat} (h : PR pp ll) : ∀ v w, v < 3 → w < 3 → ll v = ll w → v = w := h.2.2.2
def INV (σ : IM) (rm : RM) (pp ll : Nat → Nat) : Prop := (∀ d, d < 6 → ID σ d) ∧ (IS σ) ∧ (IDo σ) ∧ (IT σ) ∧ (∀ v, v < 4 → IP σ (pp v) v) ∧ (∀ l, l < 2 → IL σ (ll l) l) ∧ (IE σ) ∧ (IC σ) ∧ (IN σ) ∧ (IQ σ) ∧ (PR pp ll) ∧ (rmX rm pp ll) ∧ (rmM rm)
theorem INV.d {σ : IM} {rm : RM} {pp ll : Nat → Nat} (h : INV σ rm pp ll) : ∀ d, d < 6 → ID σ d := h.1
theorem INV.s {σ : IM} {rm : RM} {pp ll : Nat → Nat} (h : INV σ rm pp ll) : IS σ := h.2.1
theorem INV.o {σ : IM} {rm : RM} {pp ll : Nat → Nat} (h : INV σ rm pp ll) : IDo σ := h.2.2.1
theorem INV.t {σ : IM} {rm : RM} {pp ll : Nat → Nat} (h : INV σ rm pp ll) : IT σ := h.2.2.2.1
theorem INV.p {σ : IM} {rm : RM} {pp ll : Nat → Nat} (h : INV σ rm pp ll) : ∀ v, v < 4 → IP σ (pp v) v := h.2.2.2.2.1
theorem INV.l {σ : IM} {rm : RM} {pp ll : Nat → Nat} (h : INV σ rm pp ll) : ∀ l, l < 2 → IL σ (ll l) l := h.2.2.2.2.2.1
theorem INV.e {σ : IM} {rm : RM} {pp ll : Nat → Nat} (h : INV σ rm pp ll) : IE σ := h.2.2.2.2.2.2.1
theorem INV.c {σ : IM} {rm : RM} {pp ll : Nat → Nat} (h : INV σ rm pp ll) : IC σ := h.2.2.2.2.2.2.2.1
theorem INV.n {σ : IM} {rm : RM} {pp ll : Nat → Nat} (h : INV σ rm pp ll) : IN σ := h.2.2.2.2.2.2.2.2.1
theorem INV.q {σ : IM} {rm : RM} {pp ll : Nat → Nat} (h : INV σ rm pp ll) : IQ σ := h.2.2.2.2.2.2.2.2.2.1
theorem INV.r {σ : IM} {rm : RM} {pp ll : Nat → Nat} (h : INV σ rm pp ll) : PR pp ll := h.2.2.2.2.2.2.2.2.2.2.1
theorem INV.x {σ : IM} {rm : RM} {pp ll : Nat → Nat} (h : INV σ rm pp ll) : rmX rm pp ll := h.2.2.2.2.2.2.2.2.2.2.2.1
theorem INV.m {σ : IM} {rm : RM} {pp ll : Nat → Nat} (h : INV σ rm pp ll) : rmM rm := h.2.2.2.2.2.2.2.2.2.2.2.2
theorem INV.ss {σ σ' : IM} {rm : RM} {pp ll : Nat → Nat} (h : INV σ rm pp ll) (hs : SS σ σ') : INV σ' rm pp ll := by
  have hx := hs.1
  have hm := hs.2.1
  have ho := hs.2.2
  refine ⟨?_, ?_, ?_, ?_, ?_, ?_, ?_, ?_, ?_, ?_, h.r, h.x, h.m⟩
  · intro d hd
    refine (h.d d hd).cg (fun j i hj => hx _ _ (by unfold dr; omega) (by unfold dr; omega)) ⟨hm _ _ (by omega) (by omega), hm _ _ (by omega) (by omega), hm _ _ (by omega) (by omega), hm _ _ (by omega) (by omega)⟩ (fun t ht => ⟨hm _ _ (by omega) (by omega), hm _ _ (by omega) (by omega), hm _ _ (by omega) (by omega), hm _ _ (by omega) (by omega), hm _ _ (by omega) (by omega)⟩) (hm _ _ (by omega) (by omega))
  · exact h.s.cg (fun a i q => by rcases q with q | q <;> first | exact hx a i (by omega) (by omega) | exact hm a i (by omega) (by omega))
  · exact h.o.cg (fun a i q => by rcases q with q | q <;> first | exact hx a i (by omega) (by omega) | exact hm a i (by omega) (by omega))
  · exact h.t.cg (fun a i q => by rcases q with q | q | q | ⟨rfl, rfl⟩ <;> first | exact hx a i (by omega) (by omega) | exact hm a i (by omega) (by omega) | exact ho 11 (by omega))
  · intro v hv
    have := h.r.p v (by omega)
    exact (h.p v hv).cg (fun j i hj => hx _ _ (by omega) (by omega)) (hm _ _ (by omega) (by omega)) (fun i hi => ⟨hm _ _ (by omega) (by omega), hm _ _ (by omega) (by omega)⟩) (fun i hi => ⟨hm _ _ (by omega) (by omega), hm _ _ (by omega) (by omega), hm _ _ (by omega) (by omega)⟩)
  · intro v hv
    have := h.r.l v (by omega)
    exact (h.l v hv).cg (fun j i hj => hx _ _ (by omega) (by omega)) (hm _ _ (by omega) (by omega)) (fun i hi => ⟨hm _ _ (by omega) (by omega), hm _ _ (by omega) (by omega)⟩)
  · exact h.e.cg (fun a i q => by rcases q with q | q | ⟨rfl, rfl⟩ <;> first | exact hx a i (by omega) (by omega) | exact hm a i (by omega) (by omega) | exact ho _ (by omega))
  · exact h.c.cg (fun a i q => by rcases q with q | q <;> first | exact hx a i (by omega) (by omega) | exact hm a i (by omega) (by omega))
  · exact h.n.cg (fun a i q => by rcases q with ⟨rfl, rfl⟩ | ⟨rfl, rfl⟩ <;> first | exact hx _ _ (by omega) (by omega) | exact ho _ (by omega))
  · exact h.q.cg (fun a i q => by rcases q with q | q | ⟨rfl, rfl⟩ <;> first | exact hx a i (by omega) (by omega) | exact hm a i (by omega) (by omega) | exact ho _ (by omega))
