/-! Loops; the part of the memory that calls which only ask leave as it is; readings. -/
theorem ev_for {k pc : Nat} {rm : RM} (lv : Nat → List Value) (m : Nat → IM) (N : Nat) (step : ∀ i, i < N → ev k pc (lv i) [] (m i) rm = ev k pc (lv (i + 1)) [] (m (i + 1)) rm) : ∀ n i, i + n = N → ev k pc (lv i) [] (m i) rm = ev k pc (lv N) [] (m N) rm := by
  intro n
  induction n with
  | zero => intro i h; rw [show i = N by omega]
  | succ n ih => intro i h; rw [step i (by omega)]; exact ih (i + 1) (by omega)
theorem ev_loop {σ : Type} {k pc : Nat} {rm : RM} (lv : Nat → σ → List Value) (m : σ → IM) (Inv : Nat → σ → Prop) (N : Nat) (step : ∀ i x, i < N → Inv i x → ∃ x', Inv (i + 1) x' ∧ ev k pc (lv i x) [] (m x) rm = ev k pc (lv (i + 1) x') [] (m x') rm) : ∀ n i x, i + n = N → Inv i x → ∃ x', Inv N x' ∧ ev k pc (lv i x) [] (m x) rm = ev k pc (lv N x') [] (m x') rm := by
  intro n
  induction n with
  | zero => intro i x h hI; rw [show i = N by omega] at hI ⊢; exact ⟨x, hI, rfl⟩
  | succ n ih =>
    intro i x h hI
    obtain ⟨x', h1, h2⟩ := step i x (by omega) hI
    obtain ⟨x'', h3, h4⟩ := ih (i + 1) x' (by omega) h1
    exact ⟨x'', h3, h2.trans h4⟩
/-- of n steps the first that ends it: what it ends with; else what stands behind all -/
def fst {α : Type} (p : Nat → Option α) (e : α) : Nat → Nat → α
  | _, 0 => e
  | i, n + 1 => match p i with
    | some a => a
    | none => fst p e (i + 1) n
theorem ev_find {k pc : Nat} {rm : RM} {α : Type} (lv : Nat → List Value) (m : IM) (N : Nat) (p : Nat → Option α) (e : α) (g : α → Option (Option Value × IM × RM)) (step : ∀ i, i < N → ev k pc (lv i) [] m rm = match p i with
    | some a => g a
    | none => ev k pc (lv (i + 1)) [] m rm) (last : ev k pc (lv N) [] m rm = g e) : ∀ n i, i + n = N → ev k pc (lv i) [] m rm = g (fst p e i n) := by
  intro n
  induction n with
  | zero => intro i h; rw [show i = N by omega]; exact last
  | succ n ih =>
    intro i h
    rw [step i (by omega), fst]
    cases p i with
    | none => exact ih (i + 1) (by omega)
    | some a => rfl
def SS (σ im : IM) : Prop := (∀ a i, (a < 32 ∨ 51 ≤ a) → a < 129 → im a i = σ a i) ∧ (∀ a i, 130 ≤ a → a < 160 → im a i = σ a i) ∧ (∀ i, i < 41 → im 129 i = σ 129 i)
theorem SS.rf {σ : IM} : SS σ σ := ⟨fun _ _ _ _ => rfl, fun _ _ _ _ => rfl, fun _ _ => rfl⟩
theorem SS.tr {σ im im' : IM} (h : SS σ im) (h' : SS im im') : SS σ im' := ⟨fun a i h1 h2 => (h'.1 a i h1 h2).trans (h.1 a i h1 h2), fun a i h1 h2 => (h'.2.1 a i h1 h2).trans (h.2.1 a i h1 h2), fun i h1 => (h'.2.2 i h1).trans (h.2.2 i h1)⟩
theorem w2_s {α : Type} (f : Nat → Nat → α) (a i : Nat) (v : α) : pm_w2 f a i v a i = v := by simp [pm_w2]
theorem w2_a {α : Type} {f : Nat → Nat → α} {a b i j : Nat} {v : α} (h : b ≠ a) : pm_w2 f a i v b j = f b j := by simp [pm_w2, h]
theorem w2_i {α : Type} {f : Nat → Nat → α} {a i j : Nat} {v : α} (h : j ≠ i) : pm_w2 f a i v a j = f a j := by simp [pm_w2, h]
theorem SS.w {σ im : IM} (h : SS σ im) {a i : Nat} {v : Int32} (ha : (32 ≤ a ∧ a < 51) ∨ 160 ≤ a ∨ (a = 129 ∧ 41 ≤ i)) : SS σ (pm_w2 im a i v) := by
  refine ⟨fun b j h1 h2 => ?_, fun b j h1 h2 => ?_, fun j h1 => ?_⟩
  · rw [w2_a (by omega)]; exact h.1 b j h1 h2
  · rw [w2_a (by omega)]; exact h.2.1 b j h1 h2
  · by_cases e : (129 : Nat) = a
    · rw [← e, w2_i (by omega)]; exact h.2.2 j h1
    · rw [w2_a e]; exact h.2.2 j h1
theorem SS.x {σ im : IM} (h : SS σ im) {a : Nat} (ha : a < 32 ∨ 51 ≤ a) (hb : a < 129) (i : Nat) : im a i = σ a i := h.1 a i ha hb
theorem SS.d {σ im : IM} (h : SS σ im) {d : Nat} (hd : d < 6) (j : Nat) (hj : j ≤ 7) (i : Nat) : im (dr d + j) i = σ (dr d + j) i := h.1 _ i (by unfold dr; omega) (by unfold dr; omega)
theorem SS.d0 {σ im : IM} (h : SS σ im) {d : Nat} (hd : d < 6) (i : Nat) : im (dr d) i = σ (dr d) i := h.1 _ i (by unfold dr; omega) (by unfold dr; omega)
theorem SS.m {σ im : IM} (h : SS σ im) (i : Nat) : im 130 i = σ 130 i ∧ im 131 i = σ 131 i ∧ im 132 i = σ 132 i ∧ im 133 i = σ 133 i ∧ im 134 i = σ 134 i ∧ im 135 i = σ 135 i ∧ im 136 i = σ 136 i ∧ im 137 i = σ 137 i ∧ im 138 i = σ 138 i ∧ im 139 i = σ 139 i ∧ im 140 i = σ 140 i ∧ im 141 i = σ 141 i ∧ im 142 i = σ 142 i ∧ im 143 i = σ 143 i ∧ im 144 i = σ 144 i ∧ im 145 i = σ 145 i ∧ im 146 i = σ 146 i ∧ im 147 i = σ 147 i ∧ im 148 i = σ 148 i ∧ im 149 i = σ 149 i ∧ im 150 i = σ 150 i ∧ im 151 i = σ 151 i ∧ im 152 i = σ 152 i ∧ im 153 i = σ 153 i ∧ im 154 i = σ 154 i ∧ im 155 i = σ 155 i ∧ im 156 i = σ 156 i ∧ im 157 i = σ 157 i ∧ im 158 i = σ 158 i ∧ im 159 i = σ 159 i := by
  have k := fun a h1 h2 => h.2.1 a i h1 h2
  exact ⟨k 130 (by decide) (by decide), k 131 (by decide) (by decide), k 132 (by decide) (by decide), k 133 (by decide) (by decide), k 134 (by decide) (by decide), k 135 (by decide) (by decide), k 136 (by decide) (by decide), k 137 (by decide) (by decide), k 138 (by decide) (by decide), k 139 (by decide) (by decide), k 140 (by decide) (by decide), k 141 (by decide) (by decide), k 142 (by decide) (by decide), k 143 (by decide) (by decide), k 144 (by decide) (by decide), k 145 (by decide) (by decide), k 146 (by decide) (by decide), k 147 (by decide) (by decide), k 148 (by decide) (by decide), k 149 (by decide) (by decide), k 150 (by decide) (by decide), k 151 (by decide) (by decide), k 152 (by decide) (by decide), k 153 (by decide) (by decide), k 154 (by decide) (by decide), k 155 (by decide) (by decide), k 156 (by decide) (by decide), k 157 (by decide) (by decide), k 158 (by decide) (by decide), k 159 (by decide) (by decide)⟩
theorem SS.c {σ im : IM} (h : SS σ im) (i : Nat) : im 0 i = σ 0 i ∧ im 4 i = σ 4 i ∧ im 5 i = σ 5 i ∧ im 7 i = σ 7 i ∧ im 8 i = σ 8 i ∧ im 9 i = σ 9 i ∧ im 10 i = σ 10 i ∧ im 11 i = σ 11 i ∧ im 12 i = σ 12 i ∧ im 13 i = σ 13 i ∧ im 14 i = σ 14 i ∧ im 15 i = σ 15 i ∧ im 16 i = σ 16 i ∧ im 17 i = σ 17 i ∧ im 18 i = σ 18 i ∧ im 19 i = σ 19 i ∧ im 20 i = σ 20 i ∧ im 21 i = σ 21 i ∧ im 22 i = σ 22 i := by
  have k := fun a h1 => h.1 a i (Or.inl h1) (by omega)
  exact ⟨k 0 (by decide), k 4 (by decide), k 5 (by decide), k 7 (by decide), k 8 (by decide), k 9 (by decide), k 10 (by decide), k 11 (by decide), k 12 (by decide), k 13 (by decide), k 14 (by decide), k 15 (by decide), k 16 (by decide), k 17 (by decide), k 18 (by decide), k 19 (by decide), k 20 (by decide), k 21 (by decide), k 22 (by decide)⟩
def iab (x : Int32) : Int32 := if nI 0 ≤ x then x else -x
def tk (σ : IM) (d : Nat) : Nat := (σ 132 d).toNatClampNeg
def whl (σ : IM) (d t : Nat) : Int32 := iab (σ 135 (40 * d + t))
/-- the wheel of the first n ticks together -/
def trsf (T : Nat → Int32) : Nat → Int32
  | 0 => nI 0
  | n + 1 => trsf T n + iab (T n)
/-- in the trap ahead of tick t -/
def sotf (L : Nat → Int32) (trap : Int32) : Nat → Int32
  | 0 => nI 0
  | t + 1 => if trap < sotf L trap t + L t / nI 8 then nI 0 else sotf L trap t + L t / nI 8
def trs (σ : IM) (d : Nat) : Nat → Int32 := trsf (fun t => σ 135 (40 * d + t))
def sot (σ : IM) (d : Nat) : Nat → Int32 := sotf (fun t => σ 134 (40 * d + t)) (σ 139 1)
def rdg (σ : IM) (d t r : Nat) : Int32 := match r with
  | 0 => nI t
  | 1 => whl σ d t
  | 2 => trs σ d (t + 1)
  | 3 => σ 136 (40 * d + t)
  | 4 => σ 137 (40 * d + t)
  | 5 => σ 133 (40 * d + t)
  | 6 => σ 134 (40 * d + t)
  | _ => sot σ d t
section M3
variable {im σ : IM} {rm : RM} {pp ll : Nat → Nat}
theorem c174 (x : Int32) : ev 174 0 [.int x] [] im rm = some (some (.int (iab x)), im, rm) := by
  simp only [s174_0, s174_1, s174_4, s174_5, s174_6, s174_9, s174_10]
  unfold iab
  split <;> rfl
theorem c176 (x y : Int32) : ev 176 0 [.int x, .int y] [] im rm = some (some (.int (if y < x then y else x)), im, rm) := by
  simp only [s176_0, s176_1, s176_2, s176_5, s176_6, s176_9, s176_10]
  split <;> rfl
theorem c175 (x y : Int32) : ev 175 0 [.int x, .int y] [] im rm = some (some (.int (if x < y then y else x)), im, rm) := by
  simp only [s175_0, s175_1, s175_2, s175_5, s175_6, s175_9, s175_10]
  split <;> rfl
theorem i40 (d t : Nat) : nI 40 * nI d + nI t = nI (40 * d + t) := by rw [pk_mul, nI_add]
theorem c113 (hr : rmM rm) (hs : SS σ im) {d t : Nat} (hd : d < 6) (ht : t < 40) : ev 113 0 [.ref 129, .int (nI d), .int (nI t), pm_u] [] im rm = some (some (.int (whl σ d t)), im, rm) := by
  have h1 : pm_in (nI (40 * d + t)) 240 = true := pm_in_nI (by omega) (by decide)
  have hc : (nI (40 * d + t)).toNatClampNeg = 40 * d + t := nI_clamp (by omega)
  simp only [s113_0, s113_1, s113_4, s113_6, s113_7, s113_8, s113_9, s113_10, s113_11, s113_12, s113_13, s113_16, s113_17, s113_18, s113_21, s113_22, ↓reduceIte, Option.bind_some, Option.toList, List.cons_append, List.nil_append, bB_0, bB_z, z01_0, z01_1, n01, n00, pm_ro_some, reduceCtorEq, if_true, if_false, and_self, and_true, true_and, not_true, not_false_eq_true, Nat.reduceLeDiff, Nat.reduceAdd, kdM, hr, i40, h1, hc, hs.m]
  unfold whl iab
  split <;> rfl
end M3
