/-! What a run of the pure machine comes to, without fuel. -/
theorem pm_run_mono {X : Nat × (Nat → Int32)} : ∀ (f k : Nat) (S : pm_S) (r : Option Value × pm_M), pm_run X f k S = some r → pm_run X (f + 1) k S = some r := by
  intro f
  induction f with
  | zero => intro k S r h; cases h
  | succ f ih =>
    intro k S r h
    rw [pm_run] at h
    rw [pm_run]
    split at h
    · cases h
    · rename_i E hE
      split at h
      · rename_i i len hd
        split at h
        · cases h
        · rename_i S' hs
          (try simp only [hE, hd, hs])
          exact ih _ _ _ h
        · rename_i v hs
          (try simp only [hE, hd, hs])
          exact h
        · rename_i k' as rest hs
          (try simp only [hE, hd, hs])
          split at h
          · cases h
          · rename_i E' hE'
            (try simp only [hE'])
            split at h
            · rename_i hok
              (try rw [if_pos hok])
              split at h
              · cases h
              · rename_i v1 M1 hc
                (try rw [ih _ _ _ hc])
                exact ih _ _ _ h
            · cases h
      · cases h
theorem pm_run_le {X : Nat × (Nat → Int32)} {f g k : Nat} {S : pm_S} {r : Option Value × pm_M} (h : pm_run X f k S = some r) (hg : f ≤ g) : pm_run X g k S = some r := by
  induction hg with
  | refl => exact h
  | step _ ih => exact pm_run_mono _ _ _ _ ih
def pm_Ev (X : Nat × (Nat → Int32)) (k : Nat) (S : pm_S) (r : Option Value × pm_M) : Prop := ∃ f, pm_run X f k S = some r
theorem pm_Ev_one {X : Nat × (Nat → Int32)} {k : Nat} {S : pm_S} {r r' : Option Value × pm_M} (h : pm_Ev X k S r) (h' : pm_Ev X k S r') : r = r' := by
  obtain ⟨f, h⟩ := h
  obtain ⟨g, h'⟩ := h'
  have h1 := pm_run_le h (Nat.le_max_left f g)
  have h2 := pm_run_le h' (Nat.le_max_right f g)
  rw [h1] at h2
  exact Option.some.inj h2
noncomputable def pm_ev (X : Nat × (Nat → Int32)) (k : Nat) (S : pm_S) : Option (Option Value × pm_M) :=
  haveI := Classical.propDecidable (∃ r, pm_Ev X k S r)
  if h : ∃ r, pm_Ev X k S r then some (Classical.choose h) else none
theorem pm_ev_iff {X : Nat × (Nat → Int32)} {k : Nat} {S : pm_S} {r : Option Value × pm_M} : pm_ev X k S = some r ↔ pm_Ev X k S r := by
  unfold pm_ev
  constructor
  · intro h
    split at h
    · rename_i hh
      rw [← Option.some.inj h]
      exact Classical.choose_spec hh
    · cases h
  · intro h
    have hh : ∃ r, pm_Ev X k S r := ⟨r, h⟩
    rw [dif_pos hh]
    exact congrArg some (pm_Ev_one (Classical.choose_spec hh) h)
theorem pm_ev_ext {X : Nat × (Nat → Int32)} {k k' : Nat} {S S' : pm_S} (h : ∀ r, pm_Ev X k S r ↔ pm_Ev X k' S' r) : pm_ev X k S = pm_ev X k' S' := by
  apply Option.ext
  intro r
  rw [pm_ev_iff, pm_ev_iff]
  exact h r
section EV
variable {X : Nat × (Nat → Int32)} {k : Nat} {E : pm_E} {S S' S'' : pm_S} {i : Instr} {len : Nat}
theorem pm_ev_step (hE : pm_mt k = some E) (hd : decode E.2.1 S.1 = .ok (i, len)) (hs : pm_step X E i len S = some (.inl S')) (hn : pm_nx E S' = S'') : pm_ev X k S = pm_ev X k S'' := by
  apply pm_ev_ext
  intro r
  subst hn
  constructor
  · rintro ⟨f, h⟩
    cases f with
    | zero => cases h
    | succ f =>
      rw [pm_run] at h
      simp only [hE, hd, hs] at h
      exact ⟨f, h⟩
  · rintro ⟨f, h⟩
    refine ⟨f + 1, ?_⟩
    rw [pm_run]
    simp only [hE, hd, hs]
    exact h
theorem pm_ev_ret {v : Option Value} (hE : pm_mt k = some E) (hd : decode E.2.1 S.1 = .ok (i, len)) (hs : pm_step X E i len S = some (.inr (.inl v))) (hc : S.2.2.2.2.1 ≤ E.2.2.2.2.2.2.1 ∧ S.2.2.2.2.2 ≤ E.2.2.2.2.2.2.2.1) : pm_ev X k S = some (v, S.2.2.2.1) := by
  rw [pm_ev_iff]
  refine ⟨1, ?_⟩
  rw [pm_run]
  simp only [hE, hd, hs]
  rw [if_pos hc]
theorem pm_ev_call {k' : Nat} {E' : pm_E} {as rest : List Value} (hE : pm_mt k = some E) (hd : decode E.2.1 S.1 = .ok (i, len)) (hs : pm_step X E i len S = some (.inr (.inr (k', as, rest)))) (hE' : pm_mt k' = some E') (hok : pm_ok E E' as rest S.2.2.2.2 = true) :
    pm_ev X k S = (pm_ev X k' (0, pm_ent as E'.2.2.1, [], S.2.2.2.1, 0, 0)).bind (fun r => pm_ev X k (pm_nx E (S.1 + len, S.2.1, r.1.toList ++ rest, r.2, S.2.2.2.2.1 + E'.2.2.2.2.2.2.1, S.2.2.2.2.2 + E'.2.2.2.2.2.2.2.1))) := by
  apply Option.ext
  intro r
  rw [pm_ev_iff, Option.bind_eq_some_iff]
  constructor
  · rintro ⟨f, h⟩
    cases f with
    | zero => cases h
    | succ f =>
      rw [pm_run] at h
      simp only [hE, hd, hs, hE'] at h
      rw [if_pos hok] at h
      split at h
      · cases h
      · rename_i v1 M1 hc
        exact ⟨(v1, M1), pm_ev_iff.mpr ⟨f, hc⟩, pm_ev_iff.mpr ⟨f, h⟩⟩
  · rintro ⟨⟨v1, M1⟩, h1, h2⟩
    obtain ⟨f, h1⟩ := pm_ev_iff.mp h1
    obtain ⟨g, h2⟩ := pm_ev_iff.mp h2
    refine ⟨max f g + 1, ?_⟩
    rw [pm_run]
    simp only [hE, hd, hs, hE']
    rw [if_pos hok, pm_run_le h1 (Nat.le_max_left f g)]
    exact pm_run_le h2 (Nat.le_max_right f g)
end EV
/-- a method that may make no cells keeps the cells' number and kinds -/
theorem pm_step2_M {E : pm_E} {i : Instr} {len pc : Nat} {lv st : List Value} {M : pm_M} {cs : Nat × Nat} {S' : pm_S} (h : pm_step2 E i len pc lv st M cs = some (.inl S')) : S'.2.2.2.1 = M ∧ S'.2.2.2.2 = cs := by
  cases i
  all_goals (simp only [pm_step2, reduceCtorEq] at h)
  all_goals (repeat' split at h)
  all_goals first | (cases h; done) | (cases h; exact ⟨rfl, rfl⟩)
theorem pm_putf_M {E : pm_E} {idx a : Nat} {v : Value} {M M' : pm_M} (h : pm_putf E idx a v M = some M') : M'.1 = M.1 ∧ M'.2.1 = M.2.1 := by
  unfold pm_putf at h
  repeat' split at h
  all_goals first | (cases h; done) | (cases h; exact ⟨rfl, rfl⟩)
theorem pm_copy_M {src dst : Nat} {sp dp n : Int32} {M M' : pm_M} (h : pm_copy M src sp dst dp n = some M') : M'.1 = M.1 ∧ M'.2.1 = M.2.1 := by
  unfold pm_copy at h
  split at h
  · have h := Option.some.inj h
    subst h
    exact ⟨rfl, rfl⟩
  · cases h
theorem pm_step3_M {X : Nat × (Nat → Int32)} {E : pm_E} {i : Instr} {len pc : Nat} {lv st : List Value} {M : pm_M} {cs : Nat × Nat} {S' : pm_S} (h0 : E.2.2.2.2.2.2.1 = 0) (h : pm_step3 X E i len pc lv st M cs = some (.inl S')) : (S'.2.2.2.1.1 = M.1 ∧ S'.2.2.2.1.2.1 = M.2.1) ∧ S'.2.2.2.2 = cs := by
  cases i
  all_goals (simp only [pm_step3, reduceCtorEq] at h)
  case invokevirtual => exfalso; unfold pm_callV at h; (repeat' split at h); all_goals cases h
  case invokestatic =>
    split at h
    · split at h
      · split at h
        · rename_i hc
          split at h
          · cases h; exact ⟨pm_copy_M hc, rfl⟩
          · cases h
        · cases h
      · cases h
    · exfalso; unfold pm_callS at h; (repeat' split at h); all_goals cases h
  case invokespecial =>
    split at h
    · split at h
      · split at h
        · cases h; exact ⟨⟨rfl, rfl⟩, rfl⟩
        · cases h
      · cases h
    · exfalso; unfold pm_callI at h; (repeat' split at h); all_goals cases h
  case putfield =>
    split at h
    · split at h
      · rename_i hc
        cases h; exact ⟨pm_putf_M hc, rfl⟩
      · cases h
    · cases h
  all_goals (repeat' split at h)
  all_goals first | (cases h; done) | (cases h; exact ⟨⟨rfl, rfl⟩, rfl⟩) | (exfalso; omega)
theorem pm_run_keeps {X : Nat × (Nat → Int32)} : ∀ (f k : Nat) (E : pm_E) (S : pm_S) (v : Option Value) (M' : pm_M), pm_mt k = some E → E.2.2.2.2.2.2.1 = 0 → S.2.2.2.2.1 = 0 → pm_run X f k S = some (v, M') → M'.1 = S.2.2.2.1.1 ∧ M'.2.1 = S.2.2.2.1.2.1 := by
  intro f
  induction f with
  | zero => intro k E S v M' _ _ _ h; cases h
  | succ f ih =>
    intro k E S v M' hE h0 hc0 h
    rw [pm_run] at h
    simp only [hE] at h
    split at h
    · rename_i i len hd
      split at h
      · cases h
      · rename_i S' hs
        have h1 : (S'.2.2.2.1.1 = S.2.2.2.1.1 ∧ S'.2.2.2.1.2.1 = S.2.2.2.1.2.1) ∧ S'.2.2.2.2 = S.2.2.2.2 := by
          unfold pm_step at hs
          split at hs
          · split at hs
            · rename_i o ho
              cases hs
              obtain ⟨a, b⟩ := pm_step2_M ho
              exact ⟨⟨by rw [a], by rw [a]⟩, b⟩
            · exact pm_step3_M h0 hs
          · cases hs
        have h2 := ih k E (pm_nx E S') v M' hE h0 (by show S'.2.2.2.2.1 = 0; rw [h1.2]; exact hc0) h
        exact ⟨h2.1.trans h1.1.1, h2.2.trans h1.1.2⟩
      · split at h
        · cases h; exact ⟨rfl, rfl⟩
        · cases h
      · rename_i k' as rest hs
        split at h
        · cases h
        · rename_i E' hE'
          split at h
          · rename_i hok
            unfold pm_ok at hok
            simp only [Bool.and_eq_true, decide_eq_true_eq] at hok
            have h0' : E'.2.2.2.2.2.2.1 = 0 := by omega
            split at h
            · cases h
            · rename_i v1 M1 hc
              have h1 := ih k' E' _ v1 M1 hE' h0' rfl hc
              have h2 := ih k E _ v M' hE h0 (by show S.2.2.2.2.1 + E'.2.2.2.2.2.2.1 = 0; omega) h
              exact ⟨h2.1.trans h1.1, h2.2.trans h1.2⟩
          · cases h
    · cases h
/-- a method that isn't the law's doesn't look at the script -/
theorem pm_step_X {X X' : Nat × (Nat → Int32)} {E : pm_E} (h : E.2.2.2.2.1 ≠ 9) (i : Instr) (len : Nat) (S : pm_S) : pm_step X E i len S = pm_step X' E i len S := by
  unfold pm_step
  have e3 : pm_step3 X E i len S.1 S.2.1 S.2.2.1 S.2.2.2.1 S.2.2.2.2 = pm_step3 X' E i len S.1 S.2.1 S.2.2.1 S.2.2.2.1 S.2.2.2.2 := by
    cases i <;> first | rfl | (simp only [pm_step3, pm_iald, pm_alen, h, and_false, if_false])
  rw [e3]
theorem pm_mls_own : pm_mls.all (fun q => match pm_mt q.2.1 with
  | some E => decide (E.2.2.2.2.1 ≠ 9)
  | none => false) = true := by decide +kernel
theorem pm_ml_own {own idx k kd n : Nat} {E' : pm_E} (h : pm_ml own idx = some (k, kd, n)) (hE : pm_mt k = some E') : E'.2.2.2.2.1 ≠ 9 := by
  have h5 := List.all_eq_true.mp pm_mls_own _ (pm_lookup h)
  simp only [hE, decide_eq_true_eq] at h5
  exact h5
theorem pm_step_call {X : Nat × (Nat → Int32)} {E E' : pm_E} {i : Instr} {len k : Nat} {S : pm_S} {as rest : List Value} (h : pm_step X E i len S = some (.inr (.inr (k, as, rest)))) (hE : pm_mt k = some E') : E'.2.2.2.2.1 ≠ 9 := by
  unfold pm_step at h
  split at h
  · split at h
    · rename_i o ho
      cases h
      obtain ⟨S', hS'⟩ := pm_step2_inl ho
      cases hS'
    · cases i
      all_goals (simp only [pm_step3, reduceCtorEq] at h)
      case invokevirtual =>
        unfold pm_callV at h
        split at h
        · rename_i hml
          repeat' split at h
          all_goals first | (cases h; done) | (cases h; exact pm_ml_own hml hE)
        · cases h
      case invokestatic =>
        split at h
        · exfalso; (repeat' split at h); all_goals cases h
        · unfold pm_callS at h
          split at h
          · rename_i hml
            repeat' split at h
            all_goals first | (cases h; done) | (cases h; exact pm_ml_own hml hE)
          · cases h
      case invokespecial =>
        split at h
        · exfalso; (repeat' split at h); all_goals cases h
        · unfold pm_callI at h
          split at h
          · rename_i hml
            repeat' split at h
            all_goals first | (cases h; done) | (cases h; exact pm_ml_own hml hE)
          · cases h
      all_goals exfalso
      all_goals (repeat' split at h)
      all_goals cases h
  · cases h
theorem pm_run_X {X X' : Nat × (Nat → Int32)} : ∀ (f k : Nat) (E : pm_E) (S : pm_S), pm_mt k = some E → E.2.2.2.2.1 ≠ 9 → pm_run X f k S = pm_run X' f k S := by
  intro f
  induction f with
  | zero => intros; rfl
  | succ f ih =>
    intro k E S hE h9
    rw [pm_run, pm_run]
    simp only [hE]
    cases hd : decode E.2.1 S.1 with
    | error _ => rfl
    | ok q =>
      obtain ⟨i, len⟩ := q
      simp only
      rw [pm_step_X (X := X) (X' := X') h9 i len S]
      cases hs : pm_step X' E i len S with
      | none => rfl
      | some o =>
        rcases o with S' | v | ⟨k', as, rest⟩
        · exact ih k E _ hE h9
        · rfl
        · simp only
          cases hE' : pm_mt k' with
          | none => rfl
          | some E' =>
            simp only
            split
            · rw [ih k' E' _ hE' (pm_step_call hs hE')]
              split
              · rfl
              · exact ih k E _ hE h9
            · rfl
theorem pm_ev_X {X X' : Nat × (Nat → Int32)} {k : Nat} {E : pm_E} {S : pm_S} (hE : pm_mt k = some E) (h : E.2.2.2.2.1 ≠ 9) : pm_ev X k S = pm_ev X' k S := by
  apply Option.ext
  intro r
  rw [pm_ev_iff, pm_ev_iff]
  constructor
  · rintro ⟨f, hf⟩
    exact ⟨f, by rw [pm_run_X (X := X') (X' := X) f k E S hE h]; exact hf⟩
  · rintro ⟨f, hf⟩
    exact ⟨f, by rw [pm_run_X (X := X) (X' := X') f k E S hE h]; exact hf⟩
