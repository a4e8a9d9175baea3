/-! The pure machine is sound, 8: steps put together, answers, calls. -/
theorem pm_step2_inl {E : pm_E} {i : Instr} {len pc : Nat} {lv st : List Value} {M : pm_M} {cs : Nat × Nat} {o : pm_O} (h : pm_step2 E i len pc lv st M cs = some o) : ∃ S', o = .inl S' := by
  cases i
  all_goals (simp only [pm_step2, reduceCtorEq] at h)
  all_goals (repeat' split at h)
  all_goals first | (cases h; done) | (cases h; exact ⟨_, rfl⟩)
section PM8
variable {p : Program} {l : Launch} {e : Env} {R : Room} {s : State} {m : MethodId} {args : Array Value} {below : List Frame} {meth : Method} {c : Code} {Q : State → Prop}
variable {base : Nat} {Z : Value} {adr : Nat → Nat} {D : va_G} {cA : Nat → ClassId} {X : Nat × (Nat → Int32)} {E : pm_E}
/-- the room of a frame -/
def pm_Rm (R : Room) (E : pm_E) : Prop := (E.2.2.2.2.2.1 ≤ R.frames ∧ 32 * E.2.2.2.2.2.1 ≤ R.locals) ∧ E.2.2.2.2.2.2.1 ≤ R.cells ∧ E.2.2.2.2.2.2.2.1 ≤ R.slots
theorem pm_Zc (h : Z = .null ∨ ∃ t, Z = .ref t) : Z.category = 1 := by
  rcases h with rfl | ⟨t, rfl⟩ <;> rfl
set_option maxHeartbeats 1000000 in
theorem pm_s3 {i : Instr} {len pc : Nat} {lv st : List Value} {M : pm_M} {cs : Nat × Nat} {S' : pm_S} (hF : pm_F p m c s args E) (hW : pm_Wd base Z adr D cA X s) (hWx : pm_Wx s) (hn : E.1.name = "<init>" → meth.name = "<init>") (hR : pm_Rm R E) (hE : pm_mtq E = true) (hd : decode E.2.1 pc = .ok (i, len)) (hl : pm_len i len = true) (h : pm_step3 X E i len pc lv st M cs = some (.inl S'))
    (hk : pm_WW p l e R s m args below meth c Q base Z adr D cA E.2.2.1 S') : pm_WW p l e R s m args below meth c Q base Z adr D cA E.2.2.1 (pc, lv, st, M, cs) := by
  have hZ := pm_Zc hW.1.2.2.1
  have hh : 1 ≤ E.2.2.2.2.2.1 := by
    unfold pm_mtq at hE
    simp only [Bool.and_eq_true, decide_eq_true_eq] at hE
    exact hE.2
  cases i
  all_goals (simp only [pm_step3, reduceCtorEq] at h)
  case ldc =>
    simp [pm_len] at hl; subst hl
    split at h
    · cases h; exact pm_r_ldc hF hd (by assumption) hk
    · split at h
      · cases h; exact pm_r_ldcS hF hW hd (by assumption) hk
      · cases h
  case ldc_w =>
    simp [pm_len] at hl; subst hl
    split at h
    · cases h; exact pm_r_ldcw hF hd (by assumption) hk
    · cases h
  case ldc2_w =>
    simp [pm_len] at hl; subst hl
    split at h
    · cases h; exact pm_r_ldc2 hF hd (by assumption) hk
    · cases h
  case getstatic =>
    simp [pm_len] at hl; subst hl
    split at h
    · cases h; exact pm_r_gets hF hW hd (by assumption) hk
    · cases h
  case getfield =>
    simp [pm_len] at hl; subst hl
    split at h
    · split at h
      · cases h; exact pm_r_getf hF hW hd (by assumption) hk
      · cases h
    · cases h
  case putfield =>
    simp [pm_len] at hl; subst hl
    split at h
    · split at h
      · cases h; exact pm_r_putf hF hW hn hd (by assumption) hk
      · cases h
    · cases h
  case iaload =>
    simp [pm_len] at hl; subst hl
    split at h
    · split at h
      · cases h; exact pm_r_iald hF hW hd (by assumption) hk
      · cases h
    · cases h
  case baload =>
    simp [pm_len] at hl; subst hl
    split at h
    · split at h
      · cases h; exact pm_r_bald hF hW hd (by assumption) hk
      · cases h
    · cases h
  case arraylength =>
    simp [pm_len] at hl; subst hl
    split at h
    · split at h
      · cases h; exact pm_r_alen hF hW hd (by assumption) hk
      · cases h
    · cases h
  case aaload =>
    simp [pm_len] at hl; subst hl
    split at h
    · split at h
      · rename_i hc
        cases h; exact pm_r_aald hF hW hd hc.1 hc.2.1 hc.2.2 hk
      · cases h
    · cases h
  case iastore =>
    simp [pm_len] at hl; subst hl
    split at h
    · split at h
      · rename_i hc
        cases h; exact pm_r_iast hF hW hd hc.1 hc.2 hk
      · cases h
    · cases h
  case bastore =>
    simp [pm_len] at hl; subst hl
    split at h
    · split at h
      · rename_i hc
        cases h; exact pm_r_zast hF hW hd hc.1 hc.2.1 hc.2.2 hk
      · cases h
    · cases h
  case aastore =>
    simp [pm_len] at hl; subst hl
    split at h
    · split at h
      · rename_i hc
        cases h; exact pm_r_aast hF hW hd hc.1 hc.2.1 hc.2.2.1 hc.2.2.2 hk
      · cases h
    · cases h
  case new =>
    simp [pm_len] at hl; subst hl
    split at h
    · split at h
      · rename_i hc
        cases h; exact pm_r_new hF hW hR.2 hd (by assumption) hc hk
      · cases h
    · cases h
  case newarray t =>
    simp [pm_len] at hl; subst hl
    split at h
    · cases t
      all_goals (simp only [reduceCtorEq] at h)
      · split at h
        · rename_i hc
          cases h; exact pm_r_newa hF hW hR.2 hd (Or.inr ⟨rfl, rfl⟩) hc hk
        · cases h
      · split at h
        · rename_i hc
          cases h; exact pm_r_newa hF hW hR.2 hd (Or.inl ⟨rfl, rfl⟩) hc hk
        · cases h
    · cases h
  case anewarray =>
    simp [pm_len] at hl; subst hl
    split at h
    · split at h
      · split at h
        · rename_i hc
          cases h; exact pm_r_anew hF hW hWx hR.2 hd (by assumption) hc hk
        · cases h
      · cases h
    · cases h
  case multianewarray =>
    simp [pm_len] at hl; subst hl
    split at h
    · split at h
      · rename_i hc
        obtain ⟨h1, rfl, rfl, h4⟩ := hc
        cases h; exact pm_r_mna hF hW hWx hR.2 hd h1 rfl h4 hk
      · cases h
    · cases h
  case invokevirtual =>
    exfalso
    unfold pm_callV at h
    repeat' split at h
    all_goals cases h
  case invokestatic =>
    simp [pm_len] at hl; subst hl
    split at h
    · rename_i hc
      obtain ⟨h1, rfl⟩ := hc
      split at h
      · split at h
        · split at h
          · rename_i hc2
            cases h; exact pm_r_copy hF hW hZ ⟨by have := hR.1.1; omega, by have := hR.1.2; have := hc2.2; omega⟩ hd h1 (by assumption) hc2.1 hk
          · cases h
        · cases h
      · cases h
    · exfalso
      unfold pm_callS at h
      repeat' split at h
      all_goals cases h
  case invokespecial =>
    simp [pm_len] at hl; subst hl
    split at h
    · split at h
      · split at h
        · rename_i hc
          cases h; exact pm_r_oi hF hZ ⟨by have := hR.1.1; omega, by have := hR.1.2; omega⟩ hd (by assumption) hc.1 hk
        · cases h
      · cases h
    · exfalso
      unfold pm_callI at h
      repeat' split at h
      all_goals cases h
  case ireturn =>
    exfalso
    repeat' split at h
    all_goals cases h
  case lreturn =>
    exfalso
    repeat' split at h
    all_goals cases h
  case areturn =>
    exfalso
    repeat' split at h
    all_goals cases h
  case return_ =>
    exfalso
    repeat' split at h
    all_goals cases h
end PM8
