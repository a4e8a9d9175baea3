/-! The pure machine is sound, 2: the world; instructions that leave the memory alone. -/
def pm_fv (adr : Nat → Nat) (M : pm_M) (i k : Nat) : Value := if pm_isR ((M.2.1 i).1 - 10) k = true then va_rf ((M.2.2.2 i k).map adr) else .int (M.2.2.1 i k)
def pm_cell (adr : Nat → Nat) (cA : Nat → ClassId) (M : pm_M) (i : Nat) : va_E :=
  if 10 ≤ (M.2.1 i).1 then .inr ((M.2.1 i).1 - 10, (List.range (pm_N ((M.2.1 i).1 - 10))).map (pm_fv adr M i))
  else if (M.2.1 i).1 ≤ 1 then .inl (cA (M.2.1 i).1, (M.2.1 i).2, .inl (M.2.2.1 i))
  else .inl (cA (M.2.1 i).1, (M.2.1 i).2, .inr (.inr (.inr (.inr (fun j => (M.2.2.2 i j).map adr)))))
def pm_ws (base : Nat) (adr : Nat → Nat) (cA : Nat → ClassId) (M : pm_M) : va_W := (List.range M.1).map (fun i => (base + i, pm_cell adr cA M i))
def pm_tys (cA : Nat → ClassId) : List (ClassId × FieldType) := [(cA 0, .int), (cA 1, .boolean), (cA 2, .object RX0), (cA 3, .object RX4), (cA 4, .object RX1), (cA 5, .array .int)]
/-- the heap holds the memory's cells from base on -/
def pm_H (base : Nat) (adr : Nat → Nat) (D : va_G) (cA : Nat → ClassId) (M : pm_M) (H : Heap) : Prop := H.size = base + M.1 ∧ M.1 ≤ 1000000 ∧ (∀ a, (M.2.1 a).1 ≠ 99 → a < M.1) ∧ va_P D pm_cls (pm_ws base adr cA M) H
/-- what stands outside, and never changes -/
def pm_Wd (base : Nat) (Z : Value) (adr : Nat → Nat) (D : va_G) (cA : Nat → ClassId) (X : Nat × (Nat → Int32)) (U : State) : Prop :=
  (base ≤ U.heap.size ∧ (∀ a, a < 1000000 → adr a = base + a) ∧ (Z = .null ∨ ∃ t, Z = .ref t) ∧ va_K D pm_cls (pm_tys cA) U) ∧
  (vk_S 18 (pm_stx.map (fun q => q.2.2.length)) (pm_stx.map (fun q => q.2.2)) (fun i => adr (1000000 + i)) (fun i => adr (1000100 + i)) (fun q => base ≤ q) U U.heap ∧ ∀ (i : Nat) (q : Nat × String × List Int32), pm_stx[i]? = some q → vk_R RX6 q.1 q.2.1 (adr (1000000 + i)) U) ∧
  (∀ j, j < 3 → va_T .int (adr (1000200 + j)) 4 (fun q => .int ((pm_tabs.getD j []).getD q 0)) (fun q => base ≤ q) U U.heap) ∧
  (va_Z RX7 "SETTINGS_AT_FIRST" "[I" (.ref (adr 1000200)) (fun q => base ≤ q) U U.heap ∧ va_Z RX7 "LEAST_SETTINGS" "[I" (.ref (adr 1000201)) (fun q => base ≤ q) U U.heap ∧ va_Z RX7 "MOST_SETTINGS" "[I" (.ref (adr 1000202)) (fun q => base ≤ q) U U.heap ∧ va_Z RJ0 "COMPACT_STRINGS" "Z" (.int 1) (fun q => base ≤ q) U U.heap ∧ va_Z RJ3 "SIOOBE_FORMATTER" "Ljava/util/function/BiFunction;" Z (fun q => base ≤ q) U U.heap) ∧
  (va_X (adr 1000300) X.1 X.2 U U.heap ∧ adr 1000300 < base)
theorem pm_Wd.moved {base : Nat} {Z : Value} {adr : Nat → Nat} {D : va_G} {cA : Nat → ClassId} {X : Nat × (Nat → Int32)} {U V : State} (h : pm_Wd base Z adr D cA X U) (hW : U.WarmedH V.vm) (hq : ∀ q, q < base → V.heap[q]? = U.heap[q]?) (hz : base ≤ V.heap.size) : pm_Wd base Z adr D cA X V := by
  obtain ⟨⟨h1, h2, h3, h4⟩, ⟨h5, h6⟩, h7, ⟨h8, h9, h10, h11, h12⟩, h13, h14⟩ := h
  have ha := hW.alike
  have hk : ∀ a : Nat, a < U.heap.size → ¬ base ≤ a → V.heap[a]? = U.heap[a]? := fun a _ h => hq a (by omega)
  exact ⟨⟨hz, h2, h3, va_K.moved ha h4⟩, ⟨(h5.kept hk).moved ha, fun i q hi => (h6 i q hi).warm hW⟩, fun j hj => ((h7 j hj).kept hk).moved ha, ⟨(h8.kept hk).moved ha, (h9.kept hk).moved ha, (h10.kept hk).moved ha, (h11.kept hk).moved ha, (h12.kept hk).moved ha⟩, (h13.kept (hq _ h14)).moved ha, h14⟩
theorem pm_Wd.calling {base : Nat} {Z : Value} {adr : Nat → Nat} {D : va_G} {cA : Nat → ClassId} {X : Nat × (Nat → Int32)} {U : State} {g : JFrame} {mk : MethodId} {a : Array Value} (h : pm_Wd base Z adr D cA X U) : pm_Wd base Z adr D cA X (U.calling g mk a) := by
  obtain ⟨⟨h1, h2, h3, h4⟩, ⟨h5, h6⟩, h7, ⟨h8, h9, h10, h11, h12⟩, h13, h14⟩ := h
  have ha : U.vm.Alike (U.calling g mk a).vm := Vm.Alike.refl U.vm
  exact ⟨⟨h1, h2, h3, va_K.moved ha h4⟩, ⟨h5.moved ha, fun i q hi => (h6 i q hi).same rfl⟩, fun j hj => (h7 j hj).moved ha, ⟨h8.moved ha, h9.moved ha, h10.moved ha, h11.moved ha, h12.moved ha⟩, h13.moved ha, h14⟩
section PM
variable {p : Program} {l : Launch} {e : Env} {R : Room} {s : State} {m : MethodId} {args : Array Value} {below : List Frame} {meth : Method} {c : Code} {Q : State → Prop}
variable {base : Nat} {Z : Value} {adr : Nat → Nat} {D : va_G} {cA : Nat → ClassId} {X : Nat × (Nat → Int32)} {E : pm_E}
/-- from what stands at S the machine comes to Q -/
def pm_WW (p : Program) (l : Launch) (e : Env) (R : Room) (s : State) (m : MethodId) (args : Array Value) (below : List Frame) (meth : Method) (c : Code) (Q : State → Prop) (base : Nat) (Z : Value) (adr : Nat → Nat) (D : va_G) (cA : Nat → ClassId) (nL : Nat) (S : pm_S) : Prop :=
  ∀ (H : Heap) (locs : List Loc) (ls : Array Slot), pm_H base adr D cA S.2.2.2.1 H → va_S (fun q => base ≤ q) s.heap H locs → pm_L Z adr ls nL S.2.1 → W p l e R s m args below meth c H locs S.2.2.2.2.1 S.2.2.2.2.2 Q (F0 m S.1 ls (S.2.2.1.map (pm_rv Z adr)))
theorem pm_WW.nx {nL : Nat} {S : pm_S} (h : pm_WW p l e R s m args below meth c Q base Z adr D cA nL (pm_nx E S)) : pm_WW p l e R s m args below meth c Q base Z adr D cA nL S :=
  fun H locs ls hH hS hL => h H locs ls hH hS (hL.msk _ _)
theorem pm_tgt_eq {pc t : Nat} {off : Int} (h : pm_tgt pc off = some t) : (pc : Int) + off = (t : Int) := by
  unfold pm_tgt at h
  split at h
  · cases h; omega
  · cases h
set_option maxHeartbeats 1000000 in
theorem pm_s2 {i : Instr} {len pc : Nat} {lv st : List Value} {M : pm_M} {cs : Nat × Nat} {S' : pm_S} (hx : p.tables.exec = Jvm.exec) (hb : c.code = E.2.1) (hZ : Z.category = 1) (hd : decode E.2.1 pc = .ok (i, len)) (hl : pm_len i len = true) (h : pm_step2 E i len pc lv st M cs = some (.inl S'))
    (hk : pm_WW p l e R s m args below meth c Q base Z adr D cA E.2.2.1 S') : pm_WW p l e R s m args below meth c Q base Z adr D cA E.2.2.1 (pc, lv, st, M, cs) := by
  cases i
  all_goals (simp only [pm_step2, reduceCtorEq] at h)
  case iconst =>
    cases h
    intro H locs ls hH hS hL
    simp [pm_len] at hl; subst hl
    exact lv_iconst hx hb hd rfl (hk H locs ls hH hS hL)
  case bipush =>
    cases h
    intro H locs ls hH hS hL
    simp [pm_len] at hl; subst hl
    exact lv_bipush hx hb hd rfl (hk H locs ls hH hS hL)
  case sipush =>
    cases h
    intro H locs ls hH hS hL
    simp [pm_len] at hl; subst hl
    exact lv_sipush hx hb hd rfl (hk H locs ls hH hS hL)
  case lconst =>
    cases h
    intro H locs ls hH hS hL
    simp [pm_len] at hl; subst hl
    exact lv_lconst hx hb hd rfl (hk H locs ls hH hS hL)
  case iload =>
    split at h
    · rename_i x0 hk0
      cases h
      intro H locs ls hH hS hL
      simp [pm_len] at hl; subst hl
      exact lv_iload hx hb hd (hL.get hk0 (by simp [pm_u])) (hk H locs ls hH hS hL)
    · cases h
  case iload_n =>
    split at h
    · rename_i x0 hk0
      cases h
      intro H locs ls hH hS hL
      simp [pm_len] at hl; subst hl
      exact lv_iload_n hx hb hd rfl (hL.get hk0 (by simp [pm_u])) (hk H locs ls hH hS hL)
    · cases h
  case lload =>
    split at h
    · rename_i x0 hk0
      cases h
      intro H locs ls hH hS hL
      simp [pm_len] at hl; subst hl
      exact lv_lload hx hb hd (hL.get hk0 (by simp [pm_u])) (hk H locs ls hH hS hL)
    · cases h
  case lload_n =>
    split at h
    · rename_i x0 hk0
      cases h
      intro H locs ls hH hS hL
      simp [pm_len] at hl; subst hl
      exact lv_lload_n hx hb hd rfl (hL.get hk0 (by simp [pm_u])) (hk H locs ls hH hS hL)
    · cases h
  case aload =>
    split at h
    · rename_i x0 hk0
      cases h
      intro H locs ls hH hS hL
      simp [pm_len] at hl; subst hl
      exact lv_aload hx hb hd (hL.get hk0 (by simp [pm_u])) (hk H locs ls hH hS hL)
    · cases h
  case aload_n =>
    split at h
    · rename_i x0 hk0
      cases h
      intro H locs ls hH hS hL
      simp [pm_len] at hl; subst hl
      exact lv_aload_n hx hb hd rfl (hL.get hk0 (by simp [pm_u])) (hk H locs ls hH hS hL)
    · cases h
  case istore =>
    split at h
    · split at h
      · rename_i hlt
        cases h
        intro H locs ls hH hS hL
        simp [pm_len] at hl; subst hl
        exact lv_istore hx hb hd hL.2 (by rw [← hL.1]; exact hlt) rfl (fun ls' h' => hk H locs ls' hH hS (hL.st1 (v := .int _) hZ h'))
      · cases h
    · cases h
  case istore_n =>
    split at h
    · split at h
      · rename_i hlt
        cases h
        intro H locs ls hH hS hL
        simp [pm_len] at hl; subst hl
        exact lv_istore_n hx hb hd rfl hL.2 (by rw [← hL.1]; exact hlt) rfl (fun ls' h' => hk H locs ls' hH hS (hL.st1 (v := .int _) hZ h'))
      · cases h
    · cases h
  case astore =>
    split at h
    · split at h
      · rename_i hlt
        cases h
        intro H locs ls hH hS hL
        simp [pm_len] at hl; subst hl
        exact lv_astore hx hb hd hL.2 (by rw [← hL.1]; exact hlt) rfl (fun ls' h' => hk H locs ls' hH hS (hL.st1 (v := .ref _) hZ h'))
      · cases h
    · cases h
  case astore_n =>
    split at h
    · split at h
      · rename_i hlt
        cases h
        intro H locs ls hH hS hL
        simp [pm_len] at hl; subst hl
        exact lv_astore_n hx hb hd rfl hL.2 (by rw [← hL.1]; exact hlt) rfl (fun ls' h' => hk H locs ls' hH hS (hL.st1 (v := .ref _) hZ h'))
      · cases h
    · cases h
  case lstore =>
    split at h
    · split at h
      · rename_i hlt
        cases h
        intro H locs ls hH hS hL
        simp [pm_len] at hl; subst hl
        exact lv_lstore hx hb hd hL.2 (by rw [← hL.1]; exact hlt) rfl (fun ls' h' => hk H locs ls' hH hS (hL.st2 (v := .long _) hZ h'))
      · cases h
    · cases h
  case lstore_n =>
    split at h
    · split at h
      · rename_i hlt
        cases h
        intro H locs ls hH hS hL
        simp [pm_len] at hl; subst hl
        exact lv_lstore_n hx hb hd rfl hL.2 (by rw [← hL.1]; exact hlt) rfl (fun ls' h' => hk H locs ls' hH hS (hL.st2 (v := .long _) hZ h'))
      · cases h
    · cases h
  case iinc =>
    split at h
    · rename_i x0 hk0
      cases h
      intro H locs ls hH hS hL
      simp [pm_len] at hl; subst hl
      obtain ⟨k1, hk1⟩ := List.getElem?_of_mem ((pm_al_mem (Z := Z) (adr := adr) lv 0 _ _).mpr ⟨_, _, (Nat.zero_add _).symm, hk0, by simp [pm_u], rfl⟩)
      have hlt := (List.getElem?_eq_some_iff.mp hk0).1
      exact lv_iinc hx hb hd hL.2 hk1 rfl (by rw [← hL.1]; exact hlt) rfl (fun ls' h' => hk H locs ls' hH hS (hL.st1 (v := .int _) hZ h'))
    · cases h
  case iadd =>
    split at h
    · cases h
      intro H locs ls hH hS hL
      simp [pm_len] at hl; subst hl
      exact lv_iadd hx hb hd (hk H locs ls hH hS hL)
    · cases h
  case isub =>
    split at h
    · cases h
      intro H locs ls hH hS hL
      simp [pm_len] at hl; subst hl
      exact lv_isub hx hb hd (hk H locs ls hH hS hL)
    · cases h
  case imul =>
    split at h
    · cases h
      intro H locs ls hH hS hL
      simp [pm_len] at hl; subst hl
      exact lv_imul hx hb hd (hk H locs ls hH hS hL)
    · cases h
  case ineg =>
    split at h
    · cases h
      intro H locs ls hH hS hL
      simp [pm_len] at hl; subst hl
      exact lv_ineg hx hb hd (hk H locs ls hH hS hL)
    · cases h
  case iand =>
    split at h
    · cases h
      intro H locs ls hH hS hL
      simp [pm_len] at hl; subst hl
      exact lv_iand hx hb hd (hk H locs ls hH hS hL)
    · cases h
  case ior =>
    split at h
    · cases h
      intro H locs ls hH hS hL
      simp [pm_len] at hl; subst hl
      exact lv_ior hx hb hd (hk H locs ls hH hS hL)
    · cases h
  case ishl =>
    split at h
    · cases h
      intro H locs ls hH hS hL
      simp [pm_len] at hl; subst hl
      exact lv_ishl hx hb hd (hk H locs ls hH hS hL)
    · cases h
  case ishr =>
    split at h
    · cases h
      intro H locs ls hH hS hL
      simp [pm_len] at hl; subst hl
      exact lv_ishr hx hb hd (hk H locs ls hH hS hL)
    · cases h
  case ladd =>
    split at h
    · cases h
      intro H locs ls hH hS hL
      simp [pm_len] at hl; subst hl
      exact lv_ladd hx hb hd (hk H locs ls hH hS hL)
    · cases h
  case lsub =>
    split at h
    · cases h
      intro H locs ls hH hS hL
      simp [pm_len] at hl; subst hl
      exact lv_lsub hx hb hd (hk H locs ls hH hS hL)
    · cases h
  case lmul =>
    split at h
    · cases h
      intro H locs ls hH hS hL
      simp [pm_len] at hl; subst hl
      exact lv_lmul hx hb hd (hk H locs ls hH hS hL)
    · cases h
  case land =>
    split at h
    · cases h
      intro H locs ls hH hS hL
      simp [pm_len] at hl; subst hl
      exact lv_land hx hb hd (hk H locs ls hH hS hL)
    · cases h
  case lor =>
    split at h
    · cases h
      intro H locs ls hH hS hL
      simp [pm_len] at hl; subst hl
      exact lv_lor hx hb hd (hk H locs ls hH hS hL)
    · cases h
  case lshl =>
    split at h
    · cases h
      intro H locs ls hH hS hL
      simp [pm_len] at hl; subst hl
      exact lv_lshl hx hb hd rfl (hk H locs ls hH hS hL)
    · cases h
  case lshr =>
    split at h
    · cases h
      intro H locs ls hH hS hL
      simp [pm_len] at hl; subst hl
      exact lv_lshr hx hb hd rfl (hk H locs ls hH hS hL)
    · cases h
  case i2l =>
    split at h
    · cases h
      intro H locs ls hH hS hL
      simp [pm_len] at hl; subst hl
      exact lv_i2l hx hb hd rfl (hk H locs ls hH hS hL)
    · cases h
  case l2i =>
    split at h
    · cases h
      intro H locs ls hH hS hL
      simp [pm_len] at hl; subst hl
      exact lv_l2i hx hb hd rfl (hk H locs ls hH hS hL)
    · cases h
  case i2c =>
    split at h
    · cases h
      intro H locs ls hH hS hL
      simp [pm_len] at hl; subst hl
      exact lv_i2c hx hb hd rfl (hk H locs ls hH hS hL)
    · cases h
  case lcmp =>
    split at h
    · cases h
      intro H locs ls hH hS hL
      simp [pm_len] at hl; subst hl
      exact W.lcmp hx hb hd (hk H locs ls hH hS hL)
    · cases h
  case idiv =>
    split at h
    · split at h
      · cases h
      · rename_i hne
        cases h
        intro H locs ls hH hS hL
        simp [pm_len] at hl; subst hl
        exact lv_idiv hx hb hd hne (hk H locs ls hH hS hL)
    · cases h
  case irem =>
    split at h
    · split at h
      · cases h
      · rename_i hne
        cases h
        intro H locs ls hH hS hL
        simp [pm_len] at hl; subst hl
        exact lv_irem hx hb hd hne (hk H locs ls hH hS hL)
    · cases h
  case ldiv =>
    split at h
    · split at h
      · cases h
      · rename_i hne
        cases h
        intro H locs ls hH hS hL
        simp [pm_len] at hl; subst hl
        exact lv_ldiv hx hb hd hne (hk H locs ls hH hS hL)
    · cases h
  case dup =>
    split at h
    · cases h
      intro H locs ls hH hS hL
      simp [pm_len] at hl; subst hl
      exact lv_dup hx hb hd rfl (hk H locs ls hH hS hL)
    · cases h
      intro H locs ls hH hS hL
      simp [pm_len] at hl; subst hl
      exact lv_dup hx hb hd rfl (hk H locs ls hH hS hL)
    · cases h
  case dup2 =>
    split at h
    · cases h
      intro H locs ls hH hS hL
      simp [pm_len] at hl; subst hl
      exact lv_dup2_11 hx hb hd rfl rfl (hk H locs ls hH hS hL)
    · cases h
  case pop =>
    split at h
    · cases h
      intro H locs ls hH hS hL
      simp [pm_len] at hl; subst hl
      exact lv_pop hx hb hd rfl (hk H locs ls hH hS hL)
    · cases h
  case goto =>
    split at h
    · rename_i t ht
      cases h
      intro H locs ls hH hS hL
      simp [pm_len] at hl; subst hl
      exact lv_goto hx hb hd (pm_tgt_eq ht) (hk H locs ls hH hS hL)
    · cases h
  case ifCond cnd off =>
    split at h
    · rename_i ht
      cases cnd
      all_goals simp [pm_len] at hl
      all_goals subst hl
      all_goals split at h
      all_goals rename_i hc
      all_goals simp [pm_cnd] at hc
      all_goals cases h
      all_goals intro H locs ls hH hS hL
      · exact lv_if_eq hx hb hd (pm_tgt_eq ht) (fun _ => hk H locs ls hH hS hL) (fun q => by first | exact absurd hc q | exact absurd q hc)
      · exact lv_if_eq hx hb hd (pm_tgt_eq ht) (fun q => by first | exact absurd q hc | exact absurd hc q) (fun _ => hk H locs ls hH hS hL)
      · exact lv_if_ne hx hb hd (pm_tgt_eq ht) (fun _ => hk H locs ls hH hS hL) (fun q => by first | exact absurd hc q | exact absurd q hc)
      · exact lv_if_ne hx hb hd (pm_tgt_eq ht) (fun q => by first | exact absurd q hc | exact absurd hc q) (fun _ => hk H locs ls hH hS hL)
      · exact lv_if_lt hx hb hd (pm_tgt_eq ht) (fun _ => hk H locs ls hH hS hL) (fun q => absurd hc q)
      · exact lv_if_lt hx hb hd (pm_tgt_eq ht) (fun q => absurd q (by simpa using hc)) (fun _ => hk H locs ls hH hS hL)
      · exact lv_if_ge hx hb hd (pm_tgt_eq ht) (fun _ => hk H locs ls hH hS hL) (fun q => absurd hc q)
      · exact lv_if_ge hx hb hd (pm_tgt_eq ht) (fun q => absurd q (by simpa using hc)) (fun _ => hk H locs ls hH hS hL)
      · exact lv_if_gt hx hb hd (pm_tgt_eq ht) (fun _ => hk H locs ls hH hS hL) (fun q => absurd hc q)
      · exact lv_if_gt hx hb hd (pm_tgt_eq ht) (fun q => absurd q (by simpa using hc)) (fun _ => hk H locs ls hH hS hL)
      · exact lv_if_le hx hb hd (pm_tgt_eq ht) (fun _ => hk H locs ls hH hS hL) (fun q => absurd hc q)
      · exact lv_if_le hx hb hd (pm_tgt_eq ht) (fun q => absurd q (by simpa using hc)) (fun _ => hk H locs ls hH hS hL)
    · cases h
  case if_icmp cnd off =>
    split at h
    · rename_i ht
      cases cnd
      all_goals simp [pm_len] at hl
      all_goals subst hl
      all_goals split at h
      all_goals rename_i hc
      all_goals simp [pm_cnd] at hc
      all_goals cases h
      all_goals intro H locs ls hH hS hL
      · exact lv_icmp_eq hx hb hd (pm_tgt_eq ht) (fun _ => hk H locs ls hH hS hL) (fun q => by first | exact absurd hc q | exact absurd q hc)
      · exact lv_icmp_eq hx hb hd (pm_tgt_eq ht) (fun q => by first | exact absurd q hc | exact absurd hc q) (fun _ => hk H locs ls hH hS hL)
      · exact lv_icmp_ne hx hb hd (pm_tgt_eq ht) (fun _ => hk H locs ls hH hS hL) (fun q => by first | exact absurd hc q | exact absurd q hc)
      · exact lv_icmp_ne hx hb hd (pm_tgt_eq ht) (fun q => by first | exact absurd q hc | exact absurd hc q) (fun _ => hk H locs ls hH hS hL)
      · exact lv_icmp_lt hx hb hd (pm_tgt_eq ht) (fun _ => hk H locs ls hH hS hL) (fun q => absurd hc q)
      · exact lv_icmp_lt hx hb hd (pm_tgt_eq ht) (fun q => absurd q (by simpa using hc)) (fun _ => hk H locs ls hH hS hL)
      · exact lv_icmp_ge hx hb hd (pm_tgt_eq ht) (fun _ => hk H locs ls hH hS hL) (fun q => absurd hc q)
      · exact lv_icmp_ge hx hb hd (pm_tgt_eq ht) (fun q => absurd q (by simpa using hc)) (fun _ => hk H locs ls hH hS hL)
      · exact lv_icmp_gt hx hb hd (pm_tgt_eq ht) (fun _ => hk H locs ls hH hS hL) (fun q => absurd hc q)
      · exact lv_icmp_gt hx hb hd (pm_tgt_eq ht) (fun q => absurd q (by simpa using hc)) (fun _ => hk H locs ls hH hS hL)
      · exact lv_icmp_le hx hb hd (pm_tgt_eq ht) (fun _ => hk H locs ls hH hS hL) (fun q => absurd hc q)
      · exact lv_icmp_le hx hb hd (pm_tgt_eq ht) (fun q => absurd q (by simpa using hc)) (fun _ => hk H locs ls hH hS hL)
    · cases h
  case tableswitch =>
    split at h
    · split at h
      · rename_i ho
        split at h
        · rename_i t ht
          cases h
          intro H locs ls hH hS hL
          exact lv_tableOut hx hb hd ho (pm_tgt_eq ht) (hk H locs ls hH hS hL)
        · cases h
      · rename_i ho
        split at h
        · rename_i off hoff
          split at h
          · rename_i t ht
            cases h
            intro H locs ls hH hS hL
            exact lv_tableIn hx hb hd (fun q => ho (Or.inl q)) (fun q => ho (Or.inr q)) hoff (pm_tgt_eq ht) (hk H locs ls hH hS hL)
          · cases h
        · cases h
    · cases h
end PM
