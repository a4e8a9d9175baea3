/-! A run of the pure machine is a run of the machine. -/
section PM11
variable {l : Launch} {X : Nat × (Nat → Int32)}
/-- what the machine does at a method's answer -/
def pm_Ret (p : Program) (l : Launch) (e : Env) (R : Room) (s : State) (m : MethodId) (args : Array Value) (below : List Frame) (meth : Method) (c : Code) (Q : State → Prop) (base : Nat) (Z : Value) (adr : Nat → Nat) (D : va_G) (cA : Nat → ClassId) (X : Nat × (Nat → Int32)) (E : pm_E) (v : Option Value) (M' : pm_M) : Prop :=
  ∀ (H : Heap) (locs : List Loc) (ls : Array Slot) (pc : Nat) (i : Instr) (len : Nat) (lv st : List Value) (cs : Nat × Nat), pm_H base adr D cA M' H → va_S (fun q => base ≤ q) s.heap H locs → decode E.2.1 pc = .ok (i, len) → pm_len i len = true → pm_step3 X E i len pc lv st M' cs = some (.inr (.inl v)) → W p l e R s m args below meth c H locs E.2.2.2.2.2.2.1 E.2.2.2.2.2.2.2.1 Q (F0 m pc ls (st.map (pm_rv Z adr)))
def pm_Sound (l : Launch) (X : Nat × (Nat → Int32)) (f : Nat) : Prop :=
  ∀ (k : Nat) (E : pm_E) (S : pm_S) (v : Option Value) (M' : pm_M), pm_mt k = some E → pm_run X f k S = some (v, M') → ∀ (p : Program) (e : Env) (R : Room) (s : State) (m : MethodId) (args : Array Value) (below : List Frame) (meth : Method) (c : Code) (Q : State → Prop) (base : Nat) (Z : Value) (adr : Nat → Nat) (D : va_G) (cA : Nat → ClassId),
    pm_F p m c s args E → pm_Wd base Z adr D cA X s → pm_Wx s → (E.1.name = "<init>" → meth.name = "<init>") → pm_Rm R E → pm_Ret p l e R s m args below meth c Q base Z adr D cA X E v M' → pm_WW p l e R s m args below meth c Q base Z adr D cA E.2.2.1 S
theorem pm_ret_ok {p : Program} {e : Env} {R : Room} {s : State} {m : MethodId} {args : Array Value} {below : List Frame} {meth : Method} {c : Code} {base : Nat} {Z : Value} {adr : Nat → Nat} {D : va_G} {cA : Nat → ClassId} {E : pm_E} {v : Option Value} {M' : pm_M} (hx : p.tables.exec = Jvm.exec) (hb : c.code = E.2.1) (hr : meth.sig.returnType = E.2.2.2.1) (hlocks : meth.locks = false) :
    pm_Ret p l e R s m args below meth c (MQ below (pm_Q base Z adr D cA v M') args s E.2.2.2.2.2.2.1 E.2.2.2.2.2.2.2.1 (fun q => base ≤ q)) base Z adr D cA X E v M' := by
  intro H locs ls pc i len lv st cs hH hS hd hl h
  have hq : ∀ t : State, t.heap = H → s.WarmedH t.vm → pm_Q base Z adr D cA v M' args s (.returned (v.map (pm_rv Z adr))) t := fun t ht _ => ⟨rfl, by rw [ht]; exact hH, hS.F ht⟩
  cases i
  all_goals (simp only [pm_step3, reduceCtorEq] at h)
  case ireturn =>
    simp [pm_len] at hl; subst hl
    split at h
    · rename_i x
      split at h
      · rename_i hc
        cases h
        rcases hc with hc | ⟨hc, h01⟩ | ⟨hc, h0, h1⟩ | ⟨hc, h0⟩
        · exact W.zret hx hb (hr.trans hc) rfl hq hS.2.2 hd hlocks
        · exact W.zret hx hb (hr.trans hc) (by rcases h01 with rfl | rfl <;> rfl) hq hS.2.2 hd hlocks
        · refine W.zret hx hb (hr.trans hc) ?_ hq hS.2.2 hd hlocks
          obtain ⟨j, hj, rfl⟩ := nI_of2 (M := 255) (n := 255) rfl (Int32.not_lt.mpr h0) h1
          exact (pk_charN (by omega)).1
        · subst h0
          exact W.zret hx hb (hr.trans hc) rfl hq hS.2.2 hd hlocks
      · cases h
    · cases h
  case lreturn =>
    simp [pm_len] at hl; subst hl
    split at h
    · split at h
      · rename_i hc
        cases h
        exact W.lret hx hb (hr.trans hc) hq hS.2.2 hd hlocks
      · cases h
    · cases h
  case areturn =>
    simp [pm_len] at hl; subst hl
    split at h
    · split at h
      · rename_i hc
        cases h
        exact W.aret hx hb (hr.trans hc) (Or.inl ⟨_, rfl⟩) (Or.inr ⟨_, rfl⟩) hq hS.2.2 hd hlocks
      · cases h
    · cases h
  case return_ =>
    simp [pm_len] at hl; subst hl
    split at h
    · split at h
      · rename_i hc
        cases h
        exact W.vret hx hb (hr.trans hc) hq hS.2.2 hd hlocks
      · cases h
    · cases h
  all_goals exfalso
  case invokevirtual => unfold pm_callV at h; (repeat' split at h); all_goals cases h
  case invokestatic =>
    split at h
    · (repeat' split at h); all_goals cases h
    · unfold pm_callS at h; (repeat' split at h); all_goals cases h
  case invokespecial =>
    split at h
    · (repeat' split at h); all_goals cases h
    · unfold pm_callI at h; (repeat' split at h); all_goals cases h
  all_goals (repeat' split at h)
  all_goals cases h
theorem pm_met {f : Nat} (hf : pm_Sound l X f) {k : Nat} {E : pm_E} {as : List Value} {M M' : pm_M} {v : Option Value} (hE : pm_mt k = some E) (hlen : (pm_flat as).length ≤ E.2.2.1) (h : pm_run X f k (0, pm_ent as E.2.2.1, [], M, 0, 0) = some (v, M')) (base : Nat) (Z : Value) (adr : Nat → Nat) (D : va_G) (cA : Nat → ClassId) : pm_Met l base Z adr D cA X E as M v M' := by
  have hq := (pm_mt_ok hE).1
  unfold pm_mtq at hq
  simp only [Bool.and_eq_true, decide_eq_true_eq] at hq
  obtain ⟨⟨⟨⟨q1, q2⟩, q3⟩, q4⟩, q5⟩ := hq
  refine va_MetF (cc := E.2.1) (maxL := E.2.2.1) (ret := E.2.2.2.1) q2 rfl ?_
  intro p e s m args below meth c s₁ B hml hv
  obtain ⟨rfl, hWd, hWx, hH⟩ := hv
  have hts := atoms_spec (ws := pm_wl E) B.pre
  have hown : s.vm.findClass (pm_R E.2.2.2.2.1) = some m.cls := by rw [← q1]; exact findClass_of_methodNamed B.named
  have hn : E.1.name = "<init>" → meth.name = "<init>" := fun h => (name_of_methodNamed B.named B.method).1.trans h
  have hZ := pm_Zc hWd.1.2.2.1
  have hF : pm_F p m c s (as.map (pm_rv Z adr)).toArray E := ⟨B.exec, B.bytes, hml, hown, fun w hw => hts w (List.mem_cons_of_mem _ hw)⟩
  have hR : pm_Rm (headSpec (pm_wl E) (pm_rm E)).room E := ⟨⟨Nat.le_refl _, Nat.le_refl _⟩, Nat.le_refl _, Nat.le_refl _⟩
  have hw := hf k E _ v M' hE h p e (headSpec (pm_wl E) (pm_rm E)).room s m (as.map (pm_rv Z adr)).toArray below meth c (MQ below (pm_Q base Z adr D cA v M') (as.map (pm_rv Z adr)).toArray s E.2.2.2.2.2.2.1 E.2.2.2.2.2.2.2.1 (fun q => base ≤ q)) base Z adr D cA hF hWd hWx hn hR (pm_ret_ok B.exec B.bytes B.returns B.notSynchronized)
  have hlen2 : (lg_sl (as.map (pm_rv Z adr))).length ≤ E.2.2.1 := by rw [pm_flat_sl hZ]; exact hlen
  have hl := lv_entry (as.map (pm_rv Z adr)) (n := E.2.2.1) hlen2
  rw [lg_entry_eq]
  refine hw s.heap [] _ hH va_S.rf ⟨?_, hl.1, hl.2.1, fun q hq => hl.2.2 q (pm_flat_al hZ as 0 _ q hq)⟩
  show (pm_flat as ++ List.replicate (E.2.2.1 - (pm_flat as).length) pm_u).length = E.2.2.1
  rw [List.length_append, List.length_replicate]
  omega
theorem pm_sound (l : Launch) (X : Nat × (Nat → Int32)) : ∀ f : Nat, pm_Sound l X f := by
  intro f
  induction f with
  | zero =>
    intro k E S v M' hE h
    cases h
  | succ f ih =>
    intro k E S v M' hE h p e R s m args below meth c Q base Z adr D cA hF hWd hWx hn hR hret
    have hmtq := (pm_mt_ok hE).1
    have hZ := pm_Zc hWd.1.2.2.1
    obtain ⟨pc, lv, st, M, cs⟩ := S
    rw [pm_run, hE] at h
    simp only at h
    split at h
    · rename_i i len hd
      split at h
      · cases h
      · rename_i S' hs
        have hw := ih k E _ v M' hE h p e R s m args below meth c Q base Z adr D cA hF hWd hWx hn hR hret
        have hw := hw.nx
        unfold pm_step at hs
        split at hs
        · rename_i hl
          split at hs
          · rename_i o ho
            cases hs
            exact pm_s2 hF.1 hF.2.1 hZ hd hl ho hw
          · exact pm_s3 hF hWd hWx hn hR hmtq hd hl hs hw
        · cases hs
      · rename_i v' hs
        split at h
        · rename_i hc
          cases h
          unfold pm_step at hs
          split at hs
          · rename_i hl
            split at hs
            · rename_i o ho
              cases hs
              obtain ⟨S', hS'⟩ := pm_step2_inl ho
              cases hS'
            · intro H locs ls hH hS hL
              exact W.widen hc.1 hc.2 (hret H locs ls pc i len lv st cs hH hS hd hl hs)
          · cases hs
        · cases h
      · rename_i k' as rest hs
        split at h
        · cases h
        · rename_i E' hE'
          split at h
          · rename_i hok
            split at h
            · cases h
            · rename_i v1 M1 hcall
              have hw := ih k E _ v M' hE h p e R s m args below meth c Q base Z adr D cA hF hWd hWx hn hR hret
              have hw := hw.nx
              unfold pm_step at hs
              split at hs
              · rename_i hl
                split at hs
                · rename_i o ho
                  cases hs
                  obtain ⟨S', hS'⟩ := pm_step2_inl ho
                  cases hS'
                · have hlen : (pm_flat as).length ≤ E'.2.2.1 := by
                    unfold pm_ok at hok
                    simp only [Bool.and_eq_true, decide_eq_true_eq] at hok
                    exact hok.1.1.1.1
                  exact pm_c hF hWd hWx hR hd hl hs hE' hok (pm_met ih hE' hlen hcall base Z adr D cA) hw
              · cases hs
          · cases h
    · cases h
end PM11
