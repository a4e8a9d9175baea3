/-! The pure machine is sound, 4: arrays and fields. -/
theorem pm_len18 : pm_stx.length = 18 := by decide +kernel
theorem pm_stb_len (i : Nat) : (pm_stx.map (fun q => q.2.2.length)).getD i 0 = (pm_stb i).length := by
  unfold pm_stb
  rw [List.getD_eq_getElem?_getD, List.getElem?_map]
  cases pm_stx[i]? <;> rfl
theorem pm_stb_get (i : Nat) : (pm_stx.map (fun q => q.2.2)).getD i [] = pm_stb i := by
  unfold pm_stb
  rw [List.getD_eq_getElem?_getD, List.getElem?_map]
section PM4
variable {p : Program} {l : Launch} {e : Env} {R : Room} {s : State} {m : MethodId} {args : Array Value} {below : List Frame} {meth : Method} {c : Code} {Q : State → Prop}
variable {base : Nat} {Z : Value} {adr : Nat → Nat} {D : va_G} {cA : Nat → ClassId} {X : Nat × (Nat → Int32)} {E : pm_E}
theorem pm_r_iald {pc a : Nat} {i v : Int32} {lv st : List Value} {M : pm_M} {cs : Nat × Nat} (hF : pm_F p m c s args E) (hW : pm_Wd base Z adr D cA X s) (hd : decode E.2.1 pc = .ok (.iaload, 1)) (h : pm_iald X E.2.2.2.2.1 M a i = some v)
    (hk : pm_WW p l e R s m args below meth c Q base Z adr D cA E.2.2.1 (pc + 1, lv, .int v :: st, M, cs)) : pm_WW p l e R s m args below meth c Q base Z adr D cA E.2.2.1 (pc, lv, .int i :: .ref a :: st, M, cs) := by
  intro H locs ls hH hS hL
  have hH : pm_H base adr D cA M H := hH
  obtain ⟨hx, hb, hml, hown, hts⟩ := hF
  have hk' := hk H locs ls hH hS hL
  unfold pm_iald at h
  split at h
  · rename_i hkind
    split at h
    · rename_i hi
      cases h
      obtain ⟨hin, hlt⟩ := hH.in (a := a) (by omega)
      show W p l e R s m args below meth c H locs cs.1 cs.2 Q (F0 m pc ls (.int i :: .ref (adr a) :: st.map (pm_rv Z adr)))
      rw [hW.1.2.1 a hlt]
      exact va_iald hx hb hW.1.2.2.2 hH.2.2.2 a 0 (by rw [pm_ws_get hin, pm_cell_int hkind (by omega)]) rfl (pm_in_iff hi) hd hk'
    · cases h
  · split at h
    · rename_i ha
      obtain ⟨rfl, -⟩ := ha
      split at h
      · rename_i hi
        cases h
        exact va_sld hx hb hW.2.2.2.2.1 (Nat.lt_of_lt_of_le hW.2.2.2.2.2 hW.1.1) (fun q => Nat.not_le.mpr hW.2.2.2.2.2 q) hS (pm_in_iff hi) hd hk'
      · cases h
    · split at h
      · rename_i ha
        split at h
        · rename_i hi
          have h := Option.some.inj h
          subst h
          obtain ⟨j, rfl⟩ : ∃ j, a = 1000200 + j := ⟨a - 1000200, by omega⟩
          have e1 : 1000200 + j - 1000200 = j := by omega
          rw [e1] at hk'
          exact va_ti hx hb (hW.2.2.1 j (by omega)) hS (pm_in_iff hi) rfl hd hk'
        · cases h
      · cases h
theorem pm_r_bald {pc a : Nat} {i v : Int32} {lv st : List Value} {M : pm_M} {cs : Nat × Nat} (hF : pm_F p m c s args E) (hW : pm_Wd base Z adr D cA X s) (hd : decode E.2.1 pc = .ok (.baload, 1)) (h : pm_bald M a i = some v)
    (hk : pm_WW p l e R s m args below meth c Q base Z adr D cA E.2.2.1 (pc + 1, lv, .int v :: st, M, cs)) : pm_WW p l e R s m args below meth c Q base Z adr D cA E.2.2.1 (pc, lv, .int i :: .ref a :: st, M, cs) := by
  intro H locs ls hH hS hL
  have hH : pm_H base adr D cA M H := hH
  obtain ⟨hx, hb, hml, hown, hts⟩ := hF
  have hk' := hk H locs ls hH hS hL
  unfold pm_bald at h
  split at h
  · rename_i hkind
    split at h
    · rename_i hi
      cases h
      obtain ⟨hin, hlt⟩ := hH.in (a := a) (by omega)
      show W p l e R s m args below meth c H locs cs.1 cs.2 Q (F0 m pc ls (.int i :: .ref (adr a) :: st.map (pm_rv Z adr)))
      rw [hW.1.2.1 a hlt]
      exact va_zald hx hb hW.1.2.2.2 hH.2.2.2 a 1 (by rw [pm_ws_get hin, pm_cell_int hkind (by omega)]) rfl (pm_in_iff hi) hd hk'
    · cases h
  · split at h
    · rename_i ha
      split at h
      · rename_i hi
        have h := Option.some.inj h
        subst h
        obtain ⟨j, rfl⟩ : ∃ j, a = 1000100 + j := ⟨a - 1000100, by omega⟩
        have e1 : 1000100 + j - 1000100 = j := by omega
        rw [e1] at hk' hi
        have hT := (hW.2.1.1.1 j (by omega)).2.2.2
        rw [pm_stb_len] at hT
        exact va_tb hx hb hT hS (pm_in_iff hi) (by simp only [pm_stb_get]; rfl) hd hk'
      · cases h
    · cases h
theorem pm_tys_get {cA : Nat → ClassId} {k : Nat} (h : k ≤ 5) : ∃ ty, (pm_tys cA)[k]? = some (cA k, ty) := by
  match k, h with
  | 0, _ => exact ⟨_, rfl⟩
  | 1, _ => exact ⟨_, rfl⟩
  | 2, _ => exact ⟨_, rfl⟩
  | 3, _ => exact ⟨_, rfl⟩
  | 4, _ => exact ⟨_, rfl⟩
  | 5, _ => exact ⟨_, rfl⟩
theorem pm_r_alen {pc a n : Nat} {lv st : List Value} {M : pm_M} {cs : Nat × Nat} (hF : pm_F p m c s args E) (hW : pm_Wd base Z adr D cA X s) (hd : decode E.2.1 pc = .ok (.arraylength, 1)) (h : pm_alen X E.2.2.2.2.1 M a = some n)
    (hk : pm_WW p l e R s m args below meth c Q base Z adr D cA E.2.2.1 (pc + 1, lv, .int (Int32.ofNat n) :: st, M, cs)) : pm_WW p l e R s m args below meth c Q base Z adr D cA E.2.2.1 (pc, lv, .ref a :: st, M, cs) := by
  intro H locs ls hH hS hL
  have hH : pm_H base adr D cA M H := hH
  obtain ⟨hx, hb, hml, hown, hts⟩ := hF
  have hk' := hk H locs ls hH hS hL
  unfold pm_alen at h
  split at h
  · rename_i hkind
    cases h
    obtain ⟨hin, hlt⟩ := hH.in (a := a) (by omega)
    obtain ⟨ty, hty⟩ := pm_tys_get (cA := cA) hkind
    show W p l e R s m args below meth c H locs cs.1 cs.2 Q (F0 m pc ls (.ref (adr a) :: st.map (pm_rv Z adr)))
    rw [hW.1.2.1 a hlt]
    by_cases h1 : (M.2.1 a).1 ≤ 1
    · exact va_alen (x := ((M.2.1 a).2, .inl (M.2.2.1 a))) hx hb hW.1.2.2.2 hH.2.2.2 a _ (by rw [pm_ws_get hin, pm_cell_int rfl h1]) hty rfl hd hk'
    · exact va_alen (x := ((M.2.1 a).2, .inr (.inr (.inr (.inr (fun j => (M.2.2.2 a j).map adr)))))) hx hb hW.1.2.2.2 hH.2.2.2 a _ (by rw [pm_ws_get hin, pm_cell_ref rfl (by omega) hkind]) hty rfl hd hk'
  · split at h
    · rename_i ha
      obtain ⟨rfl, -⟩ := ha
      cases h
      exact va_slen hx hb hW.2.2.2.2.1 (Nat.lt_of_lt_of_le hW.2.2.2.2.2 hW.1.1) (fun q => Nat.not_le.mpr hW.2.2.2.2.2 q) hS hd hk'
    · split at h
      · rename_i ha
        have h := Option.some.inj h
        subst h
        obtain ⟨j, rfl⟩ : ∃ j, a = 1000100 + j := ⟨a - 1000100, by omega⟩
        have e1 : 1000100 + j - 1000100 = j := by omega
        rw [e1] at hk'
        have hT := (hW.2.1.1.1 j (by omega)).2.2.2
        rw [pm_stb_len] at hT
        exact va_tlen hx hb hT hS rfl hd hk'
      · split at h
        · rename_i ha
          cases h
          obtain ⟨j, rfl⟩ : ∃ j, a = 1000200 + j := ⟨a - 1000200, by omega⟩
          exact va_tlen hx hb (hW.2.2.1 j (by omega)) hS rfl hd hk'
        · cases h
theorem pm_r_aald {pc a : Nat} {i : Int32} {lv st : List Value} {M : pm_M} {cs : Nat × Nat} (hF : pm_F p m c s args E) (hW : pm_Wd base Z adr D cA X s) (hd : decode E.2.1 pc = .ok (.aaload, 1)) (h1 : 2 ≤ (M.2.1 a).1) (h2 : (M.2.1 a).1 ≤ 5) (hi : pm_in i (M.2.1 a).2 = true)
    (hk : pm_WW p l e R s m args below meth c Q base Z adr D cA E.2.2.1 (pc + 1, lv, pm_ro (M.2.2.2 a i.toNatClampNeg) :: st, M, cs)) : pm_WW p l e R s m args below meth c Q base Z adr D cA E.2.2.1 (pc, lv, .int i :: .ref a :: st, M, cs) := by
  intro H locs ls hH hS hL
  have hH : pm_H base adr D cA M H := hH
  obtain ⟨hx, hb, hml, hown, hts⟩ := hF
  have hk' := hk H locs ls hH hS hL
  rw [List.map_cons, pm_rv_ro] at hk'
  obtain ⟨hin, hlt⟩ := hH.in (a := a) (by omega)
  show W p l e R s m args below meth c H locs cs.1 cs.2 Q (F0 m pc ls (.int i :: .ref (adr a) :: st.map (pm_rv Z adr)))
  rw [hW.1.2.1 a hlt]
  have hcell : (pm_ws base adr cA M)[a]? = some (base + a, .inl (cA (M.2.1 a).1, (M.2.1 a).2, .inr (.inr (.inr (.inr (fun j => (M.2.2.2 a j).map adr)))))) := by rw [pm_ws_get hin, pm_cell_ref rfl h1 h2]
  rcases (show (M.2.1 a).1 = 2 ∨ (M.2.1 a).1 = 3 ∨ (M.2.1 a).1 = 4 ∨ (M.2.1 a).1 = 5 by omega) with q | q | q | q
  · rw [q] at hcell
    exact va_aldq (f := fun j => (M.2.2.2 a j).map adr) hx hb hW.1.2.2.2 hH.2.2.2 a 2 hcell rfl (pm_in_iff hi) hd hk'
  · rw [q] at hcell
    exact va_aldq (f := fun j => (M.2.2.2 a j).map adr) hx hb hW.1.2.2.2 hH.2.2.2 a 3 hcell rfl (pm_in_iff hi) hd hk'
  · rw [q] at hcell
    exact va_aldq (f := fun j => (M.2.2.2 a j).map adr) hx hb hW.1.2.2.2 hH.2.2.2 a 4 hcell rfl (pm_in_iff hi) hd hk'
  · rw [q] at hcell
    have hv := pm_in_iff hi
    have hlt' : i.toNatClampNeg < (M.2.1 a).2 := Nat.not_le.mp fun q => hv (Or.inr q)
    exact W.aald (v := va_rf ((M.2.2.2 a i.toNatClampNeg).map adr)) (ty := .array .int) hx hb (hH.2.2.2 a _ hcell) ((hW.1.2.2.2.2 5 (cA 5, .array .int) rfl).1 _ (fun j => va_rf ((M.2.2.2 a j).map adr))) rfl (fun q => by cases q) (by show ¬ (i < 0 ∨ (arrV _ _ _).slots.size ≤ _); rw [arrV_size]; exact hv) (by show (arrV _ _ _).slots[_]? = _; rw [arrV_read _ _ hlt']) rfl rfl hd hk'
/-- memory after a write of an int -/
theorem pm_H.setI {M : pm_M} {H1 : Heap} {H : Heap} {a i : Nat} {v : Int32} {ce : va_E} (h : pm_H base adr D cA M H) (hin : a < M.1) (hc : pm_cell adr cA (pm_setI M a i v) a = ce) (hP : va_P D pm_cls ((pm_ws base adr cA M).set a (base + a, ce)) H1) (hz : H1.size = H.size) : pm_H base adr D cA (pm_setI M a i v) H1 := by
  refine ⟨by rw [hz]; exact h.1, h.2.1, h.2.2.1, ?_⟩
  rw [pm_ws_set (M := M) (M' := pm_setI M a i v) rfl hc (fun b hb => pm_cell_congr rfl (by funext j; show pm_w2 M.2.2.1 a i v b j = _; simp [pm_w2, hb]) rfl)]
  exact hP
theorem pm_H.setR {M : pm_M} {H1 : Heap} {H : Heap} {a i : Nat} {v : Option Nat} {ce : va_E} (h : pm_H base adr D cA M H) (hin : a < M.1) (hc : pm_cell adr cA (pm_setR M a i v) a = ce) (hP : va_P D pm_cls ((pm_ws base adr cA M).set a (base + a, ce)) H1) (hz : H1.size = H.size) : pm_H base adr D cA (pm_setR M a i v) H1 := by
  refine ⟨by rw [hz]; exact h.1, h.2.1, h.2.2.1, ?_⟩
  rw [pm_ws_set (M := M) (M' := pm_setR M a i v) rfl hc (fun b hb => pm_cell_congr rfl rfl (by funext j; show pm_w2 M.2.2.2 a i v b j = _; simp [pm_w2, hb]))]
  exact hP
theorem pm_w2_upd (f : Nat → Nat → Int32) (a i : Nat) (v : Int32) : pm_w2 f a i v a = upd (f a) i v := by
  funext j
  simp [pm_w2, upd]
theorem pm_w2_up (f : Nat → Nat → Option Nat) (adr : Nat → Nat) (a i : Nat) (v : Option Nat) : (fun j => (pm_w2 f a i v a j).map adr) = va_up (fun j => (f a j).map adr) i (v.map adr) := by
  funext j
  by_cases h : j = i <;> simp [pm_w2, va_up, h]
/-- rows that write, and say that the heap keeps its size -/
theorem pm_r_iast {pc a : Nat} {i v : Int32} {lv st : List Value} {M : pm_M} {cs : Nat × Nat} (hF : pm_F p m c s args E) (hW : pm_Wd base Z adr D cA X s) (hd : decode E.2.1 pc = .ok (.iastore, 1)) (hkind : (M.2.1 a).1 = 0) (hi : pm_in i (M.2.1 a).2 = true)
    (hk : pm_WW p l e R s m args below meth c Q base Z adr D cA E.2.2.1 (pc + 1, lv, st, pm_setI M a i.toNatClampNeg v, cs)) : pm_WW p l e R s m args below meth c Q base Z adr D cA E.2.2.1 (pc, lv, .int v :: .int i :: .ref a :: st, M, cs) := by
  intro H locs ls hH hS hL
  have hH : pm_H base adr D cA M H := hH
  obtain ⟨hx, hb, hml, hown, hts⟩ := hF
  obtain ⟨hin, hlt⟩ := hH.in (a := a) (by omega)
  have hv := pm_in_iff hi
  show W p l e R s m args below meth c H locs cs.1 cs.2 Q (F0 m pc ls (.int v :: .int i :: .ref (adr a) :: st.map (pm_rv Z adr)))
  rw [hW.1.2.1 a hlt]
  have ha : (pm_ws base adr cA M)[a]? = some (base + a, .inl (cA 0, (M.2.1 a).2, .inl (M.2.2.1 a))) := by rw [pm_ws_get hin, pm_cell_int hkind (by omega)]
  have hD := pm_ws_D base adr cA M
  refine W.iast hx hb (hH.2.2.2 a _ ha) ((hW.1.2.2.2.2 0 (cA 0, .int) rfl).1 _ (fun j => .int (M.2.2.1 a j))) (fun q => by cases q) (by show ¬ (i < 0 ∨ (arrV _ _ _).slots.size ≤ _); rw [arrV_size]; exact hv) rfl rfl hd fun H1 e1 z oq => ?_
  have hcell : H1[base + a]? = some (vp_cell (cA 0) ((M.2.1 a).2, .inl (upd (M.2.2.1 a) i.toNatClampNeg v))) := by
    rw [e1, vp_cell_i, vp_cell_i, arrV_store]
    congr 2
    funext q
    by_cases hq : q = i.toNatClampNeg
    · subst hq
      simp [updV, upd]
    · simp [updV, upd, hq]
  refine hk H1 _ ls (hH.setI hin (ce := .inl (cA 0, (M.2.1 a).2, .inl (upd (M.2.2.1 a) i.toNatClampNeg v))) ?_ (hH.2.2.2.set hD ha hcell oq) z) (hS.put z oq (Nat.le_add_right _ _)) hL
  rw [pm_cell_int (M := pm_setI M a i.toNatClampNeg v) (k := 0) hkind (by omega), ← pm_w2_upd]
  rfl
theorem pm_r_zast {pc a : Nat} {i v : Int32} {lv st : List Value} {M : pm_M} {cs : Nat × Nat} (hF : pm_F p m c s args E) (hW : pm_Wd base Z adr D cA X s) (hd : decode E.2.1 pc = .ok (.bastore, 1)) (hkind : (M.2.1 a).1 = 1) (hi : pm_in i (M.2.1 a).2 = true) (hz01 : v = 0 ∨ v = 1)
    (hk : pm_WW p l e R s m args below meth c Q base Z adr D cA E.2.2.1 (pc + 1, lv, st, pm_setI M a i.toNatClampNeg v, cs)) : pm_WW p l e R s m args below meth c Q base Z adr D cA E.2.2.1 (pc, lv, .int v :: .int i :: .ref a :: st, M, cs) := by
  intro H locs ls hH hS hL
  have hH : pm_H base adr D cA M H := hH
  obtain ⟨hx, hb, hml, hown, hts⟩ := hF
  obtain ⟨hin, hlt⟩ := hH.in (a := a) (by omega)
  have hv := pm_in_iff hi
  show W p l e R s m args below meth c H locs cs.1 cs.2 Q (F0 m pc ls (.int v :: .int i :: .ref (adr a) :: st.map (pm_rv Z adr)))
  rw [hW.1.2.1 a hlt]
  have ha : (pm_ws base adr cA M)[a]? = some (base + a, .inl (cA 1, (M.2.1 a).2, .inl (M.2.2.1 a))) := by rw [pm_ws_get hin, pm_cell_int hkind (by omega)]
  have hD := pm_ws_D base adr cA M
  refine W.zast hx hb (hH.2.2.2 a _ ha) ((hW.1.2.2.2.2 1 (cA 1, .boolean) rfl).1 _ (fun j => .int (M.2.2.1 a j))) (fun q => by cases q) (by show ¬ (i < 0 ∨ (arrV _ _ _).slots.size ≤ _); rw [arrV_size]; exact hv) rfl rfl hd fun H1 e1 z oq => ?_
  have hnar : narrow .boolean (.int v) = .int v := by rcases hz01 with rfl | rfl <;> rfl
  have hcell : H1[base + a]? = some (vp_cell (cA 1) ((M.2.1 a).2, .inl (upd (M.2.2.1 a) i.toNatClampNeg v))) := by
    rw [e1, vp_cell_i, vp_cell_i, arrV_store]
    congr 2
    funext q
    by_cases hq : q = i.toNatClampNeg
    · subst hq
      simp [updV, upd, hnar]
    · simp [updV, upd, hq]
  refine hk H1 _ ls (hH.setI hin (ce := .inl (cA 1, (M.2.1 a).2, .inl (upd (M.2.2.1 a) i.toNatClampNeg v))) ?_ (hH.2.2.2.set hD ha hcell oq) z) (hS.put z oq (Nat.le_add_right _ _)) hL
  rw [pm_cell_int (M := pm_setI M a i.toNatClampNeg v) (k := 1) hkind (by omega), ← pm_w2_upd]
  rfl
theorem pm_comp_ok {k : Nat} (h1 : 2 ≤ k) (h2 : k ≤ 4) : ∃ q : vw_C, pm_cls[pm_comp k]? = some q ∧ (pm_tys cA)[k]? = some (cA k, .object q.1) ∧ pm_comp k < 9 := by
  rcases (show k = 2 ∨ k = 3 ∨ k = 4 by omega) with rfl | rfl | rfl
  · exact ⟨_, rfl, rfl, by decide⟩
  · exact ⟨_, rfl, rfl, by decide⟩
  · exact ⟨_, rfl, rfl, by decide⟩
theorem pm_r_aast {pc a b : Nat} {i : Int32} {lv st : List Value} {M : pm_M} {cs : Nat × Nat} (hF : pm_F p m c s args E) (hW : pm_Wd base Z adr D cA X s) (hd : decode E.2.1 pc = .ok (.aastore, 1)) (h1 : 2 ≤ (M.2.1 a).1) (h2 : (M.2.1 a).1 ≤ 4) (hi : pm_in i (M.2.1 a).2 = true) (hbk : (M.2.1 b).1 = 10 + pm_comp (M.2.1 a).1)
    (hk : pm_WW p l e R s m args below meth c Q base Z adr D cA E.2.2.1 (pc + 1, lv, st, pm_setR M a i.toNatClampNeg (some b), cs)) : pm_WW p l e R s m args below meth c Q base Z adr D cA E.2.2.1 (pc, lv, .ref b :: .int i :: .ref a :: st, M, cs) := by
  intro H locs ls hH hS hL
  have hH : pm_H base adr D cA M H := hH
  obtain ⟨hx, hb, hml, hown, hts⟩ := hF
  obtain ⟨r, hr, hty, hr9⟩ := pm_comp_ok (cA := cA) h1 h2
  obtain ⟨hin, hlt⟩ := hH.in (a := a) (by omega)
  obtain ⟨hinb, hltb⟩ := hH.in (a := b) (by omega)
  have hv := pm_in_iff hi
  show W p l e R s m args below meth c H locs cs.1 cs.2 Q (F0 m pc ls (.ref (adr b) :: .int i :: .ref (adr a) :: st.map (pm_rv Z adr)))
  rw [hW.1.2.1 a hlt, hW.1.2.1 b hltb]
  have ha : (pm_ws base adr cA M)[a]? = some (base + a, .inl (cA (M.2.1 a).1, (M.2.1 a).2, .inr (.inr (.inr (.inr (fun j => (M.2.2.2 a j).map adr)))))) := by rw [pm_ws_get hin, pm_cell_ref rfl h1 (by omega)]
  have hbw : (pm_ws base adr cA M)[b]? = some (base + b, .inr (pm_comp (M.2.1 a).1, (List.range (pm_N (pm_comp (M.2.1 a).1))).map (pm_fv adr M b))) := by rw [pm_ws_get hinb, pm_cell_obj hbk]
  have hD := pm_ws_D base adr cA M
  have hlt' : i.toNatClampNeg < (M.2.1 a).2 := Nat.not_le.mp fun q => hv (Or.inr q)
  have h0 : ¬ i < 0 := fun q => hv (Or.inl q)
  obtain ⟨r', hr', cellV, g1, g2, g3, -⟩ := hH.2.2.2 b _ hbw
  have hcls := (hW.1.2.2.2.1 _ r hr).2
  obtain ⟨kA, comp, k1, k2, k3, -⟩ := (hW.1.2.2.2.2 _ _ hty).2
  have hcomp : comp = D.1 (pm_comp (M.2.1 a).1) := Option.some.inj (k3.symm.trans hcls.1)
  subst hcomp
  obtain ⟨kC, hkC, -⟩ := hcls.2
  refine W.aast hx hb (hH.2.2.2 a _ ha) (fun q h => by cases h) (fun h => by cases h) k1 k2 rfl hkC ⟨h0, by show _ < (arrV _ _ _).slots.size; rw [arrV_size]; exact hlt'⟩ g1 (fun q h => by rw [g3] at h; cases h) (by rw [g2]; exact hkC) (by rw [g2]; exact va_assign hcls) rfl rfl hd fun H1 e1 z oq => ?_
  have hcell : H1[base + a]? = some (vp_cell (cA (M.2.1 a).1) ((M.2.1 a).2, .inr (.inr (.inr (.inr (va_up (fun j => (M.2.2.2 a j).map adr) i.toNatClampNeg (some (base + b)))))))) := by
    rw [e1, vp_cell_q, vp_cell_q, arrV_store]
    congr 2
    funext q
    by_cases hq : q = i.toNatClampNeg
    · subst hq
      simp [updV, va_up, va_rf]
    · simp [updV, va_up, hq]
  refine hk H1 _ ls (hH.setR hin (ce := .inl (cA (M.2.1 a).1, (M.2.1 a).2, .inr (.inr (.inr (.inr (va_up (fun j => (M.2.2.2 a j).map adr) i.toNatClampNeg (some (base + b)))))))) ?_ (hH.2.2.2.set hD ha hcell oq) z) (hS.put z oq (Nat.le_add_right _ _)) hL
  rw [pm_cell_ref (M := pm_setR M a i.toNatClampNeg (some b)) (k := (M.2.1 a).1) rfl h1 (by omega)]
  have e2 := pm_w2_up M.2.2.2 adr a i.toNatClampNeg (some b)
  rw [Option.map_some, hW.1.2.1 b hltb] at e2
  rw [← e2]
  rfl
end PM4
