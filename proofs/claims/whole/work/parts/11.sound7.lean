/-! The pure machine is sound, 7: new objects, arrays of references, grids, arraycopy, constants. -/
set_option maxRecDepth 100000 in
theorem pm_cl1 : ([((9, 7), 7), ((7, 27), 6), ((7, 52), 2), ((7, 59), 5), ((7, 15), 4), ((7, 21), 1), ((7, 80), 3), ((7, 9), 0), ((9, 10), 8)] : List ((Nat × Nat) × Nat)).all (fun q => decide (Cond.classLink (pm_R q.1.1) q.1.2 ((pm_cls.map (·.1)).getD q.2 "") ∈ lw_tbl) && decide (q.2 < 9)) = true := by decide +kernel
set_option maxRecDepth 100000 in
theorem pm_cl2 : ([((7, 9), 2), ((7, 15), 3), ((7, 21), 4)] : List ((Nat × Nat) × Nat)).all (fun q => decide (Cond.classLink (pm_R q.1.1) q.1.2 ((pm_cls.map (·.1)).getD (pm_comp q.2) "") ∈ lw_tbl) && decide (2 ≤ q.2 ∧ q.2 ≤ 4)) = true := by decide +kernel
set_option maxRecDepth 100000 in
theorem pm_cl3 : Cond.classLink RX7 34 ("[" ++ (FieldType.array .int).toString) ∈ pm_tb := pm_tb_of (by decide +kernel) rfl
theorem pm_newc_ok {own idx ci : Nat} (h : pm_newc own idx = some ci) : ∃ q : vw_C, pm_cls[ci]? = some q ∧ Cond.classLink (pm_R own) idx q.1 ∈ pm_tb := by
  have hm := pm_lookup h
  have h1 := List.all_eq_true.mp pm_cl1 _ hm
  simp only [Bool.and_eq_true, decide_eq_true_eq] at h1
  have h3 : ci < pm_cls.length := h1.2
  refine ⟨_, List.getElem?_eq_getElem h3, ?_⟩
  have h4 := h1.1
  rw [List.getD_eq_getElem?_getD, List.getElem?_map, List.getElem?_eq_getElem h3] at h4
  exact pm_tb_of h4 rfl
theorem pm_anew_ok {own idx k : Nat} (h : pm_anew own idx = some k) : 2 ≤ k ∧ k ≤ 4 ∧ ∀ q : vw_C, pm_cls[pm_comp k]? = some q → Cond.classLink (pm_R own) idx q.1 ∈ pm_tb := by
  have hm := pm_lookup h
  have h1 := List.all_eq_true.mp pm_cl2 _ hm
  simp only [Bool.and_eq_true, decide_eq_true_eq] at h1
  refine ⟨h1.2.1, h1.2.2, fun q hq => ?_⟩
  have h4 := h1.1
  rw [List.getD_eq_getElem?_getD, List.getElem?_map, hq] at h4
  exact pm_tb_of h4 rfl
set_option maxRecDepth 100000 in
theorem pm_oi1 : ([(0, 3), (1, 3), (2, 3), (3, 3), (4, 3), (5, 3), (6, 3), (7, 1), (8, 1)] : List (Nat × Nat)).all (fun q => decide (Cond.methodLink (pm_R q.1) q.2 Lib.objectInit ∈ lw_tbl)) = true := by decide +kernel
set_option maxRecDepth 100000 in
theorem pm_oi2 : Cond.instanceMethod Lib.objectInit ∈ pm_tb := pm_tb_of (by decide +kernel) rfl
set_option maxRecDepth 100000 in
theorem pm_oi3 : Cond.code Lib.objectInit ⟨#[0xb1]⟩ 1 none ∈ pm_tb := pm_tb_of (by decide +kernel) rfl
theorem pm_oi_ok {own idx : Nat} (h : pm_oi own idx = true) : Cond.methodLink (pm_R own) idx Lib.objectInit ∈ pm_tb ∧ Cond.instanceMethod Lib.objectInit ∈ pm_tb ∧ Cond.code Lib.objectInit ⟨#[0xb1]⟩ 1 none ∈ pm_tb := by
  have hm : (own, idx) ∈ ([(0, 3), (1, 3), (2, 3), (3, 3), (4, 3), (5, 3), (6, 3), (7, 1), (8, 1)] : List (Nat × Nat)) := by
    unfold pm_oi at h
    exact List.elem_iff.mp h
  have h1 := List.all_eq_true.mp pm_oi1 _ hm
  simp only [decide_eq_true_eq] at h1
  exact ⟨pm_tb_of h1 rfl, pm_oi2, pm_oi3⟩
set_option maxRecDepth 100000 in
theorem pm_cp1 : Cond.methodLink RX7 103 arraycopyName ∈ pm_tb := pm_tb_of (by decide +kernel) rfl
set_option maxRecDepth 100000 in
theorem pm_cp2 : Cond.native arraycopyName ∈ pm_tb := pm_tb_of (by decide +kernel) rfl
set_option maxRecDepth 100000 in
theorem pm_cp3 : Cond.static arraycopyName ∈ pm_tb := pm_tb_of (by decide +kernel) rfl
set_option maxRecDepth 100000 in
theorem pm_cp4 : Cond.initialized "java/lang/System" ∈ pm_tb := pm_tb_of (by decide +kernel) rfl
section PM7
variable {p : Program} {l : Launch} {e : Env} {R : Room} {s : State} {m : MethodId} {args : Array Value} {below : List Frame} {meth : Method} {c : Code} {Q : State → Prop}
variable {base : Nat} {Z : Value} {adr : Nat → Nat} {D : va_G} {cA : Nat → ClassId} {X : Nat × (Nat → Int32)} {E : pm_E}
theorem pm_r_new {pc idx ci : Nat} {lv st : List Value} {M : pm_M} {cs : Nat × Nat} (hF : pm_F p m c s args E) (hW : pm_Wd base Z adr D cA X s) (hR : E.2.2.2.2.2.2.1 ≤ R.cells ∧ E.2.2.2.2.2.2.2.1 ≤ R.slots) (hd : decode E.2.1 pc = .ok (.new idx, 3)) (hc : pm_newc E.2.2.2.2.1 idx = some ci) (h : M.1 < 1000000 ∧ cs.1 + 1 ≤ E.2.2.2.2.2.2.1 ∧ cs.2 + pm_N ci ≤ E.2.2.2.2.2.2.2.1)
    (hk : pm_WW p l e R s m args below meth c Q base Z adr D cA E.2.2.1 (pc + 3, lv, .ref M.1 :: st, pm_new M (10 + ci) 0, (cs.1 + 1, cs.2 + pm_N ci))) : pm_WW p l e R s m args below meth c Q base Z adr D cA E.2.2.1 (pc, lv, st, M, cs) := by
  intro H locs ls hH hS hL
  have hH : pm_H base adr D cA M H := hH
  obtain ⟨hx, hb, hml, hown, hts⟩ := hF
  obtain ⟨h1, h4, h5⟩ := h
  obtain ⟨q, hq, hw⟩ := pm_newc_ok hc
  have hc2 := pm_clsq_at hq
  have hci : ci < 9 := (List.getElem?_eq_some_iff.mp hq).1
  have hKn := hW.1.2.2.2.1 ci _ hq
  rw [pm_N_len hq] at h5 hk
  refine W.newcK hx hb hown (hts _ hw) (hts _ (pm_tb_of hc2.2.2.2.2.2.1 rfl)) (hts _ (pm_tb_of hc2.2.2.2.2.2.2.1 rfl)) rfl hd (Nat.le_trans h4 hR.1) (Nat.le_trans h5 hR.2) hKn.2.1 rfl fun H1 kC hkC e1 z1 o1 => ?_
  have hk' := hk H1 locs ls (hH.new h1 (by omega) z1 o1 ?_) (pm_S_new hS (by omega) o1) hL
  · have e3 : H.size = adr M.1 := by rw [hH.1, hW.1.2.1 _ h1]
    rw [e3]
    exact hk'
  · rw [pm_cell_obj (M := pm_new M (10 + ci) 0) (ci := ci) (by rw [pm_new_sh])]
    refine ⟨q, hq, ?_⟩
    show t_OB (base + M.1) (D.1 ci) q.2.2 (D.2 ci) H1 _
    rw [← hH.1]
    refine (u_born (pm_ty ci) hts (pm_ws_in hq) hKn hkC e1 hc2.2.2.1).to fun j hj => ?_
    show defaultValue (pm_ty ci j) = vp_V _ j
    unfold vp_V
    rw [List.getD_eq_getElem?_getD, List.getElem?_map, List.getElem?_range (by rw [pm_N_len hq]; exact hj)]
    show _ = pm_fv adr (pm_new M (10 + ci) 0) M.1 j
    unfold pm_fv
    rw [pm_new_sh, pm_new_im, pm_new_rm, Nat.add_sub_cancel_left]
    have h8 := hc2.2.2.2.2.2.2.2 j hj
    by_cases hr : pm_isR ci j = true
    · rw [if_pos hr]
      rcases h8 with h8 | h8
      · unfold pm_isR at hr; rw [h8] at hr; cases hr
      · cases hty : pm_ty ci j <;> rw [hty] at h8 <;> simp_all [FieldType.isReference, defaultValue, va_rf]
    · rw [if_neg hr, pm_fitsI hq hj (by simpa using hr)]
      rfl
theorem pm_r_anew {pc idx k : Nat} {n : Int32} {lv st : List Value} {M : pm_M} {cs : Nat × Nat} (hF : pm_F p m c s args E) (hW : pm_Wd base Z adr D cA X s) (hWx : pm_Wx s) (hR : E.2.2.2.2.2.2.1 ≤ R.cells ∧ E.2.2.2.2.2.2.2.1 ≤ R.slots) (hd : decode E.2.1 pc = .ok (.anewarray idx, 3)) (hc : pm_anew E.2.2.2.2.1 idx = some k) (h : M.1 < 1000000 ∧ ¬ n < 0 ∧ n.toNatClampNeg ≤ 1000 ∧ cs.1 + 1 ≤ E.2.2.2.2.2.2.1 ∧ cs.2 + n.toNatClampNeg ≤ E.2.2.2.2.2.2.2.1)
    (hk : pm_WW p l e R s m args below meth c Q base Z adr D cA E.2.2.1 (pc + 3, lv, .ref M.1 :: st, pm_new M k n.toNatClampNeg, (cs.1 + 1, cs.2 + n.toNatClampNeg))) : pm_WW p l e R s m args below meth c Q base Z adr D cA E.2.2.1 (pc, lv, .int n :: st, M, cs) := by
  intro H locs ls hH hS hL
  have hH : pm_H base adr D cA M H := hH
  obtain ⟨hx, hb, hml, hown, hts⟩ := hF
  obtain ⟨h1, h2, h3, h4, h5⟩ := h
  obtain ⟨k1, k2, hw⟩ := pm_anew_ok hc
  obtain ⟨q, hq, hty, -⟩ := pm_comp_ok (cA := cA) k1 k2
  have hover : va_AO q.1 s := by
    refine hWx.2 _ ?_
    rcases (show k = 2 ∨ k = 3 ∨ k = 4 by omega) with rfl | rfl | rfl
    · cases hq; exact Or.inl rfl
    · cases hq; exact Or.inr (Or.inl rfl)
    · cases hq; exact Or.inr (Or.inr (Or.inl rfl))
  refine W.anew hx hb hown (hts _ (hw q hq)) hover.use rfl hd rfl h2 (by omega) (Nat.le_trans h4 hR.1) (Nat.le_trans h5 hR.2) fun cB kA comp f1 f2 f3 f4 => ?_
  generalize hH1 : H.push ({ cls := cB, slots := Array.replicate n.toNatClampNeg .null, vm := .none } : Cell) = H1
  have z1 : H1.size = H.size + 1 := by rw [← hH1, Array.size_push]
  have e1 : H1[H.size]? = some (arrV cB n.toNatClampNeg (fun _ => .null)) := by rw [← hH1, Array.getElem?_push_size, ← arrV_new]
  have o1 : ∀ q : Nat, q < H.size → H1[q]? = H[q]? := fun q hq => by rw [← hH1, Array.getElem?_push, if_neg (Nat.ne_of_lt hq)]
  have hk' := hk H1 locs ls (hH.new h1 (by omega) z1 o1 ?_) (pm_S_new hS (by omega) o1) hL
  · have e3 : H.size = adr M.1 := by rw [hH.1, hW.1.2.1 _ h1]
    rw [e3]
    exact hk'
  · have e4 : cB = cA k := by
      obtain ⟨_, _, _, _, _, g4⟩ := (hW.1.2.2.2.2 k _ hty).2
      exact Option.some.inj (f1.symm.trans g4)
    rw [pm_cell_ref (M := pm_new M k n.toNatClampNeg) (k := k) (by rw [pm_new_sh]) k1 (by omega), pm_new_sh, pm_new_rm]
    show H1[base + M.1]? = _
    rw [← hH.1, e1, ← e4, vp_cell_q]
    rfl
theorem pm_r_ldc {pc idx : Nat} {v : Int32} {lv st : List Value} {M : pm_M} {cs : Nat × Nat} (hF : pm_F p m c s args E) (hd : decode E.2.1 pc = .ok (.ldc idx, 2)) (h : pm_ci E.2.2.2.2.1 idx = some v)
    (hk : pm_WW p l e R s m args below meth c Q base Z adr D cA E.2.2.1 (pc + 2, lv, .int v :: st, M, cs)) : pm_WW p l e R s m args below meth c Q base Z adr D cA E.2.2.1 (pc, lv, st, M, cs) := by
  intro H locs ls hH hS hL
  obtain ⟨hx, hb, hml, hown, hts⟩ := hF
  exact lv_ldc hx hb hown (hts _ (pm_all (w := fun q : (Nat × Nat) × Int32 => Cond.constant (pm_R q.1.1) q.1.2 q.2) pm_cis_1 (by decide +kernel) _ (pm_lookup h))) hd (hk H locs ls hH hS hL)
theorem pm_r_ldcw {pc idx : Nat} {v : Int32} {lv st : List Value} {M : pm_M} {cs : Nat × Nat} (hF : pm_F p m c s args E) (hd : decode E.2.1 pc = .ok (.ldc_w idx, 3)) (h : pm_ci E.2.2.2.2.1 idx = some v)
    (hk : pm_WW p l e R s m args below meth c Q base Z adr D cA E.2.2.1 (pc + 3, lv, .int v :: st, M, cs)) : pm_WW p l e R s m args below meth c Q base Z adr D cA E.2.2.1 (pc, lv, st, M, cs) := by
  intro H locs ls hH hS hL
  obtain ⟨hx, hb, hml, hown, hts⟩ := hF
  exact lv_ldcw hx hb hown (hts _ (pm_all (w := fun q : (Nat × Nat) × Int32 => Cond.constant (pm_R q.1.1) q.1.2 q.2) pm_cis_1 (by decide +kernel) _ (pm_lookup h))) hd (hk H locs ls hH hS hL)
theorem pm_r_ldc2 {pc idx : Nat} {v : Int64} {lv st : List Value} {M : pm_M} {cs : Nat × Nat} (hF : pm_F p m c s args E) (hd : decode E.2.1 pc = .ok (.ldc2_w idx, 3)) (h : pm_clg E.2.2.2.2.1 idx = some v)
    (hk : pm_WW p l e R s m args below meth c Q base Z adr D cA E.2.2.1 (pc + 3, lv, .long v :: st, M, cs)) : pm_WW p l e R s m args below meth c Q base Z adr D cA E.2.2.1 (pc, lv, st, M, cs) := by
  intro H locs ls hH hS hL
  obtain ⟨hx, hb, hml, hown, hts⟩ := hF
  exact lv_ldc2 hx hb hown (hts _ (pm_all (w := fun q : (Nat × Nat) × Int64 => Cond.constantLong (pm_R q.1.1) q.1.2 q.2) pm_clgs_1 (by decide +kernel) _ (pm_lookup h))) hd (hk H locs ls hH hS hL)
theorem pm_sts_ok : pm_sts.all (fun q => decide (q.1.1 = 6) && decide (((pm_stx[q.2]?).map (fun r => r.1)) = some q.1.2)) = true := by decide +kernel
theorem pm_r_ldcS {pc idx j : Nat} {lv st : List Value} {M : pm_M} {cs : Nat × Nat} (hF : pm_F p m c s args E) (hW : pm_Wd base Z adr D cA X s) (hd : decode E.2.1 pc = .ok (.ldc idx, 2)) (h : pm_sl E.2.2.2.2.1 idx = some j)
    (hk : pm_WW p l e R s m args below meth c Q base Z adr D cA E.2.2.1 (pc + 2, lv, .ref (1000000 + j) :: st, M, cs)) : pm_WW p l e R s m args below meth c Q base Z adr D cA E.2.2.1 (pc, lv, st, M, cs) := by
  intro H locs ls hH hS hL
  obtain ⟨hx, hb, hml, hown, hts⟩ := hF
  have h1 := List.all_eq_true.mp pm_sts_ok _ (pm_lookup h)
  simp only [Bool.and_eq_true, decide_eq_true_eq] at h1
  rw [h1.1] at hown
  obtain ⟨q, hq, hq2⟩ := Option.map_eq_some_iff.mp h1.2
  have hR := hW.2.1.2 j q hq
  rw [hq2] at hR
  exact va_ldcS hx hb hown hR hd (hk H locs ls hH hS hL)
theorem pm_r_oi {pc idx a : Nat} {lv st : List Value} {M : pm_M} {cs : Nat × Nat} (hF : pm_F p m c s args E) (hZ : Z.category = 1) (hR : 1 ≤ R.frames ∧ 32 ≤ R.locals) (hd : decode E.2.1 pc = .ok (.invokespecial idx, 3)) (h : pm_oi E.2.2.2.2.1 idx = true) (hst : (st.map Value.category).sum ≤ 8)
    (hk : pm_WW p l e R s m args below meth c Q base Z adr D cA E.2.2.1 (pc + 3, lv, st, M, cs)) : pm_WW p l e R s m args below meth c Q base Z adr D cA E.2.2.1 (pc, lv, .ref a :: st, M, cs) := by
  intro H locs ls hH hS hL
  obtain ⟨hx, hb, hml, hown, hts⟩ := hF
  obtain ⟨hw1, hw2, hw3⟩ := pm_oi_ok h
  have hcat : ((st.map (pm_rv Z adr)).map fun v => v.category).sum ≤ 8 := by
    rw [List.map_map]
    have : ((fun v : Value => v.category) ∘ pm_rv Z adr) = Value.category := by funext v; exact pm_rv_cat hZ v
    rw [this]
    exact hst
  exact W.objInit hx hb hown (hts _ hw1) (hts _ hw2) (hts _ hw3) rfl (by rw [hml]; exact hL.2.1) rfl hd hR.1 (by have := lv_room (m := m) (pc := pc) (ls := ls) (rest := .ref (adr a) :: st.map (pm_rv Z adr)) hcat; have h32 := hR.2; show 2 * (F0 m pc ls (.ref (adr a) :: st.map (pm_rv Z adr))).monitorRoom + _ + 12 ≤ R.locals; omega) (hk H locs ls hH hS hL)
/-- a new grid -/
theorem pm_r_mna {pc idx : Nat} {n k : Int32} {lv st : List Value} {M : pm_M} {cs : Nat × Nat} (hF : pm_F p m c s args E) (hW : pm_Wd base Z adr D cA X s) (hWx : pm_Wx s) (hR : E.2.2.2.2.2.2.1 ≤ R.cells ∧ E.2.2.2.2.2.2.2.1 ≤ R.slots) (hd : decode E.2.1 pc = .ok (.multianewarray idx 2, 4)) (ho : E.2.2.2.2.1 = 7) (hi : idx = 34)
    (h : M.1 + 1 + n.toNatClampNeg < 1000000 ∧ ¬ n < 0 ∧ n.toNatClampNeg ≤ 1000 ∧ ¬ k < 0 ∧ k.toNatClampNeg ≤ 1000 ∧ cs.1 + (1 + n.toNatClampNeg) ≤ E.2.2.2.2.2.2.1 ∧ cs.2 + (n.toNatClampNeg + n.toNatClampNeg * k.toNatClampNeg) ≤ E.2.2.2.2.2.2.2.1)
    (hk : pm_WW p l e R s m args below meth c Q base Z adr D cA E.2.2.1 (pc + 4, lv, .ref M.1 :: st, pm_grid M n.toNatClampNeg k.toNatClampNeg, (cs.1 + (1 + n.toNatClampNeg), cs.2 + (n.toNatClampNeg + n.toNatClampNeg * k.toNatClampNeg)))) : pm_WW p l e R s m args below meth c Q base Z adr D cA E.2.2.1 (pc, lv, .int k :: .int n :: st, M, cs) := by
  intro H locs ls hH hS hL
  have hH : pm_H base adr D cA M H := hH
  obtain ⟨hx, hb, hml, hown, hts⟩ := hF
  subst hi
  rw [ho] at hown
  obtain ⟨h1, h2, h3, h4, h5, h6, h7⟩ := h
  have hover : (Cond.arrayOver (.array .int)).before args s = true := hWx.2 (.array .int) (Or.inr (Or.inr (Or.inr rfl)))
  intro T hT Xs
  obtain ⟨vm₁, cB, comp, fA, fC, X', step⟩ := gr_walk Xs hx hown (hts _ pm_cl3) hover (hts _ pm_acI) (g := F0 m pc ls (.int k :: .int n :: st.map (pm_rv Z adr))) rfl (by rw [hb]; exact hd) rfl h2 h4 h3 h5 (Nat.le_trans h6 hR.1) (Nat.le_trans h7 hR.2)
  have hK := hW.1.2.2.2
  have ec : cA 0 = comp := Option.some.inj (((hK.2 0 (cA 0, .int) rfl).2).symm.trans fC)
  have eB : cA 5 = cB := Option.some.inj (((hK.2 5 (cA 5, .array .int) rfl).2).symm.trans fA)
  subst ec
  subst eB
  obtain ⟨g1, -, g2, g3, g4, -⟩ := gr_facts (cA 5) (cA 0) n.toNatClampNeg k.toNatClampNeg (T.setVm vm₁) n.toNatClampNeg
  generalize gr_st (cA 5) (cA 0) n.toNatClampNeg k.toNatClampNeg (T.setVm vm₁) n.toNatClampNeg = F at X' step g1 g2 g3 g4
  have f1 : F.heap.size = H.size + 1 + n.toNatClampNeg := by rw [← hT]; exact g1
  have f2 : F.heap[H.size]? = some (gr_out (cA 5) n.toNatClampNeg H.size n.toNatClampNeg) := by rw [← hT]; exact g2
  have hold : ∀ x : Nat, x < H.size → F.heap[x]? = H[x]? := by rw [← hT]; exact g3
  have hrow : ∀ j : Nat, j < n.toNatClampNeg → F.heap[H.size + 1 + j]? = some (gr_in (cA 0) k.toNatClampNeg) := by rw [← hT]; exact g4
  have hHn : pm_H base adr D cA (pm_grid M n.toNatClampNeg k.toNatClampNeg) F.heap := by
    refine ⟨by rw [f1, hH.1]; show _ = base + (M.1 + 1 + _); omega, Nat.le_of_lt h1, fun a ha => ?_, fun i q hq => ?_⟩
    · show a < M.1 + 1 + n.toNatClampNeg
      by_cases ha2 : a < M.1 ∨ M.1 + n.toNatClampNeg < a
      · have h8 : (pm_grid M n.toNatClampNeg k.toNatClampNeg).2.1 a = M.2.1 a := if_pos ha2
        rw [h8] at ha
        have := hH.2.2.1 a ha
        omega
      · omega
    · obtain ⟨hi1, rfl⟩ := pm_ws_inv hq
      have hi2 : i < M.1 + 1 + n.toNatClampNeg := hi1
      by_cases hi3 : i < M.1
      · have hc : i < M.1 ∨ M.1 + n.toNatClampNeg < i := Or.inl hi3
        rw [pm_cell_congr (M := M) (M' := pm_grid M n.toNatClampNeg k.toNatClampNeg) (if_pos hc) (if_pos hc) (if_pos hc)]
        exact (hH.2.2.2 i _ (pm_ws_get hi3)).kept (hold _ (by rw [hH.1]; show base + i < base + M.1; omega))
      · have hc : ¬ (i < M.1 ∨ M.1 + n.toNatClampNeg < i) := by omega
        have e1 : (pm_grid M n.toNatClampNeg k.toNatClampNeg).2.1 i = if i = M.1 then (5, n.toNatClampNeg) else (0, k.toNatClampNeg) := if_neg hc
        have e2 : (pm_grid M n.toNatClampNeg k.toNatClampNeg).2.2.1 i = fun _ => 0 := if_neg hc
        have e3 : (pm_grid M n.toNatClampNeg k.toNatClampNeg).2.2.2 i = if i = M.1 then (fun j => if j < n.toNatClampNeg then some (M.1 + 1 + j) else none) else fun _ => none := if_neg hc
        by_cases hi4 : i = M.1
        · subst hi4
          rw [if_pos rfl] at e1 e3
          rw [pm_cell_ref (M := pm_grid M n.toNatClampNeg k.toNatClampNeg) (k := 5) (by rw [e1]) (by omega) (by omega), e1, e3]
          show F.heap[base + M.1]? = some (vp_cell _ _)
          rw [← hH.1, f2, vp_cell_q]
          unfold gr_out
          congr 2
          funext j
          by_cases hj : j < n.toNatClampNeg
          · simp only [hj, if_true, Option.map_some]
            rw [hW.1.2.1 _ (by omega), hH.1]
            congr 2
            omega
          · simp only [hj, if_false, Option.map_none]
        · obtain ⟨j, rfl⟩ : ∃ j, i = M.1 + 1 + j := ⟨i - M.1 - 1, by omega⟩
          rw [if_neg hi4] at e1
          rw [pm_cell_int (M := pm_grid M n.toNatClampNeg k.toNatClampNeg) (k := 0) (by rw [e1]) (by omega), e1, e2]
          show F.heap[base + (M.1 + 1 + j)]? = some (vp_cell _ _)
          rw [show base + (M.1 + 1 + j) = H.size + 1 + j by rw [hH.1]; omega, hrow j (by omega), vp_cell_i]
          unfold gr_in
          rw [arrV_new]
  have hS1 := pm_S_new hS (by rw [f1]; omega) hold
  have hS2 : va_S (fun q => base ≤ q) s.heap F.heap (locs ++ (List.range n.toNatClampNeg).map (fun j => (⟨T.heap.size, j⟩ : Loc))) := by
    refine ⟨hS1.1, hS1.2.1, fun q hq => ?_⟩
    rcases List.mem_append.mp hq with hq | hq
    · exact hS1.2.2 q hq
    · obtain ⟨j, -, rfl⟩ := List.mem_map.mp hq
      show base ≤ T.heap.size
      rw [hT, hH.1]
      exact Nat.le_add_right _ _
  have hk' := hk F.heap _ ls hHn hS2 hL
  obtain ⟨t, a1, b1⟩ := hk' F rfl X'
  refine ⟨t, step t ?_, b1⟩
  have e7 : T.heap.size = adr M.1 := by rw [hT, hH.1, hW.1.2.1 _ (by omega)]
  rw [e7]
  exact a1
/-- arraycopy of a table -/
theorem pm_r_copy {pc src dst : Nat} {sp dp n : Int32} {lv st : List Value} {M M' : pm_M} {cs : Nat × Nat} (hF : pm_F p m c s args E) (hW : pm_Wd base Z adr D cA X s) (hZ : Z.category = 1) (hR : 1 ≤ R.frames ∧ 64 ≤ R.locals) (hd : decode E.2.1 pc = .ok (.invokestatic 103, 3)) (ho : E.2.2.2.2.1 = 7) (h : pm_copy M src sp dst dp n = some M') (hst : (st.map Value.category).sum ≤ 8)
    (hk : pm_WW p l e R s m args below meth c Q base Z adr D cA E.2.2.1 (pc + 3, lv, st, M', cs)) : pm_WW p l e R s m args below meth c Q base Z adr D cA E.2.2.1 (pc, lv, .int n :: .int dp :: .ref dst :: .int sp :: .ref src :: st, M, cs) := by
  intro H locs ls hH hS hL
  have hH : pm_H base adr D cA M H := hH
  obtain ⟨hx, hb, hml, hown, hts⟩ := hF
  rw [ho] at hown
  unfold pm_copy at h
  split at h
  · rename_i hc
    obtain ⟨hkind, -, hs1, hs2, rfl, rfl, rfl, hlen⟩ := hc
    have h := Option.some.inj h
    subst h
    obtain ⟨j, rfl⟩ : ∃ j, src = 1000200 + j := ⟨src - 1000200, by omega⟩
    have ej : 1000200 + j - 1000200 = j := by omega
    rw [ej] at hk
    obtain ⟨hin, hlt⟩ := hH.in (a := dst) (by rw [hkind]; decide)
    have hK := hW.1.2.2.2
    have hD := pm_ws_D base adr cA M
    have ha1 : (pm_ws base adr cA M)[dst]? = some (base + dst, .inl (cA 0, (M.2.1 dst).2, .inl (M.2.2.1 dst))) := by rw [pm_ws_get hin, pm_cell_int hkind (by omega)]
    have hcat : ((st.map (pm_rv Z adr)).map fun v => v.category).sum ≤ 8 := by
      rw [List.map_map]
      have : ((fun v : Value => v.category) ∘ pm_rv Z adr) = Value.category := by funext v; exact pm_rv_cat hZ v
      rw [this]
      exact hst
    show W p l e R s m args below meth c H locs cs.1 cs.2 Q (F0 m pc ls (.int 4 :: .int 0 :: .ref (adr dst) :: .int 0 :: .ref (adr (1000200 + j)) :: st.map (pm_rv Z adr)))
    rw [hW.1.2.1 dst hlt]
    intro T hT Xs
    obtain ⟨scr, hs1', hs2', hs3, hs4, -, hs5, hs7⟩ := hW.2.2.1 j (by omega)
    have hc0 : H[adr (1000200 + j)]? = some scr := by rw [hS.2.1 _ (Array.getElem?_eq_some_iff.mp hs1').1 hs7]; exact hs1'
    have hc1 : H[base + dst]? = some (vp_cell (cA 0) ((M.2.1 dst).2, .inl (M.2.2.1 dst))) := hH.2.2.2 dst _ ha1
    obtain ⟨hs6, k0, hk0, cm0, hkk0⟩ := hs2'
    obtain ⟨-, k1, hk1, cm1, hkk1⟩ := (hK.2 0 (cA 0, .int) rfl).1 (M.2.1 dst).2 (fun j => .int (M.2.2.1 dst j))
    have hnc0 : (0 : Int32).toNatClampNeg = 0 := rfl
    have hnc4 : (4 : Int32).toNatClampNeg = 4 := rfl
    obtain ⟨vm', X', step⟩ := Xs.arraycopy hx hown (hts _ pm_cp1) (hts _ pm_cp2) (hts _ pm_cp3) (hts _ pm_cp4) (src := adr (1000200 + j)) (dst := base + dst) (cs := scr) (cd := vp_cell (cA 0) ((M.2.1 dst).2, .inl (M.2.2.1 dst))) (srcPos := 0) (destPos := 0) (n := 4) (by rw [hT]; exact hc0) (by rw [hT]; exact hc1)
      hs6 (fun _ h => by cases h) hs3 (fun h => by cases h) hk0 hk1 hkk0 hkk1 (by simp [refKind]) (by decide) (by decide) (by decide)
      (by show ¬ _ > (scr.slots.size : Int); have e8 : (0 : Int32).toInt + (4 : Int32).toInt = 4 := rfl; rw [e8]; omega)
      (by show ¬ _ > ((arrV (cA 0) (M.2.1 dst).2 (fun j => .int (M.2.2.1 dst j))).slots.size : Int); rw [arrV_size]; have e8 : (0 : Int32).toInt + (4 : Int32).toInt = 4 := rfl; rw [e8]; omega)
      (fun vm₁ _ i hi => by
        have hi4 : i < 4 := hi
        have e : scr.slots.getD ((0 : Int32).toNatClampNeg + i) .null = .int ((pm_tabs.getD j []).getD i 0) := by
          rw [hnc0, Nat.zero_add, Array.getD_eq_getD_getElem?, hs5 _ hi4]
          rfl
        refine ⟨?_, ?_⟩
        · rw [e]
          rfl
        · rw [e]
          exact trivial)
      (g := F0 m pc ls (.int 4 :: .int 0 :: .ref (base + dst) :: .int 0 :: .ref (adr (1000200 + j)) :: st.map (pm_rv Z adr))) rfl (by rw [hml]; exact hL.2.1) (rest := st.map (pm_rv Z adr)) rfl (by rw [hb]; exact hd) hR.1 (by show 2 * 0 + _ + _ ≤ _; have h64 := hR.2; have e9 : nativeFrameWords "java/lang/System" "arraycopy" 5 ≤ 40 := (by decide); omega)
    have e1 : copied scr (vp_cell (cA 0) ((M.2.1 dst).2, .inl (M.2.2.1 dst))) 0 0 4 = vp_cell (cA 0) ((M.2.1 dst).2, .inl (va_cpy (fun q => (pm_tabs.getD j []).getD q 0) (M.2.2.1 dst) 0 0 4)) := va_copiedX (fun z => .int z) scr (cA 0) (fun q => (pm_tabs.getD j []).getD q 0) (M.2.2.1 dst) hs5 (by show 0 + 4 ≤ 4; omega)
    rw [e1] at X' step
    have hl : base + dst < H.size := (Array.getElem?_eq_some_iff.mp hc1).1
    generalize hce : vp_cell (cA 0) ((M.2.1 dst).2, .inl (va_cpy (fun q => (pm_tabs.getD j []).getD q 0) (M.2.2.1 dst) 0 0 4)) = ce at X' step
    have hheap : ((T.setVm vm').setCell (base + dst) ce).heap = H.setIfInBounds (base + dst) ce := by rw [← hT]; rfl
    have oq : ∀ q : Nat, q ≠ base + dst → (H.setIfInBounds (base + dst) ce)[q]? = H[q]? := fun q hq => by simp [Array.getElem?_setIfInBounds, Ne.symm hq]
    have hself : (H.setIfInBounds (base + dst) ce)[base + dst]? = some ce := by simp [Array.getElem?_setIfInBounds, hl]
    have hHn : pm_H base adr D cA (M.1, M.2.1, pm_w1 M.2.2.1 dst (va_cpy (fun j_1 => (pm_tabs.getD j []).getD j_1 0) (M.2.2.1 dst) 0 0 4), M.2.2.2) (H.setIfInBounds (base + dst) ce) := by
      refine ⟨by rw [Array.size_setIfInBounds]; exact hH.1, hH.2.1, hH.2.2.1, ?_⟩
      rw [pm_ws_set (M := M) (M' := (M.1, M.2.1, pm_w1 M.2.2.1 dst (va_cpy (fun j_1 => (pm_tabs.getD j []).getD j_1 0) (M.2.2.1 dst) 0 0 4), M.2.2.2)) (a := dst) (ce := .inl (cA 0, (M.2.1 dst).2, .inl (va_cpy (fun j_1 => (pm_tabs.getD j []).getD j_1 0) (M.2.2.1 dst) 0 0 4))) rfl (by rw [pm_cell_int (M := (M.1, M.2.1, pm_w1 M.2.2.1 dst (va_cpy (fun j_1 => (pm_tabs.getD j []).getD j_1 0) (M.2.2.1 dst) 0 0 4), M.2.2.2)) (k := 0) hkind (by omega)]; simp [pm_w1]) (fun b hb => pm_cell_congr rfl (by show pm_w1 M.2.2.1 dst _ b = _; simp [pm_w1, hb]) rfl)]
      exact hH.2.2.2.set hD ha1 (by show (H.setIfInBounds (base + dst) ce)[base + dst]? = some _; rw [hself, ← hce]) oq
    obtain ⟨t, a1, b1⟩ := hk (H.setIfInBounds (base + dst) ce) _ ls hHn ⟨by rw [Array.size_setIfInBounds]; exact hS.1, fun q g1 g2 => by
        rw [oq q (fun e => g2 (by rw [e]; exact Nat.le_add_right _ _))]
        exact hS.2.1 q g1 g2, fun q hq => by
        rcases List.mem_append.mp hq with h | h
        · exact hS.2.2 q h
        · obtain ⟨z, -, hz⟩ := List.mem_map.mp h
          rw [← hz]
          exact Nat.le_add_right _ _⟩ hL _ hheap X'
    exact ⟨t, step t a1, b1⟩
  · cases h
end PM7
