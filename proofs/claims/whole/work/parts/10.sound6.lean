/-! The pure machine is sound, 6: putfield, constants, new cells. -/
section PM6
variable {p : Program} {l : Launch} {e : Env} {R : Room} {s : State} {m : MethodId} {args : Array Value} {below : List Frame} {meth : Method} {c : Code} {Q : State → Prop}
variable {base : Nat} {Z : Value} {adr : Nat → Nat} {D : va_G} {cA : Nat → ClassId} {X : Nat × (Nat → Int32)} {E : pm_E}
theorem pm_fv_setI {M : pm_M} {a ci k n : Nat} {x : Int32} (hkind : (M.2.1 a).1 = 10 + ci) (hr : pm_isR ci k = false) : (List.range n).map (pm_fv adr (pm_setI M a k x) a) = ((List.range n).map (pm_fv adr M a)).set k (.int x) := by
  apply List.ext_getElem?
  intro j
  by_cases hj : j < n
  · by_cases hjk : j = k
    · subst hjk
      rw [List.getElem?_set_self (by simp [hj]), List.getElem?_map, List.getElem?_range hj]
      show some (pm_fv adr (pm_setI M a j x) a j) = _
      unfold pm_fv
      have : ((pm_setI M a j x).2.1 a).1 - 10 = ci := by show (M.2.1 a).1 - 10 = ci; omega
      rw [this, hr]
      simp [pm_setI, pm_w2]
    · rw [List.getElem?_set_ne (Ne.symm hjk), List.getElem?_map, List.getElem?_map, List.getElem?_range hj]
      show some (pm_fv adr (pm_setI M a k x) a j) = some (pm_fv adr M a j)
      unfold pm_fv
      simp [pm_setI, pm_w2, hjk]
  · rw [List.getElem?_eq_none (by simp; omega), List.getElem?_eq_none (by simp; omega)]
theorem pm_fv_setR {M : pm_M} {a ci k n b : Nat} (hkind : (M.2.1 a).1 = 10 + ci) (hr : pm_isR ci k = true) : (List.range n).map (pm_fv adr (pm_setR M a k (some b)) a) = ((List.range n).map (pm_fv adr M a)).set k (.ref (adr b)) := by
  apply List.ext_getElem?
  intro j
  by_cases hj : j < n
  · by_cases hjk : j = k
    · subst hjk
      rw [List.getElem?_set_self (by simp [hj]), List.getElem?_map, List.getElem?_range hj]
      show some (pm_fv adr (pm_setR M a j (some b)) a j) = _
      unfold pm_fv
      have : ((pm_setR M a j (some b)).2.1 a).1 - 10 = ci := by show (M.2.1 a).1 - 10 = ci; omega
      rw [this, hr]
      simp [pm_setR, pm_w2, va_rf]
    · rw [List.getElem?_set_ne (Ne.symm hjk), List.getElem?_map, List.getElem?_map, List.getElem?_range hj]
      show some (pm_fv adr (pm_setR M a k (some b)) a j) = some (pm_fv adr M a j)
      unfold pm_fv
      simp [pm_setR, pm_w2, hjk]
  · rw [List.getElem?_eq_none (by simp; omega), List.getElem?_eq_none (by simp; omega)]
theorem pm_r_putf {pc idx a : Nat} {v : Value} {lv st : List Value} {M M' : pm_M} {cs : Nat × Nat} (hF : pm_F p m c s args E) (hW : pm_Wd base Z adr D cA X s) (hn : E.1.name = "<init>" → meth.name = "<init>") (hd : decode E.2.1 pc = .ok (.putfield idx, 3)) (h : pm_putf E idx a v M = some M')
    (hk : pm_WW p l e R s m args below meth c Q base Z adr D cA E.2.2.1 (pc + 3, lv, st, M', cs)) : pm_WW p l e R s m args below meth c Q base Z adr D cA E.2.2.1 (pc, lv, v :: .ref a :: st, M, cs) := by
  intro H locs ls hH hS hL
  have hH : pm_H base adr D cA M H := hH
  unfold pm_putf at h
  split at h
  · rename_i ci k hf
    obtain ⟨q, hq, hkn, hw⟩ := pm_fld_ok hf
    have hci : ci < 9 := (List.getElem?_eq_some_iff.mp hq).1
    split at h
    · rename_i hc
      obtain ⟨hkind, hmay⟩ := hc
      obtain ⟨hin, hlt⟩ := hH.in (a := a) (by omega)
      show W p l e R s m args below meth c H locs cs.1 cs.2 Q (F0 m pc ls (pm_rv Z adr v :: .ref (adr a) :: st.map (pm_rv Z adr)))
      rw [hW.1.2.1 a hlt]
      split at h
      · rename_i x
        split at h
        · rename_i hr
          cases h
          have hty := pm_fitsI hq hkn hr
          refine pm_putraw hF hW hn hd hH hS hq hkn hw hkind hin hmay rfl (by rw [hty]; rfl) (by rw [hty]; rfl) fun H1 locs1 hP hz hS1 => ?_
          exact hk H1 locs1 ls (hH.setI hin (ce := .inr (ci, ((List.range (pm_N ci)).map (pm_fv adr M a)).set k (.int x))) (by rw [pm_cell_obj (M := pm_setI M a k x) (ci := ci) hkind, pm_fv_setI hkind hr]) hP hz) hS1 hL
        · cases h
      · rename_i b
        split at h
        · rename_i hr
          cases h
          have hty := pm_fits hq hkn hr (adr b)
          refine pm_putraw hF hW hn hd hH hS hq hkn hw hkind hin hmay rfl hty.1 hty.2 fun H1 locs1 hP hz hS1 => ?_
          exact hk H1 locs1 ls (hH.setR hin (ce := .inr (ci, ((List.range (pm_N ci)).map (pm_fv adr M a)).set k (.ref (adr b)))) (by rw [pm_cell_obj (M := pm_setR M a k (some b)) (ci := ci) hkind, pm_fv_setR hkind hr]) hP hz) hS1 hL
        · cases h
      · cases h
    · cases h
  · cases h
/-- a new cell: what the memory needs of it -/
theorem pm_H.new {M : pm_M} {H H1 : Heap} {kind len : Nat} (h : pm_H base adr D cA M H) (hm : M.1 < 1000000) (hk : kind ≠ 99) (hz : H1.size = H.size + 1) (ho : ∀ q, q < H.size → H1[q]? = H[q]?) (hc : va_at D pm_cls (base + M.1, pm_cell adr cA (pm_new M kind len) M.1) H1) : pm_H base adr D cA (pm_new M kind len) H1 := by
  refine ⟨by rw [hz, h.1]; rfl, hm, fun a ha => ?_, fun k q hq => ?_⟩
  · show a < M.1 + 1
    by_cases e1 : a = M.1
    · omega
    · have : (M.2.1 a).1 ≠ 99 := by
        have h2 : (pm_new M kind len).2.1 a = M.2.1 a := by show pm_w1 M.2.1 M.1 (kind, len) a = _; simp [pm_w1, e1]
        rw [h2] at ha
        exact ha
      have := h.2.2.1 a this
      omega
  · obtain ⟨hk1, rfl⟩ := pm_ws_inv hq
    have hk2 : k < M.1 + 1 := hk1
    by_cases e1 : k = M.1
    · subst e1
      exact hc
    · have hlt : k < M.1 := by omega
      have e2 : pm_cell adr cA (pm_new M kind len) k = pm_cell adr cA M k := pm_cell_congr (by show pm_w1 M.2.1 M.1 (kind, len) k = _; simp [pm_w1, e1]) (by show pm_w1 M.2.2.1 M.1 _ k = _; simp [pm_w1, e1]) (by show pm_w1 M.2.2.2 M.1 _ k = _; simp [pm_w1, e1])
      rw [e2]
      exact (h.2.2.2 k _ (pm_ws_get hlt)).kept (ho _ (by rw [h.1]; omega))
theorem pm_new_sh (M : pm_M) (kind len : Nat) : (pm_new M kind len).2.1 M.1 = (kind, len) := by show pm_w1 M.2.1 M.1 (kind, len) M.1 = _; simp [pm_w1]
theorem pm_new_im (M : pm_M) (kind len : Nat) : (pm_new M kind len).2.2.1 M.1 = fun _ => 0 := by show pm_w1 M.2.2.1 M.1 _ M.1 = _; simp [pm_w1]
theorem pm_new_rm (M : pm_M) (kind len : Nat) : (pm_new M kind len).2.2.2 M.1 = fun _ => none := by show pm_w1 M.2.2.2 M.1 _ M.1 = _; simp [pm_w1]
theorem pm_S_new {H H1 : Heap} {locs : List Loc} (hS : va_S (fun q => base ≤ q) s.heap H locs) (hz : H.size ≤ H1.size) (ho : ∀ q, q < H.size → H1[q]? = H[q]?) : va_S (fun q => base ≤ q) s.heap H1 locs := ⟨Nat.le_trans hS.1 hz, fun q h1 h2 => (ho q (Nat.lt_of_lt_of_le h1 hS.1)).trans (hS.2.1 q h1 h2), hS.2.2⟩
set_option maxRecDepth 100000 in
theorem pm_acI : Cond.arrayClass .int ∈ pm_tb := pm_tb_of (by decide +kernel) rfl
set_option maxRecDepth 100000 in
theorem pm_acZ : Cond.arrayClass .boolean ∈ pm_tb := pm_tb_of (by decide +kernel) rfl
theorem pm_r_newa {pc k : Nat} {t : ArrayType} {n : Int32} {lv st : List Value} {M : pm_M} {cs : Nat × Nat} (hF : pm_F p m c s args E) (hW : pm_Wd base Z adr D cA X s) (hR : E.2.2.2.2.2.2.1 ≤ R.cells ∧ E.2.2.2.2.2.2.2.1 ≤ R.slots) (hd : decode E.2.1 pc = .ok (.newarray t, 2)) (ht : (t = .int ∧ k = 0) ∨ (t = .boolean ∧ k = 1)) (h : M.1 < 1000000 ∧ ¬ n < 0 ∧ n.toNatClampNeg ≤ 1000 ∧ cs.1 + 1 ≤ E.2.2.2.2.2.2.1 ∧ cs.2 + n.toNatClampNeg ≤ E.2.2.2.2.2.2.2.1)
    (hk : pm_WW p l e R s m args below meth c Q base Z adr D cA E.2.2.1 (pc + 2, lv, .ref M.1 :: st, pm_new M k n.toNatClampNeg, (cs.1 + 1, cs.2 + n.toNatClampNeg))) : pm_WW p l e R s m args below meth c Q base Z adr D cA E.2.2.1 (pc, lv, .int n :: st, M, cs) := by
  intro H locs ls hH hS hL
  have hH : pm_H base adr D cA M H := hH
  obtain ⟨hx, hb, hml, hown, hts⟩ := hF
  obtain ⟨h1, h2, h3, h4, h5⟩ := h
  have harr : (Cond.arrayClass (newarray.typeOf t)).before args s = true := by
    rcases ht with ⟨rfl, -⟩ | ⟨rfl, -⟩
    · exact hts _ pm_acI
    · exact hts _ pm_acZ
  refine va_newaK hx hb harr rfl hd rfl h2 rfl (by rcases ht with ⟨rfl, -⟩ | ⟨rfl, -⟩ <;> simp [newarray.typeOf, componentBytes] <;> omega) (Nat.le_trans h4 hR.1) (Nat.le_trans h5 hR.2) rfl fun H1 cB e1 z1 o1 hAr hNm => ?_
  have hk' := hk H1 locs ls (hH.new h1 (by rcases ht with ⟨-, rfl⟩ | ⟨-, rfl⟩ <;> decide) z1 o1 ?_) (pm_S_new hS (by omega) o1) hL
  · have e3 : H.size = adr M.1 := by rw [hH.1, hW.1.2.1 _ h1]
    rw [e3]
    exact hk'
  · have e4 : cB = cA k := by
      rcases ht with ⟨rfl, rfl⟩ | ⟨rfl, rfl⟩
      · exact Option.some.inj (hNm.symm.trans (hW.1.2.2.2.2 0 (cA 0, .int) rfl).2)
      · exact Option.some.inj (hNm.symm.trans (hW.1.2.2.2.2 1 (cA 1, .boolean) rfl).2)
    rw [pm_cell_int (M := pm_new M k n.toNatClampNeg) (k := k) (by rw [pm_new_sh]) (by rcases ht with ⟨-, rfl⟩ | ⟨-, rfl⟩ <;> decide), pm_new_sh, pm_new_im]
    show H1[base + M.1]? = _
    rw [← hH.1, e1, ← e4, vp_cell_i]
    rcases ht with ⟨rfl, -⟩ | ⟨rfl, -⟩ <;> rfl
end PM6
