/-! The pure machine is sound, 3: memory. -/
theorem pm_in_iff {i : Int32} {n : Nat} (h : pm_in i n = true) : vp_in i n := by
  unfold pm_in at h
  simp only [Bool.and_eq_true, Bool.not_eq_true', decide_eq_false_iff_not, decide_eq_true_eq] at h
  intro q
  rcases q with q | q
  · exact h.1 q
  · omega
theorem pm_ws_get {base : Nat} {adr : Nat → Nat} {cA : Nat → ClassId} {M : pm_M} {i : Nat} (h : i < M.1) : (pm_ws base adr cA M)[i]? = some (base + i, pm_cell adr cA M i) := by
  unfold pm_ws
  rw [List.getElem?_map, List.getElem?_range h]
  rfl
theorem pm_ws_len {base : Nat} {adr : Nat → Nat} {cA : Nat → ClassId} {M : pm_M} : (pm_ws base adr cA M).length = M.1 := by simp [pm_ws]
theorem pm_ws_inv {base : Nat} {adr : Nat → Nat} {cA : Nat → ClassId} {M : pm_M} {i : Nat} {q : Nat × va_E} (h : (pm_ws base adr cA M)[i]? = some q) : i < M.1 ∧ q = (base + i, pm_cell adr cA M i) := by
  have hi : i < M.1 := by
    have := (List.getElem?_eq_some_iff.mp h).1
    rwa [pm_ws_len] at this
  rw [pm_ws_get hi] at h
  exact ⟨hi, (Option.some.inj h).symm⟩
theorem pm_ws_D (base : Nat) (adr : Nat → Nat) (cA : Nat → ClassId) (M : pm_M) : va_D (fun q => base ≤ q) (pm_ws base adr cA M) := by
  refine ⟨fun i j x y hi hj h => ?_, fun k x hx => ?_⟩
  · obtain ⟨-, rfl⟩ := pm_ws_inv hi
    obtain ⟨-, rfl⟩ := pm_ws_inv hj
    simp only at h
    omega
  · obtain ⟨-, rfl⟩ := pm_ws_inv hx
    exact Nat.le_add_right _ _
theorem pm_ws_set {base : Nat} {adr : Nat → Nat} {cA : Nat → ClassId} {M M' : pm_M} {a : Nat} {ce : va_E} (hn : M'.1 = M.1) (ha : pm_cell adr cA M' a = ce) (ho : ∀ b, b ≠ a → pm_cell adr cA M' b = pm_cell adr cA M b) : pm_ws base adr cA M' = (pm_ws base adr cA M).set a (base + a, ce) := by
  apply List.ext_getElem?
  intro i
  by_cases hi : i < M.1
  · rw [pm_ws_get (by omega)]
    by_cases hia : i = a
    · subst hia
      rw [List.getElem?_set_self (by rw [pm_ws_len]; exact hi), ha]
    · rw [List.getElem?_set_ne (Ne.symm hia), pm_ws_get hi, ho i hia]
  · rw [List.getElem?_eq_none (by rw [pm_ws_len]; omega), List.getElem?_eq_none (by rw [List.length_set, pm_ws_len]; omega)]
theorem pm_cell_obj {adr : Nat → Nat} {cA : Nat → ClassId} {M : pm_M} {a ci : Nat} (h : (M.2.1 a).1 = 10 + ci) : pm_cell adr cA M a = .inr (ci, (List.range (pm_N ci)).map (pm_fv adr M a)) := by
  unfold pm_cell
  rw [if_pos (by omega), h, Nat.add_sub_cancel_left]
theorem pm_cell_int {adr : Nat → Nat} {cA : Nat → ClassId} {M : pm_M} {a k : Nat} (h : (M.2.1 a).1 = k) (hk : k ≤ 1) : pm_cell adr cA M a = .inl (cA k, (M.2.1 a).2, .inl (M.2.2.1 a)) := by
  unfold pm_cell
  rw [if_neg (by omega), if_pos (by omega), h]
theorem pm_cell_ref {adr : Nat → Nat} {cA : Nat → ClassId} {M : pm_M} {a k : Nat} (h : (M.2.1 a).1 = k) (hk : 2 ≤ k) (hk2 : k ≤ 5) : pm_cell adr cA M a = .inl (cA k, (M.2.1 a).2, .inr (.inr (.inr (.inr (fun j => (M.2.2.2 a j).map adr))))) := by
  unfold pm_cell
  rw [if_neg (by omega), if_neg (by omega), h]
theorem pm_cell_congr {adr : Nat → Nat} {cA : Nat → ClassId} {M M' : pm_M} {b : Nat} (h1 : M'.2.1 b = M.2.1 b) (h2 : M'.2.2.1 b = M.2.2.1 b) (h3 : M'.2.2.2 b = M.2.2.2 b) : pm_cell adr cA M' b = pm_cell adr cA M b := by
  unfold pm_cell
  have e : pm_fv adr M' b = pm_fv adr M b := by
    funext k
    unfold pm_fv
    rw [h1, h2, h3]
  rw [h1, h2, h3, e]
theorem pm_rv_ro {Z : Value} {adr : Nat → Nat} (r : Option Nat) : pm_rv Z adr (pm_ro r) = va_rf (r.map adr) := by cases r <;> rfl
theorem pm_fld_ok {own idx ci k : Nat} (h : pm_fld own idx = some (ci, k)) : ∃ q : vw_C, pm_cls[ci]? = some q ∧ k < q.2.2 ∧ Cond.fieldLink (pm_R own) idx q.1 (q.2.1 k).2.1 (q.2.1 k).2.2.1 ∈ pm_tb := by
  have hm := pm_lookup h
  have h1 := pm_all pm_fls_1 (by decide +kernel) _ hm
  have h2 := List.all_eq_true.mp pm_fls_2 _ hm
  simp only [Bool.and_eq_true, decide_eq_true_eq] at h2
  have h3 : ci < pm_cls.length := h2.1
  obtain ⟨q, hq⟩ : ∃ q, pm_cls[ci]? = some q := ⟨_, List.getElem?_eq_getElem h3⟩
  unfold pm_flw at h1
  rw [hq] at h1
  exact ⟨q, hq, by rw [(pm_clsq_at hq).1]; exact h2.2, h1⟩
theorem pm_ws_in {ci : Nat} {q : vw_C} (h : pm_cls[ci]? = some q) : ∀ w ∈ u_ws q.1 q.2.1 q.2.2, w ∈ pm_tb := fun w hw => pm_tb_of ((pm_clsq_at h).2.1 w hw).1 ((pm_clsq_at h).2.1 w hw).2
set_option maxRecDepth 100000 in
theorem pm_sf1 : Cond.fieldLink RJ0 9 "java/lang/String" "value" "[B" ∈ pm_tb := pm_tb_of (List.mem_of_getElem? (i := 1311) (by decide +kernel)) rfl
set_option maxRecDepth 100000 in
theorem pm_sf2 : Cond.fieldLink RJ0 15 "java/lang/String" "coder" "B" ∈ pm_tb := pm_tb_of (List.mem_of_getElem? (i := 1312) (by decide +kernel)) rfl
set_option maxRecDepth 100000 in
theorem pm_st1w : Cond.fieldLink RX7 39 RX7 "SETTINGS_AT_FIRST" "[I" ∈ pm_tb := pm_tb_of (List.mem_of_getElem? (i := 119) (by decide +kernel)) rfl
set_option maxRecDepth 100000 in
theorem pm_st2w : Cond.fieldLink RX7 135 RX7 "LEAST_SETTINGS" "[I" ∈ pm_tb := pm_tb_of (List.mem_of_getElem? (i := 416) (by decide +kernel)) rfl
set_option maxRecDepth 100000 in
theorem pm_st3w : Cond.fieldLink RX7 138 RX7 "MOST_SETTINGS" "[I" ∈ pm_tb := pm_tb_of (List.mem_of_getElem? (i := 418) (by decide +kernel)) rfl
set_option maxRecDepth 100000 in
theorem pm_st4w : Cond.fieldLink RJ0 38 RJ0 "COMPACT_STRINGS" "Z" ∈ pm_tb := pm_tb_of (List.mem_of_getElem? (i := 488) (by decide +kernel)) rfl
set_option maxRecDepth 100000 in
theorem pm_st5w : Cond.fieldLink RJ0 1053 RJ3 "SIOOBE_FORMATTER" "Ljava/util/function/BiFunction;" ∈ pm_tb := pm_tb_of (List.mem_of_getElem? (i := 504) (by decide +kernel)) rfl
section PM3
variable {p : Program} {l : Launch} {e : Env} {R : Room} {s : State} {m : MethodId} {args : Array Value} {below : List Frame} {meth : Method} {c : Code} {Q : State → Prop}
variable {base : Nat} {Z : Value} {adr : Nat → Nat} {D : va_G} {cA : Nat → ClassId} {X : Nat × (Nat → Int32)} {E : pm_E}
/-- the machine's side of a frame -/
abbrev pm_F (p : Program) (m : MethodId) (c : Code) (s : State) (args : Array Value) (E : pm_E) : Prop := CallFix p m c E.2.1 E.2.2.1 s args pm_tb (pm_R E.2.2.2.2.1)
theorem pm_H.in {M : pm_M} {H : Heap} {a : Nat} (h : pm_H base adr D cA M H) (ha : (M.2.1 a).1 ≠ 99) : a < M.1 ∧ a < 1000000 := ⟨h.2.2.1 a ha, by have := h.2.2.1 a ha; have := h.2.1; omega⟩
theorem pm_r_getf {pc idx a : Nat} {lv st : List Value} {M : pm_M} {cs : Nat × Nat} {v : Value} (hF : pm_F p m c s args E) (hW : pm_Wd base Z adr D cA X s) (hd : decode E.2.1 pc = .ok (.getfield idx, 3)) (h : pm_getf E.2.2.2.2.1 idx a M = some v)
    (hk : pm_WW p l e R s m args below meth c Q base Z adr D cA E.2.2.1 (pc + 3, lv, v :: st, M, cs)) : pm_WW p l e R s m args below meth c Q base Z adr D cA E.2.2.1 (pc, lv, .ref a :: st, M, cs) := by
  intro H locs ls hH hS hL
  have hH : pm_H base adr D cA M H := hH
  obtain ⟨hx, hb, hml, hown, hts⟩ := hF
  have hk' := hk H locs ls hH hS hL
  unfold pm_getf at h
  split at h
  · rename_i ci k hf
    split at h
    · rename_i hkind
      obtain ⟨q, hq, hkn, hw⟩ := pm_fld_ok hf
      have hq2 := pm_clsq_at hq
      have hci : ci < 9 := (List.getElem?_eq_some_iff.mp hq).1
      obtain ⟨hin, hlt⟩ := hH.in (a := a) (by omega)
      show W p l e R s m args below meth c H locs cs.1 cs.2 Q (F0 m pc ls (.ref (adr a) :: st.map (pm_rv Z adr)))
      rw [hW.1.2.1 a hlt]
      refine va_get (ci := ci) (fs := (List.range (pm_N ci)).map (pm_fv adr M a)) hx hb hts (pm_ws_in hq) hown hW.1.2.2.2 hH.2.2.2 a (by rw [pm_ws_get hin, pm_cell_obj hkind]) hq k hkn (hts _ hw) (fun x hx => by rw [← hq2.2.2.2.2.1 k hkn]; exact hx) (v := pm_rv Z adr v) ?_ hd hk'
      rw [List.getElem?_map, List.getElem?_range (by rw [← hq2.1]; exact hkn)]
      simp only [Option.map_some, Option.some.injEq] at h ⊢
      rw [← h]
      unfold pm_fv
      rw [hkind, Nat.add_sub_cancel_left]
      split
      · exact (pm_rv_ro _).symm
      · rfl
    · cases h
  · split at h
    · rename_i hc
      obtain ⟨-, h1, h2, h3⟩ := hc
      rw [h3] at hown
      obtain ⟨i, rfl⟩ : ∃ i, a = 1000000 + i := ⟨a - 1000000, by omega⟩
      have hi : i < 18 := by omega
      have hs := (hW.2.1.1.1 i hi)
      split at h
      · rename_i h9
        subst h9
        cases h
        have e1 : 1000000 + i + 100 = 1000100 + i := by omega
        rw [e1] at hk'
        exact vk_getf hx hb hs.2.2.1 hS hown (hts _ pm_sf1) (fun _ h => h) hd hk'
      · split at h
        · rename_i h15
          subst h15
          cases h
          exact vk_getf hx hb hs.2.1 hS hown (hts _ pm_sf2) (fun _ h => h) hd hk'
        · cases h
    · cases h
theorem pm_r_gets {pc idx : Nat} {lv st : List Value} {M : pm_M} {cs : Nat × Nat} {v : Value} (hF : pm_F p m c s args E) (hW : pm_Wd base Z adr D cA X s) (hd : decode E.2.1 pc = .ok (.getstatic idx, 3)) (h : pm_gets E.2.2.2.2.1 idx = some v)
    (hk : pm_WW p l e R s m args below meth c Q base Z adr D cA E.2.2.1 (pc + 3, lv, v :: st, M, cs)) : pm_WW p l e R s m args below meth c Q base Z adr D cA E.2.2.1 (pc, lv, st, M, cs) := by
  intro H locs ls hH hS hL
  have hH : pm_H base adr D cA M H := hH
  obtain ⟨hx, hb, hml, hown, hts⟩ := hF
  have hk' := hk H locs ls hH hS hL
  obtain ⟨z1, z2, z3, z4, z5⟩ := hW.2.2.2.1
  unfold pm_gets at h
  split at h
  · rename_i ho
    rw [ho] at hown
    split at h
    · rename_i hi; subst hi; cases h
      exact va_gets hx hb z1 hS hown (hts _ pm_st1w) (fun _ h => h) hd hk'
    · split at h
      · rename_i hi; subst hi; cases h
        exact va_gets hx hb z2 hS hown (hts _ pm_st2w) (fun _ h => h) hd hk'
      · split at h
        · rename_i hi; subst hi; cases h
          exact va_gets hx hb z3 hS hown (hts _ pm_st3w) (fun _ h => h) hd hk'
        · cases h
  · split at h
    · rename_i ho
      rw [ho] at hown
      split at h
      · rename_i hi; subst hi; cases h
        exact va_gets hx hb z4 hS hown (hts _ pm_st4w) (fun _ h => h) hd hk'
      · split at h
        · rename_i hi; subst hi; cases h
          exact va_gets hx hb z5 hS hown (hts _ pm_st5w) (fun _ h => h) hd hk'
        · cases h
    · cases h
end PM3
