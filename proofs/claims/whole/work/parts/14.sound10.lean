/-! The pure machine is sound, 10: one call, one answer, a whole run. -/
section PM10
variable {p : Program} {l : Launch} {e : Env} {R : Room} {s : State} {m : MethodId} {args : Array Value} {below : List Frame} {meth : Method} {c : Code} {Q : State → Prop}
variable {base : Nat} {Z : Value} {adr : Nat → Nat} {D : va_G} {cA : Nat → ClassId} {X : Nat × (Nat → Int32)} {E E' : pm_E}
theorem pm_cat8 (hZ : Z.category = 1) {st : List Value} (h : (st.map Value.category).sum ≤ 8) : ((st.map (pm_rv Z adr)).map fun v => v.category).sum ≤ 8 := by
  rw [List.map_map]
  have : ((fun v : Value => v.category) ∘ pm_rv Z adr) = Value.category := by funext v; exact pm_rv_cat hZ v
  rw [this]
  exact h
theorem pm_recv_ok {k a : Nat} {M : pm_M} {H : Heap} {locs : List Loc} (hE : pm_mt k = some E') (hW : pm_Wd base Z adr D cA X s) (hH : pm_H base adr D cA M H) (hS : va_S (fun q => base ≤ q) s.heap H locs) (h : pm_recv M k a = true) : ∃ cellB : Cell, H[adr a]? = some cellB ∧ cellB.vm.isStatics = false ∧ s.vm.findClass E'.1.cls = some cellB.cls := by
  have hq := (pm_mt_ok hE).1
  unfold pm_mtq at hq
  simp only [Bool.and_eq_true, decide_eq_true_eq] at hq
  have hcls : E'.1.cls = pm_R E'.2.2.2.2.1 := hq.1.1.1.1
  unfold pm_recv at h
  rw [hE] at h
  simp only at h
  split at h
  · rename_i h9
    simp only [decide_eq_true_eq] at h
    obtain ⟨hin, hlt⟩ := hH.in (a := a) (by omega)
    have h3 : E'.2.2.2.2.1 < pm_cls.length := h9
    have hq2 := List.getElem?_eq_getElem h3
    have hrc : pm_R E'.2.2.2.2.1 = (pm_cls[E'.2.2.2.2.1]).1 := by
      generalize E'.2.2.2.2.1 = o at h9 h3
      match o, h9 with
      | 0, _ => rfl
      | 1, _ => rfl
      | 2, _ => rfl
      | 3, _ => rfl
      | 4, _ => rfl
      | 5, _ => rfl
      | 6, _ => rfl
      | 7, _ => rfl
      | 8, _ => rfl
      | k + 9, h => exact absurd h (by omega)
    rw [hcls, hrc, hW.1.2.1 a hlt]
    exact va_recv hW.1.2.2.2 hH.2.2.2 hq2 (q0 := a) (by rw [pm_ws_get hin, pm_cell_obj h])
  · simp only [Bool.and_eq_true, beq_iff_eq, decide_eq_true_eq] at h
    obtain ⟨⟨⟨h1, -⟩, h3⟩, h4⟩ := h
    rw [hcls, h1]
    obtain ⟨i, rfl⟩ : ∃ i, a = 1000000 + i := ⟨a - 1000000, by omega⟩
    exact vk_recv hW.2.1.1 (i := i) (by omega) hS
/-- ONE CALL -/
theorem pm_c {i : Instr} {len pc k : Nat} {lv st as rest : List Value} {M M' : pm_M} {cs : Nat × Nat} {v : Option Value} (hF : pm_F p m c s args E) (hW : pm_Wd base Z adr D cA X s) (hWx : pm_Wx s) (hR : pm_Rm R E) (hd : decode E.2.1 pc = .ok (i, len)) (hl : pm_len i len = true) (h : pm_step3 X E i len pc lv st M cs = some (.inr (.inr (k, as, rest)))) (hE : pm_mt k = some E') (hok : pm_ok E E' as rest cs = true)
    (hM : pm_Met l base Z adr D cA X E' as M v M') (hk : pm_WW p l e R s m args below meth c Q base Z adr D cA E.2.2.1 (pc + len, lv, v.toList ++ rest, M', cs.1 + E'.2.2.2.2.2.2.1, cs.2 + E'.2.2.2.2.2.2.2.1)) : pm_WW p l e R s m args below meth c Q base Z adr D cA E.2.2.1 (pc, lv, st, M, cs) := by
  intro H locs ls hH hS hL
  have hH : pm_H base adr D cA M H := hH
  have hZ := pm_Zc hW.1.2.2.1
  unfold pm_ok at hok
  simp only [Bool.and_eq_true, decide_eq_true_eq] at hok
  obtain ⟨⟨⟨⟨o1, o2⟩, o3⟩, o4⟩, o5⟩ := hok
  obtain ⟨hq, hq2⟩ := pm_mt_ok hE
  unfold pm_mtq at hq
  simp only [Bool.and_eq_true, decide_eq_true_eq] at hq
  obtain ⟨⟨⟨⟨q1, q2⟩, q3⟩, q4⟩, q5⟩ := hq
  have hfit : cs.1 + E'.2.2.2.2.2.2.1 ≤ R.cells ∧ cs.2 + E'.2.2.2.2.2.2.2.1 ≤ R.slots := ⟨Nat.le_trans o3 hR.2.1, Nat.le_trans o4 hR.2.2⟩
  have hrm : (pm_rm E').frames + 1 ≤ R.frames ∧ 8 + (E'.2.2.1 + 11) + (pm_rm E').locals ≤ R.locals := by
    refine ⟨Nat.le_trans o2 hR.1.1, ?_⟩
    show 8 + (E'.2.2.1 + 11) + 32 * E'.2.2.2.2.2.1 ≤ R.locals
    have := hR.1.2
    omega
  have hroom := lv_room (m := m) (pc := pc) (ls := ls) (rest := st.map (pm_rv Z adr)) (pm_cat8 (adr := adr) hZ o5)
  have hkk : ∀ (H1 : Heap) (locs1 : List Loc), pm_H base adr D cA M' H1 → va_S (fun q => base ≤ q) s.heap H1 locs1 → W p l e R s m args below meth c H1 locs1 (cs.1 + E'.2.2.2.2.2.2.1) (cs.2 + E'.2.2.2.2.2.2.2.1) Q (F0 m (pc + len) ls ((v.map (pm_rv Z adr)).toList ++ rest.map (pm_rv Z adr))) := by
    intro H1 locs1 h1 h2
    have h3 := hk H1 locs1 ls h1 h2 hL
    have e1 : (v.toList ++ rest).map (pm_rv Z adr) = (v.map (pm_rv Z adr)).toList ++ rest.map (pm_rv Z adr) := by cases v <;> rfl
    rw [← e1]
    exact h3
  cases i
  all_goals (simp only [pm_step3, reduceCtorEq] at h)
  case invokevirtual idx =>
    simp [pm_len] at hl; subst hl
    unfold pm_callV at h
    split at h
    · rename_i k0 kd n hml
      split at h
      · rename_i hkd
        split at h
        · rename_i a as' rest' hpop
          split at h
          · rename_i hrecv
            cases h
            obtain ⟨hst, hn⟩ := pm_pop_eq hpop
            obtain ⟨w1, w2, -, -, w5, -, w7, w8⟩ := pm_ml_ok hml hE
            obtain ⟨c1, c2⟩ := hq2 w1
            have hG : GoodIn pm_tb (wsV (pm_R E.2.2.2.2.1) idx E'.1.cls E'.1 (pm_wl E')) := pm_goodIn fun w hw => by
              rcases List.mem_append.mp hw with hw | hw
              · simp only [List.mem_cons, List.not_mem_nil, or_false] at hw
                rcases hw with rfl | rfl | rfl | rfl
                · exact w5 (by omega)
                · exact w7 (by omega)
                · exact w8 hkd
                · exact c2
              · rcases List.mem_cons.mp hw with rfl | hw
                · exact c1
                · exact hw
            refine pm_after (rest := rest.map (pm_rv Z adr)) (va_runV (b := adr a) (As := as'.map (pm_rv Z adr)) hF hM (cwV n hF.2.2.2.2 hG rfl rfl rfl ⟨rfl, q3.1, q3.2, w2⟩ hrm) ⟨pm_B.blind, pm_recv_ok hE hW hH hS hrecv, pm_B.at (as := (Value.ref a :: as').map (pm_rv Z adr)) hW hWx hH hS⟩ rfl (by rw [List.length_map]; simp at hn; exact hn) hL.2.1 ?_ hroom hd hfit) hS hkk
            show st.map (pm_rv Z adr) = _
            rw [hst]
            simp [pm_rv]
          · cases h
        · cases h
      · cases h
    · cases h
  case invokestatic idx =>
    simp [pm_len] at hl; subst hl
    split at h
    · exfalso
      repeat' split at h
      all_goals (cases h; done)
    · unfold pm_callS at h
      split at h
      · rename_i k0 kd n hml
        split at h
        · rename_i hkd
          split at h
          · rename_i as' rest' hpop
            cases h
            obtain ⟨hst, hn⟩ := pm_pop_eq hpop
            obtain ⟨w1, w2, -, -, w5, w6, -, -⟩ := pm_ml_ok hml hE
            obtain ⟨c1, c2⟩ := hq2 w1
            have hG : GoodIn pm_tb (va_wsS (pm_R E.2.2.2.2.1) idx E'.1 (pm_wl E')) := pm_goodIn fun w hw => by
              rcases List.mem_append.mp hw with hw | hw
              · simp only [List.mem_cons, List.not_mem_nil, or_false] at hw
                rcases hw with rfl | rfl | rfl
                · exact w5 (by omega)
                · exact w6 hkd
                · exact c2
              · rcases List.mem_cons.mp hw with rfl | hw
                · exact c1
                · exact hw
            refine pm_after (rest := rest.map (pm_rv Z adr)) (va_runS (As := as.map (pm_rv Z adr)) hF hM (va_cwS n hF.2.2.2.2 hG rfl rfl rfl ⟨q3.1, q3.2, w2⟩ hrm) ⟨pm_B.blind, pm_B.at (as := as.map (pm_rv Z adr)) hW hWx hH hS⟩ rfl (by rw [List.length_map]; exact hn) hL.2.1 ?_ hroom hd hfit) hS hkk
            show st.map (pm_rv Z adr) = _
            rw [hst]
            simp
          · cases h
        · cases h
      · cases h
  case invokespecial idx =>
    simp [pm_len] at hl; subst hl
    split at h
    · exfalso
      repeat' split at h
      all_goals (cases h; done)
    · unfold pm_callI at h
      split at h
      · rename_i k0 kd n hml
        split at h
        · rename_i hkd
          split at h
          · rename_i a as' rest' hpop
            cases h
            obtain ⟨hst, hn⟩ := pm_pop_eq hpop
            obtain ⟨w1, w2, w3, w4, w5, -, w7, -⟩ := pm_ml_ok hml hE
            obtain ⟨c1, c2⟩ := hq2 w1
            obtain ⟨n1, n2⟩ : E'.1.name = "<init>" ∧ E'.2.2.2.1 = none := by
              rcases w3 with w3 | w3
              · omega
              · exact w3
            have hG : GoodIn pm_tb (pm_wl E') := pm_goodIn fun w hw => by
              rcases List.mem_cons.mp hw with rfl | hw
              · exact c1
              · exact hw
            have hwl : pm_wl E' = Cond.code E'.1 E'.2.1 E'.2.2.1 none :: pm_tb := by unfold pm_wl; rw [n2]
            have hstk : st.map (pm_rv Z adr) = (as'.map (pm_rv Z adr)).reverse ++ .ref (adr a) :: rest.map (pm_rv Z adr) := by
              rw [hst]
              simp [pm_rv]
            rcases hkd with rfl | rfl
            · exact pm_after (rest := rest.map (pm_rv Z adr)) (va_runI (b := adr a) (As := as'.map (pm_rv Z adr)) hF hM (cwI n hF.2.2.2.2 hG hwl rfl rfl (hF.2.2.2.2 _ c2) (hF.2.2.2.2 _ (w5 (by omega))) (hF.2.2.2.2 _ (w7 (by omega))) n1 ⟨q3.1, q3.2, w2⟩ hrm) ⟨pm_B.blind, pm_B.at (as := (Value.ref a :: as').map (pm_rv Z adr)) hW hWx hH hS⟩ rfl (by rw [List.length_map]; simp at hn; exact hn) hL.2.1 hstk hroom hd hfit) hS hkk
            · obtain ⟨r1, r2⟩ := w4 rfl
              exact pm_after (rest := rest.map (pm_rv Z adr)) (va_runIN (host := RX7) (b := adr a) (As := as'.map (pm_rv Z adr)) hF hM ⟨va_cnB n hF.2.2.2.2 hG hwl rfl rfl (by rw [r1]; exact hWx.1 _ r2) (hF.2.2.2.2 _ c2) ⟨q3.1, q3.2, w2⟩ hrm, n1, hF.2.2.2.2 _ (w7 (by omega))⟩ ⟨pm_B.blind, pm_B.at (as := (Value.ref a :: as').map (pm_rv Z adr)) hW hWx hH hS⟩ rfl (by rw [List.length_map]; simp at hn; exact hn) hL.2.1 hstk hroom hd hfit) hS hkk
          · cases h
        · cases h
      · cases h
  all_goals exfalso
  all_goals (repeat' split at h)
  all_goals cases h
end PM10
