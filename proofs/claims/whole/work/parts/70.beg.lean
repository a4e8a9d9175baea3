-- needs: 69
/-! The start: up to the loop. -/
theorem d0_0 : decode code 0 = .ok (.new 7, 3) := by decide +kernel
theorem d0_3 : decode code 3 = .ok (.dup, 1) := by decide +kernel
theorem d0_4 : decode code 4 = .ok (.invokespecial 9, 3) := by decide +kernel
theorem d0_7 : decode code 7 = .ok (.astore_n 1, 1) := by decide +kernel
theorem d0_8 : decode code 8 = .ok (.new 10, 3) := by decide +kernel
theorem d0_11 : decode code 11 = .ok (.dup, 1) := by decide +kernel
theorem d0_12 : decode code 12 = .ok (.invokespecial 12, 3) := by decide +kernel
theorem d0_15 : decode code 15 = .ok (.astore_n 2, 1) := by decide +kernel
abbrev pm_E40 : pm_E := (yX7_init, prog_1_method_1_code, 2, none, 7, 2, 1000, 20000, [(207, [true, false]), (233, [true, false]), (259, [true, false])])
abbrev pm_E103 : pm_E := (yX8_init, prog_10_method_1_code, 1, none, 8, 1, 100, 5000, [])
theorem pm_m40 : pm_mt 40 = some pm_E40 := rfl
theorem pm_m103 : pm_mt 103 = some pm_E103 := rfl
theorem pm_Ra_run : pm_Ra = some (none, pm_Ma) := by
  have h := pm_ct1
  unfold pm_Ma
  split at h
  · rename_i M hM
    rw [hM]
    rfl
  · cases h
section BEG
variable {X : Nat × (Nat → Int32)} {M M' : pm_M}
theorem ev_a : pm_ev X 40 (0, pm_ent [.ref 0] 2, [], pm_new pm_M0 17 0, 0, 0) = some (none, pm_Ma) := by
  rw [pm_ev_X (X := X) (X' := pm_X0) pm_m40 (by decide), pm_ev_iff]
  exact ⟨800, pm_Ra_run⟩
theorem ev_b : pm_ev X 103 (0, pm_ent [.ref 129] 1, [], pm_new pm_Ma 18 0, 0, 0) = some (none, pm_MB) := by
  rw [pm_ev_X (X := X) (X' := pm_X0) pm_m103 (by decide), pm_ev_iff]
  exact ⟨800, pm_MB_run⟩
theorem beg0 : pm_ev X 0 (0, [.ref 1000300, pm_u, pm_u, pm_u], [], pm_M0, 0, 0) = pm_ev X 0 (3, [.ref 1000300, pm_u, pm_u, pm_u], [.ref 0], pm_new pm_M0 17 0, 1, 19) :=
  pm_ev_step (S := (0, [.ref 1000300, pm_u, pm_u, pm_u], [], pm_M0, 0, 0)) (S' := (3, [.ref 1000300, pm_u, pm_u, pm_u], [.ref 0], pm_new pm_M0 17 0, 1, 19)) pm_m0 d0_0 rfl rfl
theorem beg1 : pm_ev X 0 (3, [.ref 1000300, pm_u, pm_u, pm_u], [.ref 0], M, 1, 19) = pm_ev X 0 (4, [.ref 1000300, pm_u, pm_u, pm_u], [.ref 0, .ref 0], M, 1, 19) :=
  pm_ev_step (S := (3, [.ref 1000300, pm_u, pm_u, pm_u], [.ref 0], M, 1, 19)) (S' := (4, [.ref 1000300, pm_u, pm_u, pm_u], [.ref 0, .ref 0], M, 1, 19)) pm_m0 d0_3 rfl rfl
theorem nx0 {pc a b : Nat} {lv st : List Value} (h : pc ≠ 1355) : pm_nx pm_E0 (pc, lv, st, M, a, b) = (pc, lv, st, M, a, b) := by
  have e : pm_msk [(1355, [false, false, false, false])] pc lv = lv := by
    unfold pm_msk
    have h' : (pc == 1355) = false := beq_eq_false_iff_ne.mpr h
    simp only [List.lookup, h']
  show (pc, pm_msk [(1355, [false, false, false, false])] pc lv, st, M, a, b) = _
  rw [e]
theorem ok40 : pm_ok pm_E0 pm_E40 [.ref 0] [.ref 0] (1, 19) = true := by decide +kernel
theorem ok103 : pm_ok pm_E0 pm_E103 [.ref 129] [.ref 129] (1002, 20068) = true := by decide +kernel
theorem beg2 (h : pm_ev X 40 (0, pm_ent [.ref 0] 2, [], M, 0, 0) = some (none, M')) : pm_ev X 0 (4, [.ref 1000300, pm_u, pm_u, pm_u], [.ref 0, .ref 0], M, 1, 19) = pm_ev X 0 (7, [.ref 1000300, pm_u, pm_u, pm_u], [.ref 0], M', 1001, 20019) := by
  have c := pm_ev_call (X := X) (S := (4, [.ref 1000300, pm_u, pm_u, pm_u], [.ref 0, .ref 0], M, 1, 19)) (k' := 40) (as := [.ref 0]) (rest := [.ref 0]) pm_m0 d0_4 rfl pm_m40 ok40
  rw [c]
  show (pm_ev X 40 (0, pm_ent [.ref 0] 2, [], M, 0, 0)).bind (fun r => pm_ev X 0 (pm_nx pm_E0 (4 + 3, [.ref 1000300, pm_u, pm_u, pm_u], r.1.toList ++ [.ref 0], r.2, 1 + 1000, 19 + 20000))) = _
  rw [h, Option.bind_some, nx0 (by decide)]
  simp only [Option.toList, List.nil_append, Nat.reduceAdd]
theorem beg3 : pm_ev X 0 (7, [.ref 1000300, pm_u, pm_u, pm_u], [.ref 0], M, 1001, 20019) = pm_ev X 0 (8, [.ref 1000300, .ref 0, pm_u, pm_u], [], M, 1001, 20019) :=
  pm_ev_step (S := (7, [.ref 1000300, pm_u, pm_u, pm_u], [.ref 0], M, 1001, 20019)) (S' := (8, [.ref 1000300, .ref 0, pm_u, pm_u], [], M, 1001, 20019)) pm_m0 d0_7 rfl rfl
theorem beg4 (hM : M.1 = 129) : pm_ev X 0 (8, [.ref 1000300, .ref 0, pm_u, pm_u], [], M, 1001, 20019) = pm_ev X 0 (11, [.ref 1000300, .ref 0, pm_u, pm_u], [.ref 129], pm_new M 18 0, 1002, 20068) := by
  refine pm_ev_step (S := (8, [.ref 1000300, .ref 0, pm_u, pm_u], [], M, 1001, 20019)) (S' := (11, [.ref 1000300, .ref 0, pm_u, pm_u], [.ref 129], pm_new M 18 0, 1002, 20068)) pm_m0 d0_8 ?_ rfl
  have e : pm_newc 9 10 = some 8 := rfl
  have c : M.1 < 1000000 ∧ 1001 + 1 ≤ 600000 ∧ 20019 + pm_N 8 ≤ 7302250 := ⟨by omega, by decide, by decide⟩
  simp only [pm_step, pm_len, pm_step2, pm_step3, e]
  rw [if_pos c, hM]
  rfl
theorem beg5 : pm_ev X 0 (11, [.ref 1000300, .ref 0, pm_u, pm_u], [.ref 129], M, 1002, 20068) = pm_ev X 0 (12, [.ref 1000300, .ref 0, pm_u, pm_u], [.ref 129, .ref 129], M, 1002, 20068) :=
  pm_ev_step (S := (11, [.ref 1000300, .ref 0, pm_u, pm_u], [.ref 129], M, 1002, 20068)) (S' := (12, [.ref 1000300, .ref 0, pm_u, pm_u], [.ref 129, .ref 129], M, 1002, 20068)) pm_m0 d0_11 rfl rfl
theorem beg6 (h : pm_ev X 103 (0, pm_ent [.ref 129] 1, [], M, 0, 0) = some (none, M')) : pm_ev X 0 (12, [.ref 1000300, .ref 0, pm_u, pm_u], [.ref 129, .ref 129], M, 1002, 20068) = pm_ev X 0 (15, [.ref 1000300, .ref 0, pm_u, pm_u], [.ref 129], M', 1102, 25068) := by
  have c := pm_ev_call (X := X) (S := (12, [.ref 1000300, .ref 0, pm_u, pm_u], [.ref 129, .ref 129], M, 1002, 20068)) (k' := 103) (as := [.ref 129]) (rest := [.ref 129]) pm_m0 d0_12 rfl pm_m103 ok103
  rw [c]
  show (pm_ev X 103 (0, pm_ent [.ref 129] 1, [], M, 0, 0)).bind (fun r => pm_ev X 0 (pm_nx pm_E0 (12 + 3, [.ref 1000300, .ref 0, pm_u, pm_u], r.1.toList ++ [.ref 129], r.2, 1002 + 100, 20068 + 5000))) = _
  rw [h, Option.bind_some, nx0 (by decide)]
  simp only [Option.toList, List.nil_append, Nat.reduceAdd]
theorem beg7 : pm_ev X 0 (15, [.ref 1000300, .ref 0, pm_u, pm_u], [.ref 129], M, 1102, 25068) = pm_ev X 0 (16, [.ref 1000300, .ref 0, .ref 129, pm_u], [], M, 1102, 25068) :=
  pm_ev_step (S := (15, [.ref 1000300, .ref 0, pm_u, pm_u], [.ref 129], M, 1102, 25068)) (S' := (16, [.ref 1000300, .ref 0, .ref 129, pm_u], [], M, 1102, 25068)) pm_m0 d0_15 rfl rfl
theorem beg : pm_ev X 0 (0, [.ref 1000300, pm_u, pm_u, pm_u], [], pm_M0, 0, 0) = pm_ev X 0 (16, [.ref 1000300, .ref 0, .ref 129, pm_u], [], pm_MB, 1102, 25068) := by
  rw [beg0, beg1, beg2 ev_a, beg3, beg4 pm_ct3.2, beg5, beg6 ev_b, beg7]
theorem pm_whole (L : Nat) (xs : Nat → Int32) (hL : L ≤ 3584) : ∃ (f : Nat) (M' : pm_M), pm_run (L, xs) f 0 (0, pm_ent [.ref 1000300] 4, [], (0, fun _ => (99, 0), fun _ _ => 0, fun _ _ => none), 0, 0) = some (some (.int 1), M') := by
  obtain ⟨im', rm', e⟩ := lp_all (X := (L, xs)) hL 512 0 (by omega) (by show L < 0 + 7 * 512 + 7; omega) _ _ _ _ in_0
  have e16 : evL (L, xs) 16 [.ref 1000300, .ref 0, .ref 129, pm_u] [] pm_MB.2.2.1 pm_MB.2.2.2 = some (some (.int (nI 1)), im', rm') := by
    rw [s0_16, s0_17]
    exact e
  unfold evL at e16
  rw [Option.map_eq_some_iff] at e16
  obtain ⟨⟨v, M'⟩, e1, e2⟩ := e16
  have ev1 : v = some (.int (nI 1)) := congrArg Prod.fst e2
  rw [show MM pm_MB.2.2.1 pm_MB.2.2.2 = pm_MB from rfl, ← beg, ev1] at e1
  obtain ⟨f, hf⟩ := pm_ev_iff.mp e1
  exact ⟨f, M', hf⟩
end BEG
