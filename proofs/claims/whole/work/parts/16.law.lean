/-! THE CLAIM OUT OF ONE WALK OF THE LAW'S BODY. Your part is whole_start (and what it stands on); all else here is the same for every law, but numbers. -/
def R_law : String := "CleanStandLaw"
def lw_P (b : Addr) (xs : List Int32) (args : Array Value) (s : State) : Prop := args = #[.ref b] ∧ s.IntsAt b xs ∧ xs.length ≤ 3584 ∧ (Jvm.Cond.and given_1 narrow_1).before args s = true
def lw_Q (_ : Array Value) (s : State) (o : Outcome) (t : State) : Prop := o = .returned (some (.int 1)) ∧ Framed s o t [] 600000 7302250
def lw_Z (below : List Frame) (a : Array Value) (s : State) : State → Prop := fun t => ∃ o, t.status = .running ∧ Ended t below o ∧ lw_Q a s o t
/-- the law's own end, with 1 on the stack, nothing written that was there before, its room as the claim has it -/
theorem lw_ret {p : Program} {l : Launch} {e : Env} {s : State} {m : MethodId} {below : List Frame} {meth : Method} {c : Code} {b : Nat} (hx : p.tables.exec = Jvm.exec) (hb : c.code = code) (hr : meth.sig.returnType = ret) (hlocks : meth.locks = false) {pc : Nat} {H : Heap} {ls : Array Slot} (hdg : decode code pc = .ok (.ireturn, 1)) : W p l e room_1 s m #[Value.ref b] below meth c H [] 600000 7302250 (lw_Z below #[Value.ref b] s) (F0 m pc ls [.int 1]) := by
  intro T hT X
  obtain ⟨fs, hret, hrun, hended, hW, hframe⟩ := X.leave (v := some (.int 1)) (hlocks := hlocks) (fun h => by rw [hr] at h; cases h)
  have hmeth' : T.vm.method? m = some meth := X.method'
  refine ⟨T.setFrames fs, ?_, .returned (some (.int 1)), hrun, hended, rfl, ⟨_, rfl⟩, hW, hframe⟩
  jvm_step X.here [X.here.top, hx, hb, hdg, hmeth', hr, ret, narrow_b1]
  (try refine ⟨rfl, ?_⟩); (try refine ⟨rfl, ?_⟩)
  first | (intro acts; rw [hret _ acts rfl rfl rfl]) | rw [hret _ _ rfl rfl rfl]
  exact Steps.refl _
/-- what holds at the law's entry: the machine, the code, the tables' words (any of lw_tbl by 'hts w (by decide +kernel)'), the script of L ints xs at the cell b, what the Statement gives of the start (any of its parts by flat_of_before) -/
def lw_At (p : Program) (s : State) (m : MethodId) (meth : Method) (c : Code) (b L : Nat) (xs : Nat → Int32) : Prop :=
  p.tables.exec = Jvm.exec ∧ c.code = code ∧ meth.sig.returnType = ret ∧ c.maxLocals = 4 ∧ s.vm.findClass R_law = some m.cls ∧ (∀ w ∈ lw_tbl, w.before #[Value.ref b] s = true) ∧ va_X b L xs s s.heap ∧ b < s.heap.size ∧ meth.locks = false ∧ (Jvm.Cond.and given_1 narrow_1).before #[Value.ref b] s = true
/-! The law's start gives the pure machine's world. -/
def lw_ft : List Cond := flatC (Jvm.Cond.and given_1 narrow_1)
def lw_tm (i : Nat) : Term := Term.string RX6 ((pm_stx.map (·.1)).getD i 0)

def lw_Ps : List Nat := [218, 30, 37, 199, 160, 179, 236, 258, 281, 304, 46, 56, 68, 82, 97, 111, 127, 143]
def lw_Pn : List (List Nat) := [[0, 223, 224, 235, 233, 234, 257, 279, 301, 324, 225, 226, 227, 228, 229, 230, 231, 232], [223, 0, 45, 206, 169, 188, 244, 266, 288, 311, 54, 65, 78, 92, 105, 120, 135, 151], [224, 45, 0, 207, 170, 189, 245, 267, 289, 312, 55, 66, 79, 93, 106, 121, 136, 152], [235, 206, 207, 0, 216, 217, 256, 278, 300, 323, 208, 209, 210, 211, 212, 213, 214, 215], [233, 169, 170, 216, 0, 198, 254, 276, 298, 321, 171, 172, 173, 174, 175, 176, 177, 178], [234, 188, 189, 217, 198, 0, 255, 277, 299, 322, 190, 191, 192, 193, 194, 195, 196, 197], [257, 244, 245, 256, 254, 255, 0, 280, 302, 325, 246, 247, 248, 249, 250, 251, 252, 253], [279, 266, 267, 278, 276, 277, 280, 0, 303, 326, 268, 269, 270, 271, 272, 273, 274, 275], [301, 288, 289, 300, 298, 299, 302, 303, 0, 327, 290, 291, 292, 293, 294, 295, 296, 297], [324, 311, 312, 323, 321, 322, 325, 326, 327, 0, 313, 314, 315, 316, 317, 318, 319, 320], [225, 54, 55, 208, 171, 190, 246, 268, 290, 313, 0, 67, 80, 94, 107, 122, 137, 153], [226, 65, 66, 209, 172, 191, 247, 269, 291, 314, 67, 0, 81, 95, 108, 123, 138, 154], [227, 78, 79, 210, 173, 192, 248, 270, 292, 315, 80, 81, 0, 96, 109, 124, 139, 155], [228, 92, 93, 211, 174, 193, 249, 271, 293, 316, 94, 95, 96, 0, 110, 125, 140, 156], [229, 105, 106, 212, 175, 194, 250, 272, 294, 317, 107, 108, 109, 110, 0, 126, 141, 157], [230, 120, 121, 213, 176, 195, 251, 273, 295, 318, 122, 123, 124, 125, 126, 0, 142, 158], [231, 135, 136, 214, 177, 196, 252, 274, 296, 319, 137, 138, 139, 140, 141, 142, 0, 159], [232, 151, 152, 215, 178, 197, 253, 275, 297, 320, 153, 154, 155, 156, 157, 158, 159, 0]]
set_option maxRecDepth 100000 in
theorem lw_s1 : ∀ i, i < 18 → lw_ft[lw_Ps.getD i 0]? = some (Cond.exactly (lw_tm i) "java/lang/String") := by decide +kernel
set_option maxRecDepth 100000 in
theorem lw_s2 : ∀ i, i < 18 → lw_ft[lw_Ps.getD i 0 + 1]? = some (Cond.eq (.field (lw_tm i) "java/lang/String" "coder" "B") (.int 0)) := by decide +kernel
set_option maxRecDepth 100000 in
theorem lw_s3 : ∀ i, i < 18 → lw_ft[lw_Ps.getD i 0 + 2]? = some (Cond.arrayOf (.field (lw_tm i) "java/lang/String" "value" "[B") .byte) := by decide +kernel
set_option maxRecDepth 100000 in
theorem lw_s4 : ∀ i, i < 18 → lw_ft[lw_Ps.getD i 0 + 3]? = some (Cond.eq (.length (.field (lw_tm i) "java/lang/String" "value" "[B")) (.int (Int32.ofNat ((pm_stx.map (fun q => q.2.2.length)).getD i 0)))) := by decide +kernel
set_option maxRecDepth 100000 in
theorem lw_s5 : ∀ i, i < 18 → ∀ j, j < (pm_stx.map (fun q => q.2.2.length)).getD i 0 → lw_ft[lw_Ps.getD i 0 + 4 + j]? = some (Cond.eq (.elem (.field (lw_tm i) "java/lang/String" "value" "[B") (.int (Int32.ofNat j))) (.int (((pm_stx.map (fun q => q.2.2)).getD i []).getD j 0))) := by decide +kernel
set_option maxRecDepth 100000 in
theorem lw_s6 : ∀ i, i < 18 → ∀ j, j < 18 → i ≠ j → (lw_ft[(lw_Pn.getD i []).getD j 0]? = some (Cond.not (Cond.eq (lw_tm i) (lw_tm j))) ∨ lw_ft[(lw_Pn.getD i []).getD j 0]? = some (Cond.not (Cond.eq (lw_tm j) (lw_tm i)))) := by decide +kernel
theorem lw_s7 : ∀ i, i < 18 → (pm_stx.map (fun q => q.2.2.length)).getD i 0 < 2 ^ 31 := by decide +kernel
set_option maxRecDepth 100000 in
theorem lw_s8 : pm_stx.all (fun q => decide (Cond.stringRef RX6 q.1 q.2.1 ∈ lw_tbl)) = true := by decide +kernel
def lw_tn (j : Nat) : String := (["SETTINGS_AT_FIRST", "LEAST_SETTINGS", "MOST_SETTINGS"] : List String).getD j ""
set_option maxRecDepth 100000 in
theorem lw_t1 : ∀ j, j < 3 → Cond.arrayOf (.static RX7 (lw_tn j) "[I") .int ∈ lw_ft ∧ Cond.eq (.length (.static RX7 (lw_tn j) "[I")) (.int (Int32.ofNat 4)) ∈ lw_ft ∧ Cond.laysStatic RX7 (lw_tn j) "[I" ∈ lw_tbl := by decide +kernel
set_option maxRecDepth 100000 in
theorem lw_t2 : ∀ j, j < 3 → ∀ i, i < 4 → Cond.eq (.elem (.static RX7 (lw_tn j) "[I") (.int (Int32.ofNat i))) (.int ((pm_tabs.getD j []).getD i 0)) ∈ lw_ft := by decide +kernel
set_option maxRecDepth 100000 in
theorem lw_t3 : Cond.initialized RX7 ∈ lw_tbl ∧ Cond.initialized RJ0 ∈ lw_tbl ∧ Cond.initialized RJ3 ∈ lw_tbl ∧ Cond.laysStatic RJ0 "COMPACT_STRINGS" "Z" ∈ lw_tbl ∧ Cond.laysStatic RJ3 "SIOOBE_FORMATTER" "Ljava/util/function/BiFunction;" ∈ lw_tbl := by decide +kernel
set_option maxRecDepth 100000 in
theorem lw_t4 : Cond.eq (.static RJ0 "COMPACT_STRINGS" "Z") (.int 1) ∈ lw_ft ∧ Cond.isRef (.static RJ3 "SIOOBE_FORMATTER" "Ljava/util/function/BiFunction;") ∈ lw_ft := by decide +kernel
set_option maxRecDepth 100000 in
theorem lw_n1 : ∀ q ∈ pm_nest, Cond.methodLinkNest RX7 q.1 q.2 RX7 ∈ lw_tbl := by decide +kernel
set_option maxRecDepth 100000 in
theorem lw_n2 : Cond.arrayOver (.object RX0) ∈ lw_tbl ∧ Cond.arrayOver (.object RX4) ∈ lw_tbl ∧ Cond.arrayOver (.object RX1) ∈ lw_tbl ∧ Cond.arrayOver (.array .int) ∈ lw_tbl := by decide +kernel
theorem lw_world {args : Array Value} {s : State} {b L : Nat} {xs : Nat → Int32} (hts : ∀ w ∈ lw_tbl, w.before args s = true) (hg : (Jvm.Cond.and given_1 narrow_1).before args s = true) (hX : va_X b L xs s s.heap) (hb : b < s.heap.size) : ∃ (Z : Value) (adr : Nat → Nat) (D : va_G) (cA : Nat → ClassId), adr 1000300 = b ∧ pm_Wd s.heap.size Z adr D cA (L, xs) s ∧ pm_Wx s := by
  have hf := flat_of_before _ hg
  have hA : ∀ a : Nat, a < s.heap.size → ¬ (fun q : Nat => s.heap.size ≤ q) a := fun a h => Nat.not_le.mpr h
  obtain ⟨adK, adV, hS, hSt⟩ := vk_Sof (A := fun q => s.heap.size ≤ q) (tm := lw_tm) lw_s7 (fun i hi => hf _ (List.mem_of_getElem? (lw_s1 i hi))) (fun i hi => hf _ (List.mem_of_getElem? (lw_s2 i hi))) (fun i hi => hf _ (List.mem_of_getElem? (lw_s3 i hi))) (fun i hi => hf _ (List.mem_of_getElem? (lw_s4 i hi))) (fun i hi j hj => hf _ (List.mem_of_getElem? (lw_s5 i hi j hj))) (fun i j hi hj hij => by
    rcases lw_s6 i hi j hj hij with h | h
    · exact Or.inl (hf _ (List.mem_of_getElem? h))
    · exact Or.inr (hf _ (List.mem_of_getElem? h))) hA
  have hT0 : ∀ j : Nat, ∃ t : Nat, j < 3 → (Term.static RX7 (lw_tn j) "[I").eval args s none [] s = some (.ref t) ∧ va_T .int t 4 (fun q => .int ((pm_tabs.getD j []).getD q 0)) (fun q => s.heap.size ≤ q) s s.heap := by
    intro j
    by_cases hj : j < 3
    · obtain ⟨t, h1, h2⟩ := va_Tof (f := fun q => .int ((pm_tabs.getD j []).getD q 0)) (A := fun q => s.heap.size ≤ q) (N := 4) (by decide) (hf _ (lw_t1 j hj).1) (va_eqt (hf _ (lw_t1 j hj).2.1)) (fun i hi => va_eqt (hf _ (lw_t2 j hj i hi))) hA
      exact ⟨t, fun _ => ⟨h1, h2⟩⟩
    · exact ⟨0, fun h => absurd h hj⟩
  obtain ⟨tt, htt⟩ := Classical.axiomOfChoice hT0
  obtain ⟨i1, i2, i3, i4, i5⟩ := lw_t3
  have hZq := va_Zqof (A := fun q => s.heap.size ≤ q) (hts _ i5) (hts _ i3) (hf _ lw_t4.2) hA
  obtain ⟨Z, hZ1, hZ2⟩ : ∃ Z : Value, (Z = .null ∨ ∃ t, Z = .ref t) ∧ va_Z RJ3 "SIOOBE_FORMATTER" "Ljava/util/function/BiFunction;" Z (fun q => s.heap.size ≤ q) s s.heap := by
    rcases hZq with h | ⟨t, h⟩
    · exact ⟨_, Or.inl rfl, h⟩
    · exact ⟨_, Or.inr ⟨t, rfl⟩, h⟩
  have hD0 : ∀ ci : Nat, ∃ q : ClassId × (Nat → Nat), ∀ r : vw_C, pm_cls[ci]? = some r → u_Kn s r.1 r.2.1 r.2.2 q.1 q.2 := by
    intro ci
    cases hr : pm_cls[ci]? with
    | none => exact ⟨(0, fun _ => 0), fun r h => by cases h⟩
    | some r =>
      have hq := pm_clsq_at hr
      obtain ⟨cC, iS, h⟩ := u_known (ws := lw_tbl) hts (fun w hw => (hq.2.1 w hw).1) (hts _ hq.2.2.2.2.2.1)
      exact ⟨(cC, iS), fun r' h' => by cases h'; exact h⟩
  obtain ⟨dd, hdd⟩ := Classical.axiomOfChoice hD0
  have prim : ∀ ty : FieldType, (Cond.arrayClass ty).before args s = true → ∃ cB : ClassId, ArrOfT s cB ty ∧ s.vm.findClass ("[" ++ ty.toString) = some cB := by
    intro ty h
    obtain ⟨cB, kB, comp, h1, h2, h3⟩ := Cond.arrayClass_spec (first := s) (o := none) (idx := []) h
    exact ⟨cB, fun n z => ⟨fun k h => (by cases h), kB, h2, comp, h3⟩, h1⟩
  have obj : ∀ C : String, (Cond.arrayOver (.object C)).before args s = true → ∃ cB : ClassId, ArrOfT s cB (.object C) ∧ va_RA s cB (.object C) := by
    intro C h
    obtain ⟨comp, cB, kB, h1, -, h3, h4, h5⟩ := Cond.arrayOver_spec (first := s) (o := none) (idx := []) h
    exact ⟨cB, fun n z => ⟨fun k h => (by cases h), kB, h3, comp, h4⟩, kB, comp, h3, h4, h1, h5⟩
  obtain ⟨c0, a0, b0⟩ := prim .int (hts _ (List.mem_filter.mp pm_acI).1)
  obtain ⟨c1, a1, b1⟩ := prim .boolean (hts _ (List.mem_filter.mp pm_acZ).1)
  obtain ⟨c2, a2, b2⟩ := obj RX0 (hts _ lw_n2.1)
  obtain ⟨c3, a3, b3⟩ := obj RX4 (hts _ lw_n2.2.1)
  obtain ⟨c4, a4, b4⟩ := obj RX1 (hts _ lw_n2.2.2.1)
  obtain ⟨comp5, c5, k5, -, -, h53, h54, h55⟩ := arrayOverA_spec (first := s) (o := none) (idx := []) (hts _ lw_n2.2.2.2)
  let adr : Nat → Nat := fun a => if a < 1000000 then s.heap.size + a else if a < 1000100 then adK (a - 1000000) else if a < 1000200 then adV (a - 1000100) else if a < 1000300 then tt (a - 1000200) else b
  have d1 : ∀ i, i < 18 → adr (1000000 + i) = adK i := fun i hi => by
    show (if 1000000 + i < 1000000 then _ else _) = _
    rw [if_neg (by omega), if_pos (by omega), Nat.add_sub_cancel_left]
  have d2 : ∀ i, i < 18 → adr (1000100 + i) = adV i := fun i hi => by
    show (if 1000100 + i < 1000000 then _ else _) = _
    rw [if_neg (by omega), if_neg (by omega), if_pos (by omega), Nat.add_sub_cancel_left]
  have d3 : ∀ i, i < 3 → adr (1000200 + i) = tt i := fun i hi => by
    show (if 1000200 + i < 1000000 then _ else _) = _
    rw [if_neg (by omega), if_neg (by omega), if_neg (by omega), if_pos (by omega), Nat.add_sub_cancel_left]
  have hst : ∀ j, j < 3 → va_Z RX7 (lw_tn j) "[I" (.ref (adr (1000200 + j))) (fun q => s.heap.size ≤ q) s s.heap := fun j hj => by
    rw [d3 j hj]
    exact va_Zof (hts _ (lw_t1 j hj).2.2) (hts _ i1) (htt j hj).1 hA
  refine ⟨Z, adr, (fun ci => (dd ci).1, fun ci => (dd ci).2), fun k => ([c0, c1, c2, c3, c4, c5] : List Nat).getD k 0, rfl, ⟨⟨Nat.le_refl _, fun a ha => if_pos ha, hZ1, fun ci r hr => hdd ci r hr, ?_⟩, ⟨?_, ?_⟩, fun j hj => by rw [d3 j hj]; exact (htt j hj).2, ⟨hst 0 (by decide), hst 1 (by decide), hst 2 (by decide), va_Zof (hts _ i4) (hts _ i2) (va_eqi (hf _ lw_t4.1)) hA, hZ2⟩, hX, hb⟩, ?_, ?_⟩
  · intro k q hq
    match k, hq with
    | 0, hq => cases hq; exact ⟨a0, b0⟩
    | 1, hq => cases hq; exact ⟨a1, b1⟩
    | 2, hq => cases hq; exact ⟨a2, b2⟩
    | 3, hq => cases hq; exact ⟨a3, b3⟩
    | 4, hq => cases hq; exact ⟨a4, b4⟩
    | 5, hq => cases hq; exact ⟨fun n z => ⟨fun k h => (by cases h), k5, h53, comp5, h54⟩, h55⟩
    | k + 6, hq => simp [pm_tys] at hq
  · refine ⟨fun i hi => ?_, fun i j hi hj h => ?_⟩
    · simp only [d1 i hi, d2 i hi]
      exact hS.1 i hi
    · simp only [d1 i hi, d1 j hj] at h
      exact hS.2 i j hi hj h
  · intro i q hq
    have hi : i < 18 := by
      have := (List.getElem?_eq_some_iff.mp hq).1
      rwa [pm_len18] at this
    rw [d1 i hi]
    have h1 := List.all_eq_true.mp lw_s8 q (List.mem_of_getElem? hq)
    have h2 := hSt i hi
    unfold lw_tm at h2
    rw [List.getD_eq_getElem?_getD, List.getElem?_map, hq] at h2
    exact vk_R.of (A := args) (hts _ (of_decide_eq_true h1)) h2
  · exact fun q hq => va_Nw.of rfl (hts _ (lw_n1 q hq))
  · intro ty hty
    rcases hty with rfl | rfl | rfl | rfl
    · exact hts _ lw_n2.1
    · exact hts _ lw_n2.2.1
    · exact hts _ lw_n2.2.2.1
    · exact hts _ lw_n2.2.2.2
