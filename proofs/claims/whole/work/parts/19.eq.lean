/-! Equations of ev, by instruction. Memory: the cells that the two constructors made. -/
noncomputable def kd (a : Nat) : Nat := (pm_MB.2.1 a).1
noncomputable def ln (a : Nat) : Nat := (pm_MB.2.1 a).2
abbrev IM : Type := Nat → Nat → Int32
abbrev RM : Type := Nat → Nat → Option Nat
noncomputable def MM (im : IM) (rm : RM) : pm_M := (pm_MB.1, pm_MB.2.1, im, rm)
noncomputable def ev (k pc : Nat) (lv st : List Value) (im : IM) (rm : RM) : Option (Option Value × IM × RM) := (pm_ev pm_X0 k (pc, lv, st, MM im rm, 0, 0)).map (fun r => (r.1, r.2.2.2))
/-- the law's own: with a script, and the cells of the two objects counted -/
noncomputable def evL (X : Nat × (Nat → Int32)) (pc : Nat) (lv st : List Value) (im : IM) (rm : RM) : Option (Option Value × IM × RM) := (pm_ev X 0 (pc, lv, st, MM im rm, 1102, 25068)).map (fun r => (r.1, r.2.2.2))
theorem pm_ro_some (b : Nat) : pm_ro (some b) = .ref b := rfl
section EQ
variable {k pc : Nat} {E : pm_E} {lv lv' lv1 lv2 st : List Value} {im : IM} {rm : RM} {X : Nat × (Nat → Int32)}
theorem ev_1 {i : Instr} {len : Nat} {pc' : Nat} {lv0 st' : List Value} {im' : IM} {rm' : RM} (hE : pm_mt k = some E) (hd : decode E.2.1 pc = .ok (i, len)) (hs : pm_step pm_X0 E i len (pc, lv, st, MM im rm, 0, 0) = some (.inl (pc', lv0, st', MM im' rm', 0, 0))) (hm : pm_msk E.2.2.2.2.2.2.2.2 pc' lv0 = lv') : ev k pc lv st im rm = ev k pc' lv' st' im' rm' := by
  unfold ev
  have h1 := pm_ev_step (S := (pc, lv, st, MM im rm, 0, 0)) hE hd hs rfl
  rw [h1]
  unfold pm_nx
  rw [hm]
theorem evL_1 {i : Instr} {len : Nat} {pc' : Nat} {lv0 st' : List Value} {im' : IM} {rm' : RM} (hE : pm_mt 0 = some E) (hd : decode E.2.1 pc = .ok (i, len)) (hs : pm_step X E i len (pc, lv, st, MM im rm, 1102, 25068) = some (.inl (pc', lv0, st', MM im' rm', 1102, 25068))) (hm : pm_msk E.2.2.2.2.2.2.2.2 pc' lv0 = lv') : evL X pc lv st im rm = evL X pc' lv' st' im' rm' := by
  unfold evL
  have h1 := pm_ev_step (S := (pc, lv, st, MM im rm, 1102, 25068)) hE hd hs rfl
  rw [h1]
  unfold pm_nx
  rw [hm]
theorem ev_r {i : Instr} {len : Nat} {v : Option Value} (hE : pm_mt k = some E) (hd : decode E.2.1 pc = .ok (i, len)) (hs : pm_step pm_X0 E i len (pc, lv, st, MM im rm, 0, 0) = some (.inr (.inl v))) : ev k pc lv st im rm = some (v, im, rm) := by
  unfold ev
  have h1 := pm_ev_ret (S := (pc, lv, st, MM im rm, 0, 0)) hE hd hs ⟨Nat.zero_le _, Nat.zero_le _⟩
  rw [h1]
  rfl
theorem evL_r {i : Instr} {len : Nat} {v : Option Value} (hE : pm_mt 0 = some E) (hd : decode E.2.1 pc = .ok (i, len)) (hs : pm_step X E i len (pc, lv, st, MM im rm, 1102, 25068) = some (.inr (.inl v))) (hc : 1102 ≤ E.2.2.2.2.2.2.1 ∧ 25068 ≤ E.2.2.2.2.2.2.2.1) : evL X pc lv st im rm = some (v, im, rm) := by
  unfold evL
  have h1 := pm_ev_ret (S := (pc, lv, st, MM im rm, 1102, 25068)) hE hd hs hc
  rw [h1]
  rfl
theorem ev_c {i : Instr} {len k' : Nat} {E' : pm_E} {as rest lve : List Value} (hE : pm_mt k = some E) (hd : decode E.2.1 pc = .ok (i, len)) (hs : pm_step pm_X0 E i len (pc, lv, st, MM im rm, 0, 0) = some (.inr (.inr (k', as, rest)))) (hE' : pm_mt k' = some E') (hok : pm_ok E E' as rest (0, 0) = true) (h0 : E'.2.2.2.2.2.2.1 = 0 ∧ E'.2.2.2.2.2.2.2.1 = 0) (he : pm_ent as E'.2.2.1 = lve) (hm : pm_msk E.2.2.2.2.2.2.2.2 (pc + len) lv = lv') :
    ev k pc lv st im rm = (ev k' 0 lve [] im rm).bind (fun r => ev k (pc + len) lv' (r.1.toList ++ rest) r.2.1 r.2.2) := by
  unfold ev
  have h1 := pm_ev_call (S := (pc, lv, st, MM im rm, 0, 0)) hE hd hs hE' hok
  rw [h1, he]
  cases hc : pm_ev pm_X0 k' (0, lve, [], MM im rm, 0, 0) with
  | none => rfl
  | some r =>
    obtain ⟨v, M'⟩ := r
    obtain ⟨f, hf⟩ := pm_ev_iff.mp hc
    obtain ⟨h1, h2⟩ := pm_run_keeps f k' E' _ v M' hE' h0.1 rfl hf
    have e1 : M' = MM M'.2.2.1 M'.2.2.2 := by
      unfold MM
      rw [← show M'.1 = pm_MB.1 from h1, ← show M'.2.1 = pm_MB.2.1 from h2]
    rw [e1]
    simp only [Option.bind_some, Option.map_some]
    unfold pm_nx
    simp only [h0.1, h0.2, Nat.add_zero, hm]
    rfl
theorem evL_c {i : Instr} {len k' : Nat} {E' : pm_E} {as rest lve : List Value} (hE : pm_mt 0 = some E) (hd : decode E.2.1 pc = .ok (i, len)) (hs : pm_step X E i len (pc, lv, st, MM im rm, 1102, 25068) = some (.inr (.inr (k', as, rest)))) (hE' : pm_mt k' = some E') (hok : pm_ok E E' as rest (1102, 25068) = true) (h0 : E'.2.2.2.2.2.2.1 = 0 ∧ E'.2.2.2.2.2.2.2.1 = 0) (he : pm_ent as E'.2.2.1 = lve) (hm : pm_msk E.2.2.2.2.2.2.2.2 (pc + len) lv = lv') (h9 : E'.2.2.2.2.1 ≠ 9) :
    evL X pc lv st im rm = (ev k' 0 lve [] im rm).bind (fun r => evL X (pc + len) lv' (r.1.toList ++ rest) r.2.1 r.2.2) := by
  unfold evL ev
  have h1 := pm_ev_call (S := (pc, lv, st, MM im rm, 1102, 25068)) hE hd hs hE' hok
  rw [h1, he]
  show Option.map _ (Option.bind (pm_ev X k' (0, lve, [], MM im rm, 0, 0)) _) = _
  rw [pm_ev_X (X := X) (X' := pm_X0) hE' h9]
  cases hc : pm_ev pm_X0 k' (0, lve, [], MM im rm, 0, 0) with
  | none => rfl
  | some r =>
    obtain ⟨v, M'⟩ := r
    obtain ⟨f, hf⟩ := pm_ev_iff.mp hc
    obtain ⟨h1, h2⟩ := pm_run_keeps f k' E' _ v M' hE' h0.1 rfl hf
    have e1 : M' = MM M'.2.2.1 M'.2.2.2 := by
      unfold MM
      rw [← show M'.1 = pm_MB.1 from h1, ← show M'.2.1 = pm_MB.2.1 from h2]
    rw [e1]
    simp only [Option.bind_some, Option.map_some]
    unfold pm_nx
    simp only [h0.1, h0.2, Nat.add_zero, hm]
    rfl
theorem ev_iconst {z : Int} {v : Int32} (hE : pm_mt k = some E) (hd : decode E.2.1 pc = .ok (.iconst z, 1)) (hv : Int32.ofInt z = v) (hm : pm_msk E.2.2.2.2.2.2.2.2 (pc + 1) lv = lv') : ev k pc lv st im rm = ev k (pc + 1) lv' (.int v :: st) (im) (rm) := ev_1 hE hd (by simp [pm_step, pm_len, pm_step2, pm_go, hv]) hm
theorem evL_iconst {z : Int} {v : Int32} (hE : pm_mt 0 = some E) (hd : decode E.2.1 pc = .ok (.iconst z, 1)) (hv : Int32.ofInt z = v) (hm : pm_msk E.2.2.2.2.2.2.2.2 (pc + 1) lv = lv') : evL X pc lv st im rm = evL X (pc + 1) lv' (.int v :: st) (im) (rm) := evL_1 hE hd (by simp [pm_step, pm_len, pm_step2, pm_go, hv]) hm
theorem ev_bipush {z : Int} {v : Int32} (hE : pm_mt k = some E) (hd : decode E.2.1 pc = .ok (.bipush z, 2)) (hv : (Int8.ofInt z).toInt32 = v) (hm : pm_msk E.2.2.2.2.2.2.2.2 (pc + 2) lv = lv') : ev k pc lv st im rm = ev k (pc + 2) lv' (.int v :: st) (im) (rm) := ev_1 hE hd (by simp [pm_step, pm_len, pm_step2, pm_go, hv]) hm
theorem evL_bipush {z : Int} {v : Int32} (hE : pm_mt 0 = some E) (hd : decode E.2.1 pc = .ok (.bipush z, 2)) (hv : (Int8.ofInt z).toInt32 = v) (hm : pm_msk E.2.2.2.2.2.2.2.2 (pc + 2) lv = lv') : evL X pc lv st im rm = evL X (pc + 2) lv' (.int v :: st) (im) (rm) := evL_1 hE hd (by simp [pm_step, pm_len, pm_step2, pm_go, hv]) hm
theorem ev_sipush {z : Int} {v : Int32} (hE : pm_mt k = some E) (hd : decode E.2.1 pc = .ok (.sipush z, 3)) (hv : (Int16.ofInt z).toInt32 = v) (hm : pm_msk E.2.2.2.2.2.2.2.2 (pc + 3) lv = lv') : ev k pc lv st im rm = ev k (pc + 3) lv' (.int v :: st) (im) (rm) := ev_1 hE hd (by simp [pm_step, pm_len, pm_step2, pm_go, hv]) hm
theorem evL_sipush {z : Int} {v : Int32} (hE : pm_mt 0 = some E) (hd : decode E.2.1 pc = .ok (.sipush z, 3)) (hv : (Int16.ofInt z).toInt32 = v) (hm : pm_msk E.2.2.2.2.2.2.2.2 (pc + 3) lv = lv') : evL X pc lv st im rm = evL X (pc + 3) lv' (.int v :: st) (im) (rm) := evL_1 hE hd (by simp [pm_step, pm_len, pm_step2, pm_go, hv]) hm
theorem ev_lconst {z : Fin 2} {v : Int64} (hE : pm_mt k = some E) (hd : decode E.2.1 pc = .ok (.lconst z, 1)) (hv : Int64.ofNat (z : Nat) = v) (hm : pm_msk E.2.2.2.2.2.2.2.2 (pc + 1) lv = lv') : ev k pc lv st im rm = ev k (pc + 1) lv' (.long v :: st) (im) (rm) := ev_1 hE hd (by simp [pm_step, pm_len, pm_step2, pm_go, hv]) hm
theorem evL_lconst {z : Fin 2} {v : Int64} (hE : pm_mt 0 = some E) (hd : decode E.2.1 pc = .ok (.lconst z, 1)) (hv : Int64.ofNat (z : Nat) = v) (hm : pm_msk E.2.2.2.2.2.2.2.2 (pc + 1) lv = lv') : evL X pc lv st im rm = evL X (pc + 1) lv' (.long v :: st) (im) (rm) := evL_1 hE hd (by simp [pm_step, pm_len, pm_step2, pm_go, hv]) hm
theorem ev_iload {j : Nat} {x : Int32} (hE : pm_mt k = some E) (hd : decode E.2.1 pc = .ok (.iload j, 2)) (hx : lv[j]? = some (.int x)) (hm : pm_msk E.2.2.2.2.2.2.2.2 (pc + 2) lv = lv') : ev k pc lv st im rm = ev k (pc + 2) lv' (.int x :: st) (im) (rm) := ev_1 hE hd (by simp [pm_step, pm_len, pm_step2, pm_go, hx]) hm
theorem evL_iload {j : Nat} {x : Int32} (hE : pm_mt 0 = some E) (hd : decode E.2.1 pc = .ok (.iload j, 2)) (hx : lv[j]? = some (.int x)) (hm : pm_msk E.2.2.2.2.2.2.2.2 (pc + 2) lv = lv') : evL X pc lv st im rm = evL X (pc + 2) lv' (.int x :: st) (im) (rm) := evL_1 hE hd (by simp [pm_step, pm_len, pm_step2, pm_go, hx]) hm
theorem ev_iload_n {j : Fin 4} {x : Int32} (hE : pm_mt k = some E) (hd : decode E.2.1 pc = .ok (.iload_n j, 1)) (hx : lv[(j : Nat)]? = some (.int x)) (hm : pm_msk E.2.2.2.2.2.2.2.2 (pc + 1) lv = lv') : ev k pc lv st im rm = ev k (pc + 1) lv' (.int x :: st) (im) (rm) := ev_1 hE hd (by simp [pm_step, pm_len, pm_step2, pm_go, hx]) hm
theorem evL_iload_n {j : Fin 4} {x : Int32} (hE : pm_mt 0 = some E) (hd : decode E.2.1 pc = .ok (.iload_n j, 1)) (hx : lv[(j : Nat)]? = some (.int x)) (hm : pm_msk E.2.2.2.2.2.2.2.2 (pc + 1) lv = lv') : evL X pc lv st im rm = evL X (pc + 1) lv' (.int x :: st) (im) (rm) := evL_1 hE hd (by simp [pm_step, pm_len, pm_step2, pm_go, hx]) hm
theorem ev_lload {j : Nat} {x : Int64} (hE : pm_mt k = some E) (hd : decode E.2.1 pc = .ok (.lload j, 2)) (hx : lv[j]? = some (.long x)) (hm : pm_msk E.2.2.2.2.2.2.2.2 (pc + 2) lv = lv') : ev k pc lv st im rm = ev k (pc + 2) lv' (.long x :: st) (im) (rm) := ev_1 hE hd (by simp [pm_step, pm_len, pm_step2, pm_go, hx]) hm
theorem evL_lload {j : Nat} {x : Int64} (hE : pm_mt 0 = some E) (hd : decode E.2.1 pc = .ok (.lload j, 2)) (hx : lv[j]? = some (.long x)) (hm : pm_msk E.2.2.2.2.2.2.2.2 (pc + 2) lv = lv') : evL X pc lv st im rm = evL X (pc + 2) lv' (.long x :: st) (im) (rm) := evL_1 hE hd (by simp [pm_step, pm_len, pm_step2, pm_go, hx]) hm
theorem ev_lload_n {j : Fin 4} {x : Int64} (hE : pm_mt k = some E) (hd : decode E.2.1 pc = .ok (.lload_n j, 1)) (hx : lv[(j : Nat)]? = some (.long x)) (hm : pm_msk E.2.2.2.2.2.2.2.2 (pc + 1) lv = lv') : ev k pc lv st im rm = ev k (pc + 1) lv' (.long x :: st) (im) (rm) := ev_1 hE hd (by simp [pm_step, pm_len, pm_step2, pm_go, hx]) hm
theorem evL_lload_n {j : Fin 4} {x : Int64} (hE : pm_mt 0 = some E) (hd : decode E.2.1 pc = .ok (.lload_n j, 1)) (hx : lv[(j : Nat)]? = some (.long x)) (hm : pm_msk E.2.2.2.2.2.2.2.2 (pc + 1) lv = lv') : evL X pc lv st im rm = evL X (pc + 1) lv' (.long x :: st) (im) (rm) := evL_1 hE hd (by simp [pm_step, pm_len, pm_step2, pm_go, hx]) hm
theorem ev_aload {j : Nat} {x : Nat} (hE : pm_mt k = some E) (hd : decode E.2.1 pc = .ok (.aload j, 2)) (hx : lv[j]? = some (.ref x)) (hm : pm_msk E.2.2.2.2.2.2.2.2 (pc + 2) lv = lv') : ev k pc lv st im rm = ev k (pc + 2) lv' (.ref x :: st) (im) (rm) := ev_1 hE hd (by simp [pm_step, pm_len, pm_step2, pm_go, hx]) hm
theorem evL_aload {j : Nat} {x : Nat} (hE : pm_mt 0 = some E) (hd : decode E.2.1 pc = .ok (.aload j, 2)) (hx : lv[j]? = some (.ref x)) (hm : pm_msk E.2.2.2.2.2.2.2.2 (pc + 2) lv = lv') : evL X pc lv st im rm = evL X (pc + 2) lv' (.ref x :: st) (im) (rm) := evL_1 hE hd (by simp [pm_step, pm_len, pm_step2, pm_go, hx]) hm
theorem ev_aload_n {j : Fin 4} {x : Nat} (hE : pm_mt k = some E) (hd : decode E.2.1 pc = .ok (.aload_n j, 1)) (hx : lv[(j : Nat)]? = some (.ref x)) (hm : pm_msk E.2.2.2.2.2.2.2.2 (pc + 1) lv = lv') : ev k pc lv st im rm = ev k (pc + 1) lv' (.ref x :: st) (im) (rm) := ev_1 hE hd (by simp [pm_step, pm_len, pm_step2, pm_go, hx]) hm
theorem evL_aload_n {j : Fin 4} {x : Nat} (hE : pm_mt 0 = some E) (hd : decode E.2.1 pc = .ok (.aload_n j, 1)) (hx : lv[(j : Nat)]? = some (.ref x)) (hm : pm_msk E.2.2.2.2.2.2.2.2 (pc + 1) lv = lv') : evL X pc lv st im rm = evL X (pc + 1) lv' (.ref x :: st) (im) (rm) := evL_1 hE hd (by simp [pm_step, pm_len, pm_step2, pm_go, hx]) hm
theorem ev_istore {j : Nat} {x : Int32} (hE : pm_mt k = some E) (hd : decode E.2.1 pc = .ok (.istore j, 2)) (hb : j < lv.length) (hs : pm_st1 lv j (.int x) = lv1) (hm : pm_msk E.2.2.2.2.2.2.2.2 (pc + 2) lv1 = lv') : ev k pc lv (.int x :: st) im rm = ev k (pc + 2) lv' st (im) (rm) := ev_1 hE hd (by simp [pm_step, pm_len, pm_step2, pm_go, hb, hs]) hm
theorem evL_istore {j : Nat} {x : Int32} (hE : pm_mt 0 = some E) (hd : decode E.2.1 pc = .ok (.istore j, 2)) (hb : j < lv.length) (hs : pm_st1 lv j (.int x) = lv1) (hm : pm_msk E.2.2.2.2.2.2.2.2 (pc + 2) lv1 = lv') : evL X pc lv (.int x :: st) im rm = evL X (pc + 2) lv' st (im) (rm) := evL_1 hE hd (by simp [pm_step, pm_len, pm_step2, pm_go, hb, hs]) hm
theorem ev_istore_n {j : Fin 4} {x : Int32} (hE : pm_mt k = some E) (hd : decode E.2.1 pc = .ok (.istore_n j, 1)) (hb : (j : Nat) < lv.length) (hs : pm_st1 lv (j : Nat) (.int x) = lv1) (hm : pm_msk E.2.2.2.2.2.2.2.2 (pc + 1) lv1 = lv') : ev k pc lv (.int x :: st) im rm = ev k (pc + 1) lv' st (im) (rm) := ev_1 hE hd (by simp [pm_step, pm_len, pm_step2, pm_go, hb, hs]) hm
theorem evL_istore_n {j : Fin 4} {x : Int32} (hE : pm_mt 0 = some E) (hd : decode E.2.1 pc = .ok (.istore_n j, 1)) (hb : (j : Nat) < lv.length) (hs : pm_st1 lv (j : Nat) (.int x) = lv1) (hm : pm_msk E.2.2.2.2.2.2.2.2 (pc + 1) lv1 = lv') : evL X pc lv (.int x :: st) im rm = evL X (pc + 1) lv' st (im) (rm) := evL_1 hE hd (by simp [pm_step, pm_len, pm_step2, pm_go, hb, hs]) hm
theorem ev_astore {j : Nat} {x : Nat} (hE : pm_mt k = some E) (hd : decode E.2.1 pc = .ok (.astore j, 2)) (hb : j < lv.length) (hs : pm_st1 lv j (.ref x) = lv1) (hm : pm_msk E.2.2.2.2.2.2.2.2 (pc + 2) lv1 = lv') : ev k pc lv (.ref x :: st) im rm = ev k (pc + 2) lv' st (im) (rm) := ev_1 hE hd (by simp [pm_step, pm_len, pm_step2, pm_go, hb, hs]) hm
theorem evL_astore {j : Nat} {x : Nat} (hE : pm_mt 0 = some E) (hd : decode E.2.1 pc = .ok (.astore j, 2)) (hb : j < lv.length) (hs : pm_st1 lv j (.ref x) = lv1) (hm : pm_msk E.2.2.2.2.2.2.2.2 (pc + 2) lv1 = lv') : evL X pc lv (.ref x :: st) im rm = evL X (pc + 2) lv' st (im) (rm) := evL_1 hE hd (by simp [pm_step, pm_len, pm_step2, pm_go, hb, hs]) hm
theorem ev_astore_n {j : Fin 4} {x : Nat} (hE : pm_mt k = some E) (hd : decode E.2.1 pc = .ok (.astore_n j, 1)) (hb : (j : Nat) < lv.length) (hs : pm_st1 lv (j : Nat) (.ref x) = lv1) (hm : pm_msk E.2.2.2.2.2.2.2.2 (pc + 1) lv1 = lv') : ev k pc lv (.ref x :: st) im rm = ev k (pc + 1) lv' st (im) (rm) := ev_1 hE hd (by simp [pm_step, pm_len, pm_step2, pm_go, hb, hs]) hm
theorem evL_astore_n {j : Fin 4} {x : Nat} (hE : pm_mt 0 = some E) (hd : decode E.2.1 pc = .ok (.astore_n j, 1)) (hb : (j : Nat) < lv.length) (hs : pm_st1 lv (j : Nat) (.ref x) = lv1) (hm : pm_msk E.2.2.2.2.2.2.2.2 (pc + 1) lv1 = lv') : evL X pc lv (.ref x :: st) im rm = evL X (pc + 1) lv' st (im) (rm) := evL_1 hE hd (by simp [pm_step, pm_len, pm_step2, pm_go, hb, hs]) hm
theorem ev_lstore {j : Nat} {x : Int64} (hE : pm_mt k = some E) (hd : decode E.2.1 pc = .ok (.lstore j, 2)) (hb : j + 1 < lv.length) (hs : pm_st2 lv j (.long x) = lv1) (hm : pm_msk E.2.2.2.2.2.2.2.2 (pc + 2) lv1 = lv') : ev k pc lv (.long x :: st) im rm = ev k (pc + 2) lv' st (im) (rm) := ev_1 hE hd (by simp [pm_step, pm_len, pm_step2, pm_go, hb, hs]) hm
theorem evL_lstore {j : Nat} {x : Int64} (hE : pm_mt 0 = some E) (hd : decode E.2.1 pc = .ok (.lstore j, 2)) (hb : j + 1 < lv.length) (hs : pm_st2 lv j (.long x) = lv1) (hm : pm_msk E.2.2.2.2.2.2.2.2 (pc + 2) lv1 = lv') : evL X pc lv (.long x :: st) im rm = evL X (pc + 2) lv' st (im) (rm) := evL_1 hE hd (by simp [pm_step, pm_len, pm_step2, pm_go, hb, hs]) hm
theorem ev_lstore_n {j : Fin 4} {x : Int64} (hE : pm_mt k = some E) (hd : decode E.2.1 pc = .ok (.lstore_n j, 1)) (hb : (j : Nat) + 1 < lv.length) (hs : pm_st2 lv (j : Nat) (.long x) = lv1) (hm : pm_msk E.2.2.2.2.2.2.2.2 (pc + 1) lv1 = lv') : ev k pc lv (.long x :: st) im rm = ev k (pc + 1) lv' st (im) (rm) := ev_1 hE hd (by simp [pm_step, pm_len, pm_step2, pm_go, hb, hs]) hm
theorem evL_lstore_n {j : Fin 4} {x : Int64} (hE : pm_mt 0 = some E) (hd : decode E.2.1 pc = .ok (.lstore_n j, 1)) (hb : (j : Nat) + 1 < lv.length) (hs : pm_st2 lv (j : Nat) (.long x) = lv1) (hm : pm_msk E.2.2.2.2.2.2.2.2 (pc + 1) lv1 = lv') : evL X pc lv (.long x :: st) im rm = evL X (pc + 1) lv' st (im) (rm) := evL_1 hE hd (by simp [pm_step, pm_len, pm_step2, pm_go, hb, hs]) hm
theorem ev_iinc {j : Nat} {z : Int} {x w : Int32} (hE : pm_mt k = some E) (hd : decode E.2.1 pc = .ok (.iinc j z, 3)) (hx : lv[j]? = some (.int x)) (hw : Int32.ofInt z = w) (hs : pm_st1 lv j (.int (x + w)) = lv1) (hm : pm_msk E.2.2.2.2.2.2.2.2 (pc + 3) lv1 = lv') : ev k pc lv st im rm = ev k (pc + 3) lv' st (im) (rm) := ev_1 hE hd (by subst hw; simp [pm_step, pm_len, pm_step2, pm_go, hx, hs]) hm
theorem evL_iinc {j : Nat} {z : Int} {x w : Int32} (hE : pm_mt 0 = some E) (hd : decode E.2.1 pc = .ok (.iinc j z, 3)) (hx : lv[j]? = some (.int x)) (hw : Int32.ofInt z = w) (hs : pm_st1 lv j (.int (x + w)) = lv1) (hm : pm_msk E.2.2.2.2.2.2.2.2 (pc + 3) lv1 = lv') : evL X pc lv st im rm = evL X (pc + 3) lv' st (im) (rm) := evL_1 hE hd (by subst hw; simp [pm_step, pm_len, pm_step2, pm_go, hx, hs]) hm
theorem ev_iadd {x y : Int32} (hE : pm_mt k = some E) (hd : decode E.2.1 pc = .ok (.iadd, 1))  (hm : pm_msk E.2.2.2.2.2.2.2.2 (pc + 1) lv = lv') : ev k pc lv (.int y :: .int x :: st) im rm = ev k (pc + 1) lv' (.int (x + y) :: st) (im) (rm) := ev_1 hE hd (by simp [pm_step, pm_len, pm_step2, pm_go]) hm
theorem evL_iadd {x y : Int32} (hE : pm_mt 0 = some E) (hd : decode E.2.1 pc = .ok (.iadd, 1))  (hm : pm_msk E.2.2.2.2.2.2.2.2 (pc + 1) lv = lv') : evL X pc lv (.int y :: .int x :: st) im rm = evL X (pc + 1) lv' (.int (x + y) :: st) (im) (rm) := evL_1 hE hd (by simp [pm_step, pm_len, pm_step2, pm_go]) hm
theorem ev_isub {x y : Int32} (hE : pm_mt k = some E) (hd : decode E.2.1 pc = .ok (.isub, 1))  (hm : pm_msk E.2.2.2.2.2.2.2.2 (pc + 1) lv = lv') : ev k pc lv (.int y :: .int x :: st) im rm = ev k (pc + 1) lv' (.int (x - y) :: st) (im) (rm) := ev_1 hE hd (by simp [pm_step, pm_len, pm_step2, pm_go]) hm
theorem evL_isub {x y : Int32} (hE : pm_mt 0 = some E) (hd : decode E.2.1 pc = .ok (.isub, 1))  (hm : pm_msk E.2.2.2.2.2.2.2.2 (pc + 1) lv = lv') : evL X pc lv (.int y :: .int x :: st) im rm = evL X (pc + 1) lv' (.int (x - y) :: st) (im) (rm) := evL_1 hE hd (by simp [pm_step, pm_len, pm_step2, pm_go]) hm
theorem ev_imul {x y : Int32} (hE : pm_mt k = some E) (hd : decode E.2.1 pc = .ok (.imul, 1))  (hm : pm_msk E.2.2.2.2.2.2.2.2 (pc + 1) lv = lv') : ev k pc lv (.int y :: .int x :: st) im rm = ev k (pc + 1) lv' (.int (x * y) :: st) (im) (rm) := ev_1 hE hd (by simp [pm_step, pm_len, pm_step2, pm_go]) hm
theorem evL_imul {x y : Int32} (hE : pm_mt 0 = some E) (hd : decode E.2.1 pc = .ok (.imul, 1))  (hm : pm_msk E.2.2.2.2.2.2.2.2 (pc + 1) lv = lv') : evL X pc lv (.int y :: .int x :: st) im rm = evL X (pc + 1) lv' (.int (x * y) :: st) (im) (rm) := evL_1 hE hd (by simp [pm_step, pm_len, pm_step2, pm_go]) hm
theorem ev_iand {x y : Int32} (hE : pm_mt k = some E) (hd : decode E.2.1 pc = .ok (.iand, 1))  (hm : pm_msk E.2.2.2.2.2.2.2.2 (pc + 1) lv = lv') : ev k pc lv (.int y :: .int x :: st) im rm = ev k (pc + 1) lv' (.int (x &&& y) :: st) (im) (rm) := ev_1 hE hd (by simp [pm_step, pm_len, pm_step2, pm_go]) hm
theorem evL_iand {x y : Int32} (hE : pm_mt 0 = some E) (hd : decode E.2.1 pc = .ok (.iand, 1))  (hm : pm_msk E.2.2.2.2.2.2.2.2 (pc + 1) lv = lv') : evL X pc lv (.int y :: .int x :: st) im rm = evL X (pc + 1) lv' (.int (x &&& y) :: st) (im) (rm) := evL_1 hE hd (by simp [pm_step, pm_len, pm_step2, pm_go]) hm
theorem ev_ior {x y : Int32} (hE : pm_mt k = some E) (hd : decode E.2.1 pc = .ok (.ior, 1))  (hm : pm_msk E.2.2.2.2.2.2.2.2 (pc + 1) lv = lv') : ev k pc lv (.int y :: .int x :: st) im rm = ev k (pc + 1) lv' (.int (x ||| y) :: st) (im) (rm) := ev_1 hE hd (by simp [pm_step, pm_len, pm_step2, pm_go]) hm
theorem evL_ior {x y : Int32} (hE : pm_mt 0 = some E) (hd : decode E.2.1 pc = .ok (.ior, 1))  (hm : pm_msk E.2.2.2.2.2.2.2.2 (pc + 1) lv = lv') : evL X pc lv (.int y :: .int x :: st) im rm = evL X (pc + 1) lv' (.int (x ||| y) :: st) (im) (rm) := evL_1 hE hd (by simp [pm_step, pm_len, pm_step2, pm_go]) hm
theorem ev_ishl {x y : Int32} (hE : pm_mt k = some E) (hd : decode E.2.1 pc = .ok (.ishl, 1))  (hm : pm_msk E.2.2.2.2.2.2.2.2 (pc + 1) lv = lv') : ev k pc lv (.int y :: .int x :: st) im rm = ev k (pc + 1) lv' (.int (x <<< (y &&& 31)) :: st) (im) (rm) := ev_1 hE hd (by simp [pm_step, pm_len, pm_step2, pm_go]) hm
theorem evL_ishl {x y : Int32} (hE : pm_mt 0 = some E) (hd : decode E.2.1 pc = .ok (.ishl, 1))  (hm : pm_msk E.2.2.2.2.2.2.2.2 (pc + 1) lv = lv') : evL X pc lv (.int y :: .int x :: st) im rm = evL X (pc + 1) lv' (.int (x <<< (y &&& 31)) :: st) (im) (rm) := evL_1 hE hd (by simp [pm_step, pm_len, pm_step2, pm_go]) hm
theorem ev_ishr {x y : Int32} (hE : pm_mt k = some E) (hd : decode E.2.1 pc = .ok (.ishr, 1))  (hm : pm_msk E.2.2.2.2.2.2.2.2 (pc + 1) lv = lv') : ev k pc lv (.int y :: .int x :: st) im rm = ev k (pc + 1) lv' (.int (x >>> (y &&& 31)) :: st) (im) (rm) := ev_1 hE hd (by simp [pm_step, pm_len, pm_step2, pm_go]) hm
theorem evL_ishr {x y : Int32} (hE : pm_mt 0 = some E) (hd : decode E.2.1 pc = .ok (.ishr, 1))  (hm : pm_msk E.2.2.2.2.2.2.2.2 (pc + 1) lv = lv') : evL X pc lv (.int y :: .int x :: st) im rm = evL X (pc + 1) lv' (.int (x >>> (y &&& 31)) :: st) (im) (rm) := evL_1 hE hd (by simp [pm_step, pm_len, pm_step2, pm_go]) hm
theorem ev_ladd {x y : Int64} (hE : pm_mt k = some E) (hd : decode E.2.1 pc = .ok (.ladd, 1))  (hm : pm_msk E.2.2.2.2.2.2.2.2 (pc + 1) lv = lv') : ev k pc lv (.long y :: .long x :: st) im rm = ev k (pc + 1) lv' (.long (x + y) :: st) (im) (rm) := ev_1 hE hd (by simp [pm_step, pm_len, pm_step2, pm_go]) hm
theorem evL_ladd {x y : Int64} (hE : pm_mt 0 = some E) (hd : decode E.2.1 pc = .ok (.ladd, 1))  (hm : pm_msk E.2.2.2.2.2.2.2.2 (pc + 1) lv = lv') : evL X pc lv (.long y :: .long x :: st) im rm = evL X (pc + 1) lv' (.long (x + y) :: st) (im) (rm) := evL_1 hE hd (by simp [pm_step, pm_len, pm_step2, pm_go]) hm
theorem ev_lsub {x y : Int64} (hE : pm_mt k = some E) (hd : decode E.2.1 pc = .ok (.lsub, 1))  (hm : pm_msk E.2.2.2.2.2.2.2.2 (pc + 1) lv = lv') : ev k pc lv (.long y :: .long x :: st) im rm = ev k (pc + 1) lv' (.long (x - y) :: st) (im) (rm) := ev_1 hE hd (by simp [pm_step, pm_len, pm_step2, pm_go]) hm
theorem evL_lsub {x y : Int64} (hE : pm_mt 0 = some E) (hd : decode E.2.1 pc = .ok (.lsub, 1))  (hm : pm_msk E.2.2.2.2.2.2.2.2 (pc + 1) lv = lv') : evL X pc lv (.long y :: .long x :: st) im rm = evL X (pc + 1) lv' (.long (x - y) :: st) (im) (rm) := evL_1 hE hd (by simp [pm_step, pm_len, pm_step2, pm_go]) hm
theorem ev_lmul {x y : Int64} (hE : pm_mt k = some E) (hd : decode E.2.1 pc = .ok (.lmul, 1))  (hm : pm_msk E.2.2.2.2.2.2.2.2 (pc + 1) lv = lv') : ev k pc lv (.long y :: .long x :: st) im rm = ev k (pc + 1) lv' (.long (x * y) :: st) (im) (rm) := ev_1 hE hd (by simp [pm_step, pm_len, pm_step2, pm_go]) hm
theorem evL_lmul {x y : Int64} (hE : pm_mt 0 = some E) (hd : decode E.2.1 pc = .ok (.lmul, 1))  (hm : pm_msk E.2.2.2.2.2.2.2.2 (pc + 1) lv = lv') : evL X pc lv (.long y :: .long x :: st) im rm = evL X (pc + 1) lv' (.long (x * y) :: st) (im) (rm) := evL_1 hE hd (by simp [pm_step, pm_len, pm_step2, pm_go]) hm
theorem ev_land {x y : Int64} (hE : pm_mt k = some E) (hd : decode E.2.1 pc = .ok (.land, 1))  (hm : pm_msk E.2.2.2.2.2.2.2.2 (pc + 1) lv = lv') : ev k pc lv (.long y :: .long x :: st) im rm = ev k (pc + 1) lv' (.long (x &&& y) :: st) (im) (rm) := ev_1 hE hd (by simp [pm_step, pm_len, pm_step2, pm_go]) hm
theorem evL_land {x y : Int64} (hE : pm_mt 0 = some E) (hd : decode E.2.1 pc = .ok (.land, 1))  (hm : pm_msk E.2.2.2.2.2.2.2.2 (pc + 1) lv = lv') : evL X pc lv (.long y :: .long x :: st) im rm = evL X (pc + 1) lv' (.long (x &&& y) :: st) (im) (rm) := evL_1 hE hd (by simp [pm_step, pm_len, pm_step2, pm_go]) hm
theorem ev_lor {x y : Int64} (hE : pm_mt k = some E) (hd : decode E.2.1 pc = .ok (.lor, 1))  (hm : pm_msk E.2.2.2.2.2.2.2.2 (pc + 1) lv = lv') : ev k pc lv (.long y :: .long x :: st) im rm = ev k (pc + 1) lv' (.long (x ||| y) :: st) (im) (rm) := ev_1 hE hd (by simp [pm_step, pm_len, pm_step2, pm_go]) hm
theorem evL_lor {x y : Int64} (hE : pm_mt 0 = some E) (hd : decode E.2.1 pc = .ok (.lor, 1))  (hm : pm_msk E.2.2.2.2.2.2.2.2 (pc + 1) lv = lv') : evL X pc lv (.long y :: .long x :: st) im rm = evL X (pc + 1) lv' (.long (x ||| y) :: st) (im) (rm) := evL_1 hE hd (by simp [pm_step, pm_len, pm_step2, pm_go]) hm
theorem ev_lshl {x : Int64} {y : Int32} (hE : pm_mt k = some E) (hd : decode E.2.1 pc = .ok (.lshl, 1))  (hm : pm_msk E.2.2.2.2.2.2.2.2 (pc + 1) lv = lv') : ev k pc lv (.int y :: .long x :: st) im rm = ev k (pc + 1) lv' (.long (x <<< (y.toInt64 &&& 63)) :: st) (im) (rm) := ev_1 hE hd (by simp [pm_step, pm_len, pm_step2, pm_go]) hm
theorem evL_lshl {x : Int64} {y : Int32} (hE : pm_mt 0 = some E) (hd : decode E.2.1 pc = .ok (.lshl, 1))  (hm : pm_msk E.2.2.2.2.2.2.2.2 (pc + 1) lv = lv') : evL X pc lv (.int y :: .long x :: st) im rm = evL X (pc + 1) lv' (.long (x <<< (y.toInt64 &&& 63)) :: st) (im) (rm) := evL_1 hE hd (by simp [pm_step, pm_len, pm_step2, pm_go]) hm
theorem ev_lshr {x : Int64} {y : Int32} (hE : pm_mt k = some E) (hd : decode E.2.1 pc = .ok (.lshr, 1))  (hm : pm_msk E.2.2.2.2.2.2.2.2 (pc + 1) lv = lv') : ev k pc lv (.int y :: .long x :: st) im rm = ev k (pc + 1) lv' (.long (x >>> (y.toInt64 &&& 63)) :: st) (im) (rm) := ev_1 hE hd (by simp [pm_step, pm_len, pm_step2, pm_go]) hm
theorem evL_lshr {x : Int64} {y : Int32} (hE : pm_mt 0 = some E) (hd : decode E.2.1 pc = .ok (.lshr, 1))  (hm : pm_msk E.2.2.2.2.2.2.2.2 (pc + 1) lv = lv') : evL X pc lv (.int y :: .long x :: st) im rm = evL X (pc + 1) lv' (.long (x >>> (y.toInt64 &&& 63)) :: st) (im) (rm) := evL_1 hE hd (by simp [pm_step, pm_len, pm_step2, pm_go]) hm
theorem ev_lcmp {x y : Int64} (hE : pm_mt k = some E) (hd : decode E.2.1 pc = .ok (.lcmp, 1))  (hm : pm_msk E.2.2.2.2.2.2.2.2 (pc + 1) lv = lv') : ev k pc lv (.long y :: .long x :: st) im rm = ev k (pc + 1) lv' (.int (lg_cmp x y) :: st) (im) (rm) := ev_1 hE hd (by simp [pm_step, pm_len, pm_step2, pm_go]) hm
theorem evL_lcmp {x y : Int64} (hE : pm_mt 0 = some E) (hd : decode E.2.1 pc = .ok (.lcmp, 1))  (hm : pm_msk E.2.2.2.2.2.2.2.2 (pc + 1) lv = lv') : evL X pc lv (.long y :: .long x :: st) im rm = evL X (pc + 1) lv' (.int (lg_cmp x y) :: st) (im) (rm) := evL_1 hE hd (by simp [pm_step, pm_len, pm_step2, pm_go]) hm
theorem ev_ineg {x : Int32} (hE : pm_mt k = some E) (hd : decode E.2.1 pc = .ok (.ineg, 1))  (hm : pm_msk E.2.2.2.2.2.2.2.2 (pc + 1) lv = lv') : ev k pc lv (.int x :: st) im rm = ev k (pc + 1) lv' (.int (-x) :: st) (im) (rm) := ev_1 hE hd (by simp [pm_step, pm_len, pm_step2, pm_go]) hm
theorem evL_ineg {x : Int32} (hE : pm_mt 0 = some E) (hd : decode E.2.1 pc = .ok (.ineg, 1))  (hm : pm_msk E.2.2.2.2.2.2.2.2 (pc + 1) lv = lv') : evL X pc lv (.int x :: st) im rm = evL X (pc + 1) lv' (.int (-x) :: st) (im) (rm) := evL_1 hE hd (by simp [pm_step, pm_len, pm_step2, pm_go]) hm
theorem ev_i2l {x : Int32} (hE : pm_mt k = some E) (hd : decode E.2.1 pc = .ok (.i2l, 1))  (hm : pm_msk E.2.2.2.2.2.2.2.2 (pc + 1) lv = lv') : ev k pc lv (.int x :: st) im rm = ev k (pc + 1) lv' (.long x.toInt64 :: st) (im) (rm) := ev_1 hE hd (by simp [pm_step, pm_len, pm_step2, pm_go]) hm
theorem evL_i2l {x : Int32} (hE : pm_mt 0 = some E) (hd : decode E.2.1 pc = .ok (.i2l, 1))  (hm : pm_msk E.2.2.2.2.2.2.2.2 (pc + 1) lv = lv') : evL X pc lv (.int x :: st) im rm = evL X (pc + 1) lv' (.long x.toInt64 :: st) (im) (rm) := evL_1 hE hd (by simp [pm_step, pm_len, pm_step2, pm_go]) hm
theorem ev_l2i {x : Int64} (hE : pm_mt k = some E) (hd : decode E.2.1 pc = .ok (.l2i, 1))  (hm : pm_msk E.2.2.2.2.2.2.2.2 (pc + 1) lv = lv') : ev k pc lv (.long x :: st) im rm = ev k (pc + 1) lv' (.int x.toInt32 :: st) (im) (rm) := ev_1 hE hd (by simp [pm_step, pm_len, pm_step2, pm_go]) hm
theorem evL_l2i {x : Int64} (hE : pm_mt 0 = some E) (hd : decode E.2.1 pc = .ok (.l2i, 1))  (hm : pm_msk E.2.2.2.2.2.2.2.2 (pc + 1) lv = lv') : evL X pc lv (.long x :: st) im rm = evL X (pc + 1) lv' (.int x.toInt32 :: st) (im) (rm) := evL_1 hE hd (by simp [pm_step, pm_len, pm_step2, pm_go]) hm
theorem ev_i2c {x : Int32} (hE : pm_mt k = some E) (hd : decode E.2.1 pc = .ok (.i2c, 1))  (hm : pm_msk E.2.2.2.2.2.2.2.2 (pc + 1) lv = lv') : ev k pc lv (.int x :: st) im rm = ev k (pc + 1) lv' (.int (x.toUInt32 % 65536).toInt32 :: st) (im) (rm) := ev_1 hE hd (by simp [pm_step, pm_len, pm_step2, pm_go]) hm
theorem evL_i2c {x : Int32} (hE : pm_mt 0 = some E) (hd : decode E.2.1 pc = .ok (.i2c, 1))  (hm : pm_msk E.2.2.2.2.2.2.2.2 (pc + 1) lv = lv') : evL X pc lv (.int x :: st) im rm = evL X (pc + 1) lv' (.int (x.toUInt32 % 65536).toInt32 :: st) (im) (rm) := evL_1 hE hd (by simp [pm_step, pm_len, pm_step2, pm_go]) hm
theorem ev_idiv {x y : Int32} (hE : pm_mt k = some E) (hd : decode E.2.1 pc = .ok (.idiv, 1)) (h0 : ¬ y = 0) (hm : pm_msk E.2.2.2.2.2.2.2.2 (pc + 1) lv = lv') : ev k pc lv (.int y :: .int x :: st) im rm = ev k (pc + 1) lv' (.int (x / y) :: st) (im) (rm) := ev_1 hE hd (by simp [pm_step, pm_len, pm_step2, pm_go, h0]) hm
theorem evL_idiv {x y : Int32} (hE : pm_mt 0 = some E) (hd : decode E.2.1 pc = .ok (.idiv, 1)) (h0 : ¬ y = 0) (hm : pm_msk E.2.2.2.2.2.2.2.2 (pc + 1) lv = lv') : evL X pc lv (.int y :: .int x :: st) im rm = evL X (pc + 1) lv' (.int (x / y) :: st) (im) (rm) := evL_1 hE hd (by simp [pm_step, pm_len, pm_step2, pm_go, h0]) hm
theorem ev_irem {x y : Int32} (hE : pm_mt k = some E) (hd : decode E.2.1 pc = .ok (.irem, 1)) (h0 : ¬ y = 0) (hm : pm_msk E.2.2.2.2.2.2.2.2 (pc + 1) lv = lv') : ev k pc lv (.int y :: .int x :: st) im rm = ev k (pc + 1) lv' (.int (x - x / y * y) :: st) (im) (rm) := ev_1 hE hd (by simp [pm_step, pm_len, pm_step2, pm_go, h0]) hm
theorem evL_irem {x y : Int32} (hE : pm_mt 0 = some E) (hd : decode E.2.1 pc = .ok (.irem, 1)) (h0 : ¬ y = 0) (hm : pm_msk E.2.2.2.2.2.2.2.2 (pc + 1) lv = lv') : evL X pc lv (.int y :: .int x :: st) im rm = evL X (pc + 1) lv' (.int (x - x / y * y) :: st) (im) (rm) := evL_1 hE hd (by simp [pm_step, pm_len, pm_step2, pm_go, h0]) hm
theorem ev_ldiv {x y : Int64} (hE : pm_mt k = some E) (hd : decode E.2.1 pc = .ok (.ldiv, 1)) (h0 : ¬ y = 0) (hm : pm_msk E.2.2.2.2.2.2.2.2 (pc + 1) lv = lv') : ev k pc lv (.long y :: .long x :: st) im rm = ev k (pc + 1) lv' (.long (x / y) :: st) (im) (rm) := ev_1 hE hd (by simp [pm_step, pm_len, pm_step2, pm_go, h0]) hm
theorem evL_ldiv {x y : Int64} (hE : pm_mt 0 = some E) (hd : decode E.2.1 pc = .ok (.ldiv, 1)) (h0 : ¬ y = 0) (hm : pm_msk E.2.2.2.2.2.2.2.2 (pc + 1) lv = lv') : evL X pc lv (.long y :: .long x :: st) im rm = evL X (pc + 1) lv' (.long (x / y) :: st) (im) (rm) := evL_1 hE hd (by simp [pm_step, pm_len, pm_step2, pm_go, h0]) hm
theorem ev_dupI {x : Int32} (hE : pm_mt k = some E) (hd : decode E.2.1 pc = .ok (.dup, 1))  (hm : pm_msk E.2.2.2.2.2.2.2.2 (pc + 1) lv = lv') : ev k pc lv (.int x :: st) im rm = ev k (pc + 1) lv' (.int x :: .int x :: st) (im) (rm) := ev_1 hE hd (by simp [pm_step, pm_len, pm_step2, pm_go]) hm
theorem evL_dupI {x : Int32} (hE : pm_mt 0 = some E) (hd : decode E.2.1 pc = .ok (.dup, 1))  (hm : pm_msk E.2.2.2.2.2.2.2.2 (pc + 1) lv = lv') : evL X pc lv (.int x :: st) im rm = evL X (pc + 1) lv' (.int x :: .int x :: st) (im) (rm) := evL_1 hE hd (by simp [pm_step, pm_len, pm_step2, pm_go]) hm
theorem ev_dupA {x : Nat} (hE : pm_mt k = some E) (hd : decode E.2.1 pc = .ok (.dup, 1))  (hm : pm_msk E.2.2.2.2.2.2.2.2 (pc + 1) lv = lv') : ev k pc lv (.ref x :: st) im rm = ev k (pc + 1) lv' (.ref x :: .ref x :: st) (im) (rm) := ev_1 hE hd (by simp [pm_step, pm_len, pm_step2, pm_go]) hm
theorem evL_dupA {x : Nat} (hE : pm_mt 0 = some E) (hd : decode E.2.1 pc = .ok (.dup, 1))  (hm : pm_msk E.2.2.2.2.2.2.2.2 (pc + 1) lv = lv') : evL X pc lv (.ref x :: st) im rm = evL X (pc + 1) lv' (.ref x :: .ref x :: st) (im) (rm) := evL_1 hE hd (by simp [pm_step, pm_len, pm_step2, pm_go]) hm
theorem ev_dup2 {y : Int32} {x : Nat} (hE : pm_mt k = some E) (hd : decode E.2.1 pc = .ok (.dup2, 1))  (hm : pm_msk E.2.2.2.2.2.2.2.2 (pc + 1) lv = lv') : ev k pc lv (.int y :: .ref x :: st) im rm = ev k (pc + 1) lv' (.int y :: .ref x :: .int y :: .ref x :: st) (im) (rm) := ev_1 hE hd (by simp [pm_step, pm_len, pm_step2, pm_go]) hm
theorem evL_dup2 {y : Int32} {x : Nat} (hE : pm_mt 0 = some E) (hd : decode E.2.1 pc = .ok (.dup2, 1))  (hm : pm_msk E.2.2.2.2.2.2.2.2 (pc + 1) lv = lv') : evL X pc lv (.int y :: .ref x :: st) im rm = evL X (pc + 1) lv' (.int y :: .ref x :: .int y :: .ref x :: st) (im) (rm) := evL_1 hE hd (by simp [pm_step, pm_len, pm_step2, pm_go]) hm
theorem ev_pop {x : Int32} (hE : pm_mt k = some E) (hd : decode E.2.1 pc = .ok (.pop, 1))  (hm : pm_msk E.2.2.2.2.2.2.2.2 (pc + 1) lv = lv') : ev k pc lv (.int x :: st) im rm = ev k (pc + 1) lv' st (im) (rm) := ev_1 hE hd (by simp [pm_step, pm_len, pm_step2, pm_go]) hm
theorem evL_pop {x : Int32} (hE : pm_mt 0 = some E) (hd : decode E.2.1 pc = .ok (.pop, 1))  (hm : pm_msk E.2.2.2.2.2.2.2.2 (pc + 1) lv = lv') : evL X pc lv (.int x :: st) im rm = evL X (pc + 1) lv' st (im) (rm) := evL_1 hE hd (by simp [pm_step, pm_len, pm_step2, pm_go]) hm
theorem ev_goto {off : Int} {t : Nat} (hE : pm_mt k = some E) (hd : decode E.2.1 pc = .ok (.goto off, 3)) (ht : pm_tgt pc off = some t) (hm : pm_msk E.2.2.2.2.2.2.2.2 (t) lv = lv') : ev k pc lv st im rm = ev k (t) lv' st (im) (rm) := ev_1 hE hd (by simp [pm_step, pm_len, pm_step2, pm_go, ht]) hm
theorem evL_goto {off : Int} {t : Nat} (hE : pm_mt 0 = some E) (hd : decode E.2.1 pc = .ok (.goto off, 3)) (ht : pm_tgt pc off = some t) (hm : pm_msk E.2.2.2.2.2.2.2.2 (t) lv = lv') : evL X pc lv st im rm = evL X (t) lv' st (im) (rm) := evL_1 hE hd (by simp [pm_step, pm_len, pm_step2, pm_go, ht]) hm
theorem ev_if_eq {off : Int} {t : Nat} {x y : Int32} (hE : pm_mt k = some E) (hd : decode E.2.1 pc = .ok (.ifCond .eq off, 3)) (ht : pm_tgt pc off = some t) (h1 : pm_msk E.2.2.2.2.2.2.2.2 t lv = lv1) (h2 : pm_msk E.2.2.2.2.2.2.2.2 (pc + 3) lv = lv2) : ev k pc lv (.int x :: st) im rm = if x = 0 then ev k t lv1 st im rm else ev k (pc + 3) lv2 st im rm := by
  by_cases hc : x = 0
  · rw [if_pos hc]
    exact ev_1 hE hd (by simp [pm_step, pm_len, pm_step2, pm_go, ht, pm_cnd, hc]) h1
  · rw [if_neg hc]
    exact ev_1 hE hd (by simp [pm_step, pm_len, pm_step2, pm_go, ht, pm_cnd, hc]) h2
theorem ev_if_ne {off : Int} {t : Nat} {x y : Int32} (hE : pm_mt k = some E) (hd : decode E.2.1 pc = .ok (.ifCond .ne off, 3)) (ht : pm_tgt pc off = some t) (h1 : pm_msk E.2.2.2.2.2.2.2.2 t lv = lv1) (h2 : pm_msk E.2.2.2.2.2.2.2.2 (pc + 3) lv = lv2) : ev k pc lv (.int x :: st) im rm = if x = 0 then ev k (pc + 3) lv2 st im rm else ev k t lv1 st im rm := by
  by_cases hc : x = 0
  · rw [if_pos hc]
    exact ev_1 hE hd (by simp [pm_step, pm_len, pm_step2, pm_go, ht, pm_cnd, hc]) h2
  · rw [if_neg hc]
    exact ev_1 hE hd (by simp [pm_step, pm_len, pm_step2, pm_go, ht, pm_cnd, hc]) h1
theorem ev_if_lt {off : Int} {t : Nat} {x y : Int32} (hE : pm_mt k = some E) (hd : decode E.2.1 pc = .ok (.ifCond .lt off, 3)) (ht : pm_tgt pc off = some t) (h1 : pm_msk E.2.2.2.2.2.2.2.2 t lv = lv1) (h2 : pm_msk E.2.2.2.2.2.2.2.2 (pc + 3) lv = lv2) : ev k pc lv (.int x :: st) im rm = if x < 0 then ev k t lv1 st im rm else ev k (pc + 3) lv2 st im rm := by
  by_cases hc : x < 0
  · rw [if_pos hc]
    exact ev_1 hE hd (by simp [pm_step, pm_len, pm_step2, pm_go, ht, pm_cnd, hc]) h1
  · rw [if_neg hc]
    exact ev_1 hE hd (by simp [pm_step, pm_len, pm_step2, pm_go, ht, pm_cnd, hc]) h2
theorem ev_if_ge {off : Int} {t : Nat} {x y : Int32} (hE : pm_mt k = some E) (hd : decode E.2.1 pc = .ok (.ifCond .ge off, 3)) (ht : pm_tgt pc off = some t) (h1 : pm_msk E.2.2.2.2.2.2.2.2 t lv = lv1) (h2 : pm_msk E.2.2.2.2.2.2.2.2 (pc + 3) lv = lv2) : ev k pc lv (.int x :: st) im rm = if 0 ≤ x then ev k t lv1 st im rm else ev k (pc + 3) lv2 st im rm := by
  by_cases hc : 0 ≤ x
  · rw [if_pos hc]
    exact ev_1 hE hd (by simp [pm_step, pm_len, pm_step2, pm_go, ht, pm_cnd, hc]) h1
  · rw [if_neg hc]
    exact ev_1 hE hd (by simp [pm_step, pm_len, pm_step2, pm_go, ht, pm_cnd, hc]) h2
theorem ev_if_gt {off : Int} {t : Nat} {x y : Int32} (hE : pm_mt k = some E) (hd : decode E.2.1 pc = .ok (.ifCond .gt off, 3)) (ht : pm_tgt pc off = some t) (h1 : pm_msk E.2.2.2.2.2.2.2.2 t lv = lv1) (h2 : pm_msk E.2.2.2.2.2.2.2.2 (pc + 3) lv = lv2) : ev k pc lv (.int x :: st) im rm = if 0 < x then ev k t lv1 st im rm else ev k (pc + 3) lv2 st im rm := by
  by_cases hc : 0 < x
  · rw [if_pos hc]
    exact ev_1 hE hd (by simp [pm_step, pm_len, pm_step2, pm_go, ht, pm_cnd, hc]) h1
  · rw [if_neg hc]
    exact ev_1 hE hd (by simp [pm_step, pm_len, pm_step2, pm_go, ht, pm_cnd, hc]) h2
theorem ev_if_le {off : Int} {t : Nat} {x y : Int32} (hE : pm_mt k = some E) (hd : decode E.2.1 pc = .ok (.ifCond .le off, 3)) (ht : pm_tgt pc off = some t) (h1 : pm_msk E.2.2.2.2.2.2.2.2 t lv = lv1) (h2 : pm_msk E.2.2.2.2.2.2.2.2 (pc + 3) lv = lv2) : ev k pc lv (.int x :: st) im rm = if x ≤ 0 then ev k t lv1 st im rm else ev k (pc + 3) lv2 st im rm := by
  by_cases hc : x ≤ 0
  · rw [if_pos hc]
    exact ev_1 hE hd (by simp [pm_step, pm_len, pm_step2, pm_go, ht, pm_cnd, hc]) h1
  · rw [if_neg hc]
    exact ev_1 hE hd (by simp [pm_step, pm_len, pm_step2, pm_go, ht, pm_cnd, hc]) h2
theorem ev_icmp_eq {off : Int} {t : Nat} {x y : Int32} (hE : pm_mt k = some E) (hd : decode E.2.1 pc = .ok (.if_icmp .eq off, 3)) (ht : pm_tgt pc off = some t) (h1 : pm_msk E.2.2.2.2.2.2.2.2 t lv = lv1) (h2 : pm_msk E.2.2.2.2.2.2.2.2 (pc + 3) lv = lv2) : ev k pc lv (.int y :: .int x :: st) im rm = if x = y then ev k t lv1 st im rm else ev k (pc + 3) lv2 st im rm := by
  by_cases hc : x = y
  · rw [if_pos hc]
    exact ev_1 hE hd (by simp [pm_step, pm_len, pm_step2, pm_go, ht, pm_cnd, hc]) h1
  · rw [if_neg hc]
    exact ev_1 hE hd (by simp [pm_step, pm_len, pm_step2, pm_go, ht, pm_cnd, hc]) h2
theorem ev_icmp_ne {off : Int} {t : Nat} {x y : Int32} (hE : pm_mt k = some E) (hd : decode E.2.1 pc = .ok (.if_icmp .ne off, 3)) (ht : pm_tgt pc off = some t) (h1 : pm_msk E.2.2.2.2.2.2.2.2 t lv = lv1) (h2 : pm_msk E.2.2.2.2.2.2.2.2 (pc + 3) lv = lv2) : ev k pc lv (.int y :: .int x :: st) im rm = if x = y then ev k (pc + 3) lv2 st im rm else ev k t lv1 st im rm := by
  by_cases hc : x = y
  · rw [if_pos hc]
    exact ev_1 hE hd (by simp [pm_step, pm_len, pm_step2, pm_go, ht, pm_cnd, hc]) h2
  · rw [if_neg hc]
    exact ev_1 hE hd (by simp [pm_step, pm_len, pm_step2, pm_go, ht, pm_cnd, hc]) h1
theorem ev_icmp_lt {off : Int} {t : Nat} {x y : Int32} (hE : pm_mt k = some E) (hd : decode E.2.1 pc = .ok (.if_icmp .lt off, 3)) (ht : pm_tgt pc off = some t) (h1 : pm_msk E.2.2.2.2.2.2.2.2 t lv = lv1) (h2 : pm_msk E.2.2.2.2.2.2.2.2 (pc + 3) lv = lv2) : ev k pc lv (.int y :: .int x :: st) im rm = if x < y then ev k t lv1 st im rm else ev k (pc + 3) lv2 st im rm := by
  by_cases hc : x < y
  · rw [if_pos hc]
    exact ev_1 hE hd (by simp [pm_step, pm_len, pm_step2, pm_go, ht, pm_cnd, hc]) h1
  · rw [if_neg hc]
    exact ev_1 hE hd (by simp [pm_step, pm_len, pm_step2, pm_go, ht, pm_cnd, hc]) h2
theorem ev_icmp_ge {off : Int} {t : Nat} {x y : Int32} (hE : pm_mt k = some E) (hd : decode E.2.1 pc = .ok (.if_icmp .ge off, 3)) (ht : pm_tgt pc off = some t) (h1 : pm_msk E.2.2.2.2.2.2.2.2 t lv = lv1) (h2 : pm_msk E.2.2.2.2.2.2.2.2 (pc + 3) lv = lv2) : ev k pc lv (.int y :: .int x :: st) im rm = if y ≤ x then ev k t lv1 st im rm else ev k (pc + 3) lv2 st im rm := by
  by_cases hc : y ≤ x
  · rw [if_pos hc]
    exact ev_1 hE hd (by simp [pm_step, pm_len, pm_step2, pm_go, ht, pm_cnd, hc]) h1
  · rw [if_neg hc]
    exact ev_1 hE hd (by simp [pm_step, pm_len, pm_step2, pm_go, ht, pm_cnd, hc]) h2
theorem ev_icmp_gt {off : Int} {t : Nat} {x y : Int32} (hE : pm_mt k = some E) (hd : decode E.2.1 pc = .ok (.if_icmp .gt off, 3)) (ht : pm_tgt pc off = some t) (h1 : pm_msk E.2.2.2.2.2.2.2.2 t lv = lv1) (h2 : pm_msk E.2.2.2.2.2.2.2.2 (pc + 3) lv = lv2) : ev k pc lv (.int y :: .int x :: st) im rm = if y < x then ev k t lv1 st im rm else ev k (pc + 3) lv2 st im rm := by
  by_cases hc : y < x
  · rw [if_pos hc]
    exact ev_1 hE hd (by simp [pm_step, pm_len, pm_step2, pm_go, ht, pm_cnd, hc]) h1
  · rw [if_neg hc]
    exact ev_1 hE hd (by simp [pm_step, pm_len, pm_step2, pm_go, ht, pm_cnd, hc]) h2
theorem ev_icmp_le {off : Int} {t : Nat} {x y : Int32} (hE : pm_mt k = some E) (hd : decode E.2.1 pc = .ok (.if_icmp .le off, 3)) (ht : pm_tgt pc off = some t) (h1 : pm_msk E.2.2.2.2.2.2.2.2 t lv = lv1) (h2 : pm_msk E.2.2.2.2.2.2.2.2 (pc + 3) lv = lv2) : ev k pc lv (.int y :: .int x :: st) im rm = if x ≤ y then ev k t lv1 st im rm else ev k (pc + 3) lv2 st im rm := by
  by_cases hc : x ≤ y
  · rw [if_pos hc]
    exact ev_1 hE hd (by simp [pm_step, pm_len, pm_step2, pm_go, ht, pm_cnd, hc]) h1
  · rw [if_neg hc]
    exact ev_1 hE hd (by simp [pm_step, pm_len, pm_step2, pm_go, ht, pm_cnd, hc]) h2
theorem ev_swI {d lo hi : Int} {offs : Array Int} {len : Nat} {x : Int32} {off : Int} {t : Nat} (hE : pm_mt k = some E) (hd : decode E.2.1 pc = .ok (.tableswitch d lo hi offs, len)) (h1 : ¬ (x.toInt < lo ∨ hi < x.toInt)) (ho : offs[(x.toInt - lo).toNat]? = some off) (ht : pm_tgt pc off = some t) (hm : pm_msk E.2.2.2.2.2.2.2.2 t lv = lv') : ev k pc lv (.int x :: st) im rm = ev k t lv' st im rm := ev_1 hE hd (by simp only [pm_step, pm_len, pm_step2, if_true, if_neg h1, ho, ht, pm_go]) hm
theorem ev_swO {d lo hi : Int} {offs : Array Int} {len : Nat} {x : Int32} {t : Nat} (hE : pm_mt k = some E) (hd : decode E.2.1 pc = .ok (.tableswitch d lo hi offs, len)) (h1 : x.toInt < lo ∨ hi < x.toInt) (ht : pm_tgt pc d = some t) (hm : pm_msk E.2.2.2.2.2.2.2.2 t lv = lv') : ev k pc lv (.int x :: st) im rm = ev k t lv' st im rm := ev_1 hE hd (by simp only [pm_step, pm_len, pm_step2, if_true, if_pos h1, ht, pm_go]) hm
theorem evL_if_eq {off : Int} {t : Nat} {x y : Int32} (hE : pm_mt 0 = some E) (hd : decode E.2.1 pc = .ok (.ifCond .eq off, 3)) (ht : pm_tgt pc off = some t) (h1 : pm_msk E.2.2.2.2.2.2.2.2 t lv = lv1) (h2 : pm_msk E.2.2.2.2.2.2.2.2 (pc + 3) lv = lv2) : evL X pc lv (.int x :: st) im rm = if x = 0 then evL X t lv1 st im rm else evL X (pc + 3) lv2 st im rm := by
  by_cases hc : x = 0
  · rw [if_pos hc]
    exact evL_1 hE hd (by simp [pm_step, pm_len, pm_step2, pm_go, ht, pm_cnd, hc]) h1
  · rw [if_neg hc]
    exact evL_1 hE hd (by simp [pm_step, pm_len, pm_step2, pm_go, ht, pm_cnd, hc]) h2
theorem evL_if_ne {off : Int} {t : Nat} {x y : Int32} (hE : pm_mt 0 = some E) (hd : decode E.2.1 pc = .ok (.ifCond .ne off, 3)) (ht : pm_tgt pc off = some t) (h1 : pm_msk E.2.2.2.2.2.2.2.2 t lv = lv1) (h2 : pm_msk E.2.2.2.2.2.2.2.2 (pc + 3) lv = lv2) : evL X pc lv (.int x :: st) im rm = if x = 0 then evL X (pc + 3) lv2 st im rm else evL X t lv1 st im rm := by
  by_cases hc : x = 0
  · rw [if_pos hc]
    exact evL_1 hE hd (by simp [pm_step, pm_len, pm_step2, pm_go, ht, pm_cnd, hc]) h2
  · rw [if_neg hc]
    exact evL_1 hE hd (by simp [pm_step, pm_len, pm_step2, pm_go, ht, pm_cnd, hc]) h1
theorem evL_if_lt {off : Int} {t : Nat} {x y : Int32} (hE : pm_mt 0 = some E) (hd : decode E.2.1 pc = .ok (.ifCond .lt off, 3)) (ht : pm_tgt pc off = some t) (h1 : pm_msk E.2.2.2.2.2.2.2.2 t lv = lv1) (h2 : pm_msk E.2.2.2.2.2.2.2.2 (pc + 3) lv = lv2) : evL X pc lv (.int x :: st) im rm = if x < 0 then evL X t lv1 st im rm else evL X (pc + 3) lv2 st im rm := by
  by_cases hc : x < 0
  · rw [if_pos hc]
    exact evL_1 hE hd (by simp [pm_step, pm_len, pm_step2, pm_go, ht, pm_cnd, hc]) h1
  · rw [if_neg hc]
    exact evL_1 hE hd (by simp [pm_step, pm_len, pm_step2, pm_go, ht, pm_cnd, hc]) h2
theorem evL_if_ge {off : Int} {t : Nat} {x y : Int32} (hE : pm_mt 0 = some E) (hd : decode E.2.1 pc = .ok (.ifCond .ge off, 3)) (ht : pm_tgt pc off = some t) (h1 : pm_msk E.2.2.2.2.2.2.2.2 t lv = lv1) (h2 : pm_msk E.2.2.2.2.2.2.2.2 (pc + 3) lv = lv2) : evL X pc lv (.int x :: st) im rm = if 0 ≤ x then evL X t lv1 st im rm else evL X (pc + 3) lv2 st im rm := by
  by_cases hc : 0 ≤ x
  · rw [if_pos hc]
    exact evL_1 hE hd (by simp [pm_step, pm_len, pm_step2, pm_go, ht, pm_cnd, hc]) h1
  · rw [if_neg hc]
    exact evL_1 hE hd (by simp [pm_step, pm_len, pm_step2, pm_go, ht, pm_cnd, hc]) h2
theorem evL_if_gt {off : Int} {t : Nat} {x y : Int32} (hE : pm_mt 0 = some E) (hd : decode E.2.1 pc = .ok (.ifCond .gt off, 3)) (ht : pm_tgt pc off = some t) (h1 : pm_msk E.2.2.2.2.2.2.2.2 t lv = lv1) (h2 : pm_msk E.2.2.2.2.2.2.2.2 (pc + 3) lv = lv2) : evL X pc lv (.int x :: st) im rm = if 0 < x then evL X t lv1 st im rm else evL X (pc + 3) lv2 st im rm := by
  by_cases hc : 0 < x
  · rw [if_pos hc]
    exact evL_1 hE hd (by simp [pm_step, pm_len, pm_step2, pm_go, ht, pm_cnd, hc]) h1
  · rw [if_neg hc]
    exact evL_1 hE hd (by simp [pm_step, pm_len, pm_step2, pm_go, ht, pm_cnd, hc]) h2
theorem evL_if_le {off : Int} {t : Nat} {x y : Int32} (hE : pm_mt 0 = some E) (hd : decode E.2.1 pc = .ok (.ifCond .le off, 3)) (ht : pm_tgt pc off = some t) (h1 : pm_msk E.2.2.2.2.2.2.2.2 t lv = lv1) (h2 : pm_msk E.2.2.2.2.2.2.2.2 (pc + 3) lv = lv2) : evL X pc lv (.int x :: st) im rm = if x ≤ 0 then evL X t lv1 st im rm else evL X (pc + 3) lv2 st im rm := by
  by_cases hc : x ≤ 0
  · rw [if_pos hc]
    exact evL_1 hE hd (by simp [pm_step, pm_len, pm_step2, pm_go, ht, pm_cnd, hc]) h1
  · rw [if_neg hc]
    exact evL_1 hE hd (by simp [pm_step, pm_len, pm_step2, pm_go, ht, pm_cnd, hc]) h2
theorem evL_icmp_eq {off : Int} {t : Nat} {x y : Int32} (hE : pm_mt 0 = some E) (hd : decode E.2.1 pc = .ok (.if_icmp .eq off, 3)) (ht : pm_tgt pc off = some t) (h1 : pm_msk E.2.2.2.2.2.2.2.2 t lv = lv1) (h2 : pm_msk E.2.2.2.2.2.2.2.2 (pc + 3) lv = lv2) : evL X pc lv (.int y :: .int x :: st) im rm = if x = y then evL X t lv1 st im rm else evL X (pc + 3) lv2 st im rm := by
  by_cases hc : x = y
  · rw [if_pos hc]
    exact evL_1 hE hd (by simp [pm_step, pm_len, pm_step2, pm_go, ht, pm_cnd, hc]) h1
  · rw [if_neg hc]
    exact evL_1 hE hd (by simp [pm_step, pm_len, pm_step2, pm_go, ht, pm_cnd, hc]) h2
theorem evL_icmp_ne {off : Int} {t : Nat} {x y : Int32} (hE : pm_mt 0 = some E) (hd : decode E.2.1 pc = .ok (.if_icmp .ne off, 3)) (ht : pm_tgt pc off = some t) (h1 : pm_msk E.2.2.2.2.2.2.2.2 t lv = lv1) (h2 : pm_msk E.2.2.2.2.2.2.2.2 (pc + 3) lv = lv2) : evL X pc lv (.int y :: .int x :: st) im rm = if x = y then evL X (pc + 3) lv2 st im rm else evL X t lv1 st im rm := by
  by_cases hc : x = y
  · rw [if_pos hc]
    exact evL_1 hE hd (by simp [pm_step, pm_len, pm_step2, pm_go, ht, pm_cnd, hc]) h2
  · rw [if_neg hc]
    exact evL_1 hE hd (by simp [pm_step, pm_len, pm_step2, pm_go, ht, pm_cnd, hc]) h1
theorem evL_icmp_lt {off : Int} {t : Nat} {x y : Int32} (hE : pm_mt 0 = some E) (hd : decode E.2.1 pc = .ok (.if_icmp .lt off, 3)) (ht : pm_tgt pc off = some t) (h1 : pm_msk E.2.2.2.2.2.2.2.2 t lv = lv1) (h2 : pm_msk E.2.2.2.2.2.2.2.2 (pc + 3) lv = lv2) : evL X pc lv (.int y :: .int x :: st) im rm = if x < y then evL X t lv1 st im rm else evL X (pc + 3) lv2 st im rm := by
  by_cases hc : x < y
  · rw [if_pos hc]
    exact evL_1 hE hd (by simp [pm_step, pm_len, pm_step2, pm_go, ht, pm_cnd, hc]) h1
  · rw [if_neg hc]
    exact evL_1 hE hd (by simp [pm_step, pm_len, pm_step2, pm_go, ht, pm_cnd, hc]) h2
theorem evL_icmp_ge {off : Int} {t : Nat} {x y : Int32} (hE : pm_mt 0 = some E) (hd : decode E.2.1 pc = .ok (.if_icmp .ge off, 3)) (ht : pm_tgt pc off = some t) (h1 : pm_msk E.2.2.2.2.2.2.2.2 t lv = lv1) (h2 : pm_msk E.2.2.2.2.2.2.2.2 (pc + 3) lv = lv2) : evL X pc lv (.int y :: .int x :: st) im rm = if y ≤ x then evL X t lv1 st im rm else evL X (pc + 3) lv2 st im rm := by
  by_cases hc : y ≤ x
  · rw [if_pos hc]
    exact evL_1 hE hd (by simp [pm_step, pm_len, pm_step2, pm_go, ht, pm_cnd, hc]) h1
  · rw [if_neg hc]
    exact evL_1 hE hd (by simp [pm_step, pm_len, pm_step2, pm_go, ht, pm_cnd, hc]) h2
theorem evL_icmp_gt {off : Int} {t : Nat} {x y : Int32} (hE : pm_mt 0 = some E) (hd : decode E.2.1 pc = .ok (.if_icmp .gt off, 3)) (ht : pm_tgt pc off = some t) (h1 : pm_msk E.2.2.2.2.2.2.2.2 t lv = lv1) (h2 : pm_msk E.2.2.2.2.2.2.2.2 (pc + 3) lv = lv2) : evL X pc lv (.int y :: .int x :: st) im rm = if y < x then evL X t lv1 st im rm else evL X (pc + 3) lv2 st im rm := by
  by_cases hc : y < x
  · rw [if_pos hc]
    exact evL_1 hE hd (by simp [pm_step, pm_len, pm_step2, pm_go, ht, pm_cnd, hc]) h1
  · rw [if_neg hc]
    exact evL_1 hE hd (by simp [pm_step, pm_len, pm_step2, pm_go, ht, pm_cnd, hc]) h2
theorem evL_icmp_le {off : Int} {t : Nat} {x y : Int32} (hE : pm_mt 0 = some E) (hd : decode E.2.1 pc = .ok (.if_icmp .le off, 3)) (ht : pm_tgt pc off = some t) (h1 : pm_msk E.2.2.2.2.2.2.2.2 t lv = lv1) (h2 : pm_msk E.2.2.2.2.2.2.2.2 (pc + 3) lv = lv2) : evL X pc lv (.int y :: .int x :: st) im rm = if x ≤ y then evL X t lv1 st im rm else evL X (pc + 3) lv2 st im rm := by
  by_cases hc : x ≤ y
  · rw [if_pos hc]
    exact evL_1 hE hd (by simp [pm_step, pm_len, pm_step2, pm_go, ht, pm_cnd, hc]) h1
  · rw [if_neg hc]
    exact evL_1 hE hd (by simp [pm_step, pm_len, pm_step2, pm_go, ht, pm_cnd, hc]) h2
theorem evL_swI {d lo hi : Int} {offs : Array Int} {len : Nat} {x : Int32} {off : Int} {t : Nat} (hE : pm_mt 0 = some E) (hd : decode E.2.1 pc = .ok (.tableswitch d lo hi offs, len)) (h1 : ¬ (x.toInt < lo ∨ hi < x.toInt)) (ho : offs[(x.toInt - lo).toNat]? = some off) (ht : pm_tgt pc off = some t) (hm : pm_msk E.2.2.2.2.2.2.2.2 t lv = lv') : evL X pc lv (.int x :: st) im rm = evL X t lv' st im rm := evL_1 hE hd (by simp only [pm_step, pm_len, pm_step2, if_true, if_neg h1, ho, ht, pm_go]) hm
theorem evL_swO {d lo hi : Int} {offs : Array Int} {len : Nat} {x : Int32} {t : Nat} (hE : pm_mt 0 = some E) (hd : decode E.2.1 pc = .ok (.tableswitch d lo hi offs, len)) (h1 : x.toInt < lo ∨ hi < x.toInt) (ht : pm_tgt pc d = some t) (hm : pm_msk E.2.2.2.2.2.2.2.2 t lv = lv') : evL X pc lv (.int x :: st) im rm = evL X t lv' st im rm := evL_1 hE hd (by simp only [pm_step, pm_len, pm_step2, if_true, if_pos h1, ht, pm_go]) hm
theorem ev_ldc {idx : Nat} {v : Int32} (hE : pm_mt k = some E) (hd : decode E.2.1 pc = .ok (.ldc idx, 2)) (hv : pm_ci E.2.2.2.2.1 idx = some v) (hm : pm_msk E.2.2.2.2.2.2.2.2 (pc + 2) lv = lv') : ev k pc lv st im rm = ev k (pc + 2) lv' (.int v :: st) (im) (rm) := ev_1 hE hd (by simp [pm_step, pm_len, pm_step2, pm_step3, pm_go, hv]) hm
theorem evL_ldc {idx : Nat} {v : Int32} (hE : pm_mt 0 = some E) (hd : decode E.2.1 pc = .ok (.ldc idx, 2)) (hv : pm_ci E.2.2.2.2.1 idx = some v) (hm : pm_msk E.2.2.2.2.2.2.2.2 (pc + 2) lv = lv') : evL X pc lv st im rm = evL X (pc + 2) lv' (.int v :: st) (im) (rm) := evL_1 hE hd (by simp [pm_step, pm_len, pm_step2, pm_step3, pm_go, hv]) hm
theorem ev_ldcw {idx : Nat} {v : Int32} (hE : pm_mt k = some E) (hd : decode E.2.1 pc = .ok (.ldc_w idx, 3)) (hv : pm_ci E.2.2.2.2.1 idx = some v) (hm : pm_msk E.2.2.2.2.2.2.2.2 (pc + 3) lv = lv') : ev k pc lv st im rm = ev k (pc + 3) lv' (.int v :: st) (im) (rm) := ev_1 hE hd (by simp [pm_step, pm_len, pm_step2, pm_step3, pm_go, hv]) hm
theorem evL_ldcw {idx : Nat} {v : Int32} (hE : pm_mt 0 = some E) (hd : decode E.2.1 pc = .ok (.ldc_w idx, 3)) (hv : pm_ci E.2.2.2.2.1 idx = some v) (hm : pm_msk E.2.2.2.2.2.2.2.2 (pc + 3) lv = lv') : evL X pc lv st im rm = evL X (pc + 3) lv' (.int v :: st) (im) (rm) := evL_1 hE hd (by simp [pm_step, pm_len, pm_step2, pm_step3, pm_go, hv]) hm
theorem ev_ldc2 {idx : Nat} {v : Int64} (hE : pm_mt k = some E) (hd : decode E.2.1 pc = .ok (.ldc2_w idx, 3)) (hv : pm_clg E.2.2.2.2.1 idx = some v) (hm : pm_msk E.2.2.2.2.2.2.2.2 (pc + 3) lv = lv') : ev k pc lv st im rm = ev k (pc + 3) lv' (.long v :: st) (im) (rm) := ev_1 hE hd (by simp [pm_step, pm_len, pm_step2, pm_step3, pm_go, hv]) hm
theorem evL_ldc2 {idx : Nat} {v : Int64} (hE : pm_mt 0 = some E) (hd : decode E.2.1 pc = .ok (.ldc2_w idx, 3)) (hv : pm_clg E.2.2.2.2.1 idx = some v) (hm : pm_msk E.2.2.2.2.2.2.2.2 (pc + 3) lv = lv') : evL X pc lv st im rm = evL X (pc + 3) lv' (.long v :: st) (im) (rm) := evL_1 hE hd (by simp [pm_step, pm_len, pm_step2, pm_step3, pm_go, hv]) hm
theorem ev_ldcS {idx j : Nat} (hE : pm_mt k = some E) (hd : decode E.2.1 pc = .ok (.ldc idx, 2)) (hv : pm_ci E.2.2.2.2.1 idx = none) (hj : pm_sl E.2.2.2.2.1 idx = some j) (hm : pm_msk E.2.2.2.2.2.2.2.2 (pc + 2) lv = lv') : ev k pc lv st im rm = ev k (pc + 2) lv' (.ref (1000000 + j) :: st) (im) (rm) := ev_1 hE hd (by simp [pm_step, pm_len, pm_step2, pm_step3, pm_go, hv, hj]) hm
theorem evL_ldcS {idx j : Nat} (hE : pm_mt 0 = some E) (hd : decode E.2.1 pc = .ok (.ldc idx, 2)) (hv : pm_ci E.2.2.2.2.1 idx = none) (hj : pm_sl E.2.2.2.2.1 idx = some j) (hm : pm_msk E.2.2.2.2.2.2.2.2 (pc + 2) lv = lv') : evL X pc lv st im rm = evL X (pc + 2) lv' (.ref (1000000 + j) :: st) (im) (rm) := evL_1 hE hd (by simp [pm_step, pm_len, pm_step2, pm_step3, pm_go, hv, hj]) hm
theorem ev_gets {idx : Nat} {v : Value} (hE : pm_mt k = some E) (hd : decode E.2.1 pc = .ok (.getstatic idx, 3)) (hv : pm_gets E.2.2.2.2.1 idx = some v) (hm : pm_msk E.2.2.2.2.2.2.2.2 (pc + 3) lv = lv') : ev k pc lv st im rm = ev k (pc + 3) lv' (v :: st) (im) (rm) := ev_1 hE hd (by simp [pm_step, pm_len, pm_step2, pm_step3, pm_go, hv]) hm
theorem evL_gets {idx : Nat} {v : Value} (hE : pm_mt 0 = some E) (hd : decode E.2.1 pc = .ok (.getstatic idx, 3)) (hv : pm_gets E.2.2.2.2.1 idx = some v) (hm : pm_msk E.2.2.2.2.2.2.2.2 (pc + 3) lv = lv') : evL X pc lv st im rm = evL X (pc + 3) lv' (v :: st) (im) (rm) := evL_1 hE hd (by simp [pm_step, pm_len, pm_step2, pm_step3, pm_go, hv]) hm
theorem ev_getI {idx ci q a : Nat} (hE : pm_mt k = some E) (hd : decode E.2.1 pc = .ok (.getfield idx, 3)) (hf : pm_fld E.2.2.2.2.1 idx = some (ci, q)) (hr : pm_isR ci q = false) (hk : kd a = 10 + ci) (hm : pm_msk E.2.2.2.2.2.2.2.2 (pc + 3) lv = lv') : ev k pc lv (.ref a :: st) im rm = ev k (pc + 3) lv' (.int (im a q) :: st) (im) (rm) := ev_1 hE hd (by simp [pm_step, pm_len, pm_step2, pm_step3, pm_go, pm_getf, hf, hr, show (pm_MB.2.1 a).1 = 10 + ci from hk, MM]) hm
theorem evL_getI {idx ci q a : Nat} (hE : pm_mt 0 = some E) (hd : decode E.2.1 pc = .ok (.getfield idx, 3)) (hf : pm_fld E.2.2.2.2.1 idx = some (ci, q)) (hr : pm_isR ci q = false) (hk : kd a = 10 + ci) (hm : pm_msk E.2.2.2.2.2.2.2.2 (pc + 3) lv = lv') : evL X pc lv (.ref a :: st) im rm = evL X (pc + 3) lv' (.int (im a q) :: st) (im) (rm) := evL_1 hE hd (by simp [pm_step, pm_len, pm_step2, pm_step3, pm_go, pm_getf, hf, hr, show (pm_MB.2.1 a).1 = 10 + ci from hk, MM]) hm
theorem ev_getR {idx ci q a : Nat} (hE : pm_mt k = some E) (hd : decode E.2.1 pc = .ok (.getfield idx, 3)) (hf : pm_fld E.2.2.2.2.1 idx = some (ci, q)) (hr : pm_isR ci q = true) (hk : kd a = 10 + ci) (hm : pm_msk E.2.2.2.2.2.2.2.2 (pc + 3) lv = lv') : ev k pc lv (.ref a :: st) im rm = ev k (pc + 3) lv' (pm_ro (rm a q) :: st) (im) (rm) := ev_1 hE hd (by simp [pm_step, pm_len, pm_step2, pm_step3, pm_go, pm_getf, hf, hr, show (pm_MB.2.1 a).1 = 10 + ci from hk, MM]) hm
theorem evL_getR {idx ci q a : Nat} (hE : pm_mt 0 = some E) (hd : decode E.2.1 pc = .ok (.getfield idx, 3)) (hf : pm_fld E.2.2.2.2.1 idx = some (ci, q)) (hr : pm_isR ci q = true) (hk : kd a = 10 + ci) (hm : pm_msk E.2.2.2.2.2.2.2.2 (pc + 3) lv = lv') : evL X pc lv (.ref a :: st) im rm = evL X (pc + 3) lv' (pm_ro (rm a q) :: st) (im) (rm) := evL_1 hE hd (by simp [pm_step, pm_len, pm_step2, pm_step3, pm_go, pm_getf, hf, hr, show (pm_MB.2.1 a).1 = 10 + ci from hk, MM]) hm
theorem ev_putI {idx ci q a : Nat} {v : Int32} (hE : pm_mt k = some E) (hd : decode E.2.1 pc = .ok (.putfield idx, 3)) (hf : pm_fld E.2.2.2.2.1 idx = some (ci, q)) (hr : pm_isR ci q = false) (hy : pm_may E ci q = true) (hk : kd a = 10 + ci) (hm : pm_msk E.2.2.2.2.2.2.2.2 (pc + 3) lv = lv') : ev k pc lv (.int v :: .ref a :: st) im rm = ev k (pc + 3) lv' st (pm_w2 im a q v) (rm) := ev_1 hE hd (by simp [pm_step, pm_len, pm_step2, pm_step3, pm_go, pm_putf, hf, hr, hy, show (pm_MB.2.1 a).1 = 10 + ci from hk, MM, pm_setI]) hm
theorem evL_putI {idx ci q a : Nat} {v : Int32} (hE : pm_mt 0 = some E) (hd : decode E.2.1 pc = .ok (.putfield idx, 3)) (hf : pm_fld E.2.2.2.2.1 idx = some (ci, q)) (hr : pm_isR ci q = false) (hy : pm_may E ci q = true) (hk : kd a = 10 + ci) (hm : pm_msk E.2.2.2.2.2.2.2.2 (pc + 3) lv = lv') : evL X pc lv (.int v :: .ref a :: st) im rm = evL X (pc + 3) lv' st (pm_w2 im a q v) (rm) := evL_1 hE hd (by simp [pm_step, pm_len, pm_step2, pm_step3, pm_go, pm_putf, hf, hr, hy, show (pm_MB.2.1 a).1 = 10 + ci from hk, MM, pm_setI]) hm
theorem ev_putR {idx ci q a b : Nat} (hE : pm_mt k = some E) (hd : decode E.2.1 pc = .ok (.putfield idx, 3)) (hf : pm_fld E.2.2.2.2.1 idx = some (ci, q)) (hr : pm_isR ci q = true) (hy : pm_may E ci q = true) (hk : kd a = 10 + ci) (hm : pm_msk E.2.2.2.2.2.2.2.2 (pc + 3) lv = lv') : ev k pc lv (.ref b :: .ref a :: st) im rm = ev k (pc + 3) lv' st (im) (pm_w2 rm a q (some b)) := ev_1 hE hd (by simp [pm_step, pm_len, pm_step2, pm_step3, pm_go, pm_putf, hf, hr, hy, show (pm_MB.2.1 a).1 = 10 + ci from hk, MM, pm_setR]) hm
theorem evL_putR {idx ci q a b : Nat} (hE : pm_mt 0 = some E) (hd : decode E.2.1 pc = .ok (.putfield idx, 3)) (hf : pm_fld E.2.2.2.2.1 idx = some (ci, q)) (hr : pm_isR ci q = true) (hy : pm_may E ci q = true) (hk : kd a = 10 + ci) (hm : pm_msk E.2.2.2.2.2.2.2.2 (pc + 3) lv = lv') : evL X pc lv (.ref b :: .ref a :: st) im rm = evL X (pc + 3) lv' st (im) (pm_w2 rm a q (some b)) := evL_1 hE hd (by simp [pm_step, pm_len, pm_step2, pm_step3, pm_go, pm_putf, hf, hr, hy, show (pm_MB.2.1 a).1 = 10 + ci from hk, MM, pm_setR]) hm
theorem ev_iald {a : Nat} {i : Int32} (hE : pm_mt k = some E) (hd : decode E.2.1 pc = .ok (.iaload, 1)) (hk : kd a = 0) (hi : pm_in i (ln a) = true) (hm : pm_msk E.2.2.2.2.2.2.2.2 (pc + 1) lv = lv') : ev k pc lv (.int i :: .ref a :: st) im rm = ev k (pc + 1) lv' (.int (im a i.toNatClampNeg) :: st) (im) (rm) := ev_1 hE hd (by simp [pm_step, pm_len, pm_step2, pm_step3, pm_go, pm_iald, show (pm_MB.2.1 a).1 = 0 from hk, show pm_in i (pm_MB.2.1 a).2 = true from hi, MM]) hm
theorem evL_iald {a : Nat} {i : Int32} (hE : pm_mt 0 = some E) (hd : decode E.2.1 pc = .ok (.iaload, 1)) (hk : kd a = 0) (hi : pm_in i (ln a) = true) (hm : pm_msk E.2.2.2.2.2.2.2.2 (pc + 1) lv = lv') : evL X pc lv (.int i :: .ref a :: st) im rm = evL X (pc + 1) lv' (.int (im a i.toNatClampNeg) :: st) (im) (rm) := evL_1 hE hd (by simp [pm_step, pm_len, pm_step2, pm_step3, pm_go, pm_iald, show (pm_MB.2.1 a).1 = 0 from hk, show pm_in i (pm_MB.2.1 a).2 = true from hi, MM]) hm
theorem ev_iast {a : Nat} {i v : Int32} (hE : pm_mt k = some E) (hd : decode E.2.1 pc = .ok (.iastore, 1)) (hk : kd a = 0) (hi : pm_in i (ln a) = true) (hm : pm_msk E.2.2.2.2.2.2.2.2 (pc + 1) lv = lv') : ev k pc lv (.int v :: .int i :: .ref a :: st) im rm = ev k (pc + 1) lv' st (pm_w2 im a i.toNatClampNeg v) (rm) := ev_1 hE hd (by simp [pm_step, pm_len, pm_step2, pm_step3, pm_go, show (pm_MB.2.1 a).1 = 0 from hk, show pm_in i (pm_MB.2.1 a).2 = true from hi, MM, pm_setI]) hm
theorem evL_iast {a : Nat} {i v : Int32} (hE : pm_mt 0 = some E) (hd : decode E.2.1 pc = .ok (.iastore, 1)) (hk : kd a = 0) (hi : pm_in i (ln a) = true) (hm : pm_msk E.2.2.2.2.2.2.2.2 (pc + 1) lv = lv') : evL X pc lv (.int v :: .int i :: .ref a :: st) im rm = evL X (pc + 1) lv' st (pm_w2 im a i.toNatClampNeg v) (rm) := evL_1 hE hd (by simp [pm_step, pm_len, pm_step2, pm_step3, pm_go, show (pm_MB.2.1 a).1 = 0 from hk, show pm_in i (pm_MB.2.1 a).2 = true from hi, MM, pm_setI]) hm
theorem ev_zald {a : Nat} {i : Int32} (hE : pm_mt k = some E) (hd : decode E.2.1 pc = .ok (.baload, 1)) (hk : kd a = 1) (hi : pm_in i (ln a) = true) (hm : pm_msk E.2.2.2.2.2.2.2.2 (pc + 1) lv = lv') : ev k pc lv (.int i :: .ref a :: st) im rm = ev k (pc + 1) lv' (.int (im a i.toNatClampNeg) :: st) (im) (rm) := ev_1 hE hd (by simp [pm_step, pm_len, pm_step2, pm_step3, pm_go, pm_bald, show (pm_MB.2.1 a).1 = 1 from hk, show pm_in i (pm_MB.2.1 a).2 = true from hi, MM]) hm
theorem evL_zald {a : Nat} {i : Int32} (hE : pm_mt 0 = some E) (hd : decode E.2.1 pc = .ok (.baload, 1)) (hk : kd a = 1) (hi : pm_in i (ln a) = true) (hm : pm_msk E.2.2.2.2.2.2.2.2 (pc + 1) lv = lv') : evL X pc lv (.int i :: .ref a :: st) im rm = evL X (pc + 1) lv' (.int (im a i.toNatClampNeg) :: st) (im) (rm) := evL_1 hE hd (by simp [pm_step, pm_len, pm_step2, pm_step3, pm_go, pm_bald, show (pm_MB.2.1 a).1 = 1 from hk, show pm_in i (pm_MB.2.1 a).2 = true from hi, MM]) hm
theorem ev_zast {a : Nat} {i v : Int32} (hE : pm_mt k = some E) (hd : decode E.2.1 pc = .ok (.bastore, 1)) (hk : kd a = 1) (hi : pm_in i (ln a) = true) (hv : v = 0 ∨ v = 1) (hm : pm_msk E.2.2.2.2.2.2.2.2 (pc + 1) lv = lv') : ev k pc lv (.int v :: .int i :: .ref a :: st) im rm = ev k (pc + 1) lv' st (pm_w2 im a i.toNatClampNeg v) (rm) := ev_1 hE hd (by simp [pm_step, pm_len, pm_step2, pm_step3, pm_go, show (pm_MB.2.1 a).1 = 1 from hk, show pm_in i (pm_MB.2.1 a).2 = true from hi, hv, MM, pm_setI]) hm
theorem evL_zast {a : Nat} {i v : Int32} (hE : pm_mt 0 = some E) (hd : decode E.2.1 pc = .ok (.bastore, 1)) (hk : kd a = 1) (hi : pm_in i (ln a) = true) (hv : v = 0 ∨ v = 1) (hm : pm_msk E.2.2.2.2.2.2.2.2 (pc + 1) lv = lv') : evL X pc lv (.int v :: .int i :: .ref a :: st) im rm = evL X (pc + 1) lv' st (pm_w2 im a i.toNatClampNeg v) (rm) := evL_1 hE hd (by simp [pm_step, pm_len, pm_step2, pm_step3, pm_go, show (pm_MB.2.1 a).1 = 1 from hk, show pm_in i (pm_MB.2.1 a).2 = true from hi, hv, MM, pm_setI]) hm
theorem ev_aald {a : Nat} {i : Int32} (hE : pm_mt k = some E) (hd : decode E.2.1 pc = .ok (.aaload, 1)) (hk : 2 ≤ kd a ∧ kd a ≤ 5) (hi : pm_in i (ln a) = true) (hm : pm_msk E.2.2.2.2.2.2.2.2 (pc + 1) lv = lv') : ev k pc lv (.int i :: .ref a :: st) im rm = ev k (pc + 1) lv' (pm_ro (rm a i.toNatClampNeg) :: st) (im) (rm) := ev_1 hE hd (by simp [pm_step, pm_len, pm_step2, pm_step3, pm_go, show 2 ≤ (pm_MB.2.1 a).1 from hk.1, show (pm_MB.2.1 a).1 ≤ 5 from hk.2, show pm_in i (pm_MB.2.1 a).2 = true from hi, MM]) hm
theorem evL_aald {a : Nat} {i : Int32} (hE : pm_mt 0 = some E) (hd : decode E.2.1 pc = .ok (.aaload, 1)) (hk : 2 ≤ kd a ∧ kd a ≤ 5) (hi : pm_in i (ln a) = true) (hm : pm_msk E.2.2.2.2.2.2.2.2 (pc + 1) lv = lv') : evL X pc lv (.int i :: .ref a :: st) im rm = evL X (pc + 1) lv' (pm_ro (rm a i.toNatClampNeg) :: st) (im) (rm) := evL_1 hE hd (by simp [pm_step, pm_len, pm_step2, pm_step3, pm_go, show 2 ≤ (pm_MB.2.1 a).1 from hk.1, show (pm_MB.2.1 a).1 ≤ 5 from hk.2, show pm_in i (pm_MB.2.1 a).2 = true from hi, MM]) hm
theorem ev_aast {a b : Nat} {i : Int32} (hE : pm_mt k = some E) (hd : decode E.2.1 pc = .ok (.aastore, 1)) (hk : 2 ≤ kd a ∧ kd a ≤ 4) (hi : pm_in i (ln a) = true) (hb : kd b = 10 + pm_comp (kd a)) (hm : pm_msk E.2.2.2.2.2.2.2.2 (pc + 1) lv = lv') : ev k pc lv (.ref b :: .int i :: .ref a :: st) im rm = ev k (pc + 1) lv' st (im) (pm_w2 rm a i.toNatClampNeg (some b)) := ev_1 hE hd (by simp [pm_step, pm_len, pm_step2, pm_step3, pm_go, show 2 ≤ (pm_MB.2.1 a).1 from hk.1, show (pm_MB.2.1 a).1 ≤ 4 from hk.2, show pm_in i (pm_MB.2.1 a).2 = true from hi, show (pm_MB.2.1 b).1 = 10 + pm_comp (pm_MB.2.1 a).1 from hb, MM, pm_setR]) hm
theorem evL_aast {a b : Nat} {i : Int32} (hE : pm_mt 0 = some E) (hd : decode E.2.1 pc = .ok (.aastore, 1)) (hk : 2 ≤ kd a ∧ kd a ≤ 4) (hi : pm_in i (ln a) = true) (hb : kd b = 10 + pm_comp (kd a)) (hm : pm_msk E.2.2.2.2.2.2.2.2 (pc + 1) lv = lv') : evL X pc lv (.ref b :: .int i :: .ref a :: st) im rm = evL X (pc + 1) lv' st (im) (pm_w2 rm a i.toNatClampNeg (some b)) := evL_1 hE hd (by simp [pm_step, pm_len, pm_step2, pm_step3, pm_go, show 2 ≤ (pm_MB.2.1 a).1 from hk.1, show (pm_MB.2.1 a).1 ≤ 4 from hk.2, show pm_in i (pm_MB.2.1 a).2 = true from hi, show (pm_MB.2.1 b).1 = 10 + pm_comp (pm_MB.2.1 a).1 from hb, MM, pm_setR]) hm
theorem ev_alen {a : Nat} (hE : pm_mt k = some E) (hd : decode E.2.1 pc = .ok (.arraylength, 1)) (hk : kd a ≤ 5) (hm : pm_msk E.2.2.2.2.2.2.2.2 (pc + 1) lv = lv') : ev k pc lv (.ref a :: st) im rm = ev k (pc + 1) lv' (.int (nI (ln a)) :: st) (im) (rm) := ev_1 hE hd (by simp [pm_step, pm_len, pm_step2, pm_step3, pm_go, pm_alen, show (pm_MB.2.1 a).1 ≤ 5 from hk, MM, nI, ln]) hm
theorem evL_alen {a : Nat} (hE : pm_mt 0 = some E) (hd : decode E.2.1 pc = .ok (.arraylength, 1)) (hk : kd a ≤ 5) (hm : pm_msk E.2.2.2.2.2.2.2.2 (pc + 1) lv = lv') : evL X pc lv (.ref a :: st) im rm = evL X (pc + 1) lv' (.int (nI (ln a)) :: st) (im) (rm) := evL_1 hE hd (by simp [pm_step, pm_len, pm_step2, pm_step3, pm_go, pm_alen, show (pm_MB.2.1 a).1 ≤ 5 from hk, MM, nI, ln]) hm
theorem evL_sld {i : Int32} (hE : pm_mt 0 = some E) (ho : E.2.2.2.2.1 = 9) (hd : decode E.2.1 pc = .ok (.iaload, 1)) (hk : kd 1000300 = 99) (hi : pm_in i X.1 = true) (hm : pm_msk E.2.2.2.2.2.2.2.2 (pc + 1) lv = lv') : evL X pc lv (.int i :: .ref 1000300 :: st) im rm = evL X (pc + 1) lv' (.int (X.2 i.toNatClampNeg) :: st) im rm := evL_1 hE hd (by simp [pm_step, pm_len, pm_step2, pm_step3, pm_go, pm_iald, ho, show (pm_MB.2.1 1000300).1 = 99 from hk, hi, MM]) hm
theorem evL_slen (hE : pm_mt 0 = some E) (ho : E.2.2.2.2.1 = 9) (hd : decode E.2.1 pc = .ok (.arraylength, 1)) (hk : kd 1000300 = 99) (hm : pm_msk E.2.2.2.2.2.2.2.2 (pc + 1) lv = lv') : evL X pc lv (.ref 1000300 :: st) im rm = evL X (pc + 1) lv' (.int (nI X.1) :: st) im rm := evL_1 hE hd (by simp [pm_step, pm_len, pm_step2, pm_step3, pm_go, pm_alen, ho, show (pm_MB.2.1 1000300).1 = 99 from hk, MM, nI]) hm
theorem ev_tab {i : Int32} {j : Nat} (hE : pm_mt k = some E) (hd : decode E.2.1 pc = .ok (.iaload, 1)) (hj : j < 3) (hk : kd (1000200 + j) = 99) (hi : pm_in i 4 = true) (hm : pm_msk E.2.2.2.2.2.2.2.2 (pc + 1) lv = lv') : ev k pc lv (.int i :: .ref (1000200 + j) :: st) im rm = ev k (pc + 1) lv' (.int ((pm_tabs.getD j []).getD i.toNatClampNeg 0) :: st) im rm := ev_1 hE hd (by
    have h1 : ¬ (1000200 + j = 1000300) := by omega
    have h2 : 1000200 + j < 1000203 := by omega
    simp [pm_step, pm_len, pm_step2, pm_step3, pm_go, pm_iald, show (pm_MB.2.1 (1000200 + j)).1 = 99 from hk, h1, h2, hi, MM]) hm
theorem ev_ireturn {x : Int32} (hE : pm_mt k = some E) (hd : decode E.2.1 pc = .ok (.ireturn, 1)) (hr : E.2.2.2.1 = some .int) : ev k pc lv [.int x] im rm = some (some (.int x), im, rm) := ev_r hE hd (by simp [pm_step, pm_len, pm_step2, pm_step3, hr])
theorem ev_zreturn {x : Int32} (hE : pm_mt k = some E) (hd : decode E.2.1 pc = .ok (.ireturn, 1)) (hr : E.2.2.2.1 = some .boolean) (hx : x = 0 ∨ x = 1) : ev k pc lv [.int x] im rm = some (some (.int x), im, rm) := ev_r hE hd (by simp [pm_step, pm_len, pm_step2, pm_step3, hr, hx])
theorem ev_lreturn {x : Int64} (hE : pm_mt k = some E) (hd : decode E.2.1 pc = .ok (.lreturn, 1)) (hr : E.2.2.2.1 = some .long) : ev k pc lv [.long x] im rm = some (some (.long x), im, rm) := ev_r hE hd (by simp [pm_step, pm_len, pm_step2, pm_step3, hr])
theorem ev_areturn {x : Nat} (hE : pm_mt k = some E) (hd : decode E.2.1 pc = .ok (.areturn, 1)) (hr : E.2.2.2.1 = some (.object "java/lang/String")) : ev k pc lv [.ref x] im rm = some (some (.ref x), im, rm) := ev_r hE hd (by simp [pm_step, pm_len, pm_step2, pm_step3, hr])
theorem ev_return (hE : pm_mt k = some E) (hd : decode E.2.1 pc = .ok (.return_, 1)) (hr : E.2.2.2.1 = none) : ev k pc lv [] im rm = some (none, im, rm) := ev_r hE hd (by simp [pm_step, pm_len, pm_step2, pm_step3, hr])
theorem evL_zreturn {x : Int32} (hE : pm_mt 0 = some E) (hd : decode E.2.1 pc = .ok (.ireturn, 1)) (hr : E.2.2.2.1 = some .boolean) (hx : x = 0 ∨ x = 1) (hc : 1102 ≤ E.2.2.2.2.2.2.1 ∧ 25068 ≤ E.2.2.2.2.2.2.2.1) : evL X pc lv [.int x] im rm = some (some (.int x), im, rm) := evL_r hE hd (by simp [pm_step, pm_len, pm_step2, pm_step3, hr, hx]) hc
theorem ev_callS {idx k' n : Nat} {E' : pm_E} {as rest lve : List Value} (hE : pm_mt k = some E) (hd : decode E.2.1 pc = .ok (.invokestatic idx, 3)) (hq : ¬ (E.2.2.2.2.1 = 7 ∧ idx = 103)) (hl : pm_ml E.2.2.2.2.1 idx = some (k', 1, n)) (hp : pm_pop n st = some (as, rest)) (hE' : pm_mt k' = some E') (hok : pm_ok E E' as rest (0, 0) = true) (h0 : E'.2.2.2.2.2.2.1 = 0 ∧ E'.2.2.2.2.2.2.2.1 = 0) (he : pm_ent as E'.2.2.1 = lve) (hm : pm_msk E.2.2.2.2.2.2.2.2 (pc + 3) lv = lv') :
    ev k pc lv st im rm = (ev k' 0 lve [] im rm).bind (fun r => ev k (pc + 3) lv' (r.1.toList ++ rest) r.2.1 r.2.2) := ev_c hE hd (by simp [pm_step, pm_len, pm_step2, pm_step3, hq, pm_callS, hl, hp]) hE' hok h0 he hm
theorem ev_callV {idx k' n a : Nat} {E' : pm_E} {as rest lve : List Value} (hE : pm_mt k = some E) (hd : decode E.2.1 pc = .ok (.invokevirtual idx, 3)) (hl : pm_ml E.2.2.2.2.1 idx = some (k', 0, n)) (hp : pm_pop (n + 1) st = some (.ref a :: as, rest)) (hE' : pm_mt k' = some E') (h9 : E'.2.2.2.2.1 < 9) (hk : kd a = 10 + E'.2.2.2.2.1) (hok : pm_ok E E' (.ref a :: as) rest (0, 0) = true) (h0 : E'.2.2.2.2.2.2.1 = 0 ∧ E'.2.2.2.2.2.2.2.1 = 0) (he : pm_ent (.ref a :: as) E'.2.2.1 = lve) (hm : pm_msk E.2.2.2.2.2.2.2.2 (pc + 3) lv = lv') :
    ev k pc lv st im rm = (ev k' 0 lve [] im rm).bind (fun r => ev k (pc + 3) lv' (r.1.toList ++ rest) r.2.1 r.2.2) := ev_c hE hd (by simp [pm_step, pm_len, pm_step2, pm_step3, pm_callV, hl, hp, pm_recv, hE', h9, show (pm_MB.2.1 a).1 = 10 + E'.2.2.2.2.1 from hk, MM]) hE' hok h0 he hm
theorem ev_callT {idx k' n j : Nat} {E' : pm_E} {as rest lve : List Value} (hE : pm_mt k = some E) (hd : decode E.2.1 pc = .ok (.invokevirtual idx, 3)) (hl : pm_ml E.2.2.2.2.1 idx = some (k', 0, n)) (hp : pm_pop (n + 1) st = some (.ref (1000000 + j) :: as, rest)) (hE' : pm_mt k' = some E') (h9 : E'.2.2.2.2.1 = 11) (hj : j < 18) (hk : kd (1000000 + j) = 99) (hok : pm_ok E E' (.ref (1000000 + j) :: as) rest (0, 0) = true) (h0 : E'.2.2.2.2.2.2.1 = 0 ∧ E'.2.2.2.2.2.2.2.1 = 0) (he : pm_ent (.ref (1000000 + j) :: as) E'.2.2.1 = lve) (hm : pm_msk E.2.2.2.2.2.2.2.2 (pc + 3) lv = lv') :
    ev k pc lv st im rm = (ev k' 0 lve [] im rm).bind (fun r => ev k (pc + 3) lv' (r.1.toList ++ rest) r.2.1 r.2.2) := ev_c hE hd (by
      have h2 : 1000000 + j < 1000018 := by omega
      simp [pm_step, pm_len, pm_step2, pm_step3, pm_callV, hl, hp, pm_recv, hE', h9, show (pm_MB.2.1 (1000000 + j)).1 = 99 from hk, MM, h2]) hE' hok h0 he hm
theorem evL_callV {idx k' n a : Nat} {E' : pm_E} {as rest lve : List Value} (hE : pm_mt 0 = some E) (hd : decode E.2.1 pc = .ok (.invokevirtual idx, 3)) (hl : pm_ml E.2.2.2.2.1 idx = some (k', 0, n)) (hp : pm_pop (n + 1) st = some (.ref a :: as, rest)) (hE' : pm_mt k' = some E') (h9 : E'.2.2.2.2.1 < 9) (hk : kd a = 10 + E'.2.2.2.2.1) (hok : pm_ok E E' (.ref a :: as) rest (1102, 25068) = true) (h0 : E'.2.2.2.2.2.2.1 = 0 ∧ E'.2.2.2.2.2.2.2.1 = 0) (he : pm_ent (.ref a :: as) E'.2.2.1 = lve) (hm : pm_msk E.2.2.2.2.2.2.2.2 (pc + 3) lv = lv') :
    evL X pc lv st im rm = (ev k' 0 lve [] im rm).bind (fun r => evL X (pc + 3) lv' (r.1.toList ++ rest) r.2.1 r.2.2) := evL_c hE hd (by simp [pm_step, pm_len, pm_step2, pm_step3, pm_callV, hl, hp, pm_recv, hE', h9, show (pm_MB.2.1 a).1 = 10 + E'.2.2.2.2.1 from hk, MM]) hE' hok h0 he hm (by omega)
/-- a string constant's fields, its bytes -/
theorem ev_sval {j : Nat} (hE : pm_mt k = some E) (hd : decode E.2.1 pc = .ok (.getfield 9, 3)) (ho : E.2.2.2.2.1 = 11) (hf : pm_fld 11 9 = none) (hj : j < 18) (hk : kd (1000000 + j) = 99) (hm : pm_msk E.2.2.2.2.2.2.2.2 (pc + 3) lv = lv') : ev k pc lv (.ref (1000000 + j) :: st) im rm = ev k (pc + 3) lv' (.ref (1000000 + j + 100) :: st) im rm := ev_1 hE hd (by
      have h2 : 1000000 + j < 1000018 := by omega
      simp [pm_step, pm_len, pm_step2, pm_step3, pm_go, pm_getf, ho, hf, h2, show (pm_MB.2.1 (1000000 + j)).1 = 99 from hk, MM]) hm
theorem ev_scod {j : Nat} (hE : pm_mt k = some E) (hd : decode E.2.1 pc = .ok (.getfield 15, 3)) (ho : E.2.2.2.2.1 = 11) (hf : pm_fld 11 15 = none) (hj : j < 18) (hk : kd (1000000 + j) = 99) (hm : pm_msk E.2.2.2.2.2.2.2.2 (pc + 3) lv = lv') : ev k pc lv (.ref (1000000 + j) :: st) im rm = ev k (pc + 3) lv' (.int 0 :: st) im rm := ev_1 hE hd (by
      have h2 : 1000000 + j < 1000018 := by omega
      simp [pm_step, pm_len, pm_step2, pm_step3, pm_go, pm_getf, ho, hf, h2, show (pm_MB.2.1 (1000000 + j)).1 = 99 from hk, MM]) hm
theorem ev_sbld {j : Nat} {i : Int32} (hE : pm_mt k = some E) (hd : decode E.2.1 pc = .ok (.baload, 1)) (hj : j < 18) (hk : kd (1000000 + j + 100) = 99) (hi : pm_in i (pm_stb j).length = true) (hm : pm_msk E.2.2.2.2.2.2.2.2 (pc + 1) lv = lv') : ev k pc lv (.int i :: .ref (1000000 + j + 100) :: st) im rm = ev k (pc + 1) lv' (.int ((pm_stb j).getD i.toNatClampNeg 0) :: st) im rm := ev_1 hE hd (by
      have h1 : 1000100 ≤ 1000000 + j + 100 := by omega
      have h2 : 1000000 + j + 100 < 1000118 := by omega
      have h3 : 1000000 + j + 100 - 1000100 = j := by omega
      simp [pm_step, pm_len, pm_step2, pm_step3, pm_go, pm_bald, h1, h2, h3, hi, show (pm_MB.2.1 (1000000 + j + 100)).1 = 99 from hk, MM]) hm
theorem ev_sblen {j : Nat} (hE : pm_mt k = some E) (hd : decode E.2.1 pc = .ok (.arraylength, 1)) (hj : j < 18) (hk : kd (1000000 + j + 100) = 99) (hm : pm_msk E.2.2.2.2.2.2.2.2 (pc + 1) lv = lv') : ev k pc lv (.ref (1000000 + j + 100) :: st) im rm = ev k (pc + 1) lv' (.int (nI (pm_stb j).length) :: st) im rm := ev_1 hE hd (by
      have h0 : ¬ (1000000 + j + 100 = 1000300) := by omega
      have h1 : 1000100 ≤ 1000000 + j + 100 := by omega
      have h2 : 1000000 + j + 100 < 1000118 := by omega
      have h3 : 1000000 + j + 100 - 1000100 = j := by omega
      simp [pm_step, pm_len, pm_step2, pm_step3, pm_go, pm_alen, h0, h1, h2, h3, show (pm_MB.2.1 (1000000 + j + 100)).1 = 99 from hk, MM, nI]) hm
theorem ev_creturn {x : Int32} (hE : pm_mt k = some E) (hd : decode E.2.1 pc = .ok (.ireturn, 1)) (hr : E.2.2.2.1 = some .char) (hx : 0 ≤ x ∧ x ≤ 255) : ev k pc lv [.int x] im rm = some (some (.int x), im, rm) := ev_r hE hd (by simp [pm_step, pm_len, pm_step2, pm_step3, hr, hx])
theorem ev_breturn (hE : pm_mt k = some E) (hd : decode E.2.1 pc = .ok (.ireturn, 1)) (hr : E.2.2.2.1 = some .byte) : ev k pc lv [.int 0] im rm = some (some (.int 0), im, rm) := ev_r hE hd (by simp [pm_step, pm_len, pm_step2, pm_step3, hr])
end EQ
