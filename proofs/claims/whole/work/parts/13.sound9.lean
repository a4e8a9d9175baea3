/-! The pure machine is sound, 9: calls; a run of the pure machine is a run of the machine. -/
theorem pm_flat_sl {Z : Value} {adr : Nat → Nat} (hZ : Z.category = 1) : ∀ as : List Value, (lg_sl (as.map (pm_rv Z adr))).length = (pm_flat as).length
  | [] => rfl
  | v :: vs => by
    have ih := pm_flat_sl (adr := adr) hZ vs
    have hc := pm_rv_cat (adr := adr) hZ v
    have e : lg_sl ((v :: vs).map (pm_rv Z adr)) = (if (pm_rv Z adr v).category = 2 then [.val (pm_rv Z adr v), .second] else [.val (pm_rv Z adr v)]) ++ lg_sl (vs.map (pm_rv Z adr)) := rfl
    rw [e, hc, List.length_append, ih]
    cases v <;> simp [Value.category, pm_flat] <;> omega
theorem pm_flat_al {Z : Value} {adr : Nat → Nat} (hZ : Z.category = 1) : ∀ (as : List Value) (i n : Nat), ∀ q ∈ pm_al Z adr i (pm_flat as ++ List.replicate n pm_u), q ∈ lv_args i (as.map (pm_rv Z adr))
  | [], i, n => by
    intro q hq
    exfalso
    obtain ⟨j, w⟩ := q
    obtain ⟨k, v, -, h2, h3, -⟩ := (pm_al_mem _ i j w).mp hq
    simp only [pm_flat, List.nil_append] at h2
    have := List.mem_of_getElem? h2
    exact h3 (List.eq_of_mem_replicate this)
  | v :: vs, i, n => by
    intro q hq
    have hc := pm_rv_cat (adr := adr) hZ v
    have e : lv_args i ((v :: vs).map (pm_rv Z adr)) = (i, pm_rv Z adr v) :: lv_args (if (pm_rv Z adr v).category = 2 then i + 2 else i + 1) (vs.map (pm_rv Z adr)) := rfl
    rw [e, hc]
    have ih1 := pm_flat_al (adr := adr) hZ vs (i + 1) n q
    have ih2 := pm_flat_al (adr := adr) hZ vs (i + 2) n q
    by_cases h2 : v.category = 2
    · rw [if_pos h2]
      have e2 : pm_flat (v :: vs) = v :: pm_u :: pm_flat vs := by cases v <;> simp [Value.category] at h2 <;> rfl
      rw [e2] at hq
      simp only [List.cons_append, pm_al, if_true] at hq
      split at hq
      · exact List.mem_cons_of_mem _ (ih2 hq)
      · rcases List.mem_cons.mp hq with h | h
        · rw [h]; exact List.mem_cons_self
        · exact List.mem_cons_of_mem _ (ih2 h)
    · rw [if_neg h2]
      have e2 : pm_flat (v :: vs) = v :: pm_flat vs := by cases v <;> simp [Value.category] at h2 <;> rfl
      rw [e2] at hq
      simp only [List.cons_append, pm_al] at hq
      split at hq
      · exact List.mem_cons_of_mem _ (ih1 hq)
      · rcases List.mem_cons.mp hq with h | h
        · rw [h]; exact List.mem_cons_self
        · exact List.mem_cons_of_mem _ (ih1 h)
theorem pm_pop_eq {n : Nat} {st as rest : List Value} (h : pm_pop n st = some (as, rest)) : st = as.reverse ++ rest ∧ as.length = n := by
  unfold pm_pop at h
  split at h
  · rename_i hn
    cases h
    exact ⟨by simp, by simp [hn]⟩
  · cases h
/-- what a method leaves: its answer, its memory; nothing below base changed -/
def pm_Q (base : Nat) (Z : Value) (adr : Nat → Nat) (D : va_G) (cA : Nat → ClassId) (v : Option Value) (M : pm_M) : Array Value → State → Outcome → State → Prop := fun _ st oc t => oc = .returned (v.map (pm_rv Z adr)) ∧ pm_H base adr D cA M t.heap ∧ va_F (fun q => base ≤ q) st t
def pm_B (base : Nat) (Z : Value) (adr : Nat → Nat) (D : va_G) (cA : Nat → ClassId) (X : Nat × (Nat → Int32)) (M : pm_M) : State → Prop := fun U => pm_Wd base Z adr D cA X U ∧ pm_Wx U ∧ pm_H base adr D cA M U.heap
def pm_rm (E : pm_E) : Room := { frames := E.2.2.2.2.2.1, cells := E.2.2.2.2.2.2.1, slots := E.2.2.2.2.2.2.2.1, locals := 32 * E.2.2.2.2.2.1 }
def pm_wl (E : pm_E) : List Cond := Cond.code E.1 E.2.1 E.2.2.1 E.2.2.2.1 :: pm_tb
/-- the contract of a method at a call of the pure machine -/
def pm_Met (l : Launch) (base : Nat) (Z : Value) (adr : Nat → Nat) (D : va_G) (cA : Nat → ClassId) (X : Nat × (Nat → Int32)) (E : pm_E) (as : List Value) (M : pm_M) (v : Option Value) (M' : pm_M) : Prop :=
  Met l E.1 (pm_wl E) (pm_rm E) (va_Pc (as.map (pm_rv Z adr)) (pm_B base Z adr D cA X M)) (pm_Q base Z adr D cA v M') E.2.2.2.2.2.2.1 E.2.2.2.2.2.2.2.1 (fun q => base ≤ q)
theorem pm_mls_1' : ∀ x ∈ pm_mls, pm_mlw x ∈ lw_tbl ∧ (x.2.2.1 = 3 ∨ goodWord (pm_mlw x) = true) := by
  have key : ∀ (l : List ((Nat × Nat) × (Nat × Nat × Nat))) (ps : List Nat), (l.zip ps).all (fun q => decide (lw_tbl[q.2]? = some (pm_mlw q.1)) && (goodWord (pm_mlw q.1) || decide (q.1.2.2.1 = 3))) = true → l.length ≤ ps.length → ∀ x ∈ l, pm_mlw x ∈ lw_tbl ∧ (x.2.2.1 = 3 ∨ goodWord (pm_mlw x) = true) := by
    intro l
    induction l with
    | nil => intro _ _ _ x hx; exact absurd hx List.not_mem_nil
    | cons a l ih =>
      intro ps h hl x hx
      cases ps with
      | nil => simp at hl
      | cons p ps =>
        simp only [List.zip_cons_cons, List.all_cons, Bool.and_eq_true, decide_eq_true_eq, Bool.or_eq_true] at h
        rcases List.mem_cons.mp hx with rfl | hx
        · exact ⟨List.mem_of_getElem? h.1.1, h.1.2.symm⟩
        · exact ih ps h.2 (by simpa using hl) x hx
  exact key _ _ pm_mls_1 (by decide +kernel)
set_option maxRecDepth 100000 in
theorem pm_mls_5 : pm_mls.all (fun q => match pm_mt q.2.1 with
  | some E => decide (q.2.2.1 ≠ 3 ∨ (pm_R q.1.1 = RX7 ∧ (q.1.2, E.1) ∈ pm_nest))
  | none => false) = true := by decide +kernel
/-- what a call of the tables gives -/
theorem pm_ml_ok {own idx k kd n : Nat} {E' : pm_E} (h : pm_ml own idx = some (k, kd, n)) (hE : pm_mt k = some E') : k ≠ 0 ∧ (parseMethodDescriptor E'.1.desc).map (fun d => d.parameters.length) = some n ∧ (kd < 2 ∨ (E'.1.name = "<init>" ∧ E'.2.2.2.1 = none)) ∧
    (kd = 3 → pm_R own = RX7 ∧ (idx, E'.1) ∈ pm_nest) ∧ (kd ≠ 3 → Cond.methodLink (pm_R own) idx E'.1 ∈ pm_tb) ∧ (kd = 1 → Cond.static E'.1 ∈ pm_tb) ∧ (kd ≠ 1 → Cond.instanceMethod E'.1 ∈ pm_tb) ∧ (kd = 0 → Cond.selects E'.1.cls E'.1 E'.1 ∈ pm_tb) := by
  have hm := pm_lookup h
  have h4 := List.all_eq_true.mp pm_mls_4 _ hm
  have h5 := List.all_eq_true.mp pm_mls_5 _ hm
  have h1 := pm_mls_1' _ hm
  have h2 := pm_all pm_mls_2 (by decide +kernel) _ hm
  have h3 := pm_all pm_mls_3 (by decide +kernel) _ hm
  unfold pm_mlq at h4
  unfold pm_mlw at h1
  unfold pm_mlw2 at h2
  unfold pm_mlw3 at h3
  simp only [hE] at h1 h2 h3 h4 h5
  simp only [Bool.and_eq_true, decide_eq_true_eq, Bool.or_eq_true] at h4 h5
  obtain ⟨⟨⟨a1, a2⟩, a3⟩, a4⟩ := h4
  refine ⟨a1, a3, a4, fun q => ?_, fun q => ?_, fun q => ?_, fun q => ?_, fun q => ?_⟩
  · rcases h5 with h5 | h5
    · exact absurd q h5
    · exact h5
  · rw [if_neg q] at h1
    rcases h1.2 with z | z
    · exact absurd z q
    · exact pm_tb_of h1.1 z
  · rw [if_pos q] at h2; exact h2
  · rw [if_neg q] at h2; exact h2
  · rw [if_pos q] at h3; exact h3
theorem pm_mt_ok {k : Nat} {E : pm_E} (h : pm_mt k = some E) : pm_mtq E = true ∧ (k ≠ 0 → pm_cdq E ∧ Cond.initialized E.1.cls ∈ pm_tb) := by
  have hm : E ∈ pm_mts := List.mem_of_getElem? h
  refine ⟨List.all_eq_true.mp pm_mtk_3 _ hm, fun hk => ?_⟩
  have hd : E ∈ pm_mts.drop 1 := by
    obtain ⟨j, rfl⟩ : ∃ j, k = j + 1 := ⟨k - 1, by omega⟩
    refine List.mem_of_getElem? (i := j) ?_
    rw [List.getElem?_drop, Nat.add_comm]
    exact h
  exact ⟨pm_cdl E hd, pm_all (w := fun E : pm_E => Cond.initialized E.1.cls) pm_mtk_2 (by decide +kernel) _ hd⟩
section PM9
variable {p : Program} {l : Launch} {e : Env} {R : Room} {s : State} {m : MethodId} {args : Array Value} {below : List Frame} {meth : Method} {c : Code} {Q : State → Prop}
variable {base : Nat} {Z : Value} {adr : Nat → Nat} {D : va_G} {cA : Nat → ClassId} {X : Nat × (Nat → Int32)} {E : pm_E}
/-- behind a call -/
theorem pm_after {H : Heap} {locs : List Loc} {cells slots mc ms pc : Nat} {ls : Array Slot} {st0 rest : List Value} {a : Array Value} {v : Option Value} {M : pm_M} (hr : va_Run p l e R s m args below meth c H locs cells slots mc ms (F0 m pc ls st0) rest (pm_Q base Z adr D cA v M a) (fun q => base ≤ q)) (hS : va_S (fun q => base ≤ q) s.heap H locs)
    (kk : ∀ (H1 : Heap) (locs1 : List Loc), pm_H base adr D cA M H1 → va_S (fun q => base ≤ q) s.heap H1 locs1 → W p l e R s m args below meth c H1 locs1 (cells + mc) (slots + ms) Q (F0 m (pc + 3) ls ((v.map (pm_rv Z adr)).toList ++ rest))) : W p l e R s m args below meth c H locs cells slots Q (F0 m pc ls st0) := by
  intro T hT Xs
  obtain ⟨v', st₀, t, T', L, h0, X', hL, e1, e2, ⟨hv, hp, hz, hk⟩, st⟩ := hr T hT Xs
  cases hv
  rw [h0] at hz hk
  obtain ⟨t2, a1, b1⟩ := kk T'.heap (locs ++ L) (by rw [e1]; exact hp)
    ⟨Nat.le_trans hS.1 (by rw [e1]; exact hz), fun q h1 h2 => by rw [e1, hk q (Nat.lt_of_lt_of_le h1 hS.1) h2]; exact hS.2.1 q h1 h2, fun q hq => by
      rcases List.mem_append.mp hq with h | h
      · exact hS.2.2 q h
      · exact hL q h⟩ T' rfl X'
  exact ⟨t2, st t2 a1, b1⟩
theorem pm_B.blind {as : List Value} {M : pm_M} : FrameBlind (va_Pc as (pm_B base Z adr D cA X M)) := fun a U g mk h => ⟨h.1, h.2.1.calling, h.2.2.1.calling, h.2.2.2⟩
theorem pm_B.at {as : List Value} {M : pm_M} {H : Heap} {locs : List Loc} (hW : pm_Wd base Z adr D cA X s) (hWx : pm_Wx s) (hH : pm_H base adr D cA M H) (hS : va_S (fun q => base ≤ q) s.heap H locs) : ∀ U : State, U.heap = H → s.WarmedH U.vm → va_Pc as (pm_B base Z adr D cA X M) as.toArray U := by
  intro U hU hV
  refine ⟨rfl, hW.moved hV (fun q hq => ?_) (by rw [hU, hH.1]; omega), hWx.moved hV, by rw [hU]; exact hH⟩
  rw [hU]
  exact hS.2.1 q (Nat.lt_of_lt_of_le hq hW.1.1) (Nat.not_le.mpr hq)
end PM9
