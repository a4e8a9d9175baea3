/-! The pure machine is sound, 5: fields written, cells made, constants. -/
def pm_nest : List (Nat × MethodName) := [(29, yX6_init), (54, yX2_init), (61, yX5_init), (70, yX4_init), (75, yX1_init), (82, yX3_init), (102, yX0_init)]
/-- further words that stand outside: nest mates' constructors, arrays over classes, arraycopy -/
def pm_Wx (U : State) : Prop := (∀ q ∈ pm_nest, va_Nw (.methodLinkNest RX7 q.1 q.2 RX7) U) ∧ (∀ ty : FieldType, ty = .object RX0 ∨ ty = .object RX4 ∨ ty = .object RX1 ∨ ty = .array .int → (Cond.arrayOver ty).before #[] U = true)
theorem pm_Wx.moved {U V : State} (h : pm_Wx U) (hW : U.WarmedH V.vm) : pm_Wx V := by
  refine ⟨fun q hq => (h.1 q hq).warmM hW, fun ty hty => ?_⟩
  have h1 := h.2 ty hty
  rw [← Cond.arrayOver_setVmC hW.alike ty] at h1
  exact h1
theorem pm_Wx.calling {U : State} {g : JFrame} {mk : MethodId} {a : Array Value} (h : pm_Wx U) : pm_Wx (U.calling g mk a) := by
  refine ⟨fun q hq => va_Nw.same rfl rfl (h.1 q hq), fun ty hty => ?_⟩
  exact h.2 ty hty
theorem pm_N_len {ci : Nat} {q : vw_C} (h : pm_cls[ci]? = some q) : pm_N ci = q.2.2 := (pm_clsq_at h).1.symm
theorem pm_fits {ci k : Nat} {q : vw_C} (h : pm_cls[ci]? = some q) (hk : k < q.2.2) (hr : pm_isR ci k = true) (b : Nat) : narrow (pm_ty ci k) (.ref b) = .ref b ∧ fits (pm_ty ci k) (.ref b) = true := by
  have h1 := (pm_clsq_at h).2.2.2.2.2.2.2 k hk
  unfold pm_isR at hr
  rcases h1 with h1 | h1
  · rw [h1] at hr; cases hr
  · cases hty : pm_ty ci k <;> rw [hty] at h1 <;> simp_all [FieldType.isReference, narrow, fits]
theorem pm_fitsI {ci k : Nat} {q : vw_C} (h : pm_cls[ci]? = some q) (hk : k < q.2.2) (hr : pm_isR ci k = false) : pm_ty ci k = .int := by
  have h1 := (pm_clsq_at h).2.2.2.2.2.2.2 k hk
  unfold pm_isR at hr
  split at hr
  · assumption
  · cases hr
theorem pm_fin_eq {ci k : Nat} {q : vw_C} (h : pm_cls[ci]? = some q) : pm_fin ci k = (q.2.1 k).2.2.2 := by
  unfold pm_fin
  rw [h]
section PM5
variable {p : Program} {l : Launch} {e : Env} {R : Room} {s : State} {m : MethodId} {args : Array Value} {below : List Frame} {meth : Method} {c : Code} {Q : State → Prop}
variable {base : Nat} {Z : Value} {adr : Nat → Nat} {D : va_G} {cA : Nat → ClassId} {X : Nat × (Nat → Int32)} {E : pm_E}
/-- a field written: the machine's part, final or not -/
theorem pm_putraw {pc idx a ci k : Nat} {rest : List Value} {ls : Array Slot} {H : Heap} {locs : List Loc} {cells slots : Nat} {M : pm_M} {v : Value} {q : vw_C} (hF : pm_F p m c s args E) (hW : pm_Wd base Z adr D cA X s) (hn : E.1.name = "<init>" → meth.name = "<init>") (hd : decode E.2.1 pc = .ok (.putfield idx, 3)) (hH : pm_H base adr D cA M H) (hS : va_S (fun q => base ≤ q) s.heap H locs)
    (hq : pm_cls[ci]? = some q) (hkn : k < q.2.2) (hw : Cond.fieldLink (pm_R E.2.2.2.2.1) idx q.1 (q.2.1 k).2.1 (q.2.1 k).2.2.1 ∈ pm_tb) (hkind : (M.2.1 a).1 = 10 + ci) (hin : a < M.1) (hmay : pm_may E ci k = true) (hR : pm_R E.2.2.2.2.1 = pm_R E.2.2.2.2.1) (hnar : narrow (pm_ty ci k) v = v) (hfit : fits (pm_ty ci k) v = true)
    (kk : ∀ (H1 : Heap) (locs1 : List Loc), va_P D pm_cls ((pm_ws base adr cA M).set a (base + a, .inr (ci, ((List.range (pm_N ci)).map (pm_fv adr M a)).set k v))) H1 → H1.size = H.size → va_S (fun q => base ≤ q) s.heap H1 locs1 → W p l e R s m args below meth c H1 locs1 cells slots Q (F0 m (pc + 3) ls rest)) :
    W p l e R s m args below meth c H locs cells slots Q (F0 m pc ls (v :: .ref (base + a) :: rest)) := by
  obtain ⟨hx, hb, hml, hown, hts⟩ := hF
  obtain ⟨C, T, N⟩ := q
  have hc2 := pm_clsq_at hq
  have hK := hW.1.2.2.2
  have hD := pm_ws_D base adr cA M
  have hap := va_apart (own := pm_R E.2.2.2.2.1) hts (pm_ws_in hq) (pm_ty ci) hc2.2.2.1 hc2.2.2.2.1 hK hq
  have he : (pm_ws base adr cA M)[a]? = some (base + a, .inr (ci, (List.range (pm_N ci)).map (pm_fv adr M a))) := by rw [pm_ws_get hin, pm_cell_obj hkind]
  obtain ⟨r, h1, cell, q1, q2, q3, q4⟩ := hH.2.2.2 a _ he
  have hr : r = (C, T, N) := Option.some.inj (h1.symm.trans hq)
  subst hr
  obtain ⟨hSl, hfc, kC, hkC, hkd⟩ := hK.1 ci _ hq
  obtain ⟨cf, kf, fi, f, hi, hsl⟩ := hSl k hkn
  have hlay := hts _ (pm_ws_in hq _ (u_in_lay hkn))
  have hst := (u_facts hfc hkC (u_lays hts (pm_ws_in hq) hkn) hi).1
  have hTC : (T k).1 = C := hc2.2.2.2.2.1 k hkn
  have hd2 := hc2.2.2.1 k hkn
  have hl : k < ((List.range (pm_N ci)).map (pm_fv adr M a)).length := by rw [List.length_map, List.length_range, pm_N_len hq]; exact hkn
  have hsame : s.fieldFound? C (T k).2.1 (T k).2.2.1 = some (cf, kf, fi, f) := by rw [← hTC]; exact hi
  have fin : ∀ (H' : Heap), H'[base + a]? = some (cell.setSlot f.slot v) → H'.size = H.size → (∀ q, q ≠ base + a → H'[q]? = H[q]?) → W p l e R s m args below meth c H' (locs ++ [⟨base + a, f.slot⟩]) cells slots Q (F0 m (pc + 3) ls rest) := by
    intro H' e1 e2 e3
    rw [hsl] at e1
    refine kk H' _ (hH.2.2.2.set hD he ⟨_, hq, t_OB.to (V := updV (vp_V ((List.range (pm_N ci)).map (pm_fv adr M a))) k v) ⟨_, e1, q2, q3, t_set q4 hap hkn v⟩ (fun j _ => vp_updV_set hl v j)⟩ e3) e2 (hS.put e2 e3 (Nat.le_add_right _ _))
  unfold pm_may at hmay
  rw [pm_fin_eq hq] at hmay
  unfold u_lay at hlay
  cases hfin : (T k).2.2.2 with
  | false =>
    rw [if_neg (by rw [hfin]; decide)] at hlay
    have h6 := u_store hfc hkC hkd hlay hi hd2 hnar hfit
    exact W.putK hx hb (f := f) ⟨hown, hts _ hw, ⟨_, _, _, hsame⟩, hst⟩ (by rw [q2]; exact h6) q1 q3 (by rw [hsl]; exact k2_hasslot (q4 k hkn)) rfl rfl hd fin
  | true =>
    simp only [hfin] at hmay
    simp only [Bool.not_true, Bool.false_or, Bool.and_eq_true, beq_iff_eq] at hmay
    rw [if_pos hfin] at hlay
    have hRC : pm_R E.2.2.2.2.1 = C := by
      rw [hmay.2]
      match ci, hq with
      | 0, hq => cases hq; rfl
      | 1, hq => cases hq; rfl
      | 2, hq => cases hq; rfl
      | 3, hq => cases hq; rfl
      | 4, hq => cases hq; rfl
      | 5, hq => cases hq; rfl
      | 6, hq => cases hq; rfl
      | 7, hq => cases hq; rfl
      | 8, hq => cases hq; rfl
      | k + 9, hq => simp [pm_cls] at hq
    have hcf : m.cls = cf := by
      obtain ⟨_, _, c', _, _, _, -, -, hf', -, -, -, hown2, -⟩ := Cond.laysFinal_spec hlay
      have e1 : c' = cf := by have := hi.symm.trans hf'; simp at this; exact this.1.symm
      have hown3 : s.vm.findClass (T k).1 = some m.cls := by rw [hTC, ← hRC]; exact hown
      rw [← e1]
      exact Option.some.inj (hown3.symm.trans hown2)
    have h6 := u_fits hfc hkC hkd (Or.inr hlay) hi hd2 hnar hfit
    exact W.putFinK hx hb hown (hts _ hw) hsame hst hcf (hn hmay.1) (by rw [q2]; exact h6) q1 q3 (by rw [hsl]; exact k2_hasslot (q4 k hkn)) rfl rfl hd fin
end PM5
