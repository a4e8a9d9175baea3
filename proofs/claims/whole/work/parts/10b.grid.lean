/-! A grid of ints (multianewarray, two counts), by rows of our own over the model's op: a row pushed, then stored, i times. Nothing of the library's set-aside shelf is named. -/
section GR
/-- the outer array, its first i rows laid -/
def gr_out (cO : ClassId) (N h0 i : Nat) : Cell := arrV cO N (fun j => va_rf (if j < i then some (h0 + 1 + j) else none))
/-- a row -/
def gr_in (cI : ClassId) (K : Nat) : Cell := { cls := cI, slots := Array.replicate K (.int 0), vm := .none }
/-- the state behind i rows -/
def gr_st (cO cI : ClassId) (N K : Nat) (S : State) : Nat → State
  | 0 => S.pushCell (gr_out cO N S.heap.size 0)
  | i + 1 => ((gr_st cO cI N K S i).pushCell (gr_in cI K)).setCell S.heap.size (gr_out cO N S.heap.size (i + 1))
theorem gr_out0 (cO : ClassId) (N h0 : Nat) : ({ cls := cO, slots := Array.replicate N .null, vm := .none } : Cell) = gr_out cO N h0 0 := by
  rw [arrV_new]
  unfold gr_out
  refine congrArg (arrV cO N) (funext fun j => ?_)
  rw [if_neg (Nat.not_lt_zero j)]
  rfl
theorem gr_outS (cO : ClassId) (N h0 i : Nat) : (gr_out cO N h0 i).setSlot i (.ref (h0 + 1 + i)) = gr_out cO N h0 (i + 1) := by
  unfold gr_out
  rw [arrV_store]
  refine congrArg (arrV cO N) (funext fun j => ?_)
  unfold updV
  by_cases hj : j = i
  · subst hj
    rw [if_pos rfl, if_pos (Nat.lt_succ_self j)]
    rfl
  · rw [if_neg hj]
    show va_rf (if j < i then some (h0 + 1 + j) else none) = _
    by_cases hl : j < i
    · rw [if_pos hl, if_pos (Nat.lt_succ_of_lt hl)]
    · rw [if_neg hl, if_neg (by omega)]
theorem gr_out_sz (cO : ClassId) (N h0 i : Nat) : (gr_out cO N h0 i).slots.size = N := arrV_size _ _ _
theorem gr_in_sz (cI : ClassId) (K : Nat) : (gr_in cI K).slots.size = K := by simp [gr_in]
theorem gr_facts (cO cI : ClassId) (N K : Nat) (S : State) : ∀ i : Nat,
    (gr_st cO cI N K S i).heap.size = S.heap.size + 1 + i ∧ (gr_st cO cI N K S i).slotsUsed = S.slotsUsed + (N + i * K) ∧ (gr_st cO cI N K S i).heap[S.heap.size]? = some (gr_out cO N S.heap.size i) ∧
    (∀ x : Nat, x < S.heap.size → (gr_st cO cI N K S i).heap[x]? = S.heap[x]?) ∧ (∀ j : Nat, j < i → (gr_st cO cI N K S i).heap[S.heap.size + 1 + j]? = some (gr_in cI K)) ∧ (gr_st cO cI N K S i).vm = S.vm
  | 0 => by
    refine ⟨by simp [gr_st], ?_, ?_, fun x hx => ?_, fun j hj => absurd hj (Nat.not_lt_zero j), rfl⟩
    · show S.slotsUsed + (gr_out cO N S.heap.size 0).slots.size = _
      rw [gr_out_sz, Nat.zero_mul, Nat.add_zero]
    · show (S.pushCell (gr_out cO N S.heap.size 0)).heap[S.heap.size]? = _
      simp
    · show (S.heap.push (gr_out cO N S.heap.size 0))[x]? = _
      rw [Array.getElem?_push, if_neg (Nat.ne_of_lt hx)]
  | i + 1 => by
    obtain ⟨h1, h2, h3, h4, h5, h6⟩ := gr_facts cO cI N K S i
    have hz : ((gr_st cO cI N K S i).pushCell (gr_in cI K)).heap.size = S.heap.size + 1 + (i + 1) := by
      show ((gr_st cO cI N K S i).heap.push (gr_in cI K)).size = _
      rw [Array.size_push, h1]
      rfl
    have hp : ∀ x : Nat, x < S.heap.size + 1 + i → ((gr_st cO cI N K S i).pushCell (gr_in cI K)).heap[x]? = (gr_st cO cI N K S i).heap[x]? := fun x hx => by
      show ((gr_st cO cI N K S i).heap.push (gr_in cI K))[x]? = _
      rw [Array.getElem?_push, if_neg (by rw [h1]; omega)]
    have hs : ∀ x : Nat, x ≠ S.heap.size → (gr_st cO cI N K S (i + 1)).heap[x]? = ((gr_st cO cI N K S i).pushCell (gr_in cI K)).heap[x]? := fun x hx =>
      heapAt_setCell_ne (s := (gr_st cO cI N K S i).pushCell (gr_in cI K)) (a := S.heap.size) (b := x) _ (Ne.symm hx)
    refine ⟨?_, ?_, ?_, fun x hx => ?_, fun j hj => ?_, h6⟩
    · show (((gr_st cO cI N K S i).pushCell (gr_in cI K)).setCell S.heap.size (gr_out cO N S.heap.size (i + 1))).heap.size = _
      rw [size_setCell, hz]
    · show (gr_st cO cI N K S i).slotsUsed + (gr_in cI K).slots.size = _
      rw [h2, gr_in_sz, Nat.succ_mul]
      omega
    · have hlt : S.heap.size < ((gr_st cO cI N K S i).pushCell (gr_in cI K)).heap.size := by rw [hz]; omega
      exact heapAt_setCell_self (s := (gr_st cO cI N K S i).pushCell (gr_in cI K)) (a := S.heap.size) _ hlt
    · rw [hs x (by omega), hp x (by omega)]
      exact h4 x hx
    · rw [hs _ (by omega)]
      by_cases hl : j < i
      · rw [hp _ (by omega)]
        exact h5 j hl
      · have e : S.heap.size + 1 + j = (gr_st cO cI N K S i).heap.size := by rw [h1]; omega
        rw [e]
        simp
theorem gr_top (cO cI : ClassId) (N K : Nat) (S : State) (f : JFrame) : ∀ i : Nat, gr_st cO cI N K (S.setTop f) i = (gr_st cO cI N K S i).setTop f
  | 0 => rfl
  | i + 1 => by
    show ((gr_st cO cI N K (S.setTop f) i).pushCell (gr_in cI K)).setCell _ _ = _
    rw [gr_top cO cI N K S f i]
    rfl
theorem gr_topJ (cO cI : ClassId) (N K : Nat) (S : State) : ∀ i : Nat, (gr_st cO cI N K S i).topJava? = S.topJava?
  | 0 => rfl
  | i + 1 => gr_topJ cO cI N K S i
section ST
variable {p : Program} {l : Launch} {e : Env} {R : Room} {s : State} {m : MethodId} {args : Array Value} {below : List Frame} {meth : Method} {c : Code} {S : State} {locs : List Loc} {cells slots : Nat}
theorem gr_stand (cO cI : ClassId) (N K : Nat) (X : Stand p l e R s m args below meth c S locs cells slots) : ∀ i : Nat,
    Stand p l e R s m args below meth c (gr_st cO cI N K S i) (locs ++ (List.range i).map (fun j => (⟨S.heap.size, j⟩ : Loc))) (cells + (1 + i)) (slots + (N + i * K))
  | 0 => by
    have h := X.pushed (gr_out cO N S.heap.size 0)
    rw [gr_out_sz] at h
    have e1 : locs ++ (List.range 0).map (fun j => (⟨S.heap.size, j⟩ : Loc)) = locs := by simp
    have e2 : N + 0 * K = N := by omega
    rw [e1, e2]
    exact h
  | i + 1 => by
    obtain ⟨h1, -, h3, -⟩ := gr_facts cO cI N K S i
    have h := (gr_stand cO cI N K X i).pushed (gr_in cI K)
    have hc : ((gr_st cO cI N K S i).pushCell (gr_in cI K)).heap[S.heap.size]? = some (gr_out cO N S.heap.size i) := by
      show ((gr_st cO cI N K S i).heap.push (gr_in cI K))[S.heap.size]? = _
      rw [Array.getElem?_push, if_neg (by rw [h1]; omega)]
      exact h3
    have h' := h.stored hc i (.ref (S.heap.size + 1 + i))
    rw [gr_outS, gr_in_sz] at h'
    have e1 : locs ++ (List.range i).map (fun j => (⟨S.heap.size, j⟩ : Loc)) ++ [⟨S.heap.size, i⟩] = locs ++ (List.range (i + 1)).map (fun j => (⟨S.heap.size, j⟩ : Loc)) := by
      rw [List.range_succ, List.map_append, List.append_assoc]
      rfl
    have e2 : cells + (1 + i) + 1 = cells + (1 + (i + 1)) := by omega
    have e3 : slots + (N + i * K) + K = slots + (N + (i + 1) * K) := by rw [Nat.succ_mul]; omega
    rw [e1, e2, e3] at h'
    exact h'
end ST
section WP
variable {E : CtlPost} {e : Env} {d : Bool} {acts : List Action} {S : State}
/-- a row of the loop -/
theorem gr_make1 {cI xI : ClassId} {kI : Class} {k : Int32} {U : State} {Q : Addr → Pre} (hkI : U.vm.classes[cI]? = some kI) (hI : kI.kind = .array xI .int) (hk : ¬ k < 0)
    (hl : ¬ k.toNatClampNeg > e.platform.arrayLengthLimit) (hh : ¬ k.toNatClampNeg * componentBytes .int > e.platform.maxHeapBytes) (hcells : U.heap.size < e.platform.maxCells) (hslots : U.slotsUsed + k.toNatClampNeg ≤ e.platform.maxSlots)
    (hq : ∀ acts', Q U.heap.size d acts' (U.pushCell (gr_in cI k.toNatClampNeg))) : wp (multianewarray.make cI [k]) Q E e d acts U := by
  simp only [multianewarray.make, wp_bind', W.ite, hk, if_false, wp_pure', W.theClass, hkI, Option.some.injEq, exists_eq_left', hI]
  exact W.newArray_of hkI hI hl hh hcells hslots rfl hq
theorem gr_make {cO cI xI : ClassId} {kO kI : Class} {n k : Int32} {Q : Addr → Pre} (hkO : S.vm.classes[cO]? = some kO) (hO : kO.kind = .array cI (.array .int)) (hkI : S.vm.classes[cI]? = some kI) (hI : kI.kind = .array xI .int) (hn : ¬ n < 0) (hk : ¬ k < 0)
    (hln : ¬ n.toNatClampNeg > e.platform.arrayLengthLimit) (hhn : ¬ n.toNatClampNeg * componentBytes (.array .int) > e.platform.maxHeapBytes)
    (hlk : ¬ k.toNatClampNeg > e.platform.arrayLengthLimit) (hhk : ¬ k.toNatClampNeg * componentBytes .int > e.platform.maxHeapBytes)
    (hcells : S.heap.size + (1 + n.toNatClampNeg) ≤ e.platform.maxCells) (hslots : S.slotsUsed + (n.toNatClampNeg + n.toNatClampNeg * k.toNatClampNeg) ≤ e.platform.maxSlots)
    (hq : ∀ d' acts', Q S.heap.size d' acts' (gr_st cO cI n.toNatClampNeg k.toNatClampNeg S n.toNatClampNeg)) : wp (multianewarray.make cO [n, k]) Q E e d acts S := by
  rw [multianewarray.make]
  simp only [wp_bind', W.ite, hn, if_false, wp_pure', W.theClass, hkO, Option.some.injEq, exists_eq_left', hO]
  refine W.newArray_of hkO hO hln hhn (by omega) (by omega) rfl fun acts1 => ?_
  have e0 : ({ cls := cO, slots := Array.replicate n.toNatClampNeg .null } : Cell) = gr_out cO n.toNatClampNeg S.heap.size 0 := gr_out0 _ _ _
  rw [e0]
  have hf : List.find? (fun x : Int32 => decide (x < 0)) [k] = none := by simp [hk]
  simp only [hf, wp_pure', wp_bind', ite_self, Std.Legacy.Range.forIn_eq_forIn_range']
  refine wp_forIn_inv (fun rest U => ∃ i : Nat, i ≤ n.toNatClampNeg ∧ rest = List.range' i (n.toNatClampNeg - i) ∧ U = gr_st cO cI n.toNatClampNeg k.toNatClampNeg S i) _ _ ?_ ?_ ?_
  · exact ⟨0, Nat.zero_le _, by simp [Std.Legacy.Range.size], rfl⟩
  · rintro x rest U d' acts' Q' ⟨i, hi, hr, rfl⟩ hQ
    obtain ⟨h1, h2, h3, h4, h5, h6⟩ := gr_facts cO cI n.toNatClampNeg k.toNatClampNeg S i
    have hlt : i < n.toNatClampNeg := by
      rcases Nat.lt_or_ge i n.toNatClampNeg with h | h
      · exact h
      · rw [Nat.sub_eq_zero_of_le h] at hr
        cases hr
    obtain ⟨q, hq1⟩ : ∃ q, n.toNatClampNeg - i = q + 1 := ⟨n.toNatClampNeg - i - 1, by omega⟩
    rw [hq1, List.range'_succ] at hr
    obtain ⟨rfl, rfl⟩ := List.cons.inj hr
    have hmul : (x + 1) * k.toNatClampNeg ≤ n.toNatClampNeg * k.toNatClampNeg := Nat.mul_le_mul_right _ hlt
    rw [Nat.succ_mul] at hmul
    simp only [wp_bind', wp_pure']
    refine gr_make1 (by rw [h6]; exact hkI) hI hk hlk hhk (by rw [h1]; omega) (by rw [h2]; omega) fun acts2 => ?_
    have hp : ((gr_st cO cI n.toNatClampNeg k.toNatClampNeg S x).pushCell (gr_in cI k.toNatClampNeg)).heap[S.heap.size]? = some (gr_out cO n.toNatClampNeg S.heap.size x) := by
      show ((gr_st cO cI n.toNatClampNeg k.toNatClampNeg S x).heap.push (gr_in cI k.toNatClampNeg))[S.heap.size]? = _
      rw [Array.getElem?_push, if_neg (by rw [h1]; omega)]
      exact h3
    rw [wp_bind', W.writeLoc]
    refine ⟨_, hp, (by intro h; cases h), (by rw [gr_out_sz]; exact hlt), ?_, ?_⟩
    · show State.fitsSlot _ cO .none x (.ref _) = true
      simp [State.fitsSlot, State.slotType?, h6, hkO, hO, fits]
    · refine hQ _ _ _ ⟨x + 1, hlt, by rw [show n.toNatClampNeg - (x + 1) = q by omega], ?_⟩
      show _ = ((gr_st cO cI n.toNatClampNeg k.toNatClampNeg S x).pushCell (gr_in cI k.toNatClampNeg)).setCell S.heap.size (gr_out cO n.toNatClampNeg S.heap.size (x + 1))
      rw [h1, gr_outS]
  · rintro U d' acts' ⟨i, hi, hr, rfl⟩
    have e1 : i = n.toNatClampNeg := by
      have := congrArg List.length hr
      simp at this
      omega
    subst e1
    exact hq _ _
/-- the op, warm: two counts off the stack, the grid, its reference onto it -/
theorem gr_sem {index : Nat} {f : JFrame} {cO cI xI : ClassId} {kO kI : Class} {n k : Int32} {rest : List Value} {Q : Unit → Pre} (hs : S.topJava?.isSome) (hr : S.vm.classReady f.method.cls index cO) (hst : f.stack = .int k :: .int n :: rest)
    (hkO : S.vm.classes[cO]? = some kO) (hO : kO.kind = .array cI (.array .int)) (hkI : S.vm.classes[cI]? = some kI) (hI : kI.kind = .array xI .int) (hn : ¬ n < 0) (hk : ¬ k < 0)
    (hln : ¬ n.toNatClampNeg > e.platform.arrayLengthLimit) (hhn : ¬ n.toNatClampNeg * componentBytes (.array .int) > e.platform.maxHeapBytes)
    (hlk : ¬ k.toNatClampNeg > e.platform.arrayLengthLimit) (hhk : ¬ k.toNatClampNeg * componentBytes .int > e.platform.maxHeapBytes)
    (hcells : S.heap.size + (1 + n.toNatClampNeg) ≤ e.platform.maxCells) (hslots : S.slotsUsed + (n.toNatClampNeg + n.toNatClampNeg * k.toNatClampNeg) ≤ e.platform.maxSlots)
    (hq : ∀ acts', Q () true acts' ((gr_st cO cI n.toNatClampNeg k.toNatClampNeg S n.toNatClampNeg).setTop { f with stack := .ref S.heap.size :: rest })) : wp (multianewarray.sem index 2) Q E e d acts (S.setTop f) := by
  rw [multianewarray.sem, wp_bind', W.resolveClassAt_ready (State.method?_setTop f hs) hr, wp_bind', W.popN]
  rw [if_neg (by decide)]
  refine ⟨f, State.topJava?_setTop' f hs, [.int n, .int k], rest, rfl, by rw [hst]; rfl, ?_⟩
  rw [State.setTop_setTop]
  simp only [List.mapM_cons, List.mapM_nil, wp_bind', wp_pure']
  refine gr_make (S := S.setTop { f with stack := rest }) hkO hO hkI hI hn hk hln hhn hlk hhk hcells hslots fun d' acts' => ?_
  rw [gr_top, wp_bind', W.mark, W.pushRef]
  refine ⟨_, State.topJava?_setTop' _ (by rw [gr_topJ]; exact hs), ?_⟩
  rw [State.setTop_setTop]
  exact hq acts'
/-- the op, cold or warm -/
theorem gr_cold {index c : Nat} {vm' : Vm} {f : JFrame} {Q : Unit → Pre} (hs : S.topJava?.isSome) (hg : (Jvm.resolveClass f.method.cls index).Gives e.toSetting S.vm (.ok c) vm') (hr : vm'.classReady f.method.cls index c)
    (hsz : vm'.classes.size ≤ S.vm.classes.size := by no_record) : wp (multianewarray.sem index 2) Q E e d acts (S.setTop f) ↔ wp (multianewarray.sem index 2) Q E e d acts ((S.setVm vm').setTop f) := by
  simp only [multianewarray.sem, wp_bind']
  exact W.resolveClassAt_transfer (s := S.setTop f) (State.method?_setTop f hs) hg hr
end WP
section RW
variable {p : Program} {l : Launch} {e : Env} {R : Room} {s : State} {m : MethodId} {args : Array Value} {below : List Frame} {meth : Method} {c : Code} {T : State} {locs : List Loc} {cells slots : Nat}
/-- where a method stands: the grid made, the reference pushed -/
theorem gr_walk (X : Stand p l e R s m args below meth c T locs cells slots) (hexec : p.tables.exec = Jvm.exec) {own : String} {index : Nat} (hown : s.vm.findClass own = some m.cls)
    (hclink : (Cond.classLink own index ("[" ++ (FieldType.array .int).toString)).before args s = true) (hover : (Cond.arrayOver (.array .int)).before args s = true) (harr : (Cond.arrayClass .int).before args s = true)
    {g : JFrame} (hg : g.method = m) (hdg : decode c.code g.pc = .ok (.multianewarray index 2, 4)) {n k : Int32} {rest : List Value} (hstack : g.stack = .int k :: .int n :: rest) (hn : ¬ n < 0) (hk : ¬ k < 0)
    (hbn : n.toNatClampNeg ≤ 1000) (hbk : k.toNatClampNeg ≤ 1000) (hcells : cells + (1 + n.toNatClampNeg) ≤ R.cells) (hslots : slots + (n.toNatClampNeg + n.toNatClampNeg * k.toNatClampNeg) ≤ R.slots) :
    ∃ (vm₁ : Vm) (cO cI : ClassId), s.vm.findClass ("[" ++ (FieldType.array .int).toString) = some cO ∧ s.vm.findClass ("[" ++ FieldType.int.toString) = some cI ∧
      Stand p l e R s m args below meth c (gr_st cO cI n.toNatClampNeg k.toNatClampNeg (T.setVm vm₁) n.toNatClampNeg) (locs ++ (List.range n.toNatClampNeg).map (fun j => (⟨T.heap.size, j⟩ : Loc))) (cells + (1 + n.toNatClampNeg)) (slots + (n.toNatClampNeg + n.toNatClampNeg * k.toNatClampNeg)) ∧
      ∀ target, Steps p.tables e below ((gr_st cO cI n.toNatClampNeg k.toNatClampNeg (T.setVm vm₁) n.toNatClampNeg).setTop { g with pc := g.pc + 4, stack := .ref T.heap.size :: rest }) target → Steps p.tables e below (T.setTop g) target := by
  subst hg
  have hpl : e.platform.magicAccessors = ({} : Platform).magicAccessors := by rw [X.admits.platform]
  obtain ⟨comp, cO, kO, hcomp, -, hkO, hO, hnO⟩ := arrayOverA_spec hover
  obtain ⟨cI, kI, xI, hnI, hkI, hI⟩ := Cond.arrayClass_spec harr
  have ecI : comp = cI := Option.some.inj (hcomp.symm.trans hnI)
  subst ecI
  obtain ⟨cc, hfcc, hcl⟩ := Cond.classLink_spec hown hclink e.platform hpl
  cases hnO.symm.trans hfcc
  obtain ⟨hg₁, hwarm₁, hready₁⟩ := State.classEntry (e := e) X.warmed hcl
  generalize T.vm.noted g.method.cls index (.cls cO) = vm₁ at hg₁ hwarm₁ hready₁
  have hal : s.vm.Alike vm₁ := hwarm₁.alike
  obtain ⟨kO₁, hkO₁, heO⟩ := hal.2.2 _ _ hkO
  obtain ⟨kI₁, hkI₁, heI⟩ := hal.2.2 _ _ hkI
  have hO₁ : kO₁.kind = .array comp (.array .int) := by rw [heO]; exact hO
  have hI₁ : kI₁.kind = .array xI .int := by rw [heI]; exact hI
  obtain ⟨hr1, hr2⟩ := X.roomAbove hcells hslots
  refine ⟨vm₁, cO, comp, hnO, hnI, gr_stand cO comp _ _ (X.noted hwarm₁) _, fun target hrest => ?_⟩
  refine Steps.instr (c := c) X.here ?_
  rw [hdg, hexec]
  show wp (multianewarray.sem index 2) _ _ e false [] (T.setTop g)
  rw [gr_cold (e := e) (S := T) (f := g) X.here.top hg₁ hready₁]
  have hln : ¬ n.toNatClampNeg > e.platform.arrayLengthLimit := by rw [Launch.admits_arrayLengthLimit X.admits]; omega
  have hlk : ¬ k.toNatClampNeg > e.platform.arrayLengthLimit := by rw [Launch.admits_arrayLengthLimit X.admits]; omega
  have hhn : ¬ n.toNatClampNeg * componentBytes (.array .int) > e.platform.maxHeapBytes := by
    rw [Launch.admits_maxHeapBytes X.admits]
    show ¬ n.toNatClampNeg * 4 > 536870912
    omega
  have hhk : ¬ k.toNatClampNeg * componentBytes .int > e.platform.maxHeapBytes := by
    rw [Launch.admits_maxHeapBytes X.admits]
    show ¬ k.toNatClampNeg * 4 > 536870912
    omega
  refine gr_sem (S := T.setVm vm₁) (kO := kO₁) (kI := kI₁) X.here.top hready₁ hstack hkO₁ hO₁ hkI₁ hI₁ hn hk hln hhn hlk hhk hr1 hr2 fun acts' acts'' => ?_
  rw [afterInstr_ok]
  exact hrest
end RW
end GR
