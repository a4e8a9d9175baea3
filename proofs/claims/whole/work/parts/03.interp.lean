/-! A pure machine over the program's own bytecode: values with cells told by their numbers. -/
/-- memory: how many cells; a cell's kind and length; its ints; its references. Kinds: 0 int[], 1 boolean[], 2 Drive[], 3 Program[], 4 Law[], 5 int[][], 10 + c an object of class c, 99 none -/
abbrev pm_M : Type := Nat × (Nat → Nat × Nat) × (Nat → Nat → Int32) × (Nat → Nat → Option Nat)
/-- what stands: pc, locals, stack, memory, cells and slots made -/
abbrev pm_S : Type := Nat × List Value × List Value × pm_M × Nat × Nat
/-- a step's end: on, an answer, or a call (method, arguments, what stays on the stack) -/
abbrev pm_O : Type := pm_S ⊕ (Option Value) ⊕ (Nat × List Value × List Value)
def pm_u : Value := .retAddr 0
def pm_z : Value := .retAddr 7
def pm_ro (r : Option Nat) : Value := match r with
  | none => .null
  | some b => .ref b
def pm_in (i : Int32) (n : Nat) : Bool := !(decide (i < 0)) && decide (i.toNatClampNeg < n)
def pm_w2 {α : Type} (f : Nat → Nat → α) (a i : Nat) (v : α) : Nat → Nat → α := fun b j => if b = a then (if j = i then v else f b j) else f b j
def pm_w1 {α : Type} (f : Nat → α) (a : Nat) (v : α) : Nat → α := fun b => if b = a then v else f b
/-- a new cell -/
def pm_new (M : pm_M) (kind len : Nat) : pm_M := (M.1 + 1, pm_w1 M.2.1 M.1 (kind, len), pm_w1 M.2.2.1 M.1 (fun _ => 0), pm_w1 M.2.2.2 M.1 (fun _ => none))
/-- a new int[n][k]: the outer cell, then its rows -/
def pm_grid (M : pm_M) (n k : Nat) : pm_M := (M.1 + 1 + n, fun b => if b < M.1 ∨ M.1 + n < b then M.2.1 b else if b = M.1 then (5, n) else (0, k), fun b => if b < M.1 ∨ M.1 + n < b then M.2.2.1 b else fun _ => 0, fun b => if b < M.1 ∨ M.1 + n < b then M.2.2.2 b else if b = M.1 then (fun j => if j < n then some (M.1 + 1 + j) else none) else fun _ => none)
def pm_setI (M : pm_M) (a i : Nat) (v : Int32) : pm_M := (M.1, M.2.1, pm_w2 M.2.2.1 a i v, M.2.2.2)
def pm_setR (M : pm_M) (a i : Nat) (v : Option Nat) : pm_M := (M.1, M.2.1, M.2.2.1, pm_w2 M.2.2.2 a i v)
/-- locals -/
def pm_clr (lv : List Value) (i : Nat) : List Value := match i with
  | 0 => lv
  | j + 1 => match lv[j]? with
    | some (.long _) => lv.set j pm_u
    | some (.double _) => lv.set j pm_u
    | _ => lv
def pm_st1 (lv : List Value) (i : Nat) (v : Value) : List Value := (pm_clr lv i).set i v
def pm_st2 (lv : List Value) (i : Nat) (v : Value) : List Value := ((pm_clr lv i).set i v).set (i + 1) pm_u
def pm_mask : List Bool → List Value → List Value
  | b :: bs, v :: vs => (cond b v pm_u) :: pm_mask bs vs
  | _, vs => vs
def pm_msk (ms : List (Nat × List Bool)) (pc : Nat) (lv : List Value) : List Value := match ms.lookup pc with
  | none => lv
  | some bs => pm_mask bs lv
def pm_nx (E : pm_E) (S : pm_S) : pm_S := (S.1, pm_msk E.2.2.2.2.2.2.2.2 S.1 S.2.1, S.2.2)
def pm_flat : List Value → List Value
  | [] => []
  | .long x :: vs => .long x :: pm_u :: pm_flat vs
  | .double x :: vs => .double x :: pm_u :: pm_flat vs
  | v :: vs => v :: pm_flat vs
def pm_ent (vs : List Value) (n : Nat) : List Value := pm_flat vs ++ List.replicate (n - (pm_flat vs).length) pm_u
def pm_tgt (pc : Nat) (off : Int) : Option Nat := if 0 ≤ (pc : Int) + off then some ((pc : Int) + off).toNat else none
def pm_cnd (c : Jvm.ClassFile.Cond) (x y : Int32) : Bool := match c with
  | .eq => decide (x = y)
  | .ne => !decide (x = y)
  | .lt => decide (x < y)
  | .ge => decide (y ≤ x)
  | .gt => decide (y < x)
  | .le => decide (x ≤ y)
/-- tables that nobody writes -/
def pm_tabs : List (List Int32) := [[1000, 100, 1000, 0], [0, 20, 0, 0], [9999, 999, 99999, 100]]
/-- the int of an int array -/
def pm_iald (X : Nat × (Nat → Int32)) (own : Nat) (M : pm_M) (a : Nat) (i : Int32) : Option Int32 :=
  if (M.2.1 a).1 = 0 then (if pm_in i (M.2.1 a).2 then some (M.2.2.1 a i.toNatClampNeg) else none)
  else if a = 1000300 ∧ own = 9 then (if pm_in i X.1 then some (X.2 i.toNatClampNeg) else none)
  else if (M.2.1 a).1 = 99 ∧ 1000200 ≤ a ∧ a < 1000203 then (if pm_in i 4 then some ((pm_tabs.getD (a - 1000200) []).getD i.toNatClampNeg 0) else none)
  else none
def pm_bald (M : pm_M) (a : Nat) (i : Int32) : Option Int32 :=
  if (M.2.1 a).1 = 1 then (if pm_in i (M.2.1 a).2 then some (M.2.2.1 a i.toNatClampNeg) else none)
  else if (M.2.1 a).1 = 99 ∧ 1000100 ≤ a ∧ a < 1000118 then (if pm_in i (pm_stb (a - 1000100)).length then some ((pm_stb (a - 1000100)).getD i.toNatClampNeg 0) else none)
  else none
def pm_alen (X : Nat × (Nat → Int32)) (own : Nat) (M : pm_M) (a : Nat) : Option Nat :=
  if (M.2.1 a).1 ≤ 5 then some (M.2.1 a).2
  else if a = 1000300 ∧ own = 9 then some X.1
  else if (M.2.1 a).1 = 99 ∧ 1000100 ≤ a ∧ a < 1000118 then some (pm_stb (a - 1000100)).length
  else if (M.2.1 a).1 = 99 ∧ 1000200 ≤ a ∧ a < 1000203 then some 4
  else none
def pm_getf (own idx a : Nat) (M : pm_M) : Option Value :=
  match pm_fld own idx with
  | some (ci, k) => if (M.2.1 a).1 = 10 + ci then some (if pm_isR ci k then pm_ro (M.2.2.2 a k) else .int (M.2.2.1 a k)) else none
  | none => if (M.2.1 a).1 = 99 ∧ 1000000 ≤ a ∧ a < 1000018 ∧ own = 11 then (if idx = 9 then some (.ref (a + 100)) else if idx = 15 then some (.int 0) else none) else none
/-- may method E write field k of class ci from code class own? -/
def pm_may (E : pm_E) (ci k : Nat) : Bool := !(pm_fin ci k) || (E.1.name == "<init>" && E.2.2.2.2.1 == ci)
def pm_putf (E : pm_E) (idx a : Nat) (v : Value) (M : pm_M) : Option pm_M :=
  match pm_fld E.2.2.2.2.1 idx with
  | some (ci, k) => if (M.2.1 a).1 = 10 + ci ∧ pm_may E ci k = true then
      (match v with
      | .int x => if pm_isR ci k = false then some (pm_setI M a k x) else none
      | .ref b => if pm_isR ci k = true then some (pm_setR M a k (some b)) else none
      | _ => none) else none
  | none => none
/-- the class whose objects an array of references of that kind holds -/
def pm_comp (kind : Nat) : Nat := if kind = 2 then 0 else if kind = 3 then 4 else if kind = 4 then 1 else 77
def pm_gets (own idx : Nat) : Option Value := if own = 7 then (if idx = 39 then some (.ref 1000200) else if idx = 135 then some (.ref 1000201) else if idx = 138 then some (.ref 1000202) else none) else if own = 11 then (if idx = 38 then some (.int 1) else if idx = 1053 then some pm_z else none) else none
def pm_newc (own idx : Nat) : Option Nat := ([((9, 7), 7), ((7, 27), 6), ((7, 52), 2), ((7, 59), 5), ((7, 15), 4), ((7, 21), 1), ((7, 80), 3), ((7, 9), 0), ((9, 10), 8)] : List ((Nat × Nat) × Nat)).lookup (own, idx)
def pm_anew (own idx : Nat) : Option Nat := ([((7, 9), 2), ((7, 15), 3), ((7, 21), 4)] : List ((Nat × Nat) × Nat)).lookup (own, idx)
/-- Object.<init> by code class and index -/
def pm_oi (own idx : Nat) : Bool := ([(0, 3), (1, 3), (2, 3), (3, 3), (4, 3), (5, 3), (6, 3), (7, 1), (8, 1)] : List (Nat × Nat)).elem (own, idx)
/-- System.arraycopy of a table into an int array -/
def pm_copy (M : pm_M) (src : Nat) (sp : Int32) (dst : Nat) (dp n : Int32) : Option pm_M :=
  if (M.2.1 dst).1 = 0 ∧ (M.2.1 src).1 = 99 ∧ 1000200 ≤ src ∧ src < 1000203 ∧ sp = 0 ∧ dp = 0 ∧ n = 4 ∧ 4 ≤ (M.2.1 dst).2 then
    some (M.1, M.2.1, pm_w1 M.2.2.1 dst (va_cpy (fun j => (pm_tabs.getD (src - 1000200) []).getD j 0) (M.2.2.1 dst) 0 0 4), M.2.2.2) else none
def pm_go (pc : Nat) (lv st : List Value) (M : pm_M) (cs : Nat × Nat) : Option pm_O := some (.inl (pc, lv, st, M, cs))
/-- pops n values, the first pushed first -/
def pm_pop (n : Nat) (st : List Value) : Option (List Value × List Value) := if n ≤ st.length then some ((st.take n).reverse, st.drop n) else none
/-- is cell a of the class that method k's code is of? -/
def pm_recv (M : pm_M) (k a : Nat) : Bool := match pm_mt k with
  | some E => if E.2.2.2.2.1 < 9 then decide ((M.2.1 a).1 = 10 + E.2.2.2.2.1) else E.2.2.2.2.1 == 11 && decide ((M.2.1 a).1 = 99) && decide (1000000 ≤ a) && decide (a < 1000018)
  | none => false
def pm_callV (own idx : Nat) (M : pm_M) (st : List Value) : Option pm_O :=
  match pm_ml own idx with
  | some (k, kd, n) => if kd = 0 then (match pm_pop (n + 1) st with
      | some (.ref a :: as, rest) => if pm_recv M k a = true then some (.inr (.inr (k, .ref a :: as, rest))) else none
      | _ => none) else none
  | none => none
def pm_callI (own idx : Nat) (st : List Value) : Option pm_O :=
  match pm_ml own idx with
  | some (k, kd, n) => if kd = 2 ∨ kd = 3 then (match pm_pop (n + 1) st with
      | some (.ref a :: as, rest) => some (.inr (.inr (k, .ref a :: as, rest)))
      | _ => none) else none
  | none => none
def pm_callS (own idx : Nat) (st : List Value) : Option pm_O :=
  match pm_ml own idx with
  | some (k, kd, n) => if kd = 1 then (match pm_pop n st with
      | some (as, rest) => some (.inr (.inr (k, as, rest)))
      | none => none) else none
  | none => none
/-- heap, constants, answers, calls -/
def pm_step3 (X : Nat × (Nat → Int32)) (E : pm_E) (i : Instr) (len pc : Nat) (lv st : List Value) (M : pm_M) (cs : Nat × Nat) : Option pm_O :=
  match i with
  | .ldc idx => (match pm_ci E.2.2.2.2.1 idx with
    | some v => pm_go (pc + len) lv (.int v :: st) M cs
    | none => match pm_sl E.2.2.2.2.1 idx with
      | some j => pm_go (pc + len) lv (.ref (1000000 + j) :: st) M cs
      | none => none)
  | .ldc_w idx => (match pm_ci E.2.2.2.2.1 idx with
    | some v => pm_go (pc + len) lv (.int v :: st) M cs
    | none => none)
  | .ldc2_w idx => (match pm_clg E.2.2.2.2.1 idx with
    | some v => pm_go (pc + len) lv (.long v :: st) M cs
    | none => none)
  | .getstatic idx => (match pm_gets E.2.2.2.2.1 idx with
    | some v => pm_go (pc + len) lv (v :: st) M cs
    | none => none)
  | .getfield idx => (match st with
    | .ref a :: st => (match pm_getf E.2.2.2.2.1 idx a M with
      | some v => pm_go (pc + len) lv (v :: st) M cs
      | none => none)
    | _ => none)
  | .putfield idx => (match st with
    | v :: .ref a :: st => (match pm_putf E idx a v M with
      | some M' => pm_go (pc + len) lv st M' cs
      | none => none)
    | _ => none)
  | .iaload => (match st with
    | .int i :: .ref a :: st => (match pm_iald X E.2.2.2.2.1 M a i with
      | some v => pm_go (pc + len) lv (.int v :: st) M cs
      | none => none)
    | _ => none)
  | .baload => (match st with
    | .int i :: .ref a :: st => (match pm_bald M a i with
      | some v => pm_go (pc + len) lv (.int v :: st) M cs
      | none => none)
    | _ => none)
  | .aaload => (match st with
    | .int i :: .ref a :: st => if 2 ≤ (M.2.1 a).1 ∧ (M.2.1 a).1 ≤ 5 ∧ pm_in i (M.2.1 a).2 = true then pm_go (pc + len) lv (pm_ro (M.2.2.2 a i.toNatClampNeg) :: st) M cs else none
    | _ => none)
  | .iastore => (match st with
    | .int v :: .int i :: .ref a :: st => if (M.2.1 a).1 = 0 ∧ pm_in i (M.2.1 a).2 = true then pm_go (pc + len) lv st (pm_setI M a i.toNatClampNeg v) cs else none
    | _ => none)
  | .bastore => (match st with
    | .int v :: .int i :: .ref a :: st => if (M.2.1 a).1 = 1 ∧ pm_in i (M.2.1 a).2 = true ∧ (v = 0 ∨ v = 1) then pm_go (pc + len) lv st (pm_setI M a i.toNatClampNeg v) cs else none
    | _ => none)
  | .aastore => (match st with
    | .ref b :: .int i :: .ref a :: st => if 2 ≤ (M.2.1 a).1 ∧ (M.2.1 a).1 ≤ 4 ∧ pm_in i (M.2.1 a).2 = true ∧ (M.2.1 b).1 = 10 + pm_comp (M.2.1 a).1 then pm_go (pc + len) lv st (pm_setR M a i.toNatClampNeg (some b)) cs else none
    | _ => none)
  | .arraylength => (match st with
    | .ref a :: st => (match pm_alen X E.2.2.2.2.1 M a with
      | some n => pm_go (pc + len) lv (.int (Int32.ofNat n) :: st) M cs
      | none => none)
    | _ => none)
  | .new idx => (match pm_newc E.2.2.2.2.1 idx with
    | some ci => if M.1 < 1000000 ∧ cs.1 + 1 ≤ E.2.2.2.2.2.2.1 ∧ cs.2 + pm_N ci ≤ E.2.2.2.2.2.2.2.1 then pm_go (pc + len) lv (.ref M.1 :: st) (pm_new M (10 + ci) 0) (cs.1 + 1, cs.2 + pm_N ci) else none
    | none => none)
  | .newarray t => (match st with
    | .int n :: st => (match t with
      | .int => if M.1 < 1000000 ∧ ¬ n < 0 ∧ n.toNatClampNeg ≤ 1000 ∧ cs.1 + 1 ≤ E.2.2.2.2.2.2.1 ∧ cs.2 + n.toNatClampNeg ≤ E.2.2.2.2.2.2.2.1 then pm_go (pc + len) lv (.ref M.1 :: st) (pm_new M 0 n.toNatClampNeg) (cs.1 + 1, cs.2 + n.toNatClampNeg) else none
      | .boolean => if M.1 < 1000000 ∧ ¬ n < 0 ∧ n.toNatClampNeg ≤ 1000 ∧ cs.1 + 1 ≤ E.2.2.2.2.2.2.1 ∧ cs.2 + n.toNatClampNeg ≤ E.2.2.2.2.2.2.2.1 then pm_go (pc + len) lv (.ref M.1 :: st) (pm_new M 1 n.toNatClampNeg) (cs.1 + 1, cs.2 + n.toNatClampNeg) else none
      | _ => none)
    | _ => none)
  | .anewarray idx => (match st with
    | .int n :: st => (match pm_anew E.2.2.2.2.1 idx with
      | some kind => if M.1 < 1000000 ∧ ¬ n < 0 ∧ n.toNatClampNeg ≤ 1000 ∧ cs.1 + 1 ≤ E.2.2.2.2.2.2.1 ∧ cs.2 + n.toNatClampNeg ≤ E.2.2.2.2.2.2.2.1 then pm_go (pc + len) lv (.ref M.1 :: st) (pm_new M kind n.toNatClampNeg) (cs.1 + 1, cs.2 + n.toNatClampNeg) else none
      | none => none)
    | _ => none)
  | .invokevirtual idx => pm_callV E.2.2.2.2.1 idx M st
  | .invokestatic idx => if E.2.2.2.2.1 = 7 ∧ idx = 103 then (match st with
      | .int n :: .int dp :: .ref dst :: .int sp :: .ref src :: st => (match pm_copy M src sp dst dp n with
        | some M' => if (st.map Value.category).sum ≤ 8 ∧ 2 ≤ E.2.2.2.2.2.1 then pm_go (pc + len) lv st M' cs else none
        | none => none)
      | _ => none) else pm_callS E.2.2.2.2.1 idx st
  | .multianewarray idx d => (match st with
    | .int k :: .int n :: st => if E.2.2.2.2.1 = 7 ∧ idx = 34 ∧ d = 2 ∧ M.1 + 1 + n.toNatClampNeg < 1000000 ∧ ¬ n < 0 ∧ n.toNatClampNeg ≤ 1000 ∧ ¬ k < 0 ∧ k.toNatClampNeg ≤ 1000 ∧ cs.1 + (1 + n.toNatClampNeg) ≤ E.2.2.2.2.2.2.1 ∧ cs.2 + (n.toNatClampNeg + n.toNatClampNeg * k.toNatClampNeg) ≤ E.2.2.2.2.2.2.2.1 then pm_go (pc + len) lv (.ref M.1 :: st) (pm_grid M n.toNatClampNeg k.toNatClampNeg) (cs.1 + (1 + n.toNatClampNeg), cs.2 + (n.toNatClampNeg + n.toNatClampNeg * k.toNatClampNeg)) else none
    | _ => none)
  | .invokespecial idx => if pm_oi E.2.2.2.2.1 idx then (match st with
      | .ref _ :: st => if (st.map Value.category).sum ≤ 8 ∧ E.1.name = "<init>" then pm_go (pc + len) lv st M cs else none
      | _ => none) else pm_callI E.2.2.2.2.1 idx st
  | .ireturn => (match st with
    | [.int v] => if (E.2.2.2.1 = some .int ∨ (E.2.2.2.1 = some .boolean ∧ (v = 0 ∨ v = 1)) ∨ (E.2.2.2.1 = some .char ∧ 0 ≤ v ∧ v ≤ 255) ∨ (E.2.2.2.1 = some .byte ∧ v = 0)) then some (.inr (.inl (some (.int v)))) else none
    | _ => none)
  | .lreturn => (match st with
    | [.long v] => if E.2.2.2.1 = some .long then some (.inr (.inl (some (.long v)))) else none
    | _ => none)
  | .areturn => (match st with
    | [.ref a] => if E.2.2.2.1 = some (.object "java/lang/String") then some (.inr (.inl (some (.ref a)))) else none
    | _ => none)
  | .return_ => (match st with
    | [] => if E.2.2.2.1 = none then some (.inr (.inl none)) else none
    | _ => none)
  | _ => none
/-- locals, stack, arithmetic, branches -/
def pm_step2 (E : pm_E) (i : Instr) (len pc : Nat) (lv st : List Value) (M : pm_M) (cs : Nat × Nat) : Option pm_O :=
  match i with
  | .iconst n => pm_go (pc + len) lv (.int (Int32.ofInt n) :: st) M cs
  | .bipush n => pm_go (pc + len) lv (.int (Int8.ofInt n).toInt32 :: st) M cs
  | .sipush n => pm_go (pc + len) lv (.int (Int16.ofInt n).toInt32 :: st) M cs
  | .lconst n => pm_go (pc + len) lv (.long (Int64.ofNat (n : Nat)) :: st) M cs
  | .iload k => (match lv[k]? with
    | some (.int x) => pm_go (pc + len) lv (.int x :: st) M cs
    | _ => none)
  | .iload_n k => (match lv[(k : Nat)]? with
    | some (.int x) => pm_go (pc + len) lv (.int x :: st) M cs
    | _ => none)
  | .lload k => (match lv[k]? with
    | some (.long x) => pm_go (pc + len) lv (.long x :: st) M cs
    | _ => none)
  | .lload_n k => (match lv[(k : Nat)]? with
    | some (.long x) => pm_go (pc + len) lv (.long x :: st) M cs
    | _ => none)
  | .aload k => (match lv[k]? with
    | some (.ref x) => pm_go (pc + len) lv (.ref x :: st) M cs
    | _ => none)
  | .aload_n k => (match lv[(k : Nat)]? with
    | some (.ref x) => pm_go (pc + len) lv (.ref x :: st) M cs
    | _ => none)
  | .istore k => (match st with
    | .int x :: st => if k < lv.length then pm_go (pc + len) (pm_st1 lv k (.int x)) st M cs else none
    | _ => none)
  | .istore_n k => (match st with
    | .int x :: st => if (k : Nat) < lv.length then pm_go (pc + len) (pm_st1 lv (k : Nat) (.int x)) st M cs else none
    | _ => none)
  | .astore k => (match st with
    | .ref x :: st => if k < lv.length then pm_go (pc + len) (pm_st1 lv k (.ref x)) st M cs else none
    | _ => none)
  | .astore_n k => (match st with
    | .ref x :: st => if (k : Nat) < lv.length then pm_go (pc + len) (pm_st1 lv (k : Nat) (.ref x)) st M cs else none
    | _ => none)
  | .lstore k => (match st with
    | .long x :: st => if k + 1 < lv.length then pm_go (pc + len) (pm_st2 lv k (.long x)) st M cs else none
    | _ => none)
  | .lstore_n k => (match st with
    | .long x :: st => if (k : Nat) + 1 < lv.length then pm_go (pc + len) (pm_st2 lv (k : Nat) (.long x)) st M cs else none
    | _ => none)
  | .iinc k n => (match lv[k]? with
    | some (.int x) => pm_go (pc + len) (pm_st1 lv k (.int (x + Int32.ofInt n))) st M cs
    | _ => none)
  | .iadd => (match st with
    | .int y :: .int x :: st => pm_go (pc + len) lv (.int (x + y) :: st) M cs
    | _ => none)
  | .isub => (match st with
    | .int y :: .int x :: st => pm_go (pc + len) lv (.int (x - y) :: st) M cs
    | _ => none)
  | .imul => (match st with
    | .int y :: .int x :: st => pm_go (pc + len) lv (.int (x * y) :: st) M cs
    | _ => none)
  | .idiv => (match st with
    | .int y :: .int x :: st => if y = 0 then none else pm_go (pc + len) lv (.int (x / y) :: st) M cs
    | _ => none)
  | .irem => (match st with
    | .int y :: .int x :: st => if y = 0 then none else pm_go (pc + len) lv (.int (x - x / y * y) :: st) M cs
    | _ => none)
  | .ineg => (match st with
    | .int x :: st => pm_go (pc + len) lv (.int (-x) :: st) M cs
    | _ => none)
  | .iand => (match st with
    | .int y :: .int x :: st => pm_go (pc + len) lv (.int (x &&& y) :: st) M cs
    | _ => none)
  | .ior => (match st with
    | .int y :: .int x :: st => pm_go (pc + len) lv (.int (x ||| y) :: st) M cs
    | _ => none)
  | .ishl => (match st with
    | .int y :: .int x :: st => pm_go (pc + len) lv (.int (x <<< (y &&& 31)) :: st) M cs
    | _ => none)
  | .ishr => (match st with
    | .int y :: .int x :: st => pm_go (pc + len) lv (.int (x >>> (y &&& 31)) :: st) M cs
    | _ => none)
  | .ladd => (match st with
    | .long y :: .long x :: st => pm_go (pc + len) lv (.long (x + y) :: st) M cs
    | _ => none)
  | .lsub => (match st with
    | .long y :: .long x :: st => pm_go (pc + len) lv (.long (x - y) :: st) M cs
    | _ => none)
  | .lmul => (match st with
    | .long y :: .long x :: st => pm_go (pc + len) lv (.long (x * y) :: st) M cs
    | _ => none)
  | .ldiv => (match st with
    | .long y :: .long x :: st => if y = 0 then none else pm_go (pc + len) lv (.long (x / y) :: st) M cs
    | _ => none)
  | .land => (match st with
    | .long y :: .long x :: st => pm_go (pc + len) lv (.long (x &&& y) :: st) M cs
    | _ => none)
  | .lor => (match st with
    | .long y :: .long x :: st => pm_go (pc + len) lv (.long (x ||| y) :: st) M cs
    | _ => none)
  | .lshl => (match st with
    | .int y :: .long x :: st => pm_go (pc + len) lv (.long (x <<< (y.toInt64 &&& 63)) :: st) M cs
    | _ => none)
  | .lshr => (match st with
    | .int y :: .long x :: st => pm_go (pc + len) lv (.long (x >>> (y.toInt64 &&& 63)) :: st) M cs
    | _ => none)
  | .lcmp => (match st with
    | .long y :: .long x :: st => pm_go (pc + len) lv (.int (lg_cmp x y) :: st) M cs
    | _ => none)
  | .i2l => (match st with
    | .int x :: st => pm_go (pc + len) lv (.long x.toInt64 :: st) M cs
    | _ => none)
  | .l2i => (match st with
    | .long x :: st => pm_go (pc + len) lv (.int x.toInt32 :: st) M cs
    | _ => none)
  | .i2c => (match st with
    | .int x :: st => pm_go (pc + len) lv (.int (x.toUInt32 % 65536).toInt32 :: st) M cs
    | _ => none)
  | .dup => (match st with
    | .int x :: st => pm_go (pc + len) lv (.int x :: .int x :: st) M cs
    | .ref x :: st => pm_go (pc + len) lv (.ref x :: .ref x :: st) M cs
    | _ => none)
  | .dup2 => (match st with
    | .int y :: .ref x :: st => pm_go (pc + len) lv (.int y :: .ref x :: .int y :: .ref x :: st) M cs
    | _ => none)
  | .pop => (match st with
    | .int _ :: st => pm_go (pc + len) lv st M cs
    | _ => none)
  | .goto off => (match pm_tgt pc off with
    | some t => pm_go t lv st M cs
    | none => none)
  | .ifCond c off => (match st, pm_tgt pc off with
    | .int x :: st, some t => if pm_cnd c x 0 = true then pm_go t lv st M cs else pm_go (pc + len) lv st M cs
    | _, _ => none)
  | .if_icmp c off => (match st, pm_tgt pc off with
    | .int y :: .int x :: st, some t => if pm_cnd c x y = true then pm_go t lv st M cs else pm_go (pc + len) lv st M cs
    | _, _ => none)
  | .tableswitch d lo hi offs => (match st with
    | .int x :: st => if x.toInt < lo ∨ hi < x.toInt then (match pm_tgt pc d with
        | some t => pm_go t lv st M cs
        | none => none)
      else (match offs[(x.toInt - lo).toNat]? with
        | some off => (match pm_tgt pc off with
          | some t => pm_go t lv st M cs
          | none => none)
        | none => none)
    | _ => none)
  | _ => none
/-- the lengths of instructions -/
def pm_len (i : Instr) (len : Nat) : Bool := match i with
  | .iload _ => len == 2
  | .lload _ => len == 2
  | .aload _ => len == 2
  | .istore _ => len == 2
  | .lstore _ => len == 2
  | .astore _ => len == 2
  | .bipush _ => len == 2
  | .ldc _ => len == 2
  | .newarray _ => len == 2
  | .sipush _ => len == 3
  | .iinc _ _ => len == 3
  | .goto _ => len == 3
  | .ifCond _ _ => len == 3
  | .if_icmp _ _ => len == 3
  | .getfield _ => len == 3
  | .putfield _ => len == 3
  | .getstatic _ => len == 3
  | .new _ => len == 3
  | .anewarray _ => len == 3
  | .invokevirtual _ => len == 3
  | .invokestatic _ => len == 3
  | .invokespecial _ => len == 3
  | .ldc_w _ => len == 3
  | .ldc2_w _ => len == 3
  | .multianewarray _ _ => len == 4
  | .tableswitch _ _ _ _ => true
  | _ => len == 1
def pm_step (X : Nat × (Nat → Int32)) (E : pm_E) (i : Instr) (len : Nat) (S : pm_S) : Option pm_O :=
  if pm_len i len = true then (match pm_step2 E i len S.1 S.2.1 S.2.2.1 S.2.2.2.1 S.2.2.2.2 with
  | some o => some o
  | none => pm_step3 X E i len S.1 S.2.1 S.2.2.1 S.2.2.2.1 S.2.2.2.2) else none
/-- may E call E' here, with these values left on the stack? -/
def pm_ok (E E' : pm_E) (as rest : List Value) (cs : Nat × Nat) : Bool := decide ((pm_flat as).length ≤ E'.2.2.1) && decide (E'.2.2.2.2.2.1 + 1 ≤ E.2.2.2.2.2.1) && decide (cs.1 + E'.2.2.2.2.2.2.1 ≤ E.2.2.2.2.2.2.1) && decide (cs.2 + E'.2.2.2.2.2.2.2.1 ≤ E.2.2.2.2.2.2.2.1) && decide ((rest.map Value.category).sum ≤ 8)
def pm_run (X : Nat × (Nat → Int32)) : Nat → Nat → pm_S → Option (Option Value × pm_M)
  | 0, _, _ => none
  | f + 1, k, S => match pm_mt k with
    | none => none
    | some E => match decode E.2.1 S.1 with
      | .ok (i, len) => (match pm_step X E i len S with
        | none => none
        | some (.inl S') => pm_run X f k (pm_nx E S')
        | some (.inr (.inl v)) => if S.2.2.2.2.1 ≤ E.2.2.2.2.2.2.1 ∧ S.2.2.2.2.2 ≤ E.2.2.2.2.2.2.2.1 then some (v, S.2.2.2.1) else none
        | some (.inr (.inr (k', as, rest))) => match pm_mt k' with
          | none => none
          | some E' => if pm_ok E E' as rest S.2.2.2.2 = true then (match pm_run X f k' (0, pm_ent as E'.2.2.1, [], S.2.2.2.1, 0, 0) with
              | none => none
              | some (v, M') => pm_run X f k (pm_nx E (S.1 + len, S.2.1, v.toList ++ rest, M', S.2.2.2.2.1 + E'.2.2.2.2.2.2.1, S.2.2.2.2.2 + E'.2.2.2.2.2.2.2.1))) else none)
      | _ => none
