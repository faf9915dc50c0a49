/-! X: A SMALL MACHINE OVER NAMED CELLS. Its memory: (cells so far, slots so far), of each cell its shape (a class's number, or an array's kind, and its length), what ints, longs and references it holds; 0 stands for null. -/
abbrev XM : Type := (Nat × Nat) × (Nat → Nat × Nat) × (Nat → Nat → Int32) × (Nat → Nat → Int64) × (Nat → Nat → Nat)
/-- an instruction, the place behind it, and two numbers (where it jumps; which field; which method ..) -/
abbrev XI : Type := Instr × Nat × Nat × Nat
/-- a method: name, bytes, locals, what it returns, (frames, locals' words that its calls need), its class's number, its rows -/
abbrev XMe : Type := MethodName × ByteArray × Nat × Option FieldType × (Nat × Nat) × Nat × (Nat → Option XI)
abbrev XL : Type := List (Option Value)
/-- what an instruction does: goes on, calls, returns -/
abbrev XR : Type := (Nat × XL × List Value × XM) ⊕ (Nat × List Value × List Value) ⊕ Option Value
def xnth {α : Type} : List α → Nat → Option α
  | [], _ => none
  | a :: _, 0 => some a
  | _ :: l, n + 1 => xnth l n
def xset {α : Type} : List α → Nat → α → List α
  | [], _, _ => []
  | _ :: l, 0, v => v :: l
  | a :: l, n + 1, v => a :: xset l n v
def xrow {α : Type} (f : Nat → Nat → α) (a : Nat) (g : Nat → α) : Nat → Nat → α := fun b => if b = a then g else f b
def xone {α : Type} (f : Nat → α) (i : Nat) (x : α) : Nat → α := fun j => if j = i then x else f j
def xup {α : Type} (f : Nat → Nat → α) (a i : Nat) (x : α) : Nat → Nat → α := xrow f a (xone (f a) i x)
theorem xrow_s {α : Type} (f : Nat → Nat → α) (a : Nat) (g : Nat → α) : xrow f a g a = g := if_pos rfl
theorem xrow_n {α : Type} (f : Nat → Nat → α) {a b : Nat} (g : Nat → α) (h : b ≠ a) : xrow f a g b = f b := if_neg h
theorem xone_s {α : Type} (f : Nat → α) (i : Nat) (x : α) : xone f i x i = x := if_pos rfl
theorem xone_n {α : Type} (f : Nat → α) {i j : Nat} (x : α) (h : j ≠ i) : xone f i x j = f j := if_neg h
theorem xup_s {α : Type} (f : Nat → Nat → α) (a i : Nat) (x : α) : xup f a i x a = xone (f a) i x := if_pos rfl
theorem xup_n {α : Type} (f : Nat → Nat → α) {a b : Nat} (i : Nat) (x : α) (h : b ≠ a) : xup f a i x b = f b := if_neg h
def xmI (M : XM) (a i : Nat) (x : Int32) : XM := (M.1, M.2.1, xup M.2.2.1 a i x, M.2.2.2.1, M.2.2.2.2)
def xmL (M : XM) (a i : Nat) (x : Int64) : XM := (M.1, M.2.1, M.2.2.1, xup M.2.2.2.1 a i x, M.2.2.2.2)
def xmR (M : XM) (a i : Nat) (x : Nat) : XM := (M.1, M.2.1, M.2.2.1, M.2.2.2.1, xup M.2.2.2.2 a i x)
/-- a new cell of shape (t, n) with w slots, all zero -/
def xnew (M : XM) (t n w : Nat) : XM := ((M.1.1 + 1, M.1.2 + w), (fun b => if b = M.1.1 then (t, n) else M.2.1 b), xrow M.2.2.1 M.1.1 (fun _ => 0), xrow M.2.2.2.1 M.1.1 (fun _ => 0), xrow M.2.2.2.2 M.1.1 (fun _ => 0))
/-- new int[n][k] -/
def xmulti (M : XM) (n k : Nat) : XM := ((M.1.1 + 1 + n, M.1.2 + n + n * k), (fun b => if b = M.1.1 then (44, n) else if M.1.1 ≤ b ∧ b ≤ M.1.1 + n then (40, k) else M.2.1 b), (fun b => if M.1.1 ≤ b ∧ b ≤ M.1.1 + n then fun _ => 0 else M.2.2.1 b), (fun b => if M.1.1 ≤ b ∧ b ≤ M.1.1 + n then fun _ => 0 else M.2.2.2.1 b), (fun b => if b = M.1.1 then (fun i => if i < n then M.1.1 + 1 + i else 0) else if M.1.1 ≤ b ∧ b ≤ M.1.1 + n then fun _ => 0 else M.2.2.2.2 b))
/-- System.arraycopy of ints -/
def xcopy (M : XM) (so si to ti n : Nat) : XM := (M.1, M.2.1, xrow M.2.2.1 to (va_cpy (M.2.2.1 so) (M.2.2.1 to) si ti n), M.2.2.2.1, M.2.2.2.2)
def xgo (pc : Nat) (ls : XL) (st : List Value) (M : XM) : Option XR := some (.inl (pc, ls, st, M))
def xif (q : Prop) [Decidable q] (t f : Nat) (ls : XL) (st : List Value) (M : XM) : Option XR := if q then xgo t ls st M else xgo f ls st M
/-- the locals with which a method begins -/
def xlocs : List Value → XL
  | [] => []
  | .long x :: r => some (.long x) :: none :: xlocs r
  | .double x :: r => some (.double x) :: none :: xlocs r
  | v :: r => some v :: xlocs r
def xent (n : Nat) (vs : List Value) : XL := xlocs vs ++ List.replicate (n - (xlocs vs).length) none
/-- n entries off the stack, in the order in which they were pushed -/
def xpop : Nat → List Value → List Value → Option (List Value × List Value)
  | 0, acc, st => some (acc, st)
  | n + 1, acc, v :: st => xpop n (v :: acc) st
  | _ + 1, _, [] => none
def xcat (st : List Value) : Nat := (st.map fun v => v.category).sum
def xdoCall (G : Nat → XMe) (ν n : Nat) (st : List Value) : Option XR := match xpop n [] st with
  | some (as, rest) => if xcat rest ≤ 8 ∧ (xlocs as).length ≤ (G ν).2.2.1 then some (.inr (.inl (ν, as, rest))) else none
  | none => none
def xtab (pc : Nat) (d lo hi : Int) (offs : Array Int) (x : Int32) : Option Nat :=
  if x.toInt < lo ∨ hi < x.toInt then (if 0 ≤ (pc : Int) + d then some ((pc : Int) + d).toNat else none)
  else match offs[(x.toInt - lo).toNat]? with
    | some o => if 0 ≤ (pc : Int) + o then some ((pc : Int) + o).toNat else none
    | none => none
def xins (G : Nat → XMe) (μ pc : Nat) (e : XI) (ls : XL) (st : List Value) (M : XM) : Option XR :=
  match e with
  | (ins, npc, a, b) => match ins with
  | .iconst i => xgo npc ls (.int (Int32.ofInt i) :: st) M
  | .bipush i => xgo npc ls (.int (Int8.ofInt i).toInt32 :: st) M
  | .sipush i => xgo npc ls (.int (Int16.ofInt i).toInt32 :: st) M
  | .lconst i => xgo npc ls (.long (Int64.ofNat (i : Nat)) :: st) M
  | .ldc _ => if a = 0 then xgo npc ls (.int (Int32.ofNat b) :: st) M else if 1 ≤ b ∧ b < 16 then xgo npc ls (.ref b :: st) M else none
  | .ldc_w _ => xgo npc ls (.int (Int32.ofNat b) :: st) M
  | .ldc2_w _ => xgo npc ls (.long (Int64.ofNat b) :: st) M
  | .getstatic _ => if a = 0 then xgo npc ls (.int (Int32.ofNat b) :: st) M else if 1 ≤ b ∧ b < 16 then xgo npc ls (.ref b :: st) M else none
  | .iload i => (match xnth ls i with
    | some (some (.int x)) => xgo npc ls (.int x :: st) M
    | _ => none)
  | .iload_n i => (match xnth ls (i : Nat) with
    | some (some (.int x)) => xgo npc ls (.int x :: st) M
    | _ => none)
  | .lload i => (match xnth ls i, xnth ls (i + 1) with
    | some (some (.long x)), some none => xgo npc ls (.long x :: st) M
    | _, _ => none)
  | .lload_n i => (match xnth ls (i : Nat), xnth ls ((i : Nat) + 1) with
    | some (some (.long x)), some none => xgo npc ls (.long x :: st) M
    | _, _ => none)
  | .aload i => (match xnth ls i with
    | some (some (.ref x)) => xgo npc ls (.ref x :: st) M
    | _ => none)
  | .aload_n i => (match xnth ls (i : Nat) with
    | some (some (.ref x)) => xgo npc ls (.ref x :: st) M
    | _ => none)
  | .istore i => (match st with
    | .int x :: r => if i < ls.length then xgo npc (xset ls i (some (.int x))) r M else none
    | _ => none)
  | .istore_n i => (match st with
    | .int x :: r => if (i : Nat) < ls.length then xgo npc (xset ls (i : Nat) (some (.int x))) r M else none
    | _ => none)
  | .astore i => (match st with
    | .ref x :: r => if i < ls.length then xgo npc (xset ls i (some (.ref x))) r M else none
    | _ => none)
  | .astore_n i => (match st with
    | .ref x :: r => if (i : Nat) < ls.length then xgo npc (xset ls (i : Nat) (some (.ref x))) r M else none
    | _ => none)
  | .lstore i => (match st with
    | .long x :: r => if i + 1 < ls.length then xgo npc (xset (xset ls i (some (.long x))) (i + 1) none) r M else none
    | _ => none)
  | .lstore_n i => (match st with
    | .long x :: r => if (i : Nat) + 1 < ls.length then xgo npc (xset (xset ls (i : Nat) (some (.long x))) ((i : Nat) + 1) none) r M else none
    | _ => none)
  | .iinc i k => (match xnth ls i with
    | some (some (.int x)) => xgo npc (xset ls i (some (.int (x + Int32.ofInt k)))) st M
    | _ => none)
  | .iadd => (match st with
    | .int y :: .int x :: r => xgo npc ls (.int (x + y) :: r) M
    | _ => none)
  | .isub => (match st with
    | .int y :: .int x :: r => xgo npc ls (.int (x - y) :: r) M
    | _ => none)
  | .imul => (match st with
    | .int y :: .int x :: r => xgo npc ls (.int (x * y) :: r) M
    | _ => none)
  | .iand => (match st with
    | .int y :: .int x :: r => xgo npc ls (.int (x &&& y) :: r) M
    | _ => none)
  | .ior => (match st with
    | .int y :: .int x :: r => xgo npc ls (.int (x ||| y) :: r) M
    | _ => none)
  | .ixor => (match st with
    | .int y :: .int x :: r => xgo npc ls (.int (x ^^^ y) :: r) M
    | _ => none)
  | .ishl => (match st with
    | .int y :: .int x :: r => xgo npc ls (.int (x <<< (y &&& 31)) :: r) M
    | _ => none)
  | .ishr => (match st with
    | .int y :: .int x :: r => xgo npc ls (.int (x >>> (y &&& 31)) :: r) M
    | _ => none)
  | .iushr => (match st with
    | .int y :: .int x :: r => xgo npc ls (.int (x.toUInt32 >>> (y.toUInt32 &&& Int32.toUInt32 31)).toInt32 :: r) M
    | _ => none)
  | .idiv => (match st with
    | .int y :: .int x :: r => if y = 0 then none else xgo npc ls (.int (x / y) :: r) M
    | _ => none)
  | .irem => (match st with
    | .int y :: .int x :: r => if y = 0 then none else xgo npc ls (.int (x - x / y * y) :: r) M
    | _ => none)
  | .ineg => (match st with
    | .int x :: r => xgo npc ls (.int (-x) :: r) M
    | _ => none)
  | .ladd => (match st with
    | .long y :: .long x :: r => xgo npc ls (.long (x + y) :: r) M
    | _ => none)
  | .lmul => (match st with
    | .long y :: .long x :: r => xgo npc ls (.long (x * y) :: r) M
    | _ => none)
  | .lcmp => (match st with
    | .long y :: .long x :: r => xgo npc ls (.int (lg_cmp x y) :: r) M
    | _ => none)
  | .i2l => (match st with
    | .int x :: r => xgo npc ls (.long x.toInt64 :: r) M
    | _ => none)
  | .i2b => (match st with
    | .int x :: r => xgo npc ls (.int x.toInt8.toInt32 :: r) M
    | _ => none)
  | .i2c => (match st with
    | .int x :: r => xgo npc ls (.int (x.toUInt32 % 65536).toInt32 :: r) M
    | _ => none)
  | .dup => (match st with
    | .int x :: r => xgo npc ls (.int x :: .int x :: r) M
    | .ref x :: r => xgo npc ls (.ref x :: .ref x :: r) M
    | _ => none)
  | .pop => (match st with
    | .int _ :: r => xgo npc ls r M
    | _ => none)
  | .dup2 => (match st with
    | .int x :: .ref y :: r => xgo npc ls (.int x :: .ref y :: .int x :: .ref y :: r) M
    | _ => none)
  | .goto _ => xgo a ls st M
  | .if_icmp k _ => (match st with
    | .int y :: .int x :: r => (match k with
      | .eq => xif (x = y) a npc ls r M
      | .ne => xif (¬ x = y) a npc ls r M
      | .lt => xif (x < y) a npc ls r M
      | .ge => xif (y ≤ x) a npc ls r M
      | .gt => xif (y < x) a npc ls r M
      | .le => xif (x ≤ y) a npc ls r M)
    | _ => none)
  | .ifCond k _ => (match st with
    | .int x :: r => (match k with
      | .eq => xif (x = 0) a npc ls r M
      | .ne => xif (¬ x = 0) a npc ls r M
      | .lt => xif (x < 0) a npc ls r M
      | .ge => xif (0 ≤ x) a npc ls r M
      | .gt => xif (0 < x) a npc ls r M
      | .le => xif (x ≤ 0) a npc ls r M)
    | _ => none)
  | .ifnull _ => (match st with
    | .ref x :: r => if 9 ≤ x ∧ x < 16 then none else xif (x = 0) a npc ls r M
    | _ => none)
  | .ifnonnull _ => (match st with
    | .ref x :: r => if 9 ≤ x ∧ x < 16 then none else xif (x = 0) npc a ls r M
    | _ => none)
  | .tableswitch d lo hi offs => (match st with
    | .int x :: r => (match xtab pc d lo hi offs x with
      | some t => xgo t ls r M
      | none => none)
    | _ => none)
  | .getfield _ => (match st with
    | .ref o :: r => if (M.2.1 o).1 = a then (match b % 4 with
        | 0 => xgo npc ls (.int (M.2.2.1 o (b / 4)) :: r) M
        | 1 => xgo npc ls (.long (M.2.2.2.1 o (b / 4)) :: r) M
        | 2 => xgo npc ls (.ref (M.2.2.2.2 o (b / 4)) :: r) M
        | _ => xgo npc ls (.int (M.2.2.1 o (b / 4)) :: r) M) else none
    | _ => none)
  | .putfield _ => (match st with
    | .int x :: .ref o :: r => if (M.2.1 o).1 = a ∧ 16 ≤ o then (match b % 4 with
        | 0 => xgo npc ls r (xmI M o (b / 4) x)
        | 3 => if x = 0 ∨ x = 1 then xgo npc ls r (xmI M o (b / 4) x) else none
        | _ => none) else none
    | .long x :: .ref o :: r => if (M.2.1 o).1 = a ∧ 16 ≤ o then (match b % 4 with
        | 1 => xgo npc ls r (xmL M o (b / 4) x)
        | _ => none) else none
    | .ref x :: .ref o :: r => if (M.2.1 o).1 = a ∧ 16 ≤ o then (match b % 4 with
        | 2 => xgo npc ls r (xmR M o (b / 4) x)
        | _ => none) else none
    | _ => none)
  | .arraylength => (match st with
    | .ref o :: r => if 40 ≤ (M.2.1 o).1 ∧ (M.2.1 o).1 ≤ 46 then xgo npc ls (.int (nI (M.2.1 o).2) :: r) M else none
    | _ => none)
  | .iaload => (match st with
    | .int i :: .ref o :: r => if (M.2.1 o).1 = 40 ∧ ¬ (i < 0 ∨ (M.2.1 o).2 ≤ i.toNatClampNeg) then xgo npc ls (.int (M.2.2.1 o i.toNatClampNeg) :: r) M else none
    | _ => none)
  | .baload => (match st with
    | .int i :: .ref o :: r => if ((M.2.1 o).1 = 41 ∨ (M.2.1 o).1 = 42) ∧ ¬ (i < 0 ∨ (M.2.1 o).2 ≤ i.toNatClampNeg) then xgo npc ls (.int (M.2.2.1 o i.toNatClampNeg) :: r) M else none
    | _ => none)
  | .laload => (match st with
    | .int i :: .ref o :: r => if (M.2.1 o).1 = 43 ∧ ¬ (i < 0 ∨ (M.2.1 o).2 ≤ i.toNatClampNeg) then xgo npc ls (.long (M.2.2.2.1 o i.toNatClampNeg) :: r) M else none
    | _ => none)
  | .aaload => (match st with
    | .int i :: .ref o :: r => if (44 ≤ (M.2.1 o).1 ∧ (M.2.1 o).1 ≤ 46) ∧ ¬ (i < 0 ∨ (M.2.1 o).2 ≤ i.toNatClampNeg) then xgo npc ls (.ref (M.2.2.2.2 o i.toNatClampNeg) :: r) M else none
    | _ => none)
  | .iastore => (match st with
    | .int x :: .int i :: .ref o :: r => if ((M.2.1 o).1 = 40 ∧ 16 ≤ o) ∧ ¬ (i < 0 ∨ (M.2.1 o).2 ≤ i.toNatClampNeg) then xgo npc ls r (xmI M o i.toNatClampNeg x) else none
    | _ => none)
  | .bastore => (match st with
    | .int x :: .int i :: .ref o :: r => if ((M.2.1 o).1 = 41 ∧ 16 ≤ o) ∧ ¬ (i < 0 ∨ (M.2.1 o).2 ≤ i.toNatClampNeg) then xgo npc ls r (xmI M o i.toNatClampNeg (vp_nar .byte x))
        else if ((M.2.1 o).1 = 42 ∧ 16 ≤ o) ∧ ¬ (i < 0 ∨ (M.2.1 o).2 ≤ i.toNatClampNeg) then xgo npc ls r (xmI M o i.toNatClampNeg (vp_nar .boolean x)) else none
    | _ => none)
  | .lastore => (match st with
    | .long x :: .int i :: .ref o :: r => if ((M.2.1 o).1 = 43 ∧ 16 ≤ o) ∧ ¬ (i < 0 ∨ (M.2.1 o).2 ≤ i.toNatClampNeg) then xgo npc ls r (xmL M o i.toNatClampNeg x) else none
    | _ => none)
  | .aastore => (match st with
    | .ref x :: .int i :: .ref o :: r => if (((M.2.1 o).1 = 45 ∧ (M.2.1 x).1 = 5 ∨ (M.2.1 o).1 = 46 ∧ (M.2.1 x).1 = 3) ∧ 16 ≤ o ∧ 16 ≤ x) ∧ ¬ (i < 0 ∨ (M.2.1 o).2 ≤ i.toNatClampNeg) then xgo npc ls r (xmR M o i.toNatClampNeg x) else none
    | _ => none)
  | .newarray _ => (match st with
    | .int n :: r => if ¬ n < 0 ∧ n.toNatClampNeg ≤ 10000 then xgo npc ls (.ref M.1.1 :: r) (xnew M a n.toNatClampNeg n.toNatClampNeg) else none
    | _ => none)
  | .anewarray _ => (match st with
    | .int n :: r => if ¬ n < 0 ∧ n.toNatClampNeg ≤ 10000 then xgo npc ls (.ref M.1.1 :: r) (xnew M a n.toNatClampNeg n.toNatClampNeg) else none
    | _ => none)
  | .multianewarray _ _ => (match st with
    | .int k :: .int n :: r => if (¬ n < 0 ∧ n.toNatClampNeg ≤ 10000) ∧ ¬ k < 0 ∧ k.toNatClampNeg ≤ 10000 then xgo npc ls (.ref M.1.1 :: r) (xmulti M n.toNatClampNeg k.toNatClampNeg) else none
    | _ => none)
  | .new _ => xgo npc ls (.ref M.1.1 :: st) (xnew M a 0 b)
  | .invokespecial _ => if a = 0 then (match st with
      | [.ref o] => if (M.2.1 o).1 < 31 ∧ 16 ≤ o then xgo npc ls [] M else none
      | _ => none) else (match xpop b [] st with
      | some (.ref o :: _, _) => if (M.2.1 o).1 = (G a).2.2.2.2.2.1 ∧ 16 ≤ o then xdoCall G a b st else none
      | _ => none)
  | .invokevirtual _ => (match xpop b [] st with
      | some (.ref o :: _, _) => if (M.2.1 o).1 = (G a).2.2.2.2.2.1 then xdoCall G a b st else none
      | _ => none)
  | .invokestatic _ => if a < 996 then xdoCall G a b st else if a = 999 then (match st with
      | .int n :: .int ti :: .ref to :: .int si :: .ref so :: r => if ((M.2.1 so).1 = 40 ∧ (M.2.1 to).1 = 40 ∧ 16 ≤ to ∧ 16 ≤ so) ∧ (¬ si < 0 ∧ ¬ ti < 0 ∧ ¬ n < 0) ∧ si.toNatClampNeg + n.toNatClampNeg ≤ (M.2.1 so).2 ∧ ti.toNatClampNeg + n.toNatClampNeg ≤ (M.2.1 to).2 ∧ xcat r ≤ 8 then xgo npc ls r (xcopy M so si.toNatClampNeg to ti.toNatClampNeg n.toNatClampNeg) else none
      | _ => none) else if a = 998 then (match st with
      | .int x :: r => if xcat r ≤ 8 then xgo npc ls (.int (if 0 ≤ x then x else 0 - x) :: r) M else none
      | _ => none) else if a = 997 then (match st with
      | .int y :: .int x :: r => if xcat r ≤ 8 then xgo npc ls (.int (if y < x then y else x) :: r) M else none
      | _ => none) else if a = 996 then (match st with
      | .int y :: .int x :: r => if xcat r ≤ 8 then xgo npc ls (.int (if x < y then y else x) :: r) M else none
      | _ => none) else none
  | .ireturn => (match st with
    | [.int x] => (match (G μ).2.2.2.1 with
      | some .int => some (.inr (.inr (some (.int x))))
      | some .boolean => if x = 0 ∨ x = 1 then some (.inr (.inr (some (.int x)))) else none
      | some .byte => if narrow .byte (.int x) = .int x then some (.inr (.inr (some (.int x)))) else none
      | some .char => if narrow .char (.int x) = .int x then some (.inr (.inr (some (.int x)))) else none
      | _ => none)
    | _ => none)
  | .lreturn => (match st with
    | [.long x] => (match (G μ).2.2.2.1 with
      | some .long => some (.inr (.inr (some (.long x))))
      | _ => none)
    | _ => none)
  | .return_ => (match st with
    | [] => (match (G μ).2.2.2.1 with
      | none => some (.inr (.inr none))
      | _ => none)
    | _ => none)
  | _ => none
def xr (G : Nat → XMe) : Nat → Nat → Nat → XL → List Value → XM → Option (Option Value × XM)
  | 0, _, _, _, _, _ => none
  | n + 1, μ, pc, ls, st, M => match (G μ).2.2.2.2.2.2 pc with
    | none => none
    | some e => match xins G μ pc e ls st M with
      | some (.inl (pc', ls', st', M')) => xr G n μ pc' ls' st' M'
      | some (.inr (.inl (ν, as, rest))) => (match xr G n ν 0 (xent (G ν).2.2.1 as) [] M with
        | some (v, M') => xr G n μ e.2.1 ls (v.toList ++ rest) M'
        | none => none)
      | some (.inr (.inr v)) => some (v, M)
      | none => none
theorem xr_mono (G : Nat → XMe) : ∀ (n μ pc : Nat) (ls : XL) (st : List Value) (M : XM) (r : Option Value × XM), xr G n μ pc ls st M = some r → ∀ k, xr G (n + k) μ pc ls st M = some r
  | 0, _, _, _, _, _, _, h, _ => by simp [xr] at h
  | n + 1, μ, pc, ls, st, M, r, h, k => by
    rw [Nat.succ_add]
    unfold xr at h ⊢
    cases hc : (G μ).2.2.2.2.2.2 pc with
    | none => rw [hc] at h; exact h
    | some e =>
      rw [hc] at h
      dsimp only at h ⊢
      cases hi : xins G μ pc e ls st M with
      | none => rw [hi] at h; exact h
      | some w =>
        rw [hi] at h
        rcases w with ⟨pc', ls', st', M'⟩ | ⟨ν, as, rest⟩ | v
        · exact xr_mono G n _ _ _ _ _ _ h k
        · dsimp only at h ⊢
          cases hx : xr G n ν 0 (xent (G ν).2.2.1 as) [] M with
          | none => rw [hx] at h; cases h
          | some q =>
            rw [hx] at h
            rw [xr_mono G n _ _ _ _ _ _ hx k]
            obtain ⟨v, M'⟩ := q
            exact xr_mono G n _ _ _ _ _ _ h k
        · exact h
/-- from here the method comes to its end, with Q of its answer and of the memory -/
def RG (G : Nat → XMe) (μ pc : Nat) (ls : XL) (st : List Value) (M : XM) (Q : Option Value → XM → Prop) : Prop := ∃ (n : Nat) (v : Option Value) (M' : XM), xr G n μ pc ls st M = some (v, M') ∧ Q v M'
section XRL
variable {G : Nat → XMe} {μ pc : Nat} {e : XI} {ls : XL} {st : List Value} {M : XM} {Q : Option Value → XM → Prop}
theorem RG_go {pc' : Nat} {ls' : XL} {st' : List Value} {M' : XM} (he : (G μ).2.2.2.2.2.2 pc = some e) (hs : xins G μ pc e ls st M = some (.inl (pc', ls', st', M'))) : RG G μ pc ls st M Q = RG G μ pc' ls' st' M' Q := by
  apply propext
  constructor
  · rintro ⟨n, v, N, h, q⟩
    cases n with
    | zero => simp [xr] at h
    | succ n =>
      unfold xr at h
      rw [he] at h
      dsimp only at h
      rw [hs] at h
      exact ⟨n, v, N, h, q⟩
  · rintro ⟨n, v, N, h, q⟩
    refine ⟨n + 1, v, N, ?_, q⟩
    unfold xr
    rw [he]
    dsimp only
    rw [hs]
    exact h
theorem RG_ret {v : Option Value} (he : (G μ).2.2.2.2.2.2 pc = some e) (hs : xins G μ pc e ls st M = some (.inr (.inr v))) : RG G μ pc ls st M Q = Q v M := by
  apply propext
  constructor
  · rintro ⟨n, w, N, h, q⟩
    cases n with
    | zero => simp [xr] at h
    | succ n =>
      unfold xr at h
      rw [he] at h
      dsimp only at h
      rw [hs] at h
      cases h
      exact q
  · intro q
    refine ⟨1, v, M, ?_, q⟩
    unfold xr
    rw [he]
    dsimp only
    rw [hs]
theorem RG_no (he : (G μ).2.2.2.2.2.2 pc = some e) (hs : xins G μ pc e ls st M = none) : RG G μ pc ls st M Q = False := by
  apply propext
  refine ⟨?_, False.elim⟩
  rintro ⟨n, w, N, h, q⟩
  cases n with
  | zero => simp [xr] at h
  | succ n =>
    unfold xr at h
    rw [he] at h
    dsimp only at h
    rw [hs] at h
    cases h
theorem RG_call {ν : Nat} {as rest : List Value} (he : (G μ).2.2.2.2.2.2 pc = some e) (hs : xins G μ pc e ls st M = some (.inr (.inl (ν, as, rest)))) : RG G μ pc ls st M Q = RG G ν 0 (xent (G ν).2.2.1 as) [] M (fun v M' => RG G μ e.2.1 ls (v.toList ++ rest) M' Q) := by
  apply propext
  constructor
  · rintro ⟨n, w, N, h, q⟩
    cases n with
    | zero => simp [xr] at h
    | succ n =>
      unfold xr at h
      rw [he] at h
      dsimp only at h
      rw [hs] at h
      dsimp only at h
      cases hx : xr G n ν 0 (xent (G ν).2.2.1 as) [] M with
      | none => rw [hx] at h; cases h
      | some k =>
        rw [hx] at h
        obtain ⟨v, M'⟩ := k
        exact ⟨n, v, M', hx, n, w, N, h, q⟩
  · rintro ⟨n, v, M', hx, k, w, N, h, q⟩
    refine ⟨(n + k) + 1, w, N, ?_, q⟩
    unfold xr
    rw [he]
    dsimp only
    rw [hs]
    dsimp only
    rw [xr_mono G _ _ _ _ _ _ _ hx k]
    have h2 := xr_mono G _ _ _ _ _ _ _ h n
    rw [Nat.add_comm k n] at h2
    exact h2
theorem RG_mono {Q' : Option Value → XM → Prop} (h : RG G μ pc ls st M Q) (hq : ∀ v M', Q v M' → Q' v M') : RG G μ pc ls st M Q' := by
  obtain ⟨n, v, N, h, q⟩ := h
  exact ⟨n, v, N, h, hq _ _ q⟩
end XRL
