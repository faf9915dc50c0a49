/-! every instruction that goes on, goes on in the real machine -/
theorem xgo_inj {a : Nat} {b : XL} {c : List Value} {d : XM} {a' : Nat} {b' : XL} {c' : List Value} {d' : XM} (h : xgo a b c d = some (.inl (a', b', c', d'))) : a' = a ∧ b' = b ∧ c' = c ∧ d' = d := by
  unfold xgo at h
  cases h
  exact ⟨rfl, rfl, rfl, rfl⟩
theorem xif_inj {q : Prop} [Decidable q] {t f : Nat} {b : XL} {c : List Value} {d : XM} {a' : Nat} {b' : XL} {c' : List Value} {d' : XM} (h : xif q t f b c d = some (.inl (a', b', c', d'))) : a' = (if q then t else f) ∧ b' = b ∧ c' = c ∧ d' = d := by
  unfold xif at h
  split at h
  · rename_i hq
    obtain ⟨rfl, rfl, rfl, rfl⟩ := xgo_inj h
    exact ⟨(if_pos hq).symm, rfl, rfl, rfl⟩
  · rename_i hq
    obtain ⟨rfl, rfl, rfl, rfl⟩ := xgo_inj h
    exact ⟨(if_neg hq).symm, rfl, rfl, rfl⟩
theorem xdoCall_go (G : Nat → XMe) (ν n : Nat) (st : List Value) {w : Nat × XL × List Value × XM} : ¬ xdoCall G ν n st = some (.inl w) := by
  unfold xdoCall
  split
  · split
    · intro h; cases h
    · intro h; cases h
  · intro h; cases h
/-- which kind of field -/
def xkd (k : Nat) (ty : FieldType) : Prop := (k = 0 → ty = .int) ∧ (k = 1 → ty = .long) ∧ (k = 2 → ty.isReference = true) ∧ (k = 3 → ty = .boolean)
theorem xkd0t {ty : FieldType} (h : xkd 0 ty) : ty = .int := h.1 rfl
theorem xkd0 {ty : FieldType} (h : xkd 0 ty) : xilk ty = true := by rw [h.1 rfl]; rfl
theorem xkd1 {ty : FieldType} (h : xkd 1 ty) : ty = .long := h.2.1 rfl
theorem xkd2 {ty : FieldType} (h : xkd 2 ty) : ty.isReference = true := h.2.2.1 rfl
theorem xkd3t {ty : FieldType} (h : xkd 3 ty) : ty = .boolean := h.2.2.2 rfl
theorem xkd3 {ty : FieldType} (h : xkd 3 ty) : xilk ty = true := by rw [h.2.2.2 rfl]; rfl
theorem xnar_ref {ext : Nat → Value} {B : Nat} (hE : xExt ext) {ty : FieldType} (h : ty.isReference = true) (x : Nat) : narrow ty (xv ext B (.ref x)) = xv ext B (.ref x) := by
  rcases xv_or (B := B) hE x with e | ⟨q, e⟩ <;> rw [e] <;> cases ty <;> first | rfl | (simp [FieldType.isReference] at h)
theorem xfit_ref {ext : Nat → Value} {B : Nat} (hE : xExt ext) {ty : FieldType} (h : ty.isReference = true) (x : Nat) : fits ty (xv ext B (.ref x)) = true := by
  rcases xv_or (B := B) hE x with e | ⟨q, e⟩ <;> rw [e] <;> cases ty <;> first | rfl | (simp [FieldType.isReference] at h)
theorem xnew_z {M : XM} {t n w : Nat} : (xnew M t n w).1.1 = M.1.1 + 1 := rfl
theorem xnew_u {M : XM} {t n w : Nat} : (xnew M t n w).1.2 = M.1.2 + w := rfl
theorem xmulti_z {M : XM} {n k : Nat} : (xmulti M n k).1.1 = M.1.1 + 1 + n := rfl
theorem xmulti_u {M : XM} {n k : Nat} : (xmulti M n k).1.2 = M.1.2 + n + n * k := rfl
def xlen : Instr → Nat
  | .bipush _ | .ldc _ | .iload _ | .lload _ | .aload _ | .istore _ | .lstore _ | .astore _ | .newarray _ => 2
  | .sipush _ | .ldc_w _ | .ldc2_w _ | .iinc _ _ | .if_icmp _ _ | .ifCond _ _ | .goto _ | .ifnull _ | .ifnonnull _ | .getstatic _ | .getfield _ | .putfield _ | .invokevirtual _ | .invokespecial _ | .invokestatic _ | .new _ | .anewarray _ => 3
  | .multianewarray _ _ => 4
  | _ => 1
/-- the row tells the bytes -/
def xDec (g : XMe) (pc : Nat) (e : XI) : Prop := match e.1 with
  | .tableswitch d lo hi offs => ∃ n, decode g.2.1 pc = .ok (.tableswitch d lo hi offs, n)
  | ins => decode g.2.1 pc = .ok (ins, xlen ins) ∧ e.2.1 = pc + xlen ins
/-- a call's words: the callee's code, its room -/
def xCallee (Ts : List Cond) (g h : XMe) (n : Nat) : Prop :=
  Cond.code h.1 h.2.1 h.2.2.1 h.2.2.2.1 ∈ Ts ∧ Cond.initialized h.1.cls ∈ Ts ∧ plainName h.1.cls = true ∧ h.1.cls ≠ "java/lang/invoke/MethodHandle" ∧ h.1.cls ≠ "java/lang/invoke/VarHandle" ∧ (parseMethodDescriptor h.1.desc).map (fun d => d.parameters.length) = some n ∧ h.2.2.2.2.1.1 + 1 ≤ g.2.2.2.2.1.1 ∧ 8 + (h.2.2.1 + 11) + h.2.2.2.2.1.2 ≤ g.2.2.2.2.1.2
def xRecv (cl : List vw_C) (h : XMe) : Prop := (h.2.2.2.2.2.1 = 31 ∧ h.1.cls = "java/lang/String") ∨ (h.2.2.2.2.2.1 < 31 ∧ ∃ r, cl[h.2.2.2.2.2.1]? = some r ∧ r.1 = h.1.cls)
/-- what an instruction's numbers rest on -/
def xLk (G : Nat → XMe) (cl : List vw_C) (fty : Nat → Nat → FieldType) (Ts : List Cond) (SL : List (String × String × String × Nat × Nat)) (TL : List (String × Nat × String × Nat)) (NW : List (String × Nat × MethodName × String)) (g : XMe) (pc : Nat) (e : XI) : Prop := match e with
  | (ins, _, a, b) => match ins with
  | .ldc i => (a = 0 ∧ Cond.constant g.1.cls i (Int32.ofNat b) ∈ Ts) ∨ (a = 1 ∧ ∃ tx, (g.1.cls, i, tx, b) ∈ TL)
  | .ldc_w i => Cond.constant g.1.cls i (Int32.ofNat b) ∈ Ts
  | .ldc2_w i => Cond.constantLong g.1.cls i (Int64.ofNat b) ∈ Ts
  | .getstatic i => ∃ C n d, (C, n, d, a, b) ∈ SL ∧ Cond.fieldLink g.1.cls i C n d ∈ Ts
  | .goto o => (pc : Int) + o = (a : Int)
  | .if_icmp _ o => (pc : Int) + o = (a : Int)
  | .ifCond _ o => (pc : Int) + o = (a : Int)
  | .ifnull o => (pc : Int) + o = (a : Int)
  | .ifnonnull o => (pc : Int) + o = (a : Int)
  | .getfield i => (a = 31 ∧ (b = 2 ∧ Cond.fieldLink g.1.cls i "java/lang/String" "value" "[B" ∈ Ts ∨ b = 4 ∧ Cond.fieldLink g.1.cls i "java/lang/String" "coder" "B" ∈ Ts)) ∨ (a < 31 ∧ ∃ r : vw_C, cl[a]? = some r ∧ b / 4 < r.2.2 ∧ Cond.fieldLink g.1.cls i (r.2.1 (b / 4)).1 (r.2.1 (b / 4)).2.1 (r.2.1 (b / 4)).2.2.1 ∈ Ts ∧ xkd (b % 4) (fty a (b / 4)))
  | .putfield i => a < 31 ∧ ∃ r : vw_C, cl[a]? = some r ∧ b / 4 < r.2.2 ∧ Cond.fieldLink g.1.cls i (r.2.1 (b / 4)).1 (r.2.1 (b / 4)).2.1 (r.2.1 (b / 4)).2.2.1 ∈ Ts ∧ xkd (b % 4) (fty a (b / 4)) ∧ ((r.2.1 (b / 4)).2.2.2 = false ∨ (g.1.name = "<init>" ∧ (r.2.1 (b / 4)).1 = g.1.cls))
  | .new i => a < 31 ∧ (∀ k, xokt (fty a k) = true) ∧ ∃ r : vw_C, cl[a]? = some r ∧ Cond.classLink g.1.cls i r.1 ∈ Ts ∧ Cond.instantiable r.1 b ∈ Ts ∧ Cond.initialized r.1 ∈ Ts
  | .newarray t => 40 ≤ a ∧ a ≤ 43 ∧ newarray.typeOf t = xaty a ∧ Cond.arrayClass (xaty a) ∈ Ts
  | .anewarray i => (a = 45 ∧ Cond.classLink g.1.cls i "HopeDrawer$Office" ∈ Ts) ∨ (a = 46 ∧ Cond.classLink g.1.cls i "HopeDrawer$Law" ∈ Ts)
  | .multianewarray i d => d = 2 ∧ Cond.classLink g.1.cls i "[[I" ∈ Ts ∧ Cond.arrayClass .int ∈ Ts
  | .invokespecial i => (a = 0 → Cond.methodLink g.1.cls i Lib.objectInit ∈ Ts ∧ Cond.instanceMethod Lib.objectInit ∈ Ts ∧ Cond.code Lib.objectInit ⟨#[0xb1]⟩ 1 none ∈ Ts ∧ 1 ≤ g.2.2.2.2.1.1 ∧ 20 ≤ g.2.2.2.2.1.2) ∧ (a ≠ 0 → xCallee Ts g (G a) (b - 1) ∧ (G a).1.name = "<init>" ∧ (G a).2.2.2.1 = none ∧ Cond.instanceMethod (G a).1 ∈ Ts ∧ (Cond.methodLink g.1.cls i (G a).1 ∈ Ts ∨ ∃ host, (g.1.cls, i, (G a).1, host) ∈ NW) ∧ 1 ≤ b)
  | .invokevirtual i => xCallee Ts g (G a) (b - 1) ∧ Cond.methodLink g.1.cls i (G a).1 ∈ Ts ∧ Cond.instanceMethod (G a).1 ∈ Ts ∧ Cond.selects (G a).1.cls (G a).1 (G a).1 ∈ Ts ∧ xRecv cl (G a) ∧ 1 ≤ b
  | .invokestatic i => (a < 996 → xCallee Ts g (G a) b ∧ Cond.methodLink g.1.cls i (G a).1 ∈ Ts ∧ Cond.static (G a).1 ∈ Ts) ∧ (a = 999 → Cond.methodLink g.1.cls i arraycopyName ∈ Ts ∧ Cond.native arraycopyName ∈ Ts ∧ Cond.static arraycopyName ∈ Ts ∧ Cond.initialized "java/lang/System" ∈ Ts ∧ 1 ≤ g.2.2.2.2.1.1 ∧ 40 ≤ g.2.2.2.2.1.2) ∧ (a = 998 → Cond.methodLink g.1.cls i Lib.Math.abs.name ∈ Ts ∧ Cond.static Lib.Math.abs.name ∈ Ts ∧ Cond.initialized "java/lang/Math" ∈ Ts ∧ Cond.code Lib.Math.abs.name Lib.Math.abs.code 1 (some .int) ∈ Ts ∧ 1 ≤ g.2.2.2.2.1.1 ∧ 40 ≤ g.2.2.2.2.1.2) ∧ (a = 997 → Cond.methodLink g.1.cls i Lib.Math.min.name ∈ Ts ∧ Cond.static Lib.Math.min.name ∈ Ts ∧ Cond.initialized "java/lang/Math" ∈ Ts ∧ Cond.code Lib.Math.min.name Lib.Math.min.code 2 (some .int) ∈ Ts ∧ 1 ≤ g.2.2.2.2.1.1 ∧ 40 ≤ g.2.2.2.2.1.2) ∧ (a = 996 → Cond.methodLink g.1.cls i Lib.Math.max.name ∈ Ts ∧ Cond.static Lib.Math.max.name ∈ Ts ∧ Cond.initialized "java/lang/Math" ∈ Ts ∧ Cond.code Lib.Math.max.name Lib.Math.max.code 2 (some .int) ∈ Ts ∧ 1 ≤ g.2.2.2.2.1.1 ∧ 40 ≤ g.2.2.2.2.1.2)
  | _ => True
section XGO
variable {p : Program} {l : Launch} {e : Env} {R : Room} {s : State} {m : MethodId} {args : Array Value} {below : List Frame} {meth : Method} {c : Code} {Q : State → Prop} {ext : Nat → Value} {B : Nat} {D : va_G} {cl : List vw_C} {fty : Nat → Nat → FieldType} {cells slots : Nat} {Ts : List Cond} {SL : List (String × String × String × Nat × Nat)} {TL : List (String × Nat × String × Nat)} {NW : List (String × Nat × MethodName × String)} {G : Nat → XMe} {μ : Nat}
set_option maxHeartbeats 4000000 in
theorem x_go (hE : xExt ext) (hC : xCls cl fty Ts) (hN5 : ∃ r : vw_C, cl[5]? = some r ∧ r.1 = "HopeDrawer$Office") (hN3 : ∃ r : vw_C, cl[3]? = some r ∧ r.1 = "HopeDrawer$Law") (hx : p.tables.exec = Jvm.exec) (hb : c.code = (G μ).2.1) (hml : c.maxLocals = (G μ).2.2.1) (hown : s.vm.findClass (G μ).1.cls = some m.cls) (hts : ∀ w ∈ Ts, w.before args s = true) (hmn : (G μ).1.name = "<init>" → meth.name = "<init>") (hSt : xSta ext B D cl SL TL NW s s.heap) (hfr : (G μ).2.2.2.2.1.1 ≤ R.frames) (hlo : (G μ).2.2.2.2.1.2 ≤ R.locals)
    {pc : Nat} {ei : XI} {ls : XL} {st : List Value} {M : XM} {pc' : Nat} {ls' : XL} {st' : List Value} {M' : XM} (hn : ls.length = (G μ).2.2.1) (hok : xDec (G μ) pc ei ∧ xLk G cl fty Ts SL TL NW (G μ) pc ei) (hi : xins G μ pc ei ls st M = some (.inl (pc', ls', st', M'))) (hcc : cells + (M'.1.1 - M.1.1) ≤ R.cells) (hss : slots + (M'.1.2 - M.1.2) ≤ R.slots)
    (hk : ∀ cells' slots', cells' = cells + (M'.1.1 - M.1.1) → slots' = slots + (M'.1.2 - M.1.2) → xW p l e R s m args below meth c Q ext B D cl fty cells' slots' pc' ls' st' M') : xW p l e R s m args below meth c Q ext B D cl fty cells slots pc ls st M := by
  have k0 : M'.1 = M.1 → xW p l e R s m args below meth c Q ext B D cl fty cells slots pc' ls' st' M' := fun h => hk _ _ (by rw [h]; omega) (by rw [h]; omega)
  obtain ⟨ins, npc, a, b⟩ := ei
  cases ins with
  | iadd =>
    simp only [xins] at hi
    split at hi
    · obtain ⟨rfl, rfl, rfl, rfl⟩ := xgo_inj hi
      have hok1 := hok.1
      simp only [xDec, xlen] at hok1
      obtain ⟨hd, rfl⟩ := hok1
      exact xs_iadd hx hb hd (k0 rfl)
    · cases hi
  | isub =>
    simp only [xins] at hi
    split at hi
    · obtain ⟨rfl, rfl, rfl, rfl⟩ := xgo_inj hi
      have hok1 := hok.1
      simp only [xDec, xlen] at hok1
      obtain ⟨hd, rfl⟩ := hok1
      exact xs_isub hx hb hd (k0 rfl)
    · cases hi
  | imul =>
    simp only [xins] at hi
    split at hi
    · obtain ⟨rfl, rfl, rfl, rfl⟩ := xgo_inj hi
      have hok1 := hok.1
      simp only [xDec, xlen] at hok1
      obtain ⟨hd, rfl⟩ := hok1
      exact xs_imul hx hb hd (k0 rfl)
    · cases hi
  | iand =>
    simp only [xins] at hi
    split at hi
    · obtain ⟨rfl, rfl, rfl, rfl⟩ := xgo_inj hi
      have hok1 := hok.1
      simp only [xDec, xlen] at hok1
      obtain ⟨hd, rfl⟩ := hok1
      exact xs_iand hx hb hd (k0 rfl)
    · cases hi
  | ior =>
    simp only [xins] at hi
    split at hi
    · obtain ⟨rfl, rfl, rfl, rfl⟩ := xgo_inj hi
      have hok1 := hok.1
      simp only [xDec, xlen] at hok1
      obtain ⟨hd, rfl⟩ := hok1
      exact xs_ior hx hb hd (k0 rfl)
    · cases hi
  | ixor =>
    simp only [xins] at hi
    split at hi
    · obtain ⟨rfl, rfl, rfl, rfl⟩ := xgo_inj hi
      have hok1 := hok.1
      simp only [xDec, xlen] at hok1
      obtain ⟨hd, rfl⟩ := hok1
      exact xs_ixor hx hb hd (k0 rfl)
    · cases hi
  | ishl =>
    simp only [xins] at hi
    split at hi
    · obtain ⟨rfl, rfl, rfl, rfl⟩ := xgo_inj hi
      have hok1 := hok.1
      simp only [xDec, xlen] at hok1
      obtain ⟨hd, rfl⟩ := hok1
      exact xs_ishl hx hb hd (k0 rfl)
    · cases hi
  | ishr =>
    simp only [xins] at hi
    split at hi
    · obtain ⟨rfl, rfl, rfl, rfl⟩ := xgo_inj hi
      have hok1 := hok.1
      simp only [xDec, xlen] at hok1
      obtain ⟨hd, rfl⟩ := hok1
      exact xs_ishr hx hb hd (k0 rfl)
    · cases hi
  | iushr =>
    simp only [xins] at hi
    split at hi
    · obtain ⟨rfl, rfl, rfl, rfl⟩ := xgo_inj hi
      have hok1 := hok.1
      simp only [xDec, xlen] at hok1
      obtain ⟨hd, rfl⟩ := hok1
      exact xs_iushr hx hb hd (k0 rfl)
    · cases hi
  | ladd =>
    simp only [xins] at hi
    split at hi
    · obtain ⟨rfl, rfl, rfl, rfl⟩ := xgo_inj hi
      have hok1 := hok.1
      simp only [xDec, xlen] at hok1
      obtain ⟨hd, rfl⟩ := hok1
      exact xs_ladd hx hb hd (k0 rfl)
    · cases hi
  | lmul =>
    simp only [xins] at hi
    split at hi
    · obtain ⟨rfl, rfl, rfl, rfl⟩ := xgo_inj hi
      have hok1 := hok.1
      simp only [xDec, xlen] at hok1
      obtain ⟨hd, rfl⟩ := hok1
      exact xs_lmul hx hb hd (k0 rfl)
    · cases hi
  | lcmp =>
    simp only [xins] at hi
    split at hi
    · obtain ⟨rfl, rfl, rfl, rfl⟩ := xgo_inj hi
      have hok1 := hok.1
      simp only [xDec, xlen] at hok1
      obtain ⟨hd, rfl⟩ := hok1
      exact xs_lcmp hx hb hd (k0 rfl)
    · cases hi
  | ineg =>
    simp only [xins] at hi
    split at hi
    · obtain ⟨rfl, rfl, rfl, rfl⟩ := xgo_inj hi
      have hok1 := hok.1
      simp only [xDec, xlen] at hok1
      obtain ⟨hd, rfl⟩ := hok1
      exact xs_ineg hx hb hd (k0 rfl)
    · cases hi
  | i2l =>
    simp only [xins] at hi
    split at hi
    · obtain ⟨rfl, rfl, rfl, rfl⟩ := xgo_inj hi
      have hok1 := hok.1
      simp only [xDec, xlen] at hok1
      obtain ⟨hd, rfl⟩ := hok1
      exact xs_i2l hx hb hd (k0 rfl)
    · cases hi
  | i2b =>
    simp only [xins] at hi
    split at hi
    · obtain ⟨rfl, rfl, rfl, rfl⟩ := xgo_inj hi
      have hok1 := hok.1
      simp only [xDec, xlen] at hok1
      obtain ⟨hd, rfl⟩ := hok1
      exact xs_i2b hx hb hd (k0 rfl)
    · cases hi
  | i2c =>
    simp only [xins] at hi
    split at hi
    · obtain ⟨rfl, rfl, rfl, rfl⟩ := xgo_inj hi
      have hok1 := hok.1
      simp only [xDec, xlen] at hok1
      obtain ⟨hd, rfl⟩ := hok1
      exact xs_i2c hx hb hd (k0 rfl)
    · cases hi
  | idiv =>
    simp only [xins] at hi
    split at hi
    · split at hi
      · cases hi
      · obtain ⟨rfl, rfl, rfl, rfl⟩ := xgo_inj hi
        have hok1 := hok.1
        simp only [xDec, xlen] at hok1
        obtain ⟨hd, rfl⟩ := hok1
        exact xs_idiv hx hb (by assumption) hd (k0 rfl)
    · cases hi
  | irem =>
    simp only [xins] at hi
    split at hi
    · split at hi
      · cases hi
      · obtain ⟨rfl, rfl, rfl, rfl⟩ := xgo_inj hi
        have hok1 := hok.1
        simp only [xDec, xlen] at hok1
        obtain ⟨hd, rfl⟩ := hok1
        exact xs_irem hx hb (by assumption) hd (k0 rfl)
    · cases hi
  | iconst i =>
    simp only [xins] at hi
    obtain ⟨rfl, rfl, rfl, rfl⟩ := xgo_inj hi
    have hok1 := hok.1
    simp only [xDec, xlen] at hok1
    obtain ⟨hd, rfl⟩ := hok1
    exact xs_iconst hx hb hd (k0 rfl)
  | bipush i =>
    simp only [xins] at hi
    obtain ⟨rfl, rfl, rfl, rfl⟩ := xgo_inj hi
    have hok1 := hok.1
    simp only [xDec, xlen] at hok1
    obtain ⟨hd, rfl⟩ := hok1
    exact xs_bipush hx hb hd (k0 rfl)
  | sipush i =>
    simp only [xins] at hi
    obtain ⟨rfl, rfl, rfl, rfl⟩ := xgo_inj hi
    have hok1 := hok.1
    simp only [xDec, xlen] at hok1
    obtain ⟨hd, rfl⟩ := hok1
    exact xs_sipush hx hb hd (k0 rfl)
  | lconst i =>
    simp only [xins] at hi
    obtain ⟨rfl, rfl, rfl, rfl⟩ := xgo_inj hi
    have hok1 := hok.1
    simp only [xDec, xlen] at hok1
    obtain ⟨hd, rfl⟩ := hok1
    exact xs_lconst hx hb hd (k0 rfl)
  | iload i =>
    simp only [xins] at hi
    split at hi
    · obtain ⟨rfl, rfl, rfl, rfl⟩ := xgo_inj hi
      have hok1 := hok.1
      simp only [xDec, xlen] at hok1
      obtain ⟨hd, rfl⟩ := hok1
      exact xs_iload hx hb (by assumption) hd (k0 rfl)
    · cases hi
  | iload_n i =>
    simp only [xins] at hi
    split at hi
    · obtain ⟨rfl, rfl, rfl, rfl⟩ := xgo_inj hi
      have hok1 := hok.1
      simp only [xDec, xlen] at hok1
      obtain ⟨hd, rfl⟩ := hok1
      exact xs_iload_n hx hb (by assumption) hd (k0 rfl)
    · cases hi
  | aload i =>
    simp only [xins] at hi
    split at hi
    · obtain ⟨rfl, rfl, rfl, rfl⟩ := xgo_inj hi
      have hok1 := hok.1
      simp only [xDec, xlen] at hok1
      obtain ⟨hd, rfl⟩ := hok1
      exact xs_aload hE hx hb (by assumption) hd (k0 rfl)
    · cases hi
  | aload_n i =>
    simp only [xins] at hi
    split at hi
    · obtain ⟨rfl, rfl, rfl, rfl⟩ := xgo_inj hi
      have hok1 := hok.1
      simp only [xDec, xlen] at hok1
      obtain ⟨hd, rfl⟩ := hok1
      exact xs_aload_n hE hx hb (by assumption) hd (k0 rfl)
    · cases hi
  | iinc i k =>
    simp only [xins] at hi
    split at hi
    · obtain ⟨rfl, rfl, rfl, rfl⟩ := xgo_inj hi
      have hok1 := hok.1
      simp only [xDec, xlen] at hok1
      obtain ⟨hd, rfl⟩ := hok1
      exact xs_iinc hE hx hb (by assumption) hd (k0 rfl)
    · cases hi
  | lload i =>
    simp only [xins] at hi
    split at hi
    · obtain ⟨rfl, rfl, rfl, rfl⟩ := xgo_inj hi
      have hok1 := hok.1
      simp only [xDec, xlen] at hok1
      obtain ⟨hd, rfl⟩ := hok1
      exact xs_lload hx hb (by assumption) (by assumption) hd (k0 rfl)
    · cases hi
  | lload_n i =>
    simp only [xins] at hi
    split at hi
    · obtain ⟨rfl, rfl, rfl, rfl⟩ := xgo_inj hi
      have hok1 := hok.1
      simp only [xDec, xlen] at hok1
      obtain ⟨hd, rfl⟩ := hok1
      exact xs_lload_n hx hb (by assumption) (by assumption) hd (k0 rfl)
    · cases hi
  | istore i =>
    simp only [xins] at hi
    split at hi
    · split at hi
      · obtain ⟨rfl, rfl, rfl, rfl⟩ := xgo_inj hi
        have hok1 := hok.1
        simp only [xDec, xlen] at hok1
        obtain ⟨hd, rfl⟩ := hok1
        exact xs_istore hE hx hb (by assumption) hd (k0 rfl)
      · cases hi
    · cases hi
  | istore_n i =>
    simp only [xins] at hi
    split at hi
    · split at hi
      · obtain ⟨rfl, rfl, rfl, rfl⟩ := xgo_inj hi
        have hok1 := hok.1
        simp only [xDec, xlen] at hok1
        obtain ⟨hd, rfl⟩ := hok1
        exact xs_istore_n hE hx hb (by assumption) hd (k0 rfl)
      · cases hi
    · cases hi
  | astore i =>
    simp only [xins] at hi
    split at hi
    · split at hi
      · obtain ⟨rfl, rfl, rfl, rfl⟩ := xgo_inj hi
        have hok1 := hok.1
        simp only [xDec, xlen] at hok1
        obtain ⟨hd, rfl⟩ := hok1
        exact xs_astore hE hx hb (by assumption) hd (k0 rfl)
      · cases hi
    · cases hi
  | astore_n i =>
    simp only [xins] at hi
    split at hi
    · split at hi
      · obtain ⟨rfl, rfl, rfl, rfl⟩ := xgo_inj hi
        have hok1 := hok.1
        simp only [xDec, xlen] at hok1
        obtain ⟨hd, rfl⟩ := hok1
        exact xs_astore_n hE hx hb (by assumption) hd (k0 rfl)
      · cases hi
    · cases hi
  | lstore i =>
    simp only [xins] at hi
    split at hi
    · split at hi
      · obtain ⟨rfl, rfl, rfl, rfl⟩ := xgo_inj hi
        have hok1 := hok.1
        simp only [xDec, xlen] at hok1
        obtain ⟨hd, rfl⟩ := hok1
        exact xs_lstore hE hx hb (by assumption) hd (k0 rfl)
      · cases hi
    · cases hi
  | lstore_n i =>
    simp only [xins] at hi
    split at hi
    · split at hi
      · obtain ⟨rfl, rfl, rfl, rfl⟩ := xgo_inj hi
        have hok1 := hok.1
        simp only [xDec, xlen] at hok1
        obtain ⟨hd, rfl⟩ := hok1
        exact xs_lstore_n hE hx hb (by assumption) hd (k0 rfl)
      · cases hi
    · cases hi
  | dup =>
    simp only [xins] at hi
    split at hi
    · obtain ⟨rfl, rfl, rfl, rfl⟩ := xgo_inj hi
      have hok1 := hok.1
      simp only [xDec, xlen] at hok1
      obtain ⟨hd, rfl⟩ := hok1
      exact xs_dupi hx hb hd (k0 rfl)
    · obtain ⟨rfl, rfl, rfl, rfl⟩ := xgo_inj hi
      have hok1 := hok.1
      simp only [xDec, xlen] at hok1
      obtain ⟨hd, rfl⟩ := hok1
      exact xs_dupr hE hx hb hd (k0 rfl)
    · cases hi
  | pop =>
    simp only [xins] at hi
    split at hi
    · obtain ⟨rfl, rfl, rfl, rfl⟩ := xgo_inj hi
      have hok1 := hok.1
      simp only [xDec, xlen] at hok1
      obtain ⟨hd, rfl⟩ := hok1
      exact xs_pop hx hb hd (k0 rfl)
    · cases hi
  | dup2 =>
    simp only [xins] at hi
    split at hi
    · obtain ⟨rfl, rfl, rfl, rfl⟩ := xgo_inj hi
      have hok1 := hok.1
      simp only [xDec, xlen] at hok1
      obtain ⟨hd, rfl⟩ := hok1
      exact xs_dup2 hE hx hb hd (k0 rfl)
    · cases hi
  | goto o =>
    simp only [xins] at hi
    obtain ⟨rfl, rfl, rfl, rfl⟩ := xgo_inj hi
    have hok1 := hok.1
    simp only [xDec, xlen] at hok1
    exact xs_goto hx hb hok1.1 hok.2 (k0 rfl)
  | if_icmp q o =>
    simp only [xins] at hi
    split at hi
    · cases q <;> simp only [] at hi <;> obtain ⟨rfl, rfl, rfl, rfl⟩ := xif_inj hi <;> have hok1 := hok.1 <;> simp only [xDec, xlen] at hok1 <;> obtain ⟨hd, rfl⟩ := hok1
      · exact xs_icmp_eq hx hb hd hok.2 (fun z => by rw [if_pos z] at k0; exact k0 rfl) (fun z => by rw [if_neg z] at k0; exact k0 rfl)
      · exact xs_icmp_ne hx hb hd hok.2 (fun z => by rw [if_pos z] at k0; exact k0 rfl) (fun z => by rw [if_neg z] at k0; exact k0 rfl)
      · exact xs_icmp_lt hx hb hd hok.2 (fun z => by rw [if_pos z] at k0; exact k0 rfl) (fun z => by rw [if_neg z] at k0; exact k0 rfl)
      · exact xs_icmp_ge hx hb hd hok.2 (fun z => by rw [if_pos z] at k0; exact k0 rfl) (fun z => by rw [if_neg z] at k0; exact k0 rfl)
      · exact xs_icmp_gt hx hb hd hok.2 (fun z => by rw [if_pos z] at k0; exact k0 rfl) (fun z => by rw [if_neg z] at k0; exact k0 rfl)
      · exact xs_icmp_le hx hb hd hok.2 (fun z => by rw [if_pos z] at k0; exact k0 rfl) (fun z => by rw [if_neg z] at k0; exact k0 rfl)
    · cases hi
  | ifCond q o =>
    simp only [xins] at hi
    split at hi
    · cases q <;> simp only [] at hi <;> obtain ⟨rfl, rfl, rfl, rfl⟩ := xif_inj hi <;> have hok1 := hok.1 <;> simp only [xDec, xlen] at hok1 <;> obtain ⟨hd, rfl⟩ := hok1
      · exact xs_if_eq hx hb hd hok.2 (fun z => by rw [if_pos z] at k0; exact k0 rfl) (fun z => by rw [if_neg z] at k0; exact k0 rfl)
      · exact xs_if_ne hx hb hd hok.2 (fun z => by rw [if_pos z] at k0; exact k0 rfl) (fun z => by rw [if_neg z] at k0; exact k0 rfl)
      · exact xs_if_lt hx hb hd hok.2 (fun z => by rw [if_pos z] at k0; exact k0 rfl) (fun z => by rw [if_neg z] at k0; exact k0 rfl)
      · exact xs_if_ge hx hb hd hok.2 (fun z => by rw [if_pos z] at k0; exact k0 rfl) (fun z => by rw [if_neg z] at k0; exact k0 rfl)
      · exact xs_if_gt hx hb hd hok.2 (fun z => by rw [if_pos z] at k0; exact k0 rfl) (fun z => by rw [if_neg z] at k0; exact k0 rfl)
      · exact xs_if_le hx hb hd hok.2 (fun z => by rw [if_pos z] at k0; exact k0 rfl) (fun z => by rw [if_neg z] at k0; exact k0 rfl)
    · cases hi
  | ifnull o =>
    simp only [xins] at hi
    split at hi
    · split at hi
      · cases hi
      · obtain ⟨rfl, rfl, rfl, rfl⟩ := xif_inj hi
        have hok1 := hok.1
        simp only [xDec, xlen] at hok1
        obtain ⟨hd, rfl⟩ := hok1
        exact xs_ifnull hE hx hb hd hok.2 (by assumption) (fun z => by rw [if_pos z] at k0; exact k0 rfl) (fun z => by rw [if_neg z] at k0; exact k0 rfl)
    · cases hi
  | ifnonnull o =>
    simp only [xins] at hi
    split at hi
    · split at hi
      · cases hi
      · obtain ⟨rfl, rfl, rfl, rfl⟩ := xif_inj hi
        have hok1 := hok.1
        simp only [xDec, xlen] at hok1
        obtain ⟨hd, rfl⟩ := hok1
        exact xs_ifnonnull hE hx hb hd hok.2 (by assumption) (fun z => by rw [if_pos z] at k0; exact k0 rfl) (fun z => by rw [if_neg z] at k0; exact k0 rfl)
    · cases hi
  | tableswitch d lo hh offs =>
    simp only [xins] at hi
    split at hi
    · split at hi
      · obtain ⟨rfl, rfl, rfl, rfl⟩ := xgo_inj hi
        obtain ⟨nn, hd⟩ := hok.1
        exact xs_tab hx hb hd (by assumption) (k0 rfl)
      · cases hi
    · cases hi
  | ldc i =>
    simp only [xins] at hi
    rcases hok.2 with ⟨ha, hw⟩ | ⟨ha, tx, hw⟩
    · rw [if_pos ha] at hi
      obtain ⟨rfl, rfl, rfl, rfl⟩ := xgo_inj hi
      have hok1 := hok.1
      simp only [xDec, xlen] at hok1
      obtain ⟨hd, rfl⟩ := hok1
      exact xs_ldc hx hb hown (hts _ hw) hd (k0 rfl)
    · rw [if_neg (by omega)] at hi
      split at hi
      · obtain ⟨rfl, rfl, rfl, rfl⟩ := xgo_inj hi
        have hok1 := hok.1
        simp only [xDec, xlen] at hok1
        obtain ⟨hd, rfl⟩ := hok1
        obtain ⟨q, h1, h2⟩ := hSt.2.2.1 _ hw
        exact xs_ldcS (b := b) hx hb (by omega) h1 hown h2 hd (k0 rfl)
      · cases hi
  | ldc_w i =>
    simp only [xins] at hi
    obtain ⟨rfl, rfl, rfl, rfl⟩ := xgo_inj hi
    have hok1 := hok.1
    simp only [xDec, xlen] at hok1
    obtain ⟨hd, rfl⟩ := hok1
    exact xs_ldcw hx hb hown (hts _ hok.2) hd (k0 rfl)
  | ldc2_w i =>
    simp only [xins] at hi
    obtain ⟨rfl, rfl, rfl, rfl⟩ := xgo_inj hi
    have hok1 := hok.1
    simp only [xDec, xlen] at hok1
    obtain ⟨hd, rfl⟩ := hok1
    exact xs_ldc2 hx hb hown (hts _ hok.2) hd (k0 rfl)
  | getstatic i =>
    simp only [xins] at hi
    obtain ⟨C, n, d, hm, hw⟩ := hok.2
    have hZ := hSt.2.1 _ hm
    dsimp only at hZ
    by_cases ha : a = 0
    · rw [if_pos ha] at hi hZ
      obtain ⟨rfl, rfl, rfl, rfl⟩ := xgo_inj hi
      have hok1 := hok.1
      simp only [xDec, xlen] at hok1
      obtain ⟨hd, rfl⟩ := hok1
      exact xs_gets (v := .int (Int32.ofNat b)) hx hb hown hZ (hts _ hw) hd (k0 rfl)
    · rw [if_neg ha] at hi hZ
      split at hi
      · obtain ⟨rfl, rfl, rfl, rfl⟩ := xgo_inj hi
        have hok1 := hok.1
        simp only [xDec, xlen] at hok1
        obtain ⟨hd, rfl⟩ := hok1
        exact xs_gets (v := .ref b) hx hb hown (by rw [xv_lo (by omega)]; exact hZ) (hts _ hw) hd (k0 rfl)
      · cases hi
  | getfield i =>
    simp only [xins] at hi
    split at hi
    · rename_i o r
      split at hi
      · rename_i hsh
        rcases hok.2 with ⟨ha, hb4⟩ | ⟨ha, rr, hcl, hkb, hw, hkd⟩
        · subst ha
          have hStr : ∀ H, xAbs ext B D cl fty s H M → o < 16 ∧ xStr ext B s H M o := fun H hA => hA.2.1 o hsh
          have hok1 := hok.1
          simp only [xDec, xlen] at hok1
          obtain ⟨hd, rfl⟩ := hok1
          rcases hb4 with ⟨rfl, hw⟩ | ⟨rfl, hw⟩
          · obtain ⟨rfl, rfl, rfl, rfl⟩ := xgo_inj hi
            intro H locs lsr hA hS hL
            obtain ⟨h16, q, q1, q2, q3, q4⟩ := hStr H hA
            refine xs_getS (v := .ref (M'.2.2.2.2 o 0)) hx hb hown (hts _ hw) q1 (fun H' hA' => ?_) hd (k0 rfl) H locs lsr hA hS hL
            obtain ⟨-, q', q1', q2', q3', q4'⟩ := hStr H' hA'
            cases q1.symm.trans q1'
            exact q3'
          · obtain ⟨rfl, rfl, rfl, rfl⟩ := xgo_inj hi
            intro H locs lsr hA hS hL
            obtain ⟨h16, q, q1, q2, q3, q4⟩ := hStr H hA
            refine xs_getS (v := .int (M'.2.2.1 o 1)) hx hb hown (hts _ hw) q1 (fun H' hA' => ?_) hd (k0 rfl) H locs lsr hA hS hL
            obtain ⟨-, q', q1', q2', q3', q4'⟩ := hStr H' hA'
            cases q1.symm.trans q1'
            exact q4'
        · have hok1 := hok.1
          simp only [xDec, xlen] at hok1
          obtain ⟨hd, rfl⟩ := hok1
          split at hi
          · rename_i hb0
            rw [hb0] at hkd
            obtain ⟨rfl, rfl, rfl, rfl⟩ := xgo_inj hi
            exact xs_getf hx hb hts hC hown hSt.1 hsh ha hcl hkb (hts _ hw) (xval_ilk (xkd0 hkd) _ _) hd (k0 rfl)
          · rename_i hb0
            rw [hb0] at hkd
            obtain ⟨rfl, rfl, rfl, rfl⟩ := xgo_inj hi
            exact xs_getf hx hb hts hC hown hSt.1 hsh ha hcl hkb (hts _ hw) (by rw [xkd1 hkd]; rfl) hd (k0 rfl)
          · rename_i hb0
            rw [hb0] at hkd
            obtain ⟨rfl, rfl, rfl, rfl⟩ := xgo_inj hi
            exact xs_getf hx hb hts hC hown hSt.1 hsh ha hcl hkb (hts _ hw) (xval_ref (xkd2 hkd) _ _) hd (k0 rfl)
          · rename_i n0 n1 n2
            have hb0 : b % 4 = 3 := by
              rcases (show b % 4 = 0 ∨ b % 4 = 1 ∨ b % 4 = 2 ∨ b % 4 = 3 by omega) with h | h | h | h
              · exact (n0 h).elim
              · exact (n1 h).elim
              · exact (n2 h).elim
              · exact h
            rw [hb0] at hkd
            obtain ⟨rfl, rfl, rfl, rfl⟩ := xgo_inj hi
            exact xs_getf hx hb hts hC hown hSt.1 hsh ha hcl hkb (hts _ hw) (xval_ilk (xkd3 hkd) _ _) hd (k0 rfl)
      · cases hi
    · cases hi
  | putfield i =>
    obtain ⟨ha, rr, hcl, hkb, hw, hkd, hfin⟩ := hok.2
    replace hfin := hfin.imp id (fun h => And.intro (hmn h.1) h.2)
    have hok1 := hok.1
    simp only [xDec, xlen] at hok1
    obtain ⟨hd, rfl⟩ := hok1
    simp only [xins] at hi
    split at hi
    · split at hi
      · rename_i hsh
        split at hi
        · rename_i hb0
          rw [hb0] at hkd
          obtain ⟨rfl, rfl, rfl, rfl⟩ := xgo_inj hi
          have hty := xkd0t hkd
          exact xs_putf (M' := xmI M _ (b / 4) _) hx hb hts hC hown hSt.1 hsh.1 ha hcl hkb (hts _ hw) hfin (by rw [hty]; rfl) (by rw [hty]; rfl) rfl rfl xRow_I (fun j => xval_I (tk := fty a (b / 4)) (xkd0 hkd) (fun q => by rw [q])) hd (k0 rfl)
        · rename_i hb0
          rw [hb0] at hkd
          split at hi
          · rename_i h01
            obtain ⟨rfl, rfl, rfl, rfl⟩ := xgo_inj hi
            have hty := xkd3t hkd
            exact xs_putf (M' := xmI M _ (b / 4) _) hx hb hts hC hown hSt.1 hsh.1 ha hcl hkb (hts _ hw) hfin (by rw [hty]; rcases h01 with h | h <;> rw [h] <;> rfl) (by rw [hty]; rcases h01 with h | h <;> rw [h] <;> rfl) rfl rfl xRow_I (fun j => xval_I (tk := fty a (b / 4)) (xkd3 hkd) (fun q => by rw [q])) hd (k0 rfl)
          · cases hi
        · cases hi
      · cases hi
    · split at hi
      · rename_i hsh
        split at hi
        · rename_i hb0
          rw [hb0] at hkd
          obtain ⟨rfl, rfl, rfl, rfl⟩ := xgo_inj hi
          have hty := xkd1 hkd
          exact xs_putf (M' := xmL M _ (b / 4) _) hx hb hts hC hown hSt.1 hsh.1 ha hcl hkb (hts _ hw) hfin (by rw [hty]; rfl) (by rw [hty]; rfl) rfl rfl xRow_L (fun j => xval_L (fun q => by rw [q]; exact hty)) hd (k0 rfl)
        · cases hi
      · cases hi
    · split at hi
      · rename_i hsh
        split at hi
        · rename_i hb0
          rw [hb0] at hkd
          obtain ⟨rfl, rfl, rfl, rfl⟩ := xgo_inj hi
          have hty := xkd2 hkd
          exact xs_putf (M' := xmR M _ (b / 4) _) hx hb hts hC hown hSt.1 hsh.1 ha hcl hkb (hts _ hw) hfin (xnar_ref hE hty _) (xfit_ref hE hty _) rfl rfl xRow_R (fun j => xval_R (tk := fty a (b / 4)) hty (fun q => by rw [q])) hd (k0 rfl)
        · cases hi
      · cases hi
    · cases hi
  | arraylength =>
    simp only [xins] at hi
    split at hi
    · split at hi
      · rename_i hsh
        obtain ⟨rfl, rfl, rfl, rfl⟩ := xgo_inj hi
        have hok1 := hok.1
        simp only [xDec, xlen] at hok1
        obtain ⟨hd, rfl⟩ := hok1
        exact xs_alen hx hb hsh.1 hsh.2 hd (k0 rfl)
      · cases hi
    · cases hi
  | iaload =>
    simp only [xins] at hi
    split at hi
    · split at hi
      · rename_i hsh
        obtain ⟨rfl, rfl, rfl, rfl⟩ := xgo_inj hi
        have hok1 := hok.1
        simp only [xDec, xlen] at hok1
        obtain ⟨hd, rfl⟩ := hok1
        exact xs_iald hx hb hsh.1 hsh.2 hd (k0 rfl)
      · cases hi
    · cases hi
  | baload =>
    simp only [xins] at hi
    split at hi
    · split at hi
      · rename_i hsh
        obtain ⟨rfl, rfl, rfl, rfl⟩ := xgo_inj hi
        have hok1 := hok.1
        simp only [xDec, xlen] at hok1
        obtain ⟨hd, rfl⟩ := hok1
        exact xs_bald hx hb hsh.1 hsh.2 hd (k0 rfl)
      · cases hi
    · cases hi
  | laload =>
    simp only [xins] at hi
    split at hi
    · split at hi
      · rename_i hsh
        obtain ⟨rfl, rfl, rfl, rfl⟩ := xgo_inj hi
        have hok1 := hok.1
        simp only [xDec, xlen] at hok1
        obtain ⟨hd, rfl⟩ := hok1
        exact xs_lald hx hb hsh.1 hsh.2 hd (k0 rfl)
      · cases hi
    · cases hi
  | aaload =>
    simp only [xins] at hi
    split at hi
    · split at hi
      · rename_i hsh
        obtain ⟨rfl, rfl, rfl, rfl⟩ := xgo_inj hi
        have hok1 := hok.1
        simp only [xDec, xlen] at hok1
        obtain ⟨hd, rfl⟩ := hok1
        exact xs_aald hx hb hsh.1.1 hsh.1.2 hsh.2 hd (k0 rfl)
      · cases hi
    · cases hi
  | iastore =>
    simp only [xins] at hi
    split at hi
    · split at hi
      · rename_i hsh
        obtain ⟨rfl, rfl, rfl, rfl⟩ := xgo_inj hi
        have hok1 := hok.1
        simp only [xDec, xlen] at hok1
        obtain ⟨hd, rfl⟩ := hok1
        exact xs_iast hx hb hsh.1.1 hsh.1.2 hsh.2 hd (k0 rfl)
      · cases hi
    · cases hi
  | lastore =>
    simp only [xins] at hi
    split at hi
    · split at hi
      · rename_i hsh
        obtain ⟨rfl, rfl, rfl, rfl⟩ := xgo_inj hi
        have hok1 := hok.1
        simp only [xDec, xlen] at hok1
        obtain ⟨hd, rfl⟩ := hok1
        exact xs_last hx hb hsh.1.1 hsh.1.2 hsh.2 hd (k0 rfl)
      · cases hi
    · cases hi
  | bastore =>
    simp only [xins] at hi
    split at hi
    · split at hi
      · rename_i hsh
        obtain ⟨rfl, rfl, rfl, rfl⟩ := xgo_inj hi
        have hok1 := hok.1
        simp only [xDec, xlen] at hok1
        obtain ⟨hd, rfl⟩ := hok1
        exact xs_bast hx hb hsh.1.1 hsh.1.2 hsh.2 hd (k0 rfl)
      · split at hi
        · rename_i hsh
          obtain ⟨rfl, rfl, rfl, rfl⟩ := xgo_inj hi
          have hok1 := hok.1
          simp only [xDec, xlen] at hok1
          obtain ⟨hd, rfl⟩ := hok1
          exact xs_zast hx hb hsh.1.1 hsh.1.2 hsh.2 hd (k0 rfl)
        · cases hi
    · cases hi
  | aastore =>
    simp only [xins] at hi
    split at hi
    · split at hi
      · rename_i hsh
        obtain ⟨rfl, rfl, rfl, rfl⟩ := xgo_inj hi
        have hok1 := hok.1
        simp only [xDec, xlen] at hok1
        obtain ⟨hd, rfl⟩ := hok1
        obtain ⟨⟨hcase, ho16, hx16⟩, hin⟩ := hsh
        rcases hcase with ⟨h1, h2⟩ | ⟨h1, h2⟩
        · obtain ⟨r, hr1, hr2⟩ := hN5
          exact xs_aast hx hb hSt.1 h1 (by omega) (by omega) ho16 h2 (by omega) hr1 (by rw [hr2]; rfl) hin hd (k0 rfl)
        · obtain ⟨r, hr1, hr2⟩ := hN3
          exact xs_aast hx hb hSt.1 h1 (by omega) (by omega) ho16 h2 (by omega) hr1 (by rw [hr2]; rfl) hin hd (k0 rfl)
      · cases hi
    · cases hi
  | newarray t =>
    simp only [xins] at hi
    split at hi
    · split at hi
      · rename_i hsh
        obtain ⟨rfl, rfl, rfl, rfl⟩ := xgo_inj hi
        have hok1 := hok.1
        simp only [xDec, xlen] at hok1
        obtain ⟨hd, rfl⟩ := hok1
        obtain ⟨h1, h2, h3, hw⟩ := hok.2
        have hc1 := hcc
        have hs1 := hss
        rw [xnew_z] at hc1
        rw [xnew_u] at hs1
        exact xs_newa hE hx hb h3 h1 h2 (by rw [h3]; exact hts _ hw) hsh.1 hsh.2 (by omega) (by omega) hd (hk _ _ (by rw [xnew_z]; omega) (by rw [xnew_u]; omega))
      · cases hi
    · cases hi
  | anewarray i =>
    simp only [xins] at hi
    split at hi
    · split at hi
      · rename_i hsh
        obtain ⟨rfl, rfl, rfl, rfl⟩ := xgo_inj hi
        have hok1 := hok.1
        simp only [xDec, xlen] at hok1
        obtain ⟨hd, rfl⟩ := hok1
        have hc1 := hcc
        have hs1 := hss
        rw [xnew_z] at hc1
        rw [xnew_u] at hs1
        rcases hok.2 with ⟨rfl, hw⟩ | ⟨rfl, hw⟩
        · exact xs_anew hE hx hb hown rfl (by omega) (by omega) (hts _ hw) hSt.2.2.2.2.1 hsh.1 hsh.2 (by omega) (by omega) hd (hk _ _ (by rw [xnew_z]; omega) (by rw [xnew_u]; omega))
        · exact xs_anew hE hx hb hown rfl (by omega) (by omega) (hts _ hw) hSt.2.2.2.2.2.1 hsh.1 hsh.2 (by omega) (by omega) hd (hk _ _ (by rw [xnew_z]; omega) (by rw [xnew_u]; omega))
      · cases hi
    · cases hi
  | multianewarray i d =>
    simp only [xins] at hi
    split at hi
    · split at hi
      · rename_i hsh
        obtain ⟨rfl, rfl, rfl, rfl⟩ := xgo_inj hi
        have hok1 := hok.1
        simp only [xDec, xlen] at hok1
        obtain ⟨hd, rfl⟩ := hok1
        obtain ⟨rfl, hw1, hw2⟩ := hok.2
        have hc1 := hcc
        have hs1 := hss
        rw [xmulti_z] at hc1
        rw [xmulti_u] at hs1
        exact xs_multi hE hx hb hown (hts _ hw1) hSt.2.2.2.2.2.2 (hts _ hw2) hsh.1.1 hsh.2.1 hsh.1.2 hsh.2.2 (by omega) (by omega) hd (hk _ _ (by rw [xmulti_z]; omega) (by rw [xmulti_u]; omega))
      · cases hi
    · cases hi
  | new i =>
    simp only [xins] at hi
    obtain ⟨rfl, rfl, rfl, rfl⟩ := xgo_inj hi
    have hok1 := hok.1
    simp only [xDec, xlen] at hok1
    obtain ⟨hd, rfl⟩ := hok1
    obtain ⟨h1, h2, r, h3, hw1, hw2, hw3⟩ := hok.2
    have hc1 := hcc
    have hs1 := hss
    rw [xnew_z] at hc1
    rw [xnew_u] at hs1
    exact xs_new hE hx hb hts hC hown hSt.1 h1 h3 h2 (hts _ hw1) (hts _ hw2) (hts _ hw3) (by omega) (by omega) hd (hk _ _ (by rw [xnew_z]; omega) (by rw [xnew_u]; omega))
  | invokespecial i =>
    simp only [xins] at hi
    split at hi
    · rename_i ha
      split at hi
      · split at hi
        · rename_i hsh
          obtain ⟨rfl, rfl, rfl, rfl⟩ := xgo_inj hi
          have hok1 := hok.1
          simp only [xDec, xlen] at hok1
          obtain ⟨hd, rfl⟩ := hok1
          obtain ⟨hw1, hw2, hw3, hf, hl⟩ := hok.2.1 ha
          exact xs_objInit hx hb (hml.trans hn.symm) hown (hts _ hw1) (hts _ hw2) (hts _ hw3) hsh.2 (by omega) (by omega) hE (Nat.le_of_ble_eq_true rfl) hd (k0 rfl)
        · cases hi
      · cases hi
    · split at hi
      · split at hi
        · exact absurd hi (xdoCall_go _ _ _ _)
        · cases hi
      · cases hi
  | invokevirtual i =>
    simp only [xins] at hi
    split at hi
    · split at hi
      · exact absurd hi (xdoCall_go _ _ _ _)
      · cases hi
    · cases hi
  | invokestatic i =>
    simp only [xins] at hi
    split at hi
    · exact absurd hi (xdoCall_go _ _ _ _)
    split at hi
    · rename_i ha
      split at hi
      · split at hi
        · rename_i hsh
          obtain ⟨rfl, rfl, rfl, rfl⟩ := xgo_inj hi
          have hok1 := hok.1
          simp only [xDec, xlen] at hok1
          obtain ⟨hd, rfl⟩ := hok1
          obtain ⟨hw1, hw2, hw3, hw4, hf, hl⟩ := hok.2.2.1 ha
          obtain ⟨⟨s1, s2, s3, s4⟩, ⟨s5, s6, s7⟩, s8, s9, s10⟩ := hsh
          exact xs_copy hE hx hb (hml.trans hn.symm) hown (hts _ hw1) (hts _ hw2) (hts _ hw3) (hts _ hw4) s1 s2 s3 s4 s5 s6 s7 s8 s9 s10 (by omega) (by omega) hd (k0 rfl)
        · cases hi
      · cases hi
    split at hi
    · rename_i ha
      subst ha
      split at hi
      · split at hi
        · rename_i hsh
          obtain ⟨rfl, rfl, rfl, rfl⟩ := xgo_inj hi
          have hok1 := hok.1
          simp only [xDec, xlen] at hok1
          obtain ⟨hd, rfl⟩ := hok1
          obtain ⟨hw1, hw2, hw3, hw4, hf, hl⟩ := hok.2.2.2.1 rfl
          exact xs_mabs hE hx hb (hml.trans hn.symm) hown (hts _ hw1) (hts _ hw2) (hts _ hw3) (hts _ hw4) hsh (by omega) (by omega) (by omega) (by omega) hd (k0 rfl)
        · cases hi
      · cases hi
    split at hi
    · rename_i ha
      subst ha
      split at hi
      · split at hi
        · rename_i hsh
          obtain ⟨rfl, rfl, rfl, rfl⟩ := xgo_inj hi
          have hok1 := hok.1
          simp only [xDec, xlen] at hok1
          obtain ⟨hd, rfl⟩ := hok1
          obtain ⟨hw1, hw2, hw3, hw4, hf, hl⟩ := hok.2.2.2.2.1 rfl
          exact xs_mmin hE hx hb (hml.trans hn.symm) hown (hts _ hw1) (hts _ hw2) (hts _ hw3) (hts _ hw4) hsh (by omega) (by omega) (by omega) (by omega) hd (k0 rfl)
        · cases hi
      · cases hi
    split at hi
    · rename_i ha
      subst ha
      split at hi
      · split at hi
        · rename_i hsh
          obtain ⟨rfl, rfl, rfl, rfl⟩ := xgo_inj hi
          have hok1 := hok.1
          simp only [xDec, xlen] at hok1
          obtain ⟨hd, rfl⟩ := hok1
          obtain ⟨hw1, hw2, hw3, hw4, hf, hl⟩ := hok.2.2.2.2.2 rfl
          exact xs_mmax hE hx hb (hml.trans hn.symm) hown (hts _ hw1) (hts _ hw2) (hts _ hw3) (hts _ hw4) hsh (by omega) (by omega) (by omega) (by omega) hd (k0 rfl)
        · cases hi
      · cases hi
    cases hi
  | ireturn =>
    simp only [xins] at hi
    repeat' split at hi
    all_goals first | cases hi | skip
  | lreturn =>
    simp only [xins] at hi
    repeat' split at hi
    all_goals first | cases hi | skip
  | return_ =>
    simp only [xins] at hi
    repeat' split at hi
    all_goals first | cases hi | skip
  | _ => simp only [xins] at hi; cases hi
end XGO
