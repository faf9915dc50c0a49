/-! the rows rest on the tables' words: a program that looks, and that it looks well -/
def xat (p : Nat) (w : Cond) : Bool := decide (lw_tbl[p]? = some w) && goodWord w
theorem xat_in {p : Nat} {w : Cond} (h : xat p w = true) : w ∈ xTs := by
  unfold xat at h
  rw [Bool.and_eq_true, decide_eq_true_eq] at h
  exact List.mem_filter.mpr ⟨List.mem_of_getElem? h.1, h.2⟩
theorem xTs_good : ∀ w ∈ xTs, goodWord w = true := fun w h => (List.mem_filter.mp h).2
def xkdB (k : Nat) (ty : FieldType) : Bool := match k with
  | 0 => decide (ty = .int)
  | 1 => decide (ty = .long)
  | 2 => ty.isReference
  | _ => decide (ty = .boolean)
theorem xkdB_ok {k : Nat} {ty : FieldType} (h : xkdB k ty = true) : xkd k ty := by
  refine ⟨fun e => ?_, fun e => ?_, fun e => ?_, fun e => ?_⟩ <;> subst e
  · exact of_decide_eq_true h
  · exact of_decide_eq_true h
  · exact h
  · exact of_decide_eq_true h
def xfB (q : Nat × Nat × Nat × Nat × Nat) : Bool := decide (q.2.2.1 < 13) && (match xcl[q.2.2.1]? with
  | some r => decide (q.2.2.2.1 / 4 < r.2.2) && xat q.2.2.2.2 (.fieldLink (xcn q.1) q.2.1 (r.2.1 (q.2.2.2.1 / 4)).1 (r.2.1 (q.2.2.2.1 / 4)).2.1 (r.2.1 (q.2.2.2.1 / 4)).2.2.1) && xkdB (q.2.2.2.1 % 4) (xfty q.2.2.1 (q.2.2.2.1 / 4))
  | none => false)
set_option maxRecDepth 100000 in
theorem xFLs_ok : xFLs.all xfB = true := by decide +kernel
def xsfB (q : Nat × Nat × Nat × Nat) : Bool := (q.2.2.1 == 2 && xat q.2.2.2 (.fieldLink (xcn q.1) q.2.1 "java/lang/String" "value" "[B")) || (q.2.2.1 == 4 && xat q.2.2.2 (.fieldLink (xcn q.1) q.2.1 "java/lang/String" "coder" "B"))
theorem xSFs_ok : xSFs.all xsfB = true := by decide +kernel
def xgsB (q : Nat × Nat × Nat × Nat × Nat × Nat) : Bool := match xSL[q.2.2.2.2.2]? with
  | some z => decide (z.2.2.2 = (q.2.2.1, q.2.2.2.1)) && xat q.2.2.2.2.1 (.fieldLink (xcn q.1) q.2.1 z.1 z.2.1 z.2.2.1)
  | none => false
theorem xGSs_ok : xGSs.all xgsB = true := by decide +kernel
theorem xCSs_ok : xCSs.all (fun q => xat q.2.2.2 (.constant (xcn q.1) q.2.1 (Int32.ofNat q.2.2.1))) = true := by decide +kernel
theorem xC2s_ok : xC2s.all (fun q => xat q.2.2.2 (.constantLong (xcn q.1) q.2.1 (Int64.ofNat q.2.2.1))) = true := by decide +kernel
theorem xTLs_ok : xTLs.all (fun q => xTL.any (fun z => decide (z.1 = xcn q.1) && z.2.1 == q.2.1 && z.2.2.2 == q.2.2)) = true := by decide +kernel
def xcnB (q : Nat × Nat × Nat × Nat × Nat × Nat × Nat) : Bool := decide (q.2.2.1 < 13) && (match xcl[q.2.2.1]? with
  | some r => xat q.2.2.2.2.1 (.classLink (xcn q.1) q.2.1 r.1) && xat q.2.2.2.2.2.1 (.instantiable r.1 q.2.2.2.1) && xat q.2.2.2.2.2.2 (.initialized r.1)
  | none => false)
theorem xCNs_ok : xCNs.all xcnB = true := by decide +kernel
theorem xCAs_ok : xCAs.all (fun q => (q.2.2.1 == 45 && xat q.2.2.2 (.classLink (xcn q.1) q.2.1 "HopeDrawer$Office")) || (q.2.2.1 == 46 && xat q.2.2.2 (.classLink (xcn q.1) q.2.1 "HopeDrawer$Law"))) = true := by decide +kernel
theorem xCMs_ok : xCMs.all (fun q => xat q.2.2 (.classLink (xcn q.1) q.2.1 "[[I")) = true := by decide +kernel
set_option maxRecDepth 100000 in
theorem xMVs_ok : xMVs.all (fun q => xat q.2.2.2 (.methodLink (xcn q.1) q.2.1 (xprog q.2.2.1).1)) = true := by decide +kernel
set_option maxRecDepth 100000 in
theorem xMSs_ok : xMSs.all (fun q => xat q.2.2.2 (.methodLink (xcn q.1) q.2.1 (xprog q.2.2.1).1)) = true := by decide +kernel
theorem xMIs_ok : xMIs.all (fun q => xat q.2.2.2 (.methodLink (xcn q.1) q.2.1 (xprog q.2.2.1).1)) = true := by decide +kernel
theorem xNWs_ok : xNWs.all (fun q => match xNW[q.2.2.2]? with
  | some z => decide (z.1 = xcn q.1) && z.2.1 == q.2.1 && decide (z.2.2.1 = (xprog q.2.2.1).1)
  | none => false) = true := by decide +kernel
theorem xOIs_ok : xOIs.all (fun q => xat q.2.2 (.methodLink (xcn q.1) q.2.1 Lib.objectInit)) = true := by decide +kernel
theorem xACs_ok : xACs.all (fun q => xat q.2.2 (.methodLink (xcn q.1) q.2.1 arraycopyName)) = true := by decide +kernel
theorem xFix_oi : Cond.instanceMethod Lib.objectInit ∈ xTs := xat_in (p := xFix.getD 0 0) (by decide +kernel)
theorem xFix_oc : Cond.code Lib.objectInit ⟨#[0xb1]⟩ 1 none ∈ xTs := xat_in (p := xFix.getD 1 0) (by decide +kernel)
theorem xFix_an : Cond.native arraycopyName ∈ xTs := xat_in (p := xFix.getD 2 0) (by decide +kernel)
theorem xFix_as : Cond.static arraycopyName ∈ xTs := xat_in (p := xFix.getD 3 0) (by decide +kernel)
theorem xFix_si : Cond.initialized "java/lang/System" ∈ xTs := xat_in (p := xFix.getD 4 0) (by decide +kernel)
theorem xFix_40 : Cond.arrayClass .int ∈ xTs := xat_in (p := xFix.getD 5 0) (by decide +kernel)
theorem xFix_41 : Cond.arrayClass .byte ∈ xTs := xat_in (p := xFix.getD 6 0) (by decide +kernel)
theorem xFix_42 : Cond.arrayClass .boolean ∈ xTs := xat_in (p := xFix.getD 7 0) (by decide +kernel)
theorem xFix_43 : Cond.arrayClass .long ∈ xTs := xat_in (p := xFix.getD 8 0) (by decide +kernel)
theorem xMAs_ok : xMAs.all (fun q => (q.2.2.1 == 998 && xat q.2.2.2 (.methodLink (xcn q.1) q.2.1 Lib.Math.abs.name)) || (q.2.2.1 == 997 && xat q.2.2.2 (.methodLink (xcn q.1) q.2.1 Lib.Math.min.name)) || (q.2.2.1 == 996 && xat q.2.2.2 (.methodLink (xcn q.1) q.2.1 Lib.Math.max.name))) = true := by decide +kernel
theorem xFix_mi : Cond.initialized "java/lang/Math" ∈ xTs := xat_in (p := xFix.getD 9 0) (by decide +kernel)
theorem xFix_98 : Cond.static Lib.Math.abs.name ∈ xTs := xat_in (p := xFix.getD 10 0) (by decide +kernel)
theorem xFix_97 : Cond.static Lib.Math.min.name ∈ xTs := xat_in (p := xFix.getD 11 0) (by decide +kernel)
theorem xFix_96 : Cond.static Lib.Math.max.name ∈ xTs := xat_in (p := xFix.getD 12 0) (by decide +kernel)
theorem xFix_c98 : Cond.code Lib.Math.abs.name Lib.Math.abs.code 1 (some .int) ∈ xTs := xat_in (p := xFix.getD 13 0) (by decide +kernel)
theorem xFix_c97 : Cond.code Lib.Math.min.name Lib.Math.min.code 2 (some .int) ∈ xTs := xat_in (p := xFix.getD 14 0) (by decide +kernel)
theorem xFix_c96 : Cond.code Lib.Math.max.name Lib.Math.max.code 2 (some .int) ∈ xTs := xat_in (p := xFix.getD 15 0) (by decide +kernel)
/-- a callee: number, parameters, the places of its words: code, class, instance method, selected, static -/
def xcaB (q : Nat × Nat × Nat × Nat × Nat × Nat × Nat) : Bool :=
  xat q.2.2.2.1 (.initialized (xprog q.1).1.cls) && plainName (xprog q.1).1.cls && decide ((xprog q.1).1.cls ≠ "java/lang/invoke/MethodHandle") && decide ((xprog q.1).1.cls ≠ "java/lang/invoke/VarHandle") && decide ((parseMethodDescriptor (xprog q.1).1.desc).map (fun d => d.parameters.length) = some q.2.1)
    && (q.2.2.2.2.1 == 0 || xat (q.2.2.2.2.1 - 1) (.instanceMethod (xprog q.1).1)) && (q.2.2.2.2.2.1 == 0 || (xat (q.2.2.2.2.2.1 - 1) (.selects (xprog q.1).1.cls (xprog q.1).1 (xprog q.1).1) && (((xprog q.1).2.2.2.2.2.1 == 31 && decide ((xprog q.1).1.cls = "java/lang/String")) || (decide ((xprog q.1).2.2.2.2.2.1 < 31) && (match xcl[(xprog q.1).2.2.2.2.2.1]? with
      | some r => decide (r.1 = (xprog q.1).1.cls)
      | none => false))))) && (q.2.2.2.2.2.2 == 0 || xat (q.2.2.2.2.2.2 - 1) (.static (xprog q.1).1))
def xcw (q : Nat × Nat × Nat × Nat × Nat × Nat × Nat) : Prop := Cond.code (xprog q.1).1 (xprog q.1).2.1 (xprog q.1).2.2.1 (xprog q.1).2.2.2.1 ∈ xTs
theorem xcw_of {q : Nat × Nat × Nat × Nat × Nat × Nat × Nat} (h : lw_tbl[q.2.2.1]? = some (.code (xprog q.1).1 (xprog q.1).2.1 (xprog q.1).2.2.1 (xprog q.1).2.2.2.1)) : xcw q := List.mem_filter.mpr ⟨List.mem_of_getElem? h, rfl⟩
