/-! the instructions that make cells, that store references in rows, that copy rows -/
def xokt (ty : FieldType) : Bool := match ty with
  | .float => false
  | .double => false
  | _ => true
theorem xval_zero {ext : Nat → Value} {B : Nat} {M : XM} {ty : FieldType} (hE : xExt ext) (h : xokt ty = true) {a k : Nat} (hi : M.2.2.1 a k = 0) (hl : M.2.2.2.1 a k = 0) (hr : M.2.2.2.2 a k = 0) : xval ext B M ty a k = defaultValue ty := by
  cases ty with
  | float => cases h
  | double => cases h
  | long => show Value.long _ = _; rw [hl]; rfl
  | object C => show xv ext B (.ref _) = _; rw [hr, xv_lo (by omega), hE.1]; rfl
  | array C => show xv ext B (.ref _) = _; rw [hr, xv_lo (by omega), hE.1]; rfl
  | _ => show Value.int _ = _; rw [hi]; rfl
theorem xnew_i {M : XM} {t n w k : Nat} : (xnew M t n w).2.2.1 M.1.1 k = 0 := by show xrow _ _ _ _ k = 0; rw [xrow_s]
theorem xnew_l {M : XM} {t n w k : Nat} : (xnew M t n w).2.2.2.1 M.1.1 k = 0 := by show xrow _ _ _ _ k = 0; rw [xrow_s]
theorem xnew_r {M : XM} {t n w k : Nat} : (xnew M t n w).2.2.2.2 M.1.1 k = 0 := by show xrow _ _ _ _ k = 0; rw [xrow_s]
theorem xnew_s {M : XM} {t n w : Nat} : (xnew M t n w).2.1 M.1.1 = (t, n) := if_pos rfl
theorem xS_grow {B : Nat} {H0 H H' : Heap} {locs : List Loc} (hS : va_S (xA B) H0 H locs) (hz : H.size ≤ H'.size) (ho : ∀ q : Nat, q < H.size → H'[q]? = H[q]?) : va_S (xA B) H0 H' locs :=
  ⟨Nat.le_trans hS.1 hz, fun x h1 h2 => (ho x (Nat.lt_of_lt_of_le h1 hS.1)).trans (hS.2.1 x h1 h2), hS.2.2⟩
theorem xpairs (at_ : Nat) : ∀ (xs : List Value) (i : Nat) (c : Cell) (k : Nat), (c.storePairs at_ (xs.zipIdx i)).slots[k]? = if at_ + i ≤ k ∧ k < at_ + i + xs.length ∧ k < c.slots.size then some (xs.getD (k - (at_ + i)) .null) else c.slots[k]?
  | [], i, c, k => by
    rw [if_neg (by simp only [List.length_nil]; omega)]
    rfl
  | x :: xs, i, c, k => by
    rw [List.zipIdx_cons]
    show ((c.setSlot (at_ + i) x).storePairs at_ (xs.zipIdx (i + 1))).slots[k]? = _
    rw [xpairs at_ xs (i + 1)]
    have hsz : (c.setSlot (at_ + i) x).slots.size = c.slots.size := by
      show (c.slots.setIfInBounds (at_ + i) x).size = _
      simp
    rw [hsz]
    simp only [List.length_cons]
    by_cases hk : k = at_ + i
    · subst hk
      rw [if_neg (by omega)]
      show (c.slots.setIfInBounds (at_ + i) x)[at_ + i]? = _
      by_cases hl : at_ + i < c.slots.size
      · rw [if_pos (by omega)]
        simp [Array.getElem?_setIfInBounds, hl]
      · rw [if_neg (by omega)]
        simp [Array.getElem?_setIfInBounds, hl]
    · have hc : (c.setSlot (at_ + i) x).slots[k]? = c.slots[k]? := by
        show (c.slots.setIfInBounds (at_ + i) x)[k]? = _
        rw [Array.getElem?_setIfInBounds_ne (fun z => hk z.symm)]
      by_cases h : at_ + (i + 1) ≤ k ∧ k < at_ + (i + 1) + xs.length ∧ k < c.slots.size
      · rw [if_pos h, if_pos (by omega)]
        have e : k - (at_ + i) = (k - (at_ + (i + 1))) + 1 := by omega
        rw [e, List.getD_cons_succ]
      · rw [if_neg h, if_neg (by omega)]
        exact hc
theorem xnn (z : Int32) (hz : ¬ z < 0) : z.toInt = (z.toNatClampNeg : Int) := by
  have hz0 : (0 : Int) ≤ z.toInt := by
    have := Int32.not_lt.mp hz
    simpa using Int32.le_iff_toInt_le.mp this
  show z.toInt = ((z.toInt.toNat : Nat) : Int)
  omega
section XALL
variable {p : Program} {l : Launch} {e : Env} {R : Room} {s : State} {m : MethodId} {args : Array Value} {below : List Frame} {meth : Method} {c : Code} {Q : State → Prop} {ext : Nat → Value} {B : Nat} {D : va_G} {cl : List vw_C} {fty : Nat → Nat → FieldType} {cells slots : Nat} {pc : Nat} {ls : XL} {st : List Value} {M : XM} {cc : ByteArray} {Ts : List Cond} {own : String}
theorem xs_new (hE : xExt ext) (hx : p.tables.exec = Jvm.exec) (hb : c.code = cc) (hts : ∀ w ∈ Ts, w.before args s = true) (hC : xCls cl fty Ts) (hown : s.vm.findClass own = some m.cls) (hKn : ∀ (c : Nat) (q : vw_C), cl[c]? = some q → u_Kn s q.1 q.2.1 q.2.2 (D.1 c) (D.2 c)) {t i n : Nat} {r : vw_C} (ht31 : t < 31) (hcl : cl[t]? = some r) (hokt : ∀ k, xokt (fty t k) = true)
    (hclink : (Cond.classLink own i r.1).before args s = true) (hins : (Cond.instantiable r.1 n).before args s = true) (hini : (Cond.initialized r.1).before args s = true) (hcells : cells + 1 ≤ R.cells) (hslots : slots + n ≤ R.slots) (hd : decode cc pc = .ok (.new i, 3)) (kk : xW p l e R s m args below meth c Q ext B D cl fty (cells + 1) (slots + n) (pc + 3) ls (.ref M.1.1 :: st) (xnew M t 0 n)) : xW p l e R s m args below meth c Q ext B D cl fty cells slots pc ls st M := fun H locs lsr hA hS hL => by
  have hKr := hKn t r hcl
  have h5 := hA.2.2.2.2.1
  have h6 := hA.2.2.2.2.2
  refine W.newcK hx hb hown hclink hins hini rfl hd hcells hslots hKr.2.1 rfl fun H' kC hkC e1 z1 o1 => ?_
  have k1 := kk H' locs lsr (xAbs_new hA z1 o1 (by omega) (fun _ => ⟨h5, r, by rw [xnew_s]; exact hcl, ?_⟩) (fun z => by omega)) (xS_grow hS (by omega) o1) hL
  · rw [List.map_cons, xv_16 h5, ← h6] at k1
    exact k1
  · rw [xnew_s]
    rw [h6] at e1
    exact (u_born (fty t) hts (hC t r hcl).1 hKr hkC e1 (hC t r hcl).2.1).to (fun k _ => (xval_zero hE (hokt k) xnew_i xnew_l xnew_r).symm)
theorem xArr_new (hE : xExt ext) {H' : Heap} {t n w : Nat} {cA : ClassId} (h16 : 16 ≤ M.1.1) (e1 : H'[B + (M.1.1 - 16)]? = some (arrV cA n (fun _ => defaultValue (xaty t)))) (hAr : ArrOfT s cA (xaty t)) (hokt : xokt (xaty t) = true) (hRA : 45 ≤ t → va_RA s cA (xaty t)) : xArr ext B s H' (xnew M t n w) M.1.1 := by
  refine ⟨B + (M.1.1 - 16), _, xv_16 h16, fun z => by omega, e1, ?_, fun z => (by cases z), ?_, ?_, ?_⟩
  · rw [xnew_s]; exact hAr n _
  · rw [xnew_s, arrV_size]; exact ⟨Nat.le_refl _, rfl, fun _ => rfl⟩
  · rw [xnew_s]
    intro k hk
    rw [arrV_read _ _ hk, xval_zero hE hokt xnew_i xnew_l xnew_r]
  · rw [xnew_s]; exact hRA
theorem xs_newa (hE : xExt ext) (hx : p.tables.exec = Jvm.exec) (hb : c.code = cc) {atype : ArrayType} {t : Nat} {n : Int32} (ht : newarray.typeOf atype = xaty t) (h1 : 40 ≤ t) (h2 : t ≤ 43) (harr : (Cond.arrayClass (newarray.typeOf atype)).before args s = true) (hn : ¬ n < 0) (hN : n.toNatClampNeg ≤ 10000) (hcells : cells + 1 ≤ R.cells) (hslots : slots + n.toNatClampNeg ≤ R.slots) (hd : decode cc pc = .ok (.newarray atype, 2)) (kk : xW p l e R s m args below meth c Q ext B D cl fty (cells + 1) (slots + n.toNatClampNeg) (pc + 2) ls (.ref M.1.1 :: st) (xnew M t n.toNatClampNeg n.toNatClampNeg)) : xW p l e R s m args below meth c Q ext B D cl fty cells slots pc ls (.int n :: st) M := fun H locs lsr hA hS hL => by
  have h5 := hA.2.2.2.2.1
  have h6 := hA.2.2.2.2.2
  refine W.newaK hx hb harr rfl hd rfl hn rfl ?_ hcells hslots rfl fun H' cA e1 z1 o1 hAr => ?_
  · have : componentBytes (newarray.typeOf atype) ≤ 8 := by cases atype <;> decide
    calc _ ≤ 10000 * 8 := Nat.mul_le_mul hN this
      _ ≤ _ := by decide
  · rw [ht] at e1 hAr
    rw [h6] at e1
    have hokt : xokt (xaty t) = true := by
      have : t = 40 ∨ t = 41 ∨ t = 42 ∨ t = 43 := by omega
      rcases this with h | h | h | h <;> subst h <;> rfl
    have k1 := kk H' locs lsr (xAbs_new hA z1 o1 (by omega) (fun z => by omega) (fun _ _ => xArr_new hE h5 e1 hAr hokt (fun z => by omega))) (xS_grow hS (by omega) o1) hL
    rw [List.map_cons, xv_16 h5, ← h6] at k1
    exact k1
theorem xs_anew (hE : xExt ext) (hx : p.tables.exec = Jvm.exec) (hb : c.code = cc) {C : String} {t i : Nat} {n : Int32} (hown : s.vm.findClass own = some m.cls) (ht : xaty t = .object C) (h1 : 45 ≤ t) (h2 : t ≤ 46) (hclink : (Cond.classLink own i C).before args s = true) (hover : va_AO C s) (hn : ¬ n < 0) (hN : n.toNatClampNeg ≤ 10000) (hcells : cells + 1 ≤ R.cells) (hslots : slots + n.toNatClampNeg ≤ R.slots) (hd : decode cc pc = .ok (.anewarray i, 3)) (kk : xW p l e R s m args below meth c Q ext B D cl fty (cells + 1) (slots + n.toNatClampNeg) (pc + 3) ls (.ref M.1.1 :: st) (xnew M t n.toNatClampNeg n.toNatClampNeg)) : xW p l e R s m args below meth c Q ext B D cl fty cells slots pc ls (.int n :: st) M := fun H locs lsr hA hS hL => by
  have h5 := hA.2.2.2.2.1
  have h6 := hA.2.2.2.2.2
  refine W.anew hx hb hown hclink (va_AO.use hover) rfl hd rfl hn (by omega) hcells hslots fun cA kA comp g1 g2 g3 g4 => ?_
  rw [arrV_new]
  have e1 : (H.push (arrV cA n.toNatClampNeg (fun _ => .null)))[B + (M.1.1 - 16)]? = some (arrV cA n.toNatClampNeg (fun _ => defaultValue (xaty t))) := by
    rw [← h6, ht]
    simp [defaultValue]
  have o1 : ∀ q : Nat, q < H.size → (H.push (arrV cA n.toNatClampNeg (fun _ => .null)))[q]? = H[q]? := fun q hq => by rw [Array.getElem?_push, if_neg (Nat.ne_of_lt hq)]
  have hAr : ArrOfT s cA (xaty t) := by rw [ht]; exact fun n z => ⟨fun k h => (by cases h), kA, g2, comp, g3⟩
  have hRA : va_RA s cA (xaty t) := by rw [ht]; exact ⟨kA, comp, g2, g3, g4, g1⟩
  have k1 := kk _ locs lsr (xAbs_new hA (by simp) o1 (by omega) (fun z => by omega) (fun _ _ => xArr_new hE h5 e1 hAr (by rw [ht]; rfl) (fun _ => hRA))) (xS_grow hS (by simp) o1) hL
  rw [List.map_cons, xv_16 h5, ← h6] at k1
  exact k1
theorem xs_aast (hx : p.tables.exec = Jvm.exec) (hb : c.code = cc) (hKn : ∀ (c : Nat) (q : vw_C), cl[c]? = some q → u_Kn s q.1 q.2.1 q.2.2 (D.1 c) (D.2 c)) {o x t tx : Nat} {i : Int32} {r : vw_C} (h1 : (M.2.1 o).1 = t) (h45 : 45 ≤ t) (h46 : t ≤ 46) (h16 : 16 ≤ o) (hxx : (M.2.1 x).1 = tx) (htx : tx < 31) (hcl : cl[tx]? = some r) (hty : xaty t = .object r.1) (hi : ¬ (i < 0 ∨ (M.2.1 o).2 ≤ i.toNatClampNeg)) (hd : decode cc pc = .ok (.aastore, 1)) (kk : xW p l e R s m args below meth c Q ext B D cl fty cells slots (pc + 1) ls st (xmR M o i.toNatClampNeg x)) : xW p l e R s m args below meth c Q ext B D cl fty cells slots pc ls (.ref x :: .int i :: .ref o :: st) M := fun H locs lsr hA hS hL => by
  obtain ⟨q, cell, q1, q2, q3, q4, q5, q6, q7, q8⟩ := hA.2.2.1 o (by omega) (by omega)
  have hlt : i.toNatClampNeg < (M.2.1 o).2 := Nat.not_le.mp fun z => hi (Or.inr z)
  rw [xv_16 h16] at q1
  cases q1
  obtain ⟨hx16, r', hr', cv, v1, v2, v3, v4⟩ := hA.1 x (by omega)
  rw [hxx] at hr' v2
  cases hcl.symm.trans hr'
  have hcls := (hKn tx r hcl).2
  have hRA := q8 (by omega)
  rw [h1, hty] at hRA
  obtain ⟨kA, comp, k1, k2, k3, -⟩ := hRA
  have hcomp : comp = D.1 tx := Option.some.inj (k3.symm.trans hcls.1)
  subst hcomp
  obtain ⟨kC, hkC, hkind⟩ := hcls.2
  have hobj := q4.1
  rw [List.map_cons, List.map_cons, List.map_cons, xv_16 h16, xv_16 hx16]
  refine W.aast hx hb q3 hobj q5 k1 k2 rfl hkC ⟨fun z => hi (Or.inl z), by rw [q6.2.2 h16]; exact hlt⟩ v1 (fun q h => by rw [v3] at h; cases h) (by rw [v2]; exact hkC) (by rw [v2]; exact va_assign (hKn tx r hcl).2) rfl rfl hd fun H' e1 e2 e3 => ?_
  refine kk H' _ lsr (xAbs_upd hA h16 rfl rfl xRow_R e2 e3 (fun z => by omega) (fun _ _ => xArr_put (M := M) h16 rfl rfl hlt e1 q4 q5 (q6.2.2 h16) q7 q8 (fun j => ?_))) (hS.put e2 e3 (Nat.le_add_right _ _)) hL
  rw [xval_R (tk := xaty (M.2.1 o).1) (by rw [h1]; exact xaty_ref (by omega)) (fun _ => rfl), xv_16 hx16]
theorem xs_objInit (hx : p.tables.exec = Jvm.exec) (hb : c.code = cc) (hml : c.maxLocals = ls.length) {o i : Nat} (hown : s.vm.findClass own = some m.cls) (hlink : (Cond.methodLink own i Lib.objectInit).before args s = true) (hinst : (Cond.instanceMethod Lib.objectInit).before args s = true) (hcode : (Cond.code Lib.objectInit ⟨#[0xb1]⟩ 1 none).before args s = true) (h16 : 16 ≤ o) (hfr : 1 ≤ R.frames) (hlo : 20 ≤ R.locals) (hE : xExt ext) (hcat : xcat st ≤ 8) (hd : decode cc pc = .ok (.invokespecial i, 3)) (kk : xW p l e R s m args below meth c Q ext B D cl fty cells slots (pc + 3) ls st M) : xW p l e R s m args below meth c Q ext B D cl fty cells slots pc ls (.ref o :: st) M := fun H locs lsr hA hS hL => by
  rw [List.map_cons, xv_16 h16]
  refine W.objInit hx hb hown hlink hinst hcode rfl ?_ rfl hd hfr ?_ (kk H locs lsr hA hS hL)
  · show lsr.size = _; rw [xLR_size hL, hml]
  · show 2 * 0 + _ + 12 ≤ _
    have : (List.map (fun v => v.category) (List.map (xv ext B) st)) = st.map (fun v => v.category) := by
      rw [List.map_map]
      exact List.map_congr_left (fun v _ => xv_cat hE v)
    rw [this]
    have h9 : (st.map fun v => v.category).sum ≤ 8 := hcat
    omega
theorem xs_copy (hE : xExt ext) (hx : p.tables.exec = Jvm.exec) (hb : c.code = cc) (hml : c.maxLocals = ls.length) {so to i : Nat} {sp dp n : Int32} (hown : s.vm.findClass own = some m.cls) (hlink : (Cond.methodLink own i arraycopyName).before args s = true) (hnat : (Cond.native arraycopyName).before args s = true) (hstat : (Cond.static arraycopyName).before args s = true) (hini : (Cond.initialized "java/lang/System").before args s = true)
    (hso : (M.2.1 so).1 = 40) (hto : (M.2.1 to).1 = 40) (ht16 : 16 ≤ to) (hs16 : 16 ≤ so) (h1 : ¬ sp < 0) (h2 : ¬ dp < 0) (h3 : ¬ n < 0) (h4 : sp.toNatClampNeg + n.toNatClampNeg ≤ (M.2.1 so).2) (h5 : dp.toNatClampNeg + n.toNatClampNeg ≤ (M.2.1 to).2) (hcat : xcat st ≤ 8) (hfr : 1 ≤ R.frames) (hlo : 40 ≤ R.locals) (hd : decode cc pc = .ok (.invokestatic i, 3))
    (kk : xW p l e R s m args below meth c Q ext B D cl fty cells slots (pc + 3) ls st (xcopy M so sp.toNatClampNeg to dp.toNatClampNeg n.toNatClampNeg)) : xW p l e R s m args below meth c Q ext B D cl fty cells slots pc ls (.int n :: .int dp :: .ref to :: .int sp :: .ref so :: st) M := fun H locs lsr hA hS hL => by
  obtain ⟨q, cs, q1, q2, q3, q4, q5, q6, q7, q8⟩ := hA.2.2.1 so (by omega) (by omega)
  obtain ⟨q', cd, r1, r2, r3, r4, r5, r6, r7, r8⟩ := hA.2.2.1 to (by omega) (by omega)
  rw [xv_16 hs16] at q1
  rw [xv_16 ht16] at r1
  cases q1
  cases r1
  rw [hso] at q4 q7
  have r4' := r4
  rw [hto] at r4' r7
  obtain ⟨g1, k0, hk0, cm0, hkk0⟩ := q4
  obtain ⟨g2, k1, hk1, cm1, hkk1⟩ := r4'
  have hmap : (List.map (fun v => v.category) (List.map (xv ext B) st)) = st.map (fun v => v.category) := by
    rw [List.map_map]
    exact List.map_congr_left (fun v _ => xv_cat hE v)
  intro T hT X
  simp only [List.map_cons, xv_16 hs16, xv_16 ht16]
  have eget : ∀ j, j < n.toNatClampNeg → cs.slots.getD (sp.toNatClampNeg + j) .null = .int (M.2.2.1 so (sp.toNatClampNeg + j)) := fun j hj => by
    rw [Array.getD_eq_getD_getElem?, q7 _ (by omega)]
    rfl
  obtain ⟨vm', X', step⟩ := X.arraycopy hx hown hlink hnat hstat hini (src := B + (so - 16)) (dst := B + (to - 16)) (cs := cs) (cd := cd) (srcPos := sp) (destPos := dp) (n := n) (by rw [hT]; exact q3) (by rw [hT]; exact r3)
    g1 g2 q5 r5 hk0 hk1 hkk0 hkk1 (by rfl) h1 h2 h3
    (by rw [xnn sp h1, xnn n h3, q6.2.2 hs16]; omega) (by rw [xnn dp h2, xnn n h3, r6.2.2 ht16]; omega)
    (fun vm₁ _ j hj => by rw [eget j hj]; exact ⟨rfl, trivial⟩)
    (g := F0 m pc lsr (.int n :: .int dp :: .ref (B + (to - 16)) :: .int sp :: .ref (B + (so - 16)) :: st.map (xv ext B))) rfl (by show lsr.size = _; rw [xLR_size hL, hml]) (rest := st.map (xv ext B)) rfl (by rw [hb]; exact hd) hfr (by show 2 * 0 + _ + (5 + 2 + 11) ≤ _; rw [hmap]; have h9 : (st.map fun v => v.category).sum ≤ 8 := hcat; omega)
  generalize hcp : copied cs cd sp dp n = cx at X' step
  have hl : B + (to - 16) < H.size := (Array.getElem?_eq_some_iff.mp r3).1
  have hfacts := Cell.storePairs_facts cd dp.toNatClampNeg ((cs.stretch sp.toNatClampNeg n.toNatClampNeg).zipIdx)
  have hcx : cx = cd.storePairs dp.toNatClampNeg ((cs.stretch sp.toNatClampNeg n.toNatClampNeg).zipIdx) := hcp.symm
  have hlen : (cs.stretch sp.toNatClampNeg n.toNatClampNeg).length = n.toNatClampNeg := by simp [Cell.stretch]
  have hheap : ((T.setVm vm').setCell (B + (to - 16)) cx).heap = H.setIfInBounds (B + (to - 16)) cx := by rw [← hT]; rfl
  have e3 : ∀ q : Nat, q ≠ B + (to - 16) → (H.setIfInBounds (B + (to - 16)) cx)[q]? = H[q]? := fun q hq => by simp [Array.getElem?_setIfInBounds, Ne.symm hq]
  have e1 : (H.setIfInBounds (B + (to - 16)) cx)[B + (to - 16)]? = some cx := by simp [Array.getElem?_setIfInBounds, hl]
  have hA' : xAbs ext B D cl fty s (H.setIfInBounds (B + (to - 16)) cx) (xcopy M so sp.toNatClampNeg to dp.toNatClampNeg n.toNatClampNeg) := by
    refine xAbs_upd hA ht16 rfl rfl (fun b hb => ⟨rfl, xrow_n _ _ hb, rfl, rfl⟩) (by simp) e3 (fun z => by omega) (fun _ _ => ⟨B + (to - 16), cx, xv_16 ht16, fun z => by omega, e1, ?_, ?_, ?_, ?_, fun z => ?_⟩)
    · show State.isArrayOf s cx (xaty (M.2.1 to).1)
      rw [hto]
      refine ⟨?_, k1, ?_, cm1, hkk1⟩
      · rw [hcx, hfacts.2.1]; exact g2
      · rw [hcx, hfacts.1]; exact hk1
    · rw [hcx, hfacts.2.1]; exact r5
    · show (M.2.1 to).2 ≤ cx.slots.size ∧ cx.slots.size.toInt32 = nI (M.2.1 to).2 ∧ (16 ≤ to → cx.slots.size = (M.2.1 to).2)
      rw [hcx, hfacts.2.2.1]; exact r6
    · show ∀ k, k < (M.2.1 to).2 → cx.slots[k]? = some (xval ext B (xcopy M so sp.toNatClampNeg to dp.toNatClampNeg n.toNatClampNeg) (xaty (M.2.1 to).1) to k)
      intro k hk
      rw [hto]
      show _ = some (Value.int (xrow M.2.2.1 to (va_cpy (M.2.2.1 so) (M.2.2.1 to) sp.toNatClampNeg dp.toNatClampNeg n.toNatClampNeg) to k))
      rw [xrow_s, hcx, show (cs.stretch sp.toNatClampNeg n.toNatClampNeg).zipIdx = (cs.stretch sp.toNatClampNeg n.toNatClampNeg).zipIdx 0 from rfl, xpairs, hlen, r6.2.2 ht16]
      unfold va_cpy
      by_cases h : dp.toNatClampNeg ≤ k ∧ k < dp.toNatClampNeg + n.toNatClampNeg
      · rw [if_pos (by omega), if_pos h]
        unfold Cell.stretch
        rw [Nat.add_zero, List.getD_eq_getElem?_getD, List.getElem?_map, List.getElem?_range (by omega)]
        show some (cs.slots.getD _ _) = _
        rw [eget _ (by omega)]
      · rw [if_neg (by omega), if_neg h]
        exact r7 k hk
    · have : 45 ≤ (M.2.1 to).1 := z
      omega
  have hS' : va_S (xA B) s.heap (H.setIfInBounds (B + (to - 16)) cx) (locs ++ (cs.stretch sp.toNatClampNeg n.toNatClampNeg).zipIdx.map fun q => ⟨B + (to - 16), dp.toNatClampNeg + q.2⟩) := by
    refine ⟨by simp; exact hS.1, fun q z1 z2 => ?_, fun q hq => ?_⟩
    · rw [e3 q (fun e => z2 (by rw [e]; exact Nat.le_add_right _ _))]
      exact hS.2.1 q z1 z2
    · rcases List.mem_append.mp hq with h | h
      · exact hS.2.2 q h
      · obtain ⟨z, -, hz⟩ := List.mem_map.mp h
        rw [← hz]
        exact Nat.le_add_right _ _
  obtain ⟨t, a1, b1⟩ := kk _ _ lsr hA' hS' hL _ hheap X'
  exact ⟨t, step t a1, b1⟩
theorem xcat_map0 (hE : xExt ext) (st : List Value) : (List.map (fun v => v.category) (List.map (xv ext B) st)).sum = xcat st := by
  unfold xcat
  rw [List.map_map]
  congr 1
  exact List.map_congr_left (fun v _ => xv_cat hE v)
theorem xs_mmax (hE : xExt ext) (hx : p.tables.exec = Jvm.exec) (hb : c.code = cc) (hml : c.maxLocals = ls.length) {i : Nat} {x y : Int32} (hown : s.vm.findClass own = some m.cls) (hlink : (Cond.methodLink own i Lib.Math.max.name).before args s = true) (hstat : (Cond.static Lib.Math.max.name).before args s = true) (hini : (Cond.initialized "java/lang/Math").before args s = true) (hcode : (Cond.code Lib.Math.max.name Lib.Math.max.code 2 (some .int)).before args s = true) (hcat : xcat st ≤ 8) (hfr : 1 ≤ R.frames) (hlo : 40 ≤ R.locals) (hc : cells ≤ R.cells) (hs : slots ≤ R.slots) (hd : decode cc pc = .ok (.invokestatic i, 3)) (kk : xW p l e R s m args below meth c Q ext B D cl fty cells slots (pc + 3) ls (.int (if x < y then y else x) :: st) M) : xW p l e R s m args below meth c Q ext B D cl fty cells slots pc ls (.int y :: .int x :: st) M := fun H locs lsr hA hS hL => va_mmax hx hb (by rw [hml, xLR_size hL]) hown hlink hstat hini hcode hfr (by rw [xcat_map0 hE]; omega) hc hs hd (kk H locs lsr hA hS hL)
theorem xs_mmin (hE : xExt ext) (hx : p.tables.exec = Jvm.exec) (hb : c.code = cc) (hml : c.maxLocals = ls.length) {i : Nat} {x y : Int32} (hown : s.vm.findClass own = some m.cls) (hlink : (Cond.methodLink own i Lib.Math.min.name).before args s = true) (hstat : (Cond.static Lib.Math.min.name).before args s = true) (hini : (Cond.initialized "java/lang/Math").before args s = true) (hcode : (Cond.code Lib.Math.min.name Lib.Math.min.code 2 (some .int)).before args s = true) (hcat : xcat st ≤ 8) (hfr : 1 ≤ R.frames) (hlo : 40 ≤ R.locals) (hc : cells ≤ R.cells) (hs : slots ≤ R.slots) (hd : decode cc pc = .ok (.invokestatic i, 3)) (kk : xW p l e R s m args below meth c Q ext B D cl fty cells slots (pc + 3) ls (.int (if y < x then y else x) :: st) M) : xW p l e R s m args below meth c Q ext B D cl fty cells slots pc ls (.int y :: .int x :: st) M := fun H locs lsr hA hS hL => va_mmin hx hb (by rw [hml, xLR_size hL]) hown hlink hstat hini hcode hfr (by rw [xcat_map0 hE]; omega) hc hs hd (kk H locs lsr hA hS hL)
theorem xs_mabs (hE : xExt ext) (hx : p.tables.exec = Jvm.exec) (hb : c.code = cc) (hml : c.maxLocals = ls.length) {i : Nat} {x : Int32} (hown : s.vm.findClass own = some m.cls) (hlink : (Cond.methodLink own i Lib.Math.abs.name).before args s = true) (hstat : (Cond.static Lib.Math.abs.name).before args s = true) (hini : (Cond.initialized "java/lang/Math").before args s = true) (hcode : (Cond.code Lib.Math.abs.name Lib.Math.abs.code 1 (some .int)).before args s = true) (hcat : xcat st ≤ 8) (hfr : 1 ≤ R.frames) (hlo : 40 ≤ R.locals) (hc : cells ≤ R.cells) (hs : slots ≤ R.slots) (hd : decode cc pc = .ok (.invokestatic i, 3)) (kk : xW p l e R s m args below meth c Q ext B D cl fty cells slots (pc + 3) ls (.int (if 0 ≤ x then x else 0 - x) :: st) M) : xW p l e R s m args below meth c Q ext B D cl fty cells slots pc ls (.int x :: st) M := fun H locs lsr hA hS hL => va_mabs hx hb (by rw [hml, xLR_size hL]) hown hlink hstat hini hcode hfr (by rw [xcat_map0 hE]; omega) hc hs hd (kk H locs lsr hA hS hL)
end XALL
