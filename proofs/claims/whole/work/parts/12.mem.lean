/-! the instructions that read, write and make cells -/
def xCls (cl : List vw_C) (fty : Nat → Nat → FieldType) (Ts : List Cond) : Prop := ∀ (t : Nat) (r : vw_C), cl[t]? = some r → (∀ w ∈ u_ws r.1 r.2.1 r.2.2, w ∈ Ts) ∧ (∀ k, k < r.2.2 → parseFieldDescriptor (r.2.1 k).2.2.1 = some (fty t k)) ∧ (∀ a, a < r.2.2 → ∀ b, b < r.2.2 → a ≠ b → (r.2.1 a).2.1 ≠ (r.2.1 b).2.1)
def xilk (ty : FieldType) : Bool := match ty with
  | .long => false
  | .object _ => false
  | .array _ => false
  | _ => true
theorem xval_ilk {ext : Nat → Value} {B : Nat} {M : XM} {ty : FieldType} (h : xilk ty = true) (a k : Nat) : xval ext B M ty a k = .int (M.2.2.1 a k) := by
  cases ty <;> first | rfl | cases h
theorem xval_ref {ext : Nat → Value} {B : Nat} {M : XM} {ty : FieldType} (h : ty.isReference = true) (a k : Nat) : xval ext B M ty a k = xv ext B (.ref (M.2.2.2.2 a k)) := by
  cases ty <;> first | rfl | cases h
theorem xval_I {ext : Nat → Value} {B : Nat} {M : XM} {ty : FieldType} {a k : Nat} {x : Int32} {tk : FieldType} (hk : xilk tk = true) {j : Nat} (hj : j = k → ty = tk) : xval ext B (xmI M a k x) ty a j = if j = k then .int x else xval ext B M ty a j := by
  by_cases e : j = k
  · rw [if_pos e, hj e, xval_ilk hk]
    show Value.int (xup M.2.2.1 a k x a j) = _
    rw [xup_s, e, xone_s]
  · rw [if_neg e]
    unfold xval
    have h1 : (xmI M a k x).2.2.1 a j = M.2.2.1 a j := by
      show xup M.2.2.1 a k x a j = _
      rw [xup_s, xone_n _ _ e]
    rw [h1]
    rfl
theorem xval_L {ext : Nat → Value} {B : Nat} {M : XM} {ty : FieldType} {a k : Nat} {x : Int64} {j : Nat} (hj : j = k → ty = .long) : xval ext B (xmL M a k x) ty a j = if j = k then .long x else xval ext B M ty a j := by
  by_cases e : j = k
  · rw [if_pos e, hj e]
    show Value.long (xup M.2.2.2.1 a k x a j) = _
    rw [xup_s, e, xone_s]
  · rw [if_neg e]
    unfold xval
    have h1 : (xmL M a k x).2.2.2.1 a j = M.2.2.2.1 a j := by
      show xup M.2.2.2.1 a k x a j = _
      rw [xup_s, xone_n _ _ e]
    rw [h1]
    rfl
theorem xval_R {ext : Nat → Value} {B : Nat} {M : XM} {ty : FieldType} {a k : Nat} {x : Nat} {tk : FieldType} (hk : tk.isReference = true) {j : Nat} (hj : j = k → ty = tk) : xval ext B (xmR M a k x) ty a j = if j = k then xv ext B (.ref x) else xval ext B M ty a j := by
  by_cases e : j = k
  · rw [if_pos e, hj e, xval_ref hk]
    show xv ext B (.ref (xup M.2.2.2.2 a k x a j)) = _
    rw [xup_s, e, xone_s]
  · rw [if_neg e]
    unfold xval
    have h1 : (xmR M a k x).2.2.2.2 a j = M.2.2.2.2 a j := by
      show xup M.2.2.2.2 a k x a j = _
      rw [xup_s, xone_n _ _ e]
    rw [h1]
    rfl
theorem xRow_I {M : XM} {a k : Nat} {x : Int32} : ∀ b, b ≠ a → xRow M (xmI M a k x) b := fun b h => ⟨rfl, xup_n _ _ _ h, rfl, rfl⟩
theorem xRow_L {M : XM} {a k : Nat} {x : Int64} : ∀ b, b ≠ a → xRow M (xmL M a k x) b := fun b h => ⟨rfl, rfl, xup_n _ _ _ h, rfl⟩
theorem xRow_R {M : XM} {a k : Nat} {x : Nat} : ∀ b, b ≠ a → xRow M (xmR M a k x) b := fun b h => ⟨rfl, rfl, rfl, xup_n _ _ _ h⟩
theorem xset_slots {cell : Cell} {i k : Nat} {v w : Value} {n : Nat} (hn : cell.slots.size = n) (hi : i < n) (hk : k < n) (h : cell.slots[k]? = some w) : (cell.setSlot i v).slots[k]? = some (if k = i then v else w) := by
  show (cell.slots.setIfInBounds i v)[k]? = _
  by_cases e : k = i
  · subst e
    rw [if_pos rfl]
    simp [Array.getElem?_setIfInBounds, hn, hi]
  · rw [if_neg e, Array.getElem?_setIfInBounds_ne (fun z => e z.symm)]
    exact h
section XMEM
variable {p : Program} {l : Launch} {e : Env} {R : Room} {s : State} {m : MethodId} {args : Array Value} {below : List Frame} {meth : Method} {c : Code} {Q : State → Prop} {ext : Nat → Value} {B : Nat} {D : va_G} {cl : List vw_C} {fty : Nat → Nat → FieldType} {cells slots : Nat} {pc : Nat} {ls : XL} {st : List Value} {M : XM} {cc : ByteArray} {Ts : List Cond} {own : String}
theorem xs_getf (hx : p.tables.exec = Jvm.exec) (hb : c.code = cc) (hts : ∀ w ∈ Ts, w.before args s = true) (hC : xCls cl fty Ts) (hown : s.vm.findClass own = some m.cls) (hKn : ∀ (c : Nat) (q : vw_C), cl[c]? = some q → u_Kn s q.1 q.2.1 q.2.2 (D.1 c) (D.2 c)) {o t i k : Nat} {r : vw_C} {v : Value} (ht : (M.2.1 o).1 = t) (ht31 : t < 31) (hcl : cl[t]? = some r) (hk : k < r.2.2) (hlink : (Cond.fieldLink own i (r.2.1 k).1 (r.2.1 k).2.1 (r.2.1 k).2.2.1).before args s = true) (hv : xval ext B M (fty t k) o k = xv ext B v) (hd : decode cc pc = .ok (.getfield i, 3)) (kk : xW p l e R s m args below meth c Q ext B D cl fty cells slots (pc + 3) ls (v :: st) M) : xW p l e R s m args below meth c Q ext B D cl fty cells slots pc ls (.ref o :: st) M := fun H locs lsr hA hS hL => by
  obtain ⟨h16, r', hr', cell, q1, q2, q3, q4⟩ := hA.1 o (by omega)
  rw [ht] at hr' q2 q4
  cases hcl.symm.trans hr'
  obtain ⟨hSl, hfc, kC, hkC, hkind⟩ := hKn t r hcl
  obtain ⟨cf, kf, fi, f, hi, hsl⟩ := hSl k hk
  rw [List.map_cons, xv_16 h16]
  refine W.getf hx hb hown hlink hi (u_facts hfc hkC (u_lays hts (hC t r hcl).1 hk) hi).1 q1 (by rw [q3]; exact fun h => by cases h) (v := xv ext B v) ?_ rfl rfl hd (kk H locs lsr hA hS hL)
  rw [hsl, q4 k hk, ← ht, ← hv, ht]
theorem xs_getS (hx : p.tables.exec = Jvm.exec) (hb : c.code = cc) (hown : s.vm.findClass own = some m.cls) {o i : Nat} {n d : String} {v : Value} {q : Nat} (hlink : (Cond.fieldLink own i "java/lang/String" n d).before args s = true) (hq : xv ext B (.ref o) = .ref q) (hF : ∀ H, xAbs ext B D cl fty s H M → va_OF "java/lang/String" n d (xv ext B v) q (xA B) s H) (hd : decode cc pc = .ok (.getfield i, 3)) (kk : xW p l e R s m args below meth c Q ext B D cl fty cells slots (pc + 3) ls (v :: st) M) : xW p l e R s m args below meth c Q ext B D cl fty cells slots pc ls (.ref o :: st) M := fun H locs lsr hA hS hL => by
  obtain ⟨cf, k, fi, f, cell, h1, h2, h3, h4, h5, -⟩ := hF H hA
  rw [List.map_cons, hq]
  exact W.getf hx hb hown hlink h1 h2 h3 h4 (v := xv ext B v) h5 rfl rfl hd (kk H locs lsr hA hS hL)
theorem xs_putf (hx : p.tables.exec = Jvm.exec) (hb : c.code = cc) (hts : ∀ w ∈ Ts, w.before args s = true) (hC : xCls cl fty Ts) (hown : s.vm.findClass own = some m.cls) (hKn : ∀ (c : Nat) (q : vw_C), cl[c]? = some q → u_Kn s q.1 q.2.1 q.2.2 (D.1 c) (D.2 c)) {o t i k : Nat} {r : vw_C} {v : Value} {M' : XM} (ht : (M.2.1 o).1 = t) (ht31 : t < 31) (hcl : cl[t]? = some r) (hk : k < r.2.2) (hlink : (Cond.fieldLink own i (r.2.1 k).1 (r.2.1 k).2.1 (r.2.1 k).2.2.1).before args s = true)
    (hfin : (r.2.1 k).2.2.2 = false ∨ (meth.name = "<init>" ∧ (r.2.1 k).1 = own)) (hn : narrow (fty t k) (xv ext B v) = xv ext B v) (hfit : fits (fty t k) (xv ext B v) = true) (hz : M'.1.1 = M.1.1) (hsh : M'.2.1 = M.2.1) (hrow : ∀ b, b ≠ o → xRow M M' b) (hval : ∀ j, xval ext B M' (fty t j) o j = if j = k then xv ext B v else xval ext B M (fty t j) o j)
    (hd : decode cc pc = .ok (.putfield i, 3)) (kk : xW p l e R s m args below meth c Q ext B D cl fty cells slots (pc + 3) ls st M') : xW p l e R s m args below meth c Q ext B D cl fty cells slots pc ls (v :: .ref o :: st) M := fun H locs lsr hA hS hL => by
  obtain ⟨h16, r', hr', cell, q1, q2, q3, q4⟩ := hA.1 o (by omega)
  rw [ht] at hr' q2 q4
  cases hcl.symm.trans hr'
  have hKr := hKn t r hcl
  obtain ⟨hSl, hfc, kC, hkC, hkind⟩ := hKr
  obtain ⟨cf, kf, fi, f, hi, hsl⟩ := hSl k hk
  obtain ⟨hin, hty, hnm⟩ := hC t r hcl
  have hap : ∀ x y, x < r.2.2 → y < r.2.2 → x ≠ y → (D.2 t) x ≠ (D.2 t) y := va_apart (own := own) (cl := cl) (tys := []) hts hin (fty t) hty hnm ⟨hKn, fun k q h => by simp at h⟩ hcl
  have hst := (u_facts hfc hkC (u_lays hts hin hk) hi).1
  have hlay := hts _ (hin _ (u_in_lay hk))
  have fin : ∀ H' : Heap, H'[B + (o - 16)]? = some (cell.setSlot f.slot (xv ext B v)) → H'.size = H.size → (∀ q, q ≠ B + (o - 16) → H'[q]? = H[q]?) → W p l e R s m args below meth c H' (locs ++ [⟨B + (o - 16), f.slot⟩]) cells slots Q (F0 m (pc + 3) lsr (st.map (xv ext B))) := by
    intro H' e1 e2 e3
    refine kk H' _ lsr (xAbs_upd hA h16 hz hsh hrow e2 e3 (fun _ => ⟨h16, r, by rw [hsh, ht]; exact hcl, ?_⟩) (fun z => by omega)) (hS.put e2 e3 (Nat.le_add_right _ _)) hL
    rw [hsh, ht]
    rw [hsl] at e1
    refine ⟨_, e1, q2, q3, fun j hj => ?_⟩
    rw [t_set q4 hap hk _ j hj]
    dsimp only
    rw [hval j]
    rfl
  rw [List.map_cons, List.map_cons, xv_16 h16]
  by_cases hf0 : (r.2.1 k).2.2.2 = false
  · unfold u_lay at hlay
    rw [if_neg (by rw [hf0]; decide)] at hlay
    have h6 := u_store hfc hkC hkind hlay hi (hty k hk) hn hfit
    exact W.putK hx hb (f := f) ⟨hown, hlink, ⟨_, _, _, hi⟩, hst⟩ (by rw [q2]; exact h6) q1 q3 (by rw [hsl]; exact k2_hasslot (q4 k hk)) rfl rfl hd fin
  · have hf1 : (r.2.1 k).2.2.2 = true := by simpa using hf0
    rcases hfin with h | ⟨hin2, hdecl⟩
    · exact absurd h hf0
    · unfold u_lay at hlay
      rw [if_pos hf1] at hlay
      have hcf : m.cls = cf := by
        obtain ⟨_, _, c', _, _, _, -, -, hf', -, -, -, hown2, -⟩ := Cond.laysFinal_spec hlay
        have e1 : c' = cf := by have := hi.symm.trans hf'; simp at this; exact this.1.symm
        rw [hdecl] at hown2
        rw [← e1]; exact Option.some.inj (hown.symm.trans hown2)
      have h6 := u_fits hfc hkC hkind (Or.inr hlay) hi (hty k hk) hn hfit
      exact W.putFinK hx hb hown hlink hi hst hcf hin2 (by rw [q2]; exact h6) q1 q3 (by rw [hsl]; exact k2_hasslot (q4 k hk)) rfl rfl hd fin
theorem xin_le {i : Int32} {n N : Nat} (h : ¬ (i < 0 ∨ n ≤ i.toNatClampNeg)) (hn : n ≤ N) : ¬ (i < 0 ∨ N ≤ i.toNatClampNeg) := fun z => h (z.imp id (Nat.le_trans hn))
/-- an array that is read -/
theorem xs_alen (hx : p.tables.exec = Jvm.exec) (hb : c.code = cc) {o : Nat} (h1 : 40 ≤ (M.2.1 o).1) (h2 : (M.2.1 o).1 ≤ 46) (hd : decode cc pc = .ok (.arraylength, 1)) (kk : xW p l e R s m args below meth c Q ext B D cl fty cells slots (pc + 1) ls (.int (nI (M.2.1 o).2) :: st) M) : xW p l e R s m args below meth c Q ext B D cl fty cells slots pc ls (.ref o :: st) M := fun H locs lsr hA hS hL => by
  obtain ⟨q, cell, q1, q2, q3, q4, q5, q6, q7, q8⟩ := hA.2.2.1 o h1 h2
  rw [List.map_cons, q1]
  exact W.alen hx hb q3 q4 q6.2.1 rfl rfl hd (kk H locs lsr hA hS hL)
theorem xs_iald (hx : p.tables.exec = Jvm.exec) (hb : c.code = cc) {o : Nat} {i : Int32} (h1 : (M.2.1 o).1 = 40) (hi : ¬ (i < 0 ∨ (M.2.1 o).2 ≤ i.toNatClampNeg)) (hd : decode cc pc = .ok (.iaload, 1)) (kk : xW p l e R s m args below meth c Q ext B D cl fty cells slots (pc + 1) ls (.int (M.2.2.1 o i.toNatClampNeg) :: st) M) : xW p l e R s m args below meth c Q ext B D cl fty cells slots pc ls (.int i :: .ref o :: st) M := fun H locs lsr hA hS hL => by
  obtain ⟨q, cell, q1, q2, q3, q4, q5, q6, q7, q8⟩ := hA.2.2.1 o (by omega) (by omega)
  have hlt : i.toNatClampNeg < (M.2.1 o).2 := Nat.not_le.mp fun z => hi (Or.inr z)
  have q9 := q7 _ hlt
  rw [h1] at q4 q9
  rw [List.map_cons, List.map_cons, q1]
  exact W.iald hx hb q3 q4 q5 (xin_le hi q6.1) q9 rfl rfl hd (kk H locs lsr hA hS hL)
theorem xs_bald (hx : p.tables.exec = Jvm.exec) (hb : c.code = cc) {o : Nat} {i : Int32} (h1 : (M.2.1 o).1 = 41 ∨ (M.2.1 o).1 = 42) (hi : ¬ (i < 0 ∨ (M.2.1 o).2 ≤ i.toNatClampNeg)) (hd : decode cc pc = .ok (.baload, 1)) (kk : xW p l e R s m args below meth c Q ext B D cl fty cells slots (pc + 1) ls (.int (M.2.2.1 o i.toNatClampNeg) :: st) M) : xW p l e R s m args below meth c Q ext B D cl fty cells slots pc ls (.int i :: .ref o :: st) M := fun H locs lsr hA hS hL => by
  obtain ⟨q, cell, q1, q2, q3, q4, q5, q6, q7, q8⟩ := hA.2.2.1 o (by omega) (by omega)
  have hlt : i.toNatClampNeg < (M.2.1 o).2 := Nat.not_le.mp fun z => hi (Or.inr z)
  have q9 := q7 _ hlt
  rw [List.map_cons, List.map_cons, q1]
  rcases h1 with h1 | h1
  · rw [h1] at q4 q9
    exact W.bald hx hb q3 q4 q5 (xin_le hi q6.1) q9 rfl rfl hd (kk H locs lsr hA hS hL)
  · rw [h1] at q4 q9
    exact W.zald hx hb q3 q4 q5 (xin_le hi q6.1) q9 rfl rfl hd (kk H locs lsr hA hS hL)
theorem xs_lald (hx : p.tables.exec = Jvm.exec) (hb : c.code = cc) {o : Nat} {i : Int32} (h1 : (M.2.1 o).1 = 43) (hi : ¬ (i < 0 ∨ (M.2.1 o).2 ≤ i.toNatClampNeg)) (hd : decode cc pc = .ok (.laload, 1)) (kk : xW p l e R s m args below meth c Q ext B D cl fty cells slots (pc + 1) ls (.long (M.2.2.2.1 o i.toNatClampNeg) :: st) M) : xW p l e R s m args below meth c Q ext B D cl fty cells slots pc ls (.int i :: .ref o :: st) M := fun H locs lsr hA hS hL => by
  obtain ⟨q, cell, q1, q2, q3, q4, q5, q6, q7, q8⟩ := hA.2.2.1 o (by omega) (by omega)
  have hlt : i.toNatClampNeg < (M.2.1 o).2 := Nat.not_le.mp fun z => hi (Or.inr z)
  have q9 := q7 _ hlt
  rw [h1] at q4 q9
  rw [List.map_cons, List.map_cons, q1]
  exact W.lald hx hb q3 q4 q5 (xin_le hi q6.1) q9 rfl rfl hd (kk H locs lsr hA hS hL)
theorem xaty_ref {t : Nat} (h1 : 44 ≤ t) : (xaty t).isReference = true := by
  unfold xaty
  split <;> first | omega | rfl
theorem xs_aald (hx : p.tables.exec = Jvm.exec) (hb : c.code = cc) {o : Nat} {i : Int32} (h1 : 44 ≤ (M.2.1 o).1) (h2 : (M.2.1 o).1 ≤ 46) (hi : ¬ (i < 0 ∨ (M.2.1 o).2 ≤ i.toNatClampNeg)) (hd : decode cc pc = .ok (.aaload, 1)) (kk : xW p l e R s m args below meth c Q ext B D cl fty cells slots (pc + 1) ls (.ref (M.2.2.2.2 o i.toNatClampNeg) :: st) M) : xW p l e R s m args below meth c Q ext B D cl fty cells slots pc ls (.int i :: .ref o :: st) M := fun H locs lsr hA hS hL => by
  obtain ⟨q, cell, q1, q2, q3, q4, q5, q6, q7, q8⟩ := hA.2.2.1 o (by omega) h2
  have hlt : i.toNatClampNeg < (M.2.1 o).2 := Nat.not_le.mp fun z => hi (Or.inr z)
  have q9 := q7 _ hlt
  rw [xval_ref (xaty_ref h1)] at q9
  rw [List.map_cons, List.map_cons, q1]
  exact W.aald hx hb q3 q4 (xaty_ref h1) q5 (xin_le hi q6.1) q9 rfl rfl hd (kk H locs lsr hA hS hL)
/-- an array's cell behind a store -/
theorem xArr_put {ext : Nat → Value} {B : Nat} {U : State} {H' : Heap} {M M' : XM} {o i n : Nat} {w : Value} {cell : Cell} (h16 : 16 ≤ o) (hsh : M'.2.1 = M.2.1) (hn : (M.2.1 o).2 = n) (hi : i < n) (q3 : H'[B + (o - 16)]? = some (cell.setSlot i w)) (q4 : U.isArrayOf cell (xaty (M.2.1 o).1)) (q5 : cell.vm ≠ .unknown) (q6 : cell.slots.size = n) (q7 : ∀ k, k < n → cell.slots[k]? = some (xval ext B M (xaty (M.2.1 o).1) o k)) (q8 : 45 ≤ (M.2.1 o).1 → va_RA U cell.cls (xaty (M.2.1 o).1))
    (hval : ∀ j, xval ext B M' (xaty (M.2.1 o).1) o j = if j = i then w else xval ext B M (xaty (M.2.1 o).1) o j) : xArr ext B U H' M' o := by
  refine ⟨B + (o - 16), cell.setSlot i w, xv_16 h16, fun z => by omega, q3, ?_, q5, ?_, ?_, ?_⟩
  · rw [hsh]; exact q4
  · rw [hsh, hn]
    have hsz : (cell.setSlot i w).slots.size = n := by
      show (cell.slots.setIfInBounds i w).size = n
      simp [q6]
    rw [hsz]
    exact ⟨Nat.le_refl _, rfl, fun _ => rfl⟩
  · rw [hsh, hn]
    intro k hk
    rw [xset_slots q6 hi hk (q7 k hk), hval k]
  · rw [hsh]; exact q8
theorem xs_iast (hx : p.tables.exec = Jvm.exec) (hb : c.code = cc) {o : Nat} {i x : Int32} (h1 : (M.2.1 o).1 = 40) (h16 : 16 ≤ o) (hi : ¬ (i < 0 ∨ (M.2.1 o).2 ≤ i.toNatClampNeg)) (hd : decode cc pc = .ok (.iastore, 1)) (kk : xW p l e R s m args below meth c Q ext B D cl fty cells slots (pc + 1) ls st (xmI M o i.toNatClampNeg x)) : xW p l e R s m args below meth c Q ext B D cl fty cells slots pc ls (.int x :: .int i :: .ref o :: st) M := fun H locs lsr hA hS hL => by
  obtain ⟨q, cell, q1, q2, q3, q4, q5, q6, q7, q8⟩ := hA.2.2.1 o (by omega) (by omega)
  have hlt : i.toNatClampNeg < (M.2.1 o).2 := Nat.not_le.mp fun z => hi (Or.inr z)
  rw [xv_16 h16] at q1
  cases q1
  have q4' := q4
  rw [h1] at q4'
  rw [List.map_cons, List.map_cons, List.map_cons, xv_16 h16]
  refine W.iast hx hb q3 q4' q5 (xin_le hi q6.1) rfl rfl hd fun H' e1 e2 e3 => ?_
  exact kk H' _ lsr (xAbs_upd hA h16 rfl rfl xRow_I e2 e3 (fun z => by omega) (fun _ _ => xArr_put (M := M) h16 rfl rfl hlt e1 q4 q5 (q6.2.2 h16) q7 q8 (fun j => xval_I (tk := xaty (M.2.1 o).1) (by rw [h1]; rfl) (fun _ => rfl)))) (hS.put e2 e3 (Nat.le_add_right _ _)) hL
theorem xs_bast (hx : p.tables.exec = Jvm.exec) (hb : c.code = cc) {o : Nat} {i x : Int32} (h1 : (M.2.1 o).1 = 41) (h16 : 16 ≤ o) (hi : ¬ (i < 0 ∨ (M.2.1 o).2 ≤ i.toNatClampNeg)) (hd : decode cc pc = .ok (.bastore, 1)) (kk : xW p l e R s m args below meth c Q ext B D cl fty cells slots (pc + 1) ls st (xmI M o i.toNatClampNeg (vp_nar .byte x))) : xW p l e R s m args below meth c Q ext B D cl fty cells slots pc ls (.int x :: .int i :: .ref o :: st) M := fun H locs lsr hA hS hL => by
  obtain ⟨q, cell, q1, q2, q3, q4, q5, q6, q7, q8⟩ := hA.2.2.1 o (by omega) (by omega)
  have hlt : i.toNatClampNeg < (M.2.1 o).2 := Nat.not_le.mp fun z => hi (Or.inr z)
  rw [xv_16 h16] at q1
  cases q1
  have q4' := q4
  rw [h1] at q4'
  rw [List.map_cons, List.map_cons, List.map_cons, xv_16 h16]
  refine W.bast hx hb q3 q4' q5 (xin_le hi q6.1) rfl rfl hd fun H' e1 e2 e3 => ?_
  exact kk H' _ lsr (xAbs_upd hA h16 rfl rfl xRow_I e2 e3 (fun z => by omega) (fun _ _ => xArr_put (M := M) h16 rfl rfl hlt e1 q4 q5 (q6.2.2 h16) q7 q8 (fun j => xval_I (tk := xaty (M.2.1 o).1) (by rw [h1]; rfl) (fun _ => rfl)))) (hS.put e2 e3 (Nat.le_add_right _ _)) hL
theorem xs_zast (hx : p.tables.exec = Jvm.exec) (hb : c.code = cc) {o : Nat} {i x : Int32} (h1 : (M.2.1 o).1 = 42) (h16 : 16 ≤ o) (hi : ¬ (i < 0 ∨ (M.2.1 o).2 ≤ i.toNatClampNeg)) (hd : decode cc pc = .ok (.bastore, 1)) (kk : xW p l e R s m args below meth c Q ext B D cl fty cells slots (pc + 1) ls st (xmI M o i.toNatClampNeg (vp_nar .boolean x))) : xW p l e R s m args below meth c Q ext B D cl fty cells slots pc ls (.int x :: .int i :: .ref o :: st) M := fun H locs lsr hA hS hL => by
  obtain ⟨q, cell, q1, q2, q3, q4, q5, q6, q7, q8⟩ := hA.2.2.1 o (by omega) (by omega)
  have hlt : i.toNatClampNeg < (M.2.1 o).2 := Nat.not_le.mp fun z => hi (Or.inr z)
  rw [xv_16 h16] at q1
  cases q1
  have q4' := q4
  rw [h1] at q4'
  rw [List.map_cons, List.map_cons, List.map_cons, xv_16 h16]
  refine W.zast hx hb q3 q4' q5 (xin_le hi q6.1) rfl rfl hd fun H' e1 e2 e3 => ?_
  exact kk H' _ lsr (xAbs_upd hA h16 rfl rfl xRow_I e2 e3 (fun z => by omega) (fun _ _ => xArr_put (M := M) h16 rfl rfl hlt e1 q4 q5 (q6.2.2 h16) q7 q8 (fun j => xval_I (tk := xaty (M.2.1 o).1) (by rw [h1]; rfl) (fun _ => rfl)))) (hS.put e2 e3 (Nat.le_add_right _ _)) hL
theorem xs_last (hx : p.tables.exec = Jvm.exec) (hb : c.code = cc) {o : Nat} {i : Int32} {x : Int64} (h1 : (M.2.1 o).1 = 43) (h16 : 16 ≤ o) (hi : ¬ (i < 0 ∨ (M.2.1 o).2 ≤ i.toNatClampNeg)) (hd : decode cc pc = .ok (.lastore, 1)) (kk : xW p l e R s m args below meth c Q ext B D cl fty cells slots (pc + 1) ls st (xmL M o i.toNatClampNeg x)) : xW p l e R s m args below meth c Q ext B D cl fty cells slots pc ls (.long x :: .int i :: .ref o :: st) M := fun H locs lsr hA hS hL => by
  obtain ⟨q, cell, q1, q2, q3, q4, q5, q6, q7, q8⟩ := hA.2.2.1 o (by omega) (by omega)
  have hlt : i.toNatClampNeg < (M.2.1 o).2 := Nat.not_le.mp fun z => hi (Or.inr z)
  rw [xv_16 h16] at q1
  cases q1
  have q4' := q4
  rw [h1] at q4'
  rw [List.map_cons, List.map_cons, List.map_cons, xv_16 h16]
  refine W.last hx hb q3 q4' q5 (xin_le hi q6.1) rfl rfl hd fun H' e1 e2 e3 => ?_
  exact kk H' _ lsr (xAbs_upd hA h16 rfl rfl xRow_L e2 e3 (fun z => by omega) (fun _ _ => xArr_put (M := M) h16 rfl rfl hlt e1 q4 q5 (q6.2.2 h16) q7 q8 (fun j => xval_L (fun _ => by rw [h1]; rfl)))) (hS.put e2 e3 (Nat.le_add_right _ _)) hL
end XMEM
