/-! THE SMALL MACHINE AGAINST THE REAL ONE: its cells from 16 on are the real ones from B on, in the order in which they were made; below 16 stand cells that were there before (ext) -/
def xA (B : Nat) : Nat → Prop := fun q => B ≤ q
def xv (ext : Nat → Value) (B : Nat) : Value → Value
  | .ref a => if a < 16 then ext a else .ref (B + (a - 16))
  | v => v
theorem xv_16 {ext : Nat → Value} {B a : Nat} (h : 16 ≤ a) : xv ext B (.ref a) = .ref (B + (a - 16)) := if_neg (Nat.not_lt.mpr h)
theorem xv_lo {ext : Nat → Value} {B a : Nat} (h : a < 16) : xv ext B (.ref a) = ext a := if_pos h
def xExt (ext : Nat → Value) : Prop := ext 0 = .null ∧ (∀ a, a < 16 → ext a = .null ∨ ∃ q, ext a = .ref q) ∧ ∀ a, 0 < a → a < 9 → ∃ q, ext a = .ref q
theorem xv_or {ext : Nat → Value} {B : Nat} (h : xExt ext) (a : Nat) : xv ext B (.ref a) = .null ∨ ∃ q, xv ext B (.ref a) = .ref q := by
  by_cases ha : a < 16
  · rw [xv_lo ha]; exact h.2.1 a ha
  · exact Or.inr ⟨_, xv_16 (Nat.not_lt.mp ha)⟩
theorem xv_nn {ext : Nat → Value} {B : Nat} (h : xExt ext) {a : Nat} (h0 : a ≠ 0) (h1 : ¬ (9 ≤ a ∧ a < 16)) : ∃ q, xv ext B (.ref a) = .ref q := by
  by_cases ha : a < 16
  · rw [xv_lo ha]; exact h.2.2 a (by omega) (by omega)
  · exact ⟨_, xv_16 (Nat.not_lt.mp ha)⟩
theorem xv_cat {ext : Nat → Value} {B : Nat} (h : xExt ext) (v : Value) : (xv ext B v).category = v.category := by
  cases v with
  | ref a =>
    rcases xv_or (B := B) h a with e | ⟨q, e⟩ <;> rw [e] <;> rfl
  | _ => rfl
/-- what a cell's slot of this type holds -/
def xval (ext : Nat → Value) (B : Nat) (M : XM) (ty : FieldType) (a k : Nat) : Value := match ty with
  | .long => .long (M.2.2.2.1 a k)
  | .object _ => xv ext B (.ref (M.2.2.2.2 a k))
  | .array _ => xv ext B (.ref (M.2.2.2.2 a k))
  | _ => .int (M.2.2.1 a k)
/-- the arrays' kinds -/
def xaty (t : Nat) : FieldType := match t with
  | 40 => .int
  | 41 => .byte
  | 42 => .boolean
  | 43 => .long
  | 44 => .array .int
  | 45 => .object "HopeDrawer$Office"
  | _ => .object "HopeDrawer$Law"
def xObj (ext : Nat → Value) (B : Nat) (D : va_G) (cl : List vw_C) (fty : Nat → Nat → FieldType) (H : Heap) (M : XM) (a : Nat) : Prop :=
  16 ≤ a ∧ ∃ r : vw_C, cl[(M.2.1 a).1]? = some r ∧ t_OB (B + (a - 16)) (D.1 (M.2.1 a).1) r.2.2 (D.2 (M.2.1 a).1) H (fun k => xval ext B M (fty (M.2.1 a).1 k) a k)
def xStr (ext : Nat → Value) (B : Nat) (U : State) (H : Heap) (M : XM) (a : Nat) : Prop :=
  ∃ q : Nat, xv ext B (.ref a) = .ref q ∧ va_O "java/lang/String" q (xA B) U H ∧ va_OF "java/lang/String" "value" "[B" (xv ext B (.ref (M.2.2.2.2 a 0))) q (xA B) U H ∧ va_OF "java/lang/String" "coder" "B" (.int (M.2.2.1 a 1)) q (xA B) U H
def xArr (ext : Nat → Value) (B : Nat) (U : State) (H : Heap) (M : XM) (a : Nat) : Prop :=
  ∃ (q : Nat) (cell : Cell), xv ext B (.ref a) = .ref q ∧ (a < 16 → q < B) ∧ H[q]? = some cell ∧ U.isArrayOf cell (xaty (M.2.1 a).1) ∧ cell.vm ≠ .unknown ∧ ((M.2.1 a).2 ≤ cell.slots.size ∧ cell.slots.size.toInt32 = nI (M.2.1 a).2 ∧ (16 ≤ a → cell.slots.size = (M.2.1 a).2)) ∧ (∀ k, k < (M.2.1 a).2 → cell.slots[k]? = some (xval ext B M (xaty (M.2.1 a).1) a k)) ∧ (45 ≤ (M.2.1 a).1 → va_RA U cell.cls (xaty (M.2.1 a).1))
def xAbs (ext : Nat → Value) (B : Nat) (D : va_G) (cl : List vw_C) (fty : Nat → Nat → FieldType) (U : State) (H : Heap) (M : XM) : Prop :=
  (∀ a, (M.2.1 a).1 < 31 → xObj ext B D cl fty H M a) ∧ (∀ a, (M.2.1 a).1 = 31 → a < 16 ∧ xStr ext B U H M a) ∧ (∀ a, 40 ≤ (M.2.1 a).1 → (M.2.1 a).1 ≤ 46 → xArr ext B U H M a) ∧ (∀ a, M.1.1 ≤ a → 46 < (M.2.1 a).1) ∧ 16 ≤ M.1.1 ∧ H.size = B + (M.1.1 - 16)
def xRow (M M' : XM) (b : Nat) : Prop := M'.2.1 b = M.2.1 b ∧ M'.2.2.1 b = M.2.2.1 b ∧ M'.2.2.2.1 b = M.2.2.2.1 b ∧ M'.2.2.2.2 b = M.2.2.2.2 b
theorem xval_row {ext : Nat → Value} {B : Nat} {M M' : XM} {b : Nat} (h : xRow M M' b) (ty : FieldType) (k : Nat) : xval ext B M' ty b k = xval ext B M ty b k := by
  unfold xval
  rw [h.2.1, h.2.2.1, h.2.2.2]
theorem xObj_kept {ext : Nat → Value} {B : Nat} {D : va_G} {cl : List vw_C} {fty : Nat → Nat → FieldType} {H H' : Heap} {M M' : XM} {b : Nat} (h : xObj ext B D cl fty H M b) (hr : xRow M M' b) (hH : H'[B + (b - 16)]? = H[B + (b - 16)]?) : xObj ext B D cl fty H' M' b := by
  obtain ⟨h1, r, h2, h3⟩ := h
  refine ⟨h1, r, by rw [hr.1]; exact h2, ?_⟩
  rw [hr.1]
  exact (h3.kept hH).to (fun k _ => (xval_row hr _ k).symm)
theorem xStr_kept {ext : Nat → Value} {B : Nat} {U : State} {H H' : Heap} {M M' : XM} {b : Nat} (h : xStr ext B U H M b) (hr : xRow M M' b) (hH : ∀ q : Nat, q < H.size → ¬ xA B q → H'[q]? = H[q]?) : xStr ext B U H' M' b := by
  obtain ⟨q, h1, h2, h3, h4⟩ := h
  refine ⟨q, h1, h2.kept hH, ?_, ?_⟩
  · rw [hr.2.2.2]; exact h3.kept hH
  · rw [hr.2.1]; exact h4.kept hH
theorem xArr_kept {ext : Nat → Value} {B : Nat} {U : State} {H H' : Heap} {M M' : XM} {b : Nat} (h : xArr ext B U H M b) (hr : xRow M M' b) (hH : ∀ q : Nat, xv ext B (.ref b) = .ref q → (b < 16 → q < B) → q < H.size → H'[q]? = H[q]?) : xArr ext B U H' M' b := by
  obtain ⟨q, cell, h1, h2, h3, h4, h5, h6, h7, h8⟩ := h
  refine ⟨q, cell, h1, h2, ?_, ?_, h5, ?_, ?_, ?_⟩
  · rw [hH q h1 h2 (Array.getElem?_eq_some_iff.mp h3).1]; exact h3
  · rw [hr.1]; exact h4
  · rw [hr.1]; exact h6
  · rw [hr.1]; intro k hk; rw [xval_row hr]; exact h7 k hk
  · rw [hr.1]; exact h8
/-- a store into the cell a, which the machine made -/
theorem xAbs_upd {ext : Nat → Value} {B : Nat} {D : va_G} {cl : List vw_C} {fty : Nat → Nat → FieldType} {U : State} {H H' : Heap} {M M' : XM} {a : Nat} (h : xAbs ext B D cl fty U H M) (ha : 16 ≤ a) (hz : M'.1.1 = M.1.1) (hsh : M'.2.1 = M.2.1) (hr : ∀ b, b ≠ a → xRow M M' b) (hsz : H'.size = H.size) (hH : ∀ q : Nat, q ≠ B + (a - 16) → H'[q]? = H[q]?)
    (hO : (M.2.1 a).1 < 31 → xObj ext B D cl fty H' M' a) (hA : 40 ≤ (M.2.1 a).1 → (M.2.1 a).1 ≤ 46 → xArr ext B U H' M' a) : xAbs ext B D cl fty U H' M' := by
  obtain ⟨h1, h2, h3, h4, h5, h6⟩ := h
  refine ⟨fun b hb => ?_, fun b hb => ?_, fun b hb hb' => ?_, fun b hb => ?_, ?_, ?_⟩
  · rw [hsh] at hb
    by_cases e : b = a
    · subst e; exact hO hb
    · have q := h1 b hb
      exact xObj_kept q (hr b e) (hH _ (by have := q.1; omega))
  · rw [hsh] at hb
    have q := h2 b hb
    have e : b ≠ a := by have := q.1; omega
    exact ⟨q.1, xStr_kept q.2 (hr b e) (fun x _ hx => hH x (fun e => hx (by rw [e]; exact Nat.le_add_right _ _)))⟩
  · rw [hsh] at hb hb'
    by_cases e : b = a
    · subst e; exact hA hb hb'
    · refine xArr_kept (h3 b hb hb') (hr b e) (fun q hq hlt _ => hH q ?_)
      by_cases hb16 : b < 16
      · have := hlt hb16; omega
      · rw [xv_16 (Nat.not_lt.mp hb16)] at hq
        have h9 : (B + (b - 16) : Nat) = q := Value.ref.inj hq
        omega
  · rw [hsh]; rw [hz] at hb; exact h4 b hb
  · rw [hz]; exact h5
  · rw [hz, hsz]; exact h6
/-- a new cell -/
theorem xAbs_new {ext : Nat → Value} {B : Nat} {D : va_G} {cl : List vw_C} {fty : Nat → Nat → FieldType} {U : State} {H H' : Heap} {M : XM} {t n w : Nat} (h : xAbs ext B D cl fty U H M) (hsz : H'.size = H.size + 1) (hH : ∀ q : Nat, q < H.size → H'[q]? = H[q]?) (ht : t ≠ 31)
    (hO : t < 31 → xObj ext B D cl fty H' (xnew M t n w) M.1.1) (hA : 40 ≤ t → t ≤ 46 → xArr ext B U H' (xnew M t n w) M.1.1) : xAbs ext B D cl fty U H' (xnew M t n w) := by
  obtain ⟨h1, h2, h3, h4, h5, h6⟩ := h
  have hs : ∀ b, b ≠ M.1.1 → (xnew M t n w).2.1 b = M.2.1 b := fun b hb => if_neg hb
  have hs0 : (xnew M t n w).2.1 M.1.1 = (t, n) := if_pos rfl
  have hr : ∀ b, b ≠ M.1.1 → xRow M (xnew M t n w) b := fun b hb => ⟨hs b hb, if_neg hb, if_neg hb, if_neg hb⟩
  have hlow : ∀ b, (M.2.1 b).1 ≤ 46 → b < M.1.1 := fun b hb => Nat.not_le.mp fun q => by have := h4 b q; omega
  refine ⟨fun b hb => ?_, fun b hb => ?_, fun b hb hb' => ?_, fun b hb => ?_, ?_, ?_⟩
  · by_cases e : b = M.1.1
    · subst e; rw [hs0] at hb; exact hO hb
    · rw [hs b e] at hb
      have q := h1 b hb
      have := hlow b (by omega)
      exact xObj_kept q (hr b e) (hH _ (by have := q.1; omega))
  · by_cases e : b = M.1.1
    · subst e; rw [hs0] at hb; exact absurd hb ht
    · rw [hs b e] at hb
      have q := h2 b hb
      exact ⟨q.1, xStr_kept q.2 (hr b e) (fun x hx _ => hH x hx)⟩
  · by_cases e : b = M.1.1
    · subst e; rw [hs0] at hb hb'; exact hA hb hb'
    · rw [hs b e] at hb hb'
      exact xArr_kept (h3 b hb hb') (hr b e) (fun q _ _ hlt => hH q hlt)
  · have e : b ≠ M.1.1 := by have : M.1.1 + 1 ≤ b := hb; omega
    rw [hs b e]
    exact h4 b (by have : M.1.1 + 1 ≤ b := hb; omega)
  · show 16 ≤ M.1.1 + 1; omega
  · show H'.size = B + (M.1.1 + 1 - 16); omega
/-- the tables may move on -/
theorem xAbs_moved {ext : Nat → Value} {B : Nat} {D : va_G} {cl : List vw_C} {fty : Nat → Nat → FieldType} {u U : State} {H : Heap} {M : XM} (hvm : u.vm.Alike U.vm) (h : xAbs ext B D cl fty u H M) : xAbs ext B D cl fty U H M := by
  obtain ⟨h1, h2, h3, h4⟩ := h
  refine ⟨h1, fun a ha => ?_, fun a ha ha' => ?_, h4⟩
  · obtain ⟨q0, q, q1, q2, q3, q4⟩ := h2 a ha
    exact ⟨q0, q, q1, q2.moved hvm, q3.moved hvm, q4.moved hvm⟩
  · obtain ⟨q, cell, q1, q2, q3, q4, q5, q6, q7, q8⟩ := h3 a ha ha'
    exact ⟨q, cell, q1, q2, q3, State.isArrayOf_alike hvm q4, q5, q6, q7, fun z => (q8 z).moved hvm⟩
/-- the locals -/
def xLR (ext : Nat → Value) (B : Nat) (L : XL) (ls : Array Slot) : Prop := ∃ lv : List (Nat × Value), lv_has ls L.length lv ∧ ∀ (i : Nat) (v : Value), xnth L i = some (some v) → (v.category = 2 → xnth L (i + 1) = some none) → (i, xv ext B v) ∈ lv
theorem xnth_lt {α : Type} : ∀ {l : List α} {i : Nat} {a : α}, xnth l i = some a → i < l.length
  | [], _, _, h => by simp [xnth] at h
  | _ :: _, 0, _, _ => Nat.zero_lt_succ _
  | _ :: l, i + 1, a, h => Nat.succ_lt_succ (xnth_lt (l := l) h)
theorem xset_len {α : Type} : ∀ (l : List α) (i : Nat) (v : α), (xset l i v).length = l.length
  | [], _, _ => rfl
  | _ :: _, 0, _ => rfl
  | _ :: l, i + 1, v => congrArg (· + 1) (xset_len l i v)
theorem xset_self {α : Type} : ∀ {l : List α} {i : Nat} {v : α}, i < l.length → xnth (xset l i v) i = some v
  | [], _, _, h => absurd h (Nat.not_lt_zero _)
  | _ :: _, 0, _, _ => rfl
  | _ :: l, i + 1, v, h => xset_self (l := l) (Nat.lt_of_succ_lt_succ h)
theorem xset_ne {α : Type} : ∀ {l : List α} {i j : Nat} {v : α}, j ≠ i → xnth (xset l i v) j = xnth l j
  | [], _, _, _, _ => rfl
  | _ :: _, 0, 0, _, h => absurd rfl h
  | _ :: _, 0, _ + 1, _, _ => rfl
  | _ :: _, _ + 1, 0, _, _ => rfl
  | _ :: l, i + 1, j + 1, v, h => xset_ne (l := l) (fun e => h (by rw [e]))
theorem xLR_at {ext : Nat → Value} {B : Nat} {L : XL} {ls : Array Slot} (h : xLR ext B L ls) {i : Nat} {v : Value} (hi : xnth L i = some (some v)) (h2 : v.category = 2 → xnth L (i + 1) = some none) : ls[i]? = some (.val (xv ext B v)) := by
  obtain ⟨lv, h1, h3⟩ := h
  exact h1.2.2 _ (h3 i v hi h2)
theorem xLR_size {ext : Nat → Value} {B : Nat} {L : XL} {ls : Array Slot} (h : xLR ext B L ls) : ls.size = L.length := by
  obtain ⟨lv, h1, -⟩ := h
  exact h1.1
theorem xLR_st1 {ext : Nat → Value} {B : Nat} (hx : xExt ext) {L : XL} {lv : List (Nat × Value)} (h3 : ∀ (i : Nat) (v : Value), xnth L i = some (some v) → (v.category = 2 → xnth L (i + 1) = some none) → (i, xv ext B v) ∈ lv) {i : Nat} {v : Value} (hi : i < L.length) :
    ∀ (j : Nat) (w : Value), xnth (xset L i (some v)) j = some (some w) → (w.category = 2 → xnth (xset L i (some v)) (j + 1) = some none) → (j, xv ext B w) ∈ (i, xv ext B v) :: lv.filter (fun q => !(q.1 == i) && !(q.1 + 1 == i && q.2.category == 2)) := by
  intro j w hj h2
  by_cases e : j = i
  · subst e
    rw [xset_self hi] at hj
    cases hj
    exact List.mem_cons_self
  · rw [xset_ne e] at hj
    refine List.mem_cons_of_mem _ (List.mem_filter.mpr ⟨h3 j w hj (fun hc => ?_), ?_⟩)
    · have := h2 hc
      by_cases e2 : j + 1 = i
      · subst e2; rw [xset_self hi] at this; cases this
      · rw [xset_ne e2] at this; exact this
    · simp only [Bool.and_eq_true, Bool.not_eq_true', beq_eq_false_iff_ne, Bool.and_eq_false_iff]
      refine ⟨e, ?_⟩
      by_cases hc : w.category = 2
      · left
        intro e2
        have := h2 hc
        subst e2
        rw [xset_self hi] at this
        cases this
      · right
        rw [xv_cat hx]
        exact hc
theorem xLR_st2 {ext : Nat → Value} {B : Nat} (hx : xExt ext) {L : XL} {lv : List (Nat × Value)} (h3 : ∀ (i : Nat) (v : Value), xnth L i = some (some v) → (v.category = 2 → xnth L (i + 1) = some none) → (i, xv ext B v) ∈ lv) {i : Nat} {v : Value} (hi : i + 1 < L.length) :
    ∀ (j : Nat) (w : Value), xnth (xset (xset L i (some v)) (i + 1) none) j = some (some w) → (w.category = 2 → xnth (xset (xset L i (some v)) (i + 1) none) (j + 1) = some none) → (j, xv ext B w) ∈ (i, xv ext B v) :: lv.filter (fun q => !(q.1 == i) && (!(q.1 == i + 1) && !(q.1 + 1 == i && q.2.category == 2))) := by
  intro j w hj h2
  have hl1 : (xset L i (some v)).length = L.length := xset_len _ _ _
  by_cases e : j = i
  · subst e
    rw [xset_ne (by omega), xset_self (by omega)] at hj
    cases hj
    exact List.mem_cons_self
  · by_cases e1 : j = i + 1
    · subst e1; rw [xset_self (by omega)] at hj; cases hj
    · rw [xset_ne e1, xset_ne e] at hj
      refine List.mem_cons_of_mem _ (List.mem_filter.mpr ⟨h3 j w hj (fun hc => ?_), ?_⟩)
      · have := h2 hc
        rw [xset_ne (show j + 1 ≠ i + 1 by omega)] at this
        by_cases e2 : j + 1 = i
        · subst e2; rw [xset_self (by omega)] at this; cases this
        · rw [xset_ne e2] at this; exact this
      · simp only [Bool.and_eq_true, Bool.not_eq_true', beq_eq_false_iff_ne, Bool.and_eq_false_iff]
        refine ⟨e, e1, ?_⟩
        by_cases hc : w.category = 2
        · left
          intro e2
          have := h2 hc
          rw [xset_ne (show j + 1 ≠ i + 1 by omega)] at this
          subst e2
          rw [xset_self (by omega)] at this
          cases this
        · right
          rw [xv_cat hx]
          exact hc
