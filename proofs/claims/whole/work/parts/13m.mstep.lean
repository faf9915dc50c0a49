/-! new int[n][k]: the step of the machine, proved here over the model's own words -/
/-- the outer row once its first i places are filled -/
def xmO (cA : ClassId) (n h i : Nat) : Cell := arrV cA n (fun j => if j < i then .ref (h + 1 + j) else .null)
/-- a row of zeros -/
def xmZ (comp : ClassId) (k : Nat) : Cell := arrV comp k (fun _ => .int 0)
/-- the state once i rows have been made -/
def xmS (T : State) (cA comp : ClassId) (n k : Nat) : Nat → State
  | 0 => T.pushCell (xmO cA n T.heap.size 0)
  | i + 1 => ((xmS T cA comp n k i).pushCell (xmZ comp k)).setCell T.heap.size (xmO cA n T.heap.size (i + 1))
theorem xmO_put (cA : ClassId) (n h i : Nat) : (xmO cA n h i).setSlot i (.ref (h + 1 + i)) = xmO cA n h (i + 1) := by
  unfold xmO
  rw [arrV_store]
  refine congrArg (arrV cA n) (funext fun j => ?_)
  by_cases e : j = i
  · subst e
    simp [updV]
  · by_cases h : j < i
    · simp [updV, e, h, Nat.lt_succ_of_lt h]
    · simp [updV, e, h, show ¬ j < i + 1 by omega]
theorem xmO_zero (cA : ClassId) (n h : Nat) : xmO cA n h 0 = arrV cA n (fun _ => .null) :=
  congrArg (arrV cA n) (funext fun j => if_neg (Nat.not_lt_zero j))
theorem xmS_f (T : State) (cA comp : ClassId) (n k : Nat) : ∀ i : Nat, (xmS T cA comp n k i).heap.size = T.heap.size + 1 + i ∧ (xmS T cA comp n k i).heap[T.heap.size]? = some (xmO cA n T.heap.size i) ∧ (∀ x : Nat, x < T.heap.size → (xmS T cA comp n k i).heap[x]? = T.heap[x]?) ∧ (∀ j : Nat, j < i → (xmS T cA comp n k i).heap[T.heap.size + 1 + j]? = some (xmZ comp k)) ∧ (xmS T cA comp n k i).vm = T.vm
  | 0 => by
    refine ⟨by show (T.heap.push _).size = _; rw [Array.size_push], ?_, fun x hx => ?_, fun j hj => absurd hj (Nat.not_lt_zero j), rfl⟩
    · show (T.heap.push _)[T.heap.size]? = _
      rw [Array.getElem?_push, if_pos rfl]
    · show (T.heap.push _)[x]? = _
      rw [Array.getElem?_push, if_neg (Nat.ne_of_lt hx)]
  | i + 1 => by
    obtain ⟨a1, a2, a3, a4, a5⟩ := xmS_f T cA comp n k i
    have e : ∀ x : Nat, (xmS T cA comp n k (i + 1)).heap[x]? = if T.heap.size = x then some (xmO cA n T.heap.size (i + 1)) else if x = T.heap.size + 1 + i then some (xmZ comp k) else (xmS T cA comp n k i).heap[x]? := fun x => by
      show (((xmS T cA comp n k i).heap.push (xmZ comp k)).setIfInBounds T.heap.size _)[x]? = _
      rw [Array.getElem?_setIfInBounds, Array.getElem?_push, Array.size_push, a1]
      by_cases h : T.heap.size = x
      · rw [if_pos h, if_pos h, if_pos (by omega)]
      · rw [if_neg h, if_neg h]
    refine ⟨?_, by rw [e, if_pos rfl], fun x hx => ?_, fun j hj => ?_, a5⟩
    · show (((xmS T cA comp n k i).heap.push (xmZ comp k)).setIfInBounds T.heap.size _).size = _
      rw [Array.size_setIfInBounds, Array.size_push, a1]
      omega
    · rw [e, if_neg (by omega), if_neg (by omega)]
      exact a3 x hx
    · rw [e, if_neg (by omega)]
      by_cases h : j = i
      · rw [if_pos (by omega)]
      · rw [if_neg (by omega)]
        exact a4 j (by omega)
section XMW
variable {E : CtlPost} {e : Env} {d : Bool} {acts : List Action} {g : JFrame} {cA comp cz : ClassId} {kA kC : Class}
theorem xm_new {Q : Addr → Pre} {U : State} {ty : FieldType} {n : Nat} {v : Value} (hkA : U.vm.classes[cA]? = some kA) (hkind : kA.kind = .array comp ty) (hfit : fits ty v = true) (hdef : v.isDefault = true) (hl : ¬ n > e.platform.arrayLengthLimit) (hh : ¬ n * componentBytes ty > e.platform.maxHeapBytes) (hc : U.heap.size < e.platform.maxCells) (hsl : U.slotsUsed + n ≤ e.platform.maxSlots) (hq : Q U.heap.size d acts ((U.pushCell (arrV cA n fun _ => v)).setTop g)) : wp (newArray cA n v) Q E e d acts (U.setTop g) := by
  rw [← arrV_new] at hq
  have hm : ¬ n > e.platform.maxSlots := by omega
  have hd : allocActs (Array.replicate n v) U.heap.size acts = acts := by
    unfold allocActs
    rw [if_pos]
    rw [Array.all_replicate, hdef]
    split <;> rfl
  simp only [newArray, arrayFits, wp_bind', W.ask, W.ite, hl, if_false, wp_pure', W.theClass, State.vm_setTop, hkA, Option.some.injEq, exists_eq_left', hkind, hh, hm, W.alloc]
  refine ⟨hc, by rw [Array.size_replicate]; exact hsl, fun i w hw => ?_, ?_⟩
  · rw [Array.getElem?_replicate] at hw
    split at hw
    · cases hw
      show U.fitsSlot cA .none i v = true
      simp [State.fitsSlot, State.slotType?, hkA, hkind, hfit]
    · cases hw
  · rw [State.heap_setTop, hd]
    exact hq
theorem xm_row {Q : Addr → Pre} {U : State} {k : Int32} (hkC : U.vm.classes[comp]? = some kC) (hkindC : kC.kind = .array cz .int) (hk : ¬ k < 0) (hl : ¬ k.toNatClampNeg > e.platform.arrayLengthLimit) (hh : ¬ k.toNatClampNeg * 4 > e.platform.maxHeapBytes) (hc : U.heap.size < e.platform.maxCells) (hsl : U.slotsUsed + k.toNatClampNeg ≤ e.platform.maxSlots) (hq : Q U.heap.size d acts ((U.pushCell (xmZ comp k.toNatClampNeg)).setTop g)) : wp (multianewarray.make comp [k]) Q E e d acts (U.setTop g) := by
  rw [multianewarray.make]
  simp only [W.ite, hk, if_false, wp_bind', wp_pure', W.theClass, State.vm_setTop, hkC, Option.some.injEq, exists_eq_left', hkindC]
  exact xm_new hkC hkindC rfl rfl hl hh hc hsl hq
theorem xm_make {Q : Addr → Pre} {T : State} {n k : Int32} (hkA : T.vm.classes[cA]? = some kA) (hkindA : kA.kind = .array comp (.array .int)) (hkC : T.vm.classes[comp]? = some kC) (hkindC : kC.kind = .array cz .int) (hn : ¬ n < 0) (hk : ¬ k < 0) (hl : ¬ n.toNatClampNeg > e.platform.arrayLengthLimit) (hh : ¬ n.toNatClampNeg * 4 > e.platform.maxHeapBytes) (hl2 : ¬ k.toNatClampNeg > e.platform.arrayLengthLimit) (hh2 : ¬ k.toNatClampNeg * 4 > e.platform.maxHeapBytes) (hc : T.heap.size < e.platform.maxCells) (hsl : T.slotsUsed + n.toNatClampNeg ≤ e.platform.maxSlots) (hro : ∀ i : Nat, i < n.toNatClampNeg → (xmS T cA comp n.toNatClampNeg k.toNatClampNeg i).heap.size < e.platform.maxCells ∧ (xmS T cA comp n.toNatClampNeg k.toNatClampNeg i).slotsUsed + k.toNatClampNeg ≤ e.platform.maxSlots) (hq : ∀ d' acts', Q T.heap.size d' acts' ((xmS T cA comp n.toNatClampNeg k.toNatClampNeg n.toNatClampNeg).setTop g)) : wp (multianewarray.make cA [n, k]) Q E e d acts (T.setTop g) := by
  rw [multianewarray.make]
  simp only [W.ite, hn, if_false, wp_bind', wp_pure', W.theClass, State.vm_setTop, hkA, Option.some.injEq, exists_eq_left', hkindA]
  refine xm_new hkA hkindA rfl rfl hl hh hc hsl ?_
  rw [← xmO_zero cA n.toNatClampNeg T.heap.size]
  have hfi : List.find? (fun x : Int32 => decide (x < 0)) [k] = none := by simp [hk]
  simp only [hfi, Std.Legacy.Range.forIn_eq_forIn_range', Std.Legacy.Range.size, wp_pure', wp_bind', ite_self, Nat.sub_zero, Nat.add_sub_cancel, Nat.div_one]
  refine wp_forIn_inv (fun rest s' => ∃ i : Nat, i ≤ n.toNatClampNeg ∧ rest = List.range' i (n.toNatClampNeg - i) ∧ s' = (xmS T cA comp n.toNatClampNeg k.toNatClampNeg i).setTop g) _ _ (by exact ⟨0, Nat.zero_le _, rfl, rfl⟩) ?_ ?_
  · rintro x rest s' d' acts' Q' ⟨i, hi, hr, rfl⟩ hnext
    have hlt : i < n.toNatClampNeg := by
      rcases Nat.lt_or_ge i n.toNatClampNeg with h | h
      · exact h
      · rw [show n.toNatClampNeg - i = 0 by omega] at hr
        cases hr
    rw [show n.toNatClampNeg - i = (n.toNatClampNeg - (i + 1)) + 1 by omega, List.range'_succ] at hr
    obtain ⟨rfl, rfl⟩ := List.cons.inj hr
    obtain ⟨f1, f2, -, -, f5⟩ := xmS_f T cA comp n.toNatClampNeg k.toNatClampNeg x
    simp only [wp_bind']
    refine xm_row (by rw [f5]; exact hkC) hkindC hk hl2 hh2 (hro x hlt).1 (hro x hlt).2 ?_
    simp only [wp_bind', W.writeLoc, wp_pure']
    refine ⟨xmO cA n.toNatClampNeg T.heap.size x, ?_, (fun h => by cases h), ?_, ?_, ?_⟩
    · show ((xmS T cA comp n.toNatClampNeg k.toNatClampNeg x).heap.push _)[T.heap.size]? = _
      rw [Array.getElem?_push, if_neg (by omega)]
      exact f2
    · rw [show (xmO cA n.toNatClampNeg T.heap.size x).slots.size = n.toNatClampNeg from arrV_size _ _ _]
      exact hlt
    · show (xmS T cA comp n.toNatClampNeg k.toNatClampNeg x).fitsSlot cA .none x (.ref _) = true
      simp [State.fitsSlot, State.slotType?, f5, hkA, hkindA, fits]
    · rw [f1, xmO_put]
      exact hnext _ _ _ ⟨x + 1, hlt, rfl, rfl⟩
  · rintro s' d' acts' ⟨i, hi, hr, rfl⟩
    have : i = n.toNatClampNeg := by
      have := congrArg List.length hr
      rw [List.length_range'] at this
      simp at this
      omega
    subst this
    exact hq _ _
theorem xm_sem {Q : Unit → Pre} {T : State} {index : Nat} {n k : Int32} {rest : List Value} (hs : T.topJava?.isSome) (hr : T.vm.classReady g.method.cls index cA) (hst : g.stack = .int k :: .int n :: rest) (hkA : T.vm.classes[cA]? = some kA) (hkindA : kA.kind = .array comp (.array .int)) (hkC : T.vm.classes[comp]? = some kC) (hkindC : kC.kind = .array cz .int) (hn : ¬ n < 0) (hk : ¬ k < 0) (hl : ¬ n.toNatClampNeg > e.platform.arrayLengthLimit) (hh : ¬ n.toNatClampNeg * 4 > e.platform.maxHeapBytes) (hl2 : ¬ k.toNatClampNeg > e.platform.arrayLengthLimit) (hh2 : ¬ k.toNatClampNeg * 4 > e.platform.maxHeapBytes) (hc : T.heap.size < e.platform.maxCells) (hsl : T.slotsUsed + n.toNatClampNeg ≤ e.platform.maxSlots) (hro : ∀ i : Nat, i < n.toNatClampNeg → (xmS T cA comp n.toNatClampNeg k.toNatClampNeg i).heap.size < e.platform.maxCells ∧ (xmS T cA comp n.toNatClampNeg k.toNatClampNeg i).slotsUsed + k.toNatClampNeg ≤ e.platform.maxSlots) (htop : (xmS T cA comp n.toNatClampNeg k.toNatClampNeg n.toNatClampNeg).topJava?.isSome) (hq : ∀ d' acts', Q () d' acts' ((xmS T cA comp n.toNatClampNeg k.toNatClampNeg n.toNatClampNeg).setTop { g with stack := .ref T.heap.size :: rest })) : wp (multianewarray.sem index 2) Q E e d acts (T.setTop g) := by
  simp only [multianewarray.sem, wp_bind', W.resolveClassAt_ready (State.method?_setTop g hs) hr]
  refine (popN_top (args := [.int n, .int k]) hs (rest := rest) (by rw [hst]; rfl)).mpr ?_
  simp only [List.mapM_cons, List.mapM_nil, wp_bind', wp_pure']
  refine xm_make hkA hkindA hkC hkindC hn hk hl hh hl2 hh2 hc hsl hro fun d' acts' => ?_
  simp only [wp_bind', W.mark, W.pushRef, State.topJava?_setTop' _ htop, Option.some.injEq, exists_eq_left', State.setTop_setTop]
  exact hq _ _
theorem xm_cold {Q : Unit → Pre} {T : State} {index dims cq : Nat} {vm' : Vm} (hs : T.topJava?.isSome) (hg : (Jvm.resolveClass g.method.cls index).Gives e.toSetting T.vm (.ok cq) vm') (hr : vm'.classReady g.method.cls index cq) (hsz : vm'.classes.size ≤ T.vm.classes.size) (h : wp (multianewarray.sem index dims) Q E e d acts ((T.setVm vm').setTop g)) : wp (multianewarray.sem index dims) Q E e d acts (T.setTop g) := by
  simp only [multianewarray.sem, wp_bind'] at h ⊢
  exact (W.resolveClassAt_transfer (s := T.setTop g) (State.method?_setTop g hs) hg hr hsz).mpr h
end XMW
