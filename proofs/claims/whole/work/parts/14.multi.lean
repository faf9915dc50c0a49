/-! new int[n][k]: over the step of 13m -/
section XMUL
variable {p : Program} {l : Launch} {e : Env} {R : Room} {s : State} {m : MethodId} {args : Array Value} {below : List Frame} {meth : Method} {c : Code} {Q : State → Prop} {ext : Nat → Value} {B : Nat} {D : va_G} {cl : List vw_C} {fty : Nat → Nat → FieldType} {cells slots : Nat} {pc : Nat} {ls : XL} {st : List Value} {M : XM} {cc : ByteArray} {own : String}
theorem xmulti_row {n k b : Nat} (h : b < M.1.1 ∨ M.1.1 + n < b) : xRow M (xmulti M n k) b := by
  refine ⟨?_, ?_, ?_, ?_⟩
  · show (if b = M.1.1 then _ else if M.1.1 ≤ b ∧ b ≤ M.1.1 + n then _ else _) = _
    rw [if_neg (by omega), if_neg (by omega)]
  · show (if M.1.1 ≤ b ∧ b ≤ M.1.1 + n then _ else _) = _
    rw [if_neg (by omega)]
  · show (if M.1.1 ≤ b ∧ b ≤ M.1.1 + n then _ else _) = _
    rw [if_neg (by omega)]
  · show (if b = M.1.1 then _ else if M.1.1 ≤ b ∧ b ≤ M.1.1 + n then _ else _) = _
    rw [if_neg (by omega), if_neg (by omega)]
theorem xmulti_s0 {n k : Nat} : (xmulti M n k).2.1 M.1.1 = (44, n) := if_pos rfl
theorem xmulti_s1 {n k b : Nat} (h1 : M.1.1 < b) (h2 : b ≤ M.1.1 + n) : (xmulti M n k).2.1 b = (40, k) := by
  show (if b = M.1.1 then _ else if M.1.1 ≤ b ∧ b ≤ M.1.1 + n then _ else _) = _
  rw [if_neg (by omega), if_pos (by omega)]
theorem xAbs_multi (hE : xExt ext) {H H' : Heap} {n k : Nat} {cA comp : ClassId} (h : xAbs ext B D cl fty s H M) (hsz : H'.size = H.size + 1 + n) (hH : ∀ q : Nat, q < H.size → H'[q]? = H[q]?) (hout : H'[H.size]? = some (arrV cA n (fun j => if j < n then .ref (H.size + 1 + j) else .null))) (hin : ∀ j, j < n → H'[H.size + 1 + j]? = some (arrV comp k (fun _ => .int 0))) (hO : ArrOfT s cA (.array .int)) (hI : ArrOfT s comp .int) : xAbs ext B D cl fty s H' (xmulti M n k) := by
  obtain ⟨h1, h2, h3, h4, h5, h6⟩ := h
  have hlow : ∀ b, (M.2.1 b).1 ≤ 46 → b < M.1.1 := fun b hb => Nat.not_le.mp fun q => by have := h4 b q; omega
  have hs : ∀ b, (b < M.1.1 ∨ M.1.1 + n < b) → (xmulti M n k).2.1 b = M.2.1 b := fun b hb => (xmulti_row hb).1
  refine ⟨fun b hb => ?_, fun b hb => ?_, fun b hb hb' => ?_, fun b hb => ?_, ?_, ?_⟩
  · by_cases e : b < M.1.1 ∨ M.1.1 + n < b
    · rw [hs b e] at hb
      have q := h1 b hb
      have := hlow b (by omega)
      exact xObj_kept q (xmulti_row e) (hH _ (by have := q.1; omega))
    · by_cases e0 : b = M.1.1
      · subst e0; rw [xmulti_s0] at hb; simp at hb
      · rw [xmulti_s1 (by omega) (by omega)] at hb; simp at hb
  · by_cases e : b < M.1.1 ∨ M.1.1 + n < b
    · rw [hs b e] at hb
      have q := h2 b hb
      exact ⟨q.1, xStr_kept q.2 (xmulti_row e) (fun x hx _ => hH x hx)⟩
    · by_cases e0 : b = M.1.1
      · subst e0; rw [xmulti_s0] at hb; simp at hb
      · rw [xmulti_s1 (by omega) (by omega)] at hb; simp at hb
  · by_cases e : b < M.1.1 ∨ M.1.1 + n < b
    · rw [hs b e] at hb hb'
      exact xArr_kept (h3 b hb hb') (xmulti_row e) (fun q _ _ hlt => hH q hlt)
    · by_cases e0 : b = M.1.1
      · subst e0
        refine ⟨B + (M.1.1 - 16), _, xv_16 h5, fun z => by omega, by rw [← h6]; exact hout, ?_, fun z => (by cases z), ?_, ?_, ?_⟩
        · rw [xmulti_s0]; exact hO n _
        · rw [xmulti_s0, arrV_size]; exact ⟨Nat.le_refl _, rfl, fun _ => rfl⟩
        · rw [xmulti_s0]
          intro j hj
          have hj' : j < n := hj
          rw [arrV_read _ _ hj', if_pos hj']
          show _ = some (xv ext B (.ref ((if M.1.1 = M.1.1 then (fun i => if i < n then M.1.1 + 1 + i else 0) else _) j)))
          rw [if_pos rfl, if_pos hj', xv_16 (by omega), h6, show B + (M.1.1 - 16) + 1 + j = B + (M.1.1 + 1 + j - 16) by omega]
        · rw [xmulti_s0]; intro z; simp at z
      · have e1 : M.1.1 < b := by omega
        have e2 : b ≤ M.1.1 + n := by omega
        refine ⟨B + (b - 16), arrV comp k (fun _ => .int 0), xv_16 (by omega), fun z => by omega, ?_, ?_, fun z => (by cases z), ?_, ?_, ?_⟩
        · rw [show B + (b - 16) = H.size + 1 + (b - M.1.1 - 1) by omega]
          exact hin _ (by omega)
        · rw [xmulti_s1 e1 e2]; exact hI k _
        · rw [xmulti_s1 e1 e2, arrV_size]; exact ⟨Nat.le_refl _, rfl, fun _ => rfl⟩
        · rw [xmulti_s1 e1 e2]
          intro j hj
          rw [arrV_read _ _ hj]
          show _ = some (Value.int ((if M.1.1 ≤ b ∧ b ≤ M.1.1 + n then fun _ => 0 else M.2.2.1 b) j))
          rw [if_pos (by omega)]
        · rw [xmulti_s1 e1 e2]; intro z; simp at z
  · have hb' : M.1.1 + 1 + n ≤ b := hb
    rw [hs b (by omega)]
    exact h4 b (by omega)
  · show 16 ≤ M.1.1 + 1 + n; omega
  · show H'.size = B + (M.1.1 + 1 + n - 16); omega
theorem xm_over (h : (Cond.arrayOver (.array .int)).before args s = true) : ∃ (cA comp : ClassId) (kA : Class), s.vm.findClass ("[" ++ (FieldType.array .int).toString) = some cA ∧ s.vm.findClass (FieldType.array .int).toString = some comp ∧ s.vm.classes[cA]? = some kA ∧ kA.kind = .array comp (.array .int) := by
  simp only [Cond.before, Cond.holds, Cond.value, beq_iff_eq, Option.bind_eq_some_iff, Option.map_eq_some_iff] at h
  obtain ⟨comp, h1, cA, h2, kA, h3, h4⟩ := h
  obtain ⟨hlt, h5, -⟩ := Array.findIdx?_eq_some_iff_getElem.mp h2
  rw [(Array.getElem?_eq_some_iff.mp h3).2] at h5
  refine ⟨cA, comp, kA, ?_, h1, h3, ?_⟩
  · cases hk : kA.kind <;> rw [hk] at h4 <;> simp at h4
    exact h4.2
  · cases hk : kA.kind <;> rw [hk] at h4 h5 <;> simp at h4 h5
    rw [h4.1, h5]
theorem xmS_stand {T : State} {locs : List Loc} (X : Stand p l e R s m args below meth c T locs cells slots) (cA comp : ClassId) (n k : Nat) : ∀ i : Nat, Stand p l e R s m args below meth c (xmS T cA comp n k i) locs (cells + 1 + i) (slots + n + i * k)
  | 0 => by
    have h := X.pushed (xmO cA n T.heap.size 0)
    rw [show (xmO cA n T.heap.size 0).slots.size = n from arrV_size _ _ _] at h
    rw [Nat.zero_mul]
    exact h
  | i + 1 => by
    have h := (xmS_stand X cA comp n k i).pushed (xmZ comp k)
    rw [show (xmZ comp k).slots.size = k from arrV_size _ _ _] at h
    have f := xmS_f T cA comp n k i
    have hc : ((xmS T cA comp n k i).pushCell (xmZ comp k)).heap[T.heap.size]? = some (xmO cA n T.heap.size i) := by
      show ((xmS T cA comp n k i).heap.push _)[T.heap.size]? = _
      rw [Array.getElem?_push, if_neg (by have := f.1; omega)]
      exact f.2.1
    have h2 := h.stored hc i (.ref (T.heap.size + 1 + i))
    rw [xmO_put] at h2
    have h3 := h2.dropFresh (fun x hx => by
      rw [List.mem_singleton] at hx
      subst hx
      exact X.heapGrown)
    rw [show slots + n + i * k + k = slots + n + (i + 1) * k by rw [Nat.succ_mul]; omega] at h3
    exact h3
theorem xm_step {T : State} {locs : List Loc} (X : Stand p l e R s m args below meth c T locs cells slots) (hx : p.tables.exec = Jvm.exec) {i : Nat} (hown : s.vm.findClass own = some m.cls) (hclink : (Cond.classLink own i "[[I").before args s = true) (hover : (Cond.arrayOver (.array .int)).before args s = true) (harr : (Cond.arrayClass .int).before args s = true) {g : JFrame} (hg : g.method = m) (hdg : decode c.code g.pc = .ok (.multianewarray i 2, 4)) {n k : Int32} {rest : List Value} (hst : g.stack = .int k :: .int n :: rest) (hn : ¬ n < 0) (hk : ¬ k < 0) (hN : n.toNatClampNeg ≤ 10000) (hK : k.toNatClampNeg ≤ 10000) (hcells : cells + (1 + n.toNatClampNeg) ≤ R.cells) (hslots : slots + (n.toNatClampNeg + n.toNatClampNeg * k.toNatClampNeg) ≤ R.slots) :
    ∃ (vm₁ : Vm) (cA comp : ClassId), ArrOfT s cA (.array .int) ∧ ArrOfT s comp .int ∧ Stand p l e R s m args below meth c (xmS (T.setVm vm₁) cA comp n.toNatClampNeg k.toNatClampNeg n.toNatClampNeg) locs (cells + 1 + n.toNatClampNeg) (slots + n.toNatClampNeg + n.toNatClampNeg * k.toNatClampNeg) ∧ ∀ target, Steps p.tables e below ((xmS (T.setVm vm₁) cA comp n.toNatClampNeg k.toNatClampNeg n.toNatClampNeg).setTop { g with pc := g.pc + 4, stack := .ref T.heap.size :: rest }) target → Steps p.tables e below (T.setTop g) target := by
  subst hg
  have hpl : e.platform.magicAccessors = ({} : Platform).magicAccessors := by rw [X.admits.platform]
  obtain ⟨cA, comp, kA, o1, o2, o3, o4⟩ := xm_over hover
  obtain ⟨c2, kC, cz, a1, a2, a3⟩ := Cond.arrayClass_spec harr
  cases Option.some.inj (a1.symm.trans o2)
  obtain ⟨cL, l1, l2⟩ := Cond.classLink_spec hown hclink e.platform hpl
  cases Option.some.inj (l1.symm.trans o1)
  obtain ⟨hg1, hW, hrd⟩ := State.classEntry (e := e) X.warmed l2
  have hsz : (T.vm.noted g.method.cls i (.cls cA)).classes.size ≤ T.vm.classes.size := by no_record
  generalize T.vm.noted g.method.cls i (.cls cA) = vm₁ at hg1 hW hrd hsz
  have hal : s.vm.Alike vm₁ := hW.alike
  obtain ⟨kA₁, q1, q2⟩ := hal.2.2 _ _ o3
  obtain ⟨kC₁, q3, q4⟩ := hal.2.2 _ _ a2
  have q5 : kA₁.kind = .array comp (.array .int) := by rw [q2]; exact o4
  have q6 : kC₁.kind = .array cz .int := by rw [q4]; exact a3
  have X1 := X.noted hW
  have XS := xmS_stand X1 cA comp n.toNatClampNeg k.toNatClampNeg
  obtain ⟨r1, r2⟩ := X1.roomAbove (a := 1) (b := n.toNatClampNeg) (by omega) (by omega)
  refine ⟨vm₁, cA, comp, fun N z => ⟨fun q h => (by cases h), kA, o3, comp, o4⟩, fun N z => ⟨fun q h => (by cases h), kC, a2, cz, a3⟩, XS _, fun target hrest => ?_⟩
  refine Steps.instr (c := c) X.here ?_
  rw [hdg]
  show wpRun (p.tables.exec (.multianewarray i 2)) _ _ e (T.setTop g)
  rw [hx]
  refine xm_cold X.here.top hg1 hrd hsz (xm_sem (T := T.setVm vm₁) X1.here.top hrd hst q1 q5 q3 q6 hn hk ?_ ?_ ?_ ?_ r1 r2 (fun j hj => ?_) (XS _).here.top fun d acts => ?_)
  · rw [Launch.admits_arrayLengthLimit X.admits]; omega
  · rw [Launch.admits_maxHeapBytes X.admits]; omega
  · rw [Launch.admits_arrayLengthLimit X.admits]; omega
  · rw [Launch.admits_maxHeapBytes X.admits]; omega
  · have hm : (j + 1) * k.toNatClampNeg ≤ n.toNatClampNeg * k.toNatClampNeg := Nat.mul_le_mul_right _ hj
    rw [Nat.succ_mul] at hm
    exact (XS j).roomAbove (a := 1) (b := k.toNatClampNeg) (by omega) (by omega)
  · intro acts'
    rw [afterInstr_ok]
    exact hrest
theorem xs_multi (hE : xExt ext) (hx : p.tables.exec = Jvm.exec) (hb : c.code = cc) {i : Nat} {n k : Int32} (hown : s.vm.findClass own = some m.cls) (hclink : (Cond.classLink own i "[[I").before args s = true) (hover : (Cond.arrayOver (.array .int)).before args s = true) (harr : (Cond.arrayClass .int).before args s = true) (hn : ¬ n < 0) (hk : ¬ k < 0) (hN : n.toNatClampNeg ≤ 10000) (hK : k.toNatClampNeg ≤ 10000) (hcells : cells + (1 + n.toNatClampNeg) ≤ R.cells) (hslots : slots + (n.toNatClampNeg + n.toNatClampNeg * k.toNatClampNeg) ≤ R.slots) (hd : decode cc pc = .ok (.multianewarray i 2, 4))
    (kk : xW p l e R s m args below meth c Q ext B D cl fty (cells + 1 + n.toNatClampNeg) (slots + n.toNatClampNeg + n.toNatClampNeg * k.toNatClampNeg) (pc + 4) ls (.ref M.1.1 :: st) (xmulti M n.toNatClampNeg k.toNatClampNeg)) : xW p l e R s m args below meth c Q ext B D cl fty cells slots pc ls (.int k :: .int n :: st) M := fun H locs lsr hA hS hL => by
  have h5 := hA.2.2.2.2.1
  have h6 := hA.2.2.2.2.2
  intro T hT X
  obtain ⟨vm₁, cA, comp, hAO, hAI, X', step⟩ := xm_step X hx hown hclink hover harr (g := F0 m pc lsr (.int k :: .int n :: st.map (xv ext B))) rfl (by rw [hb]; exact hd) rfl hn hk hN hK hcells hslots
  have hTh : (T.setVm vm₁).heap = H := hT
  obtain ⟨f1, f2, f3, f4, -⟩ := xmS_f (T.setVm vm₁) cA comp n.toNatClampNeg k.toNatClampNeg n.toNatClampNeg
  generalize xmS (T.setVm vm₁) cA comp n.toNatClampNeg k.toNatClampNeg n.toNatClampNeg = F at X' step f1 f2 f3 f4
  rw [hTh] at f1 f2 f3 f4
  have k1 := kk F.heap locs lsr (xAbs_multi hE hA f1 f3 f2 f4 hAO hAI) (xS_grow hS (by rw [f1]; omega) f3) hL F rfl X'
  obtain ⟨t, a1, b1⟩ := k1
  refine ⟨t, step t ?_, b1⟩
  rw [List.map_cons, xv_16 h5, ← h6] at a1
  rw [hT]
  exact a1
end XMUL
