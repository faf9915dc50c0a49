/-! new int[n][k] -/
theorem xouter (c : ClassId) (N h0 : Nat) : ∀ i : Nat, Jvm.Free.Multi.outerC c N h0 i = arrV c N (fun j => if j < i then .ref (h0 + 1 + j) else .null)
  | 0 => by
    show ({ cls := c, slots := Array.replicate N .null, vm := .none } : Cell) = _
    rw [arrV_new]
    refine congrArg (arrV c N) (funext fun j => ?_)
    simp
  | i + 1 => by
    show (Jvm.Free.Multi.outerC c N h0 i).setSlot i (.ref (h0 + 1 + i)) = _
    rw [xouter c N h0 i, arrV_store]
    refine congrArg (arrV c N) (funext fun j => ?_)
    by_cases e : j = i
    · subst e
      simp [updV]
    · by_cases h : j < i
      · simp [updV, e, h, Nat.lt_succ_of_lt h]
      · simp [updV, e, h, show ¬ j < i + 1 by omega]
section XMUL
variable {p : Program} {l : Launch} {e : Env} {R : Room} {s : State} {m : MethodId} {args : Array Value} {below : List Frame} {meth : Method} {c : Code} {Q : State → Prop} {ext : Nat → Value} {B : Nat} {D : va_G} {cl : List vw_C} {fty : Nat → Nat → FieldType} {cells slots : Nat} {pc : Nat} {ls : XL} {st : List Value} {M : XM} {cc : ByteArray} {own : String}
theorem xmulti_row {n k b : Nat} (h : b < M.1.1 ∨ M.1.1 + n < b) : xRow M (xmulti M n k) b := by
  refine ⟨?_, ?_, ?_, ?_⟩
  · show (if b = M.1.1 then _ else if M.1.1 ≤ b ∧ b ≤ M.1.1 + n then _ else _) = _
    rw [if_neg (by omega), if_neg (by omega)]
  · show (if M.1.1 ≤ b ∧ b ≤ M.1.1 + n then _ else _) = _
    rw [if_neg (by omega)]
  · show (if M.1.1 ≤ b ∧ b ≤ M.1.1 + n then _ else _) = _
    rw [if_neg (by omega)]
  · show (if b = M.1.1 then _ else if M.1.1 ≤ b ∧ b ≤ M.1.1 + n then _ else _) = _
    rw [if_neg (by omega), if_neg (by omega)]
theorem xmulti_s0 {n k : Nat} : (xmulti M n k).2.1 M.1.1 = (44, n) := if_pos rfl
theorem xmulti_s1 {n k b : Nat} (h1 : M.1.1 < b) (h2 : b ≤ M.1.1 + n) : (xmulti M n k).2.1 b = (40, k) := by
  show (if b = M.1.1 then _ else if M.1.1 ≤ b ∧ b ≤ M.1.1 + n then _ else _) = _
  rw [if_neg (by omega), if_pos (by omega)]
theorem xAbs_multi (hE : xExt ext) {H H' : Heap} {n k : Nat} {cA comp : ClassId} (h : xAbs ext B D cl fty s H M) (hsz : H'.size = H.size + 1 + n) (hH : ∀ q : Nat, q < H.size → H'[q]? = H[q]?) (hout : H'[H.size]? = some (arrV cA n (fun j => if j < n then .ref (H.size + 1 + j) else .null))) (hin : ∀ j, j < n → H'[H.size + 1 + j]? = some (arrV comp k (fun _ => .int 0))) (hO : ArrOfT s cA (.array .int)) (hI : ArrOfT s comp .int) : xAbs ext B D cl fty s H' (xmulti M n k) := by
  obtain ⟨h1, h2, h3, h4, h5, h6⟩ := h
  have hlow : ∀ b, (M.2.1 b).1 ≤ 46 → b < M.1.1 := fun b hb => Nat.not_le.mp fun q => by have := h4 b q; omega
  have hs : ∀ b, (b < M.1.1 ∨ M.1.1 + n < b) → (xmulti M n k).2.1 b = M.2.1 b := fun b hb => (xmulti_row hb).1
  refine ⟨fun b hb => ?_, fun b hb => ?_, fun b hb hb' => ?_, fun b hb => ?_, ?_, ?_⟩
  · by_cases e : b < M.1.1 ∨ M.1.1 + n < b
    · rw [hs b e] at hb
      have q := h1 b hb
      have := hlow b (by omega)
      exact xObj_kept q (xmulti_row e) (hH _ (by have := q.1; omega))
    · by_cases e0 : b = M.1.1
      · subst e0; rw [xmulti_s0] at hb; simp at hb
      · rw [xmulti_s1 (by omega) (by omega)] at hb; simp at hb
  · by_cases e : b < M.1.1 ∨ M.1.1 + n < b
    · rw [hs b e] at hb
      have q := h2 b hb
      exact ⟨q.1, xStr_kept q.2 (xmulti_row e) (fun x hx _ => hH x hx)⟩
    · by_cases e0 : b = M.1.1
      · subst e0; rw [xmulti_s0] at hb; simp at hb
      · rw [xmulti_s1 (by omega) (by omega)] at hb; simp at hb
  · by_cases e : b < M.1.1 ∨ M.1.1 + n < b
    · rw [hs b e] at hb hb'
      exact xArr_kept (h3 b hb hb') (xmulti_row e) (fun q _ _ hlt => hH q hlt)
    · by_cases e0 : b = M.1.1
      · subst e0
        refine ⟨B + (M.1.1 - 16), _, xv_16 h5, fun z => by omega, by rw [← h6]; exact hout, ?_, fun z => (by cases z), ?_, ?_, ?_⟩
        · rw [xmulti_s0]; exact hO n _
        · rw [xmulti_s0, arrV_size]; exact ⟨Nat.le_refl _, rfl, fun _ => rfl⟩
        · rw [xmulti_s0]
          intro j hj
          have hj' : j < n := hj
          rw [arrV_read _ _ hj', if_pos hj']
          show _ = some (xv ext B (.ref ((if M.1.1 = M.1.1 then (fun i => if i < n then M.1.1 + 1 + i else 0) else _) j)))
          rw [if_pos rfl, if_pos hj', xv_16 (by omega), h6, show B + (M.1.1 - 16) + 1 + j = B + (M.1.1 + 1 + j - 16) by omega]
        · rw [xmulti_s0]; intro z; simp at z
      · have e1 : M.1.1 < b := by omega
        have e2 : b ≤ M.1.1 + n := by omega
        refine ⟨B + (b - 16), arrV comp k (fun _ => .int 0), xv_16 (by omega), fun z => by omega, ?_, ?_, fun z => (by cases z), ?_, ?_, ?_⟩
        · rw [show B + (b - 16) = H.size + 1 + (b - M.1.1 - 1) by omega]
          exact hin _ (by omega)
        · rw [xmulti_s1 e1 e2]; exact hI k _
        · rw [xmulti_s1 e1 e2, arrV_size]; exact ⟨Nat.le_refl _, rfl, fun _ => rfl⟩
        · rw [xmulti_s1 e1 e2]
          intro j hj
          rw [arrV_read _ _ hj]
          show _ = some (Value.int ((if M.1.1 ≤ b ∧ b ≤ M.1.1 + n then fun _ => 0 else M.2.2.1 b) j))
          rw [if_pos (by omega)]
        · rw [xmulti_s1 e1 e2]; intro z; simp at z
  · have hb' : M.1.1 + 1 + n ≤ b := hb
    rw [hs b (by omega)]
    exact h4 b (by omega)
  · show 16 ≤ M.1.1 + 1 + n; omega
  · show H'.size = B + (M.1.1 + 1 + n - 16); omega
theorem xs_multi (hE : xExt ext) (hx : p.tables.exec = Jvm.exec) (hb : c.code = cc) {i : Nat} {n k : Int32} (hown : s.vm.findClass own = some m.cls) (hclink : (Cond.classLink own i "[[I").before args s = true) (hover : (Cond.arrayOver (.array .int)).before args s = true) (harr : (Cond.arrayClass .int).before args s = true) (hn : ¬ n < 0) (hk : ¬ k < 0) (hN : n.toNatClampNeg ≤ 10000) (hK : k.toNatClampNeg ≤ 10000) (hcells : cells + (1 + n.toNatClampNeg) ≤ R.cells) (hslots : slots + (n.toNatClampNeg + n.toNatClampNeg * k.toNatClampNeg) ≤ R.slots) (hd : decode cc pc = .ok (.multianewarray i 2, 4))
    (kk : xW p l e R s m args below meth c Q ext B D cl fty (cells + 1 + n.toNatClampNeg) (slots + n.toNatClampNeg + n.toNatClampNeg * k.toNatClampNeg) (pc + 4) ls (.ref M.1.1 :: st) (xmulti M n.toNatClampNeg k.toNatClampNeg)) : xW p l e R s m args below meth c Q ext B D cl fty cells slots pc ls (.int k :: .int n :: st) M := fun H locs lsr hA hS hL => by
  have h5 := hA.2.2.2.2.1
  have h6 := hA.2.2.2.2.2
  intro T hT X
  obtain ⟨vm₁, cA, comp, -, fA, fC, hO, hI, X', step⟩ := X.multianewarray2F hx hown (ty := .int) hclink hover harr (g := F0 m pc lsr (.int k :: .int n :: st.map (xv ext B))) rfl (by rw [hb]; exact hd) rfl hn hk (by omega) (by show _ * 4 ≤ _; omega) (by omega) rfl rfl hcells hslots
  generalize hF : Jvm.Free.Multi.fill (T.setVm vm₁) cA comp n.toNatClampNeg k.toNatClampNeg (defaultValue .int) n.toNatClampNeg = F at X' step
  have hTh : (T.setVm vm₁).heap = H := hT
  obtain ⟨f1, f2, -, -⟩ := Jvm.Free.Multi.fill_facts (T.setVm vm₁) cA comp n.toNatClampNeg k.toNatClampNeg (defaultValue .int) n.toNatClampNeg
  rw [hF, hTh] at f1 f2
  have hold : ∀ x : Nat, x < H.size → F.heap[x]? = H[x]? := fun x hx => by
    have := Jvm.Free.Multi.fill_old (T.setVm vm₁) cA comp n.toNatClampNeg k.toNatClampNeg (defaultValue .int) (a := x) (by rw [hTh]; exact hx) n.toNatClampNeg
    rw [hF, hTh] at this
    exact this
  have hrow : ∀ j : Nat, j < n.toNatClampNeg → F.heap[H.size + 1 + j]? = some (arrV comp k.toNatClampNeg (fun _ => .int 0)) := fun j hj => by
    have := Jvm.Free.Multi.fill_inner (T.setVm vm₁) cA comp n.toNatClampNeg k.toNatClampNeg (defaultValue .int) n.toNatClampNeg j hj
    rw [hF, hTh] at this
    rw [this]
    show some ({ cls := comp, slots := Array.replicate k.toNatClampNeg (defaultValue .int), vm := .none } : Cell) = _
    rw [arrV_new]
    rfl
  rw [xouter] at f2
  have hAO : ArrOfT s cA (.array .int) := by
    obtain ⟨⟨g1, kx, g2, g3, g4⟩, -⟩ := hO 0 0 0
    exact fun n z => ⟨fun k h => (by cases h), kx, g2, g3, g4⟩
  have hAI : ArrOfT s comp .int := by
    obtain ⟨⟨g1, kx, g2, g3, g4⟩, -⟩ := hI 0 (.int 0)
    exact fun n z => ⟨fun k h => (by cases h), kx, g2, g3, g4⟩
  have k1 := kk F.heap locs lsr (xAbs_multi hE hA f1 hold f2 hrow hAO hAI) (xS_grow hS (by rw [f1]; omega) hold) hL F rfl X'
  obtain ⟨t, a1, b1⟩ := k1
  refine ⟨t, step t ?_, b1⟩
  rw [List.map_cons, xv_16 h5, ← h6] at a1
  rw [hT]
  exact a1
end XMUL
