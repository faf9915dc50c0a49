/-! the program that looks at a row, and what it finds -/
def xdecB (g : XMe) (pc : Nat) (e : XI) : Bool := match e.1 with
  | .tableswitch d lo hi offs => decide (decode g.2.1 pc = .ok (.tableswitch d lo hi offs, e.2.1 - pc))
  | ins => decide (decode g.2.1 pc = .ok (ins, xlen ins)) && e.2.1 == pc + xlen ins
theorem xdecB_ok {g : XMe} {pc : Nat} {e : XI} (h : xdecB g pc e = true) : xDec g pc e := by
  obtain ⟨ins, npc, a, b⟩ := e
  unfold xdecB at h
  unfold xDec
  cases ins <;> dsimp only at h ⊢ <;> first
    | (rw [Bool.and_eq_true, decide_eq_true_eq, beq_iff_eq] at h; exact h)
    | exact ⟨_, of_decide_eq_true h⟩
def xroomB (g h : XMe) : Bool := decide (h.2.2.2.2.1.1 + 1 ≤ g.2.2.2.2.1.1) && decide (8 + (h.2.2.1 + 11) + h.2.2.2.2.1.2 ≤ g.2.2.2.2.1.2)
def xlkB (o : Nat) (g : XMe) (pc : Nat) (e : XI) : Bool := match e with
  | (ins, _, a, b) => match ins with
  | .ldc i => (a == 0 && xCSs.any (fun z => z.1 == o && z.2.1 == i && z.2.2.1 == b)) || (a == 1 && xTLs.any (fun z => z.1 == o && z.2.1 == i && z.2.2 == b))
  | .ldc_w i => xCSs.any (fun z => z.1 == o && z.2.1 == i && z.2.2.1 == b)
  | .ldc2_w i => xC2s.any (fun z => z.1 == o && z.2.1 == i && z.2.2.1 == b)
  | .getstatic i => xGSs.any (fun z => z.1 == o && z.2.1 == i && z.2.2.1 == a && z.2.2.2.1 == b)
  | .goto q => decide ((pc : Int) + q = (a : Int))
  | .if_icmp _ q => decide ((pc : Int) + q = (a : Int))
  | .ifCond _ q => decide ((pc : Int) + q = (a : Int))
  | .ifnull q => decide ((pc : Int) + q = (a : Int))
  | .ifnonnull q => decide ((pc : Int) + q = (a : Int))
  | .getfield i => (a == 31 && xSFs.any (fun z => z.1 == o && z.2.1 == i && z.2.2.1 == b)) || xFLs.any (fun z => z.1 == o && z.2.1 == i && z.2.2.1 == a && z.2.2.2.1 == b)
  | .putfield i => xFLs.any (fun z => z.1 == o && z.2.1 == i && z.2.2.1 == a && z.2.2.2.1 == b) && (match xcl[a]? with
    | some r => !(r.2.1 (b / 4)).2.2.2 || (decide (g.1.name = "<init>") && decide ((r.2.1 (b / 4)).1 = xcn o))
    | none => false)
  | .new i => xCNs.any (fun z => z.1 == o && z.2.1 == i && z.2.2.1 == a && z.2.2.2.1 == b)
  | .newarray t => decide (40 ≤ a) && decide (a ≤ 43) && decide (newarray.typeOf t = xaty a)
  | .anewarray i => xCAs.any (fun z => z.1 == o && z.2.1 == i && z.2.2.1 == a)
  | .multianewarray i d => d == 2 && xCMs.any (fun z => z.1 == o && z.2.1 == i)
  | .invokespecial i => (a == 0 && xOIs.any (fun z => z.1 == o && z.2.1 == i) && decide (1 ≤ g.2.2.2.2.1.1) && decide (20 ≤ g.2.2.2.2.1.2)) || (!(a == 0) && decide (1 ≤ b) && xroomB g (xprog a) && decide ((xprog a).1.name = "<init>") && decide ((xprog a).2.2.2.1 = none) && (xMIs.any (fun z => z.1 == o && z.2.1 == i && z.2.2.1 == a) || xNWs.any (fun z => z.1 == o && z.2.1 == i && z.2.2.1 == a)) && xCAL.any (fun z => z.1 == a && z.2.1 == b - 1 && !(z.2.2.2.2.1 == 0)))
  | .invokevirtual i => decide (1 ≤ b) && xroomB g (xprog a) && xMVs.any (fun z => z.1 == o && z.2.1 == i && z.2.2.1 == a) && xCAL.any (fun z => z.1 == a && z.2.1 == b - 1 && !(z.2.2.2.2.1 == 0) && !(z.2.2.2.2.2.1 == 0))
  | .invokestatic i => (decide (a < 996) && xroomB g (xprog a) && xMSs.any (fun z => z.1 == o && z.2.1 == i && z.2.2.1 == a) && xCAL.any (fun z => z.1 == a && z.2.1 == b && !(z.2.2.2.2.2.2 == 0))) || (a == 999 && xACs.any (fun z => z.1 == o && z.2.1 == i) && decide (1 ≤ g.2.2.2.2.1.1) && decide (40 ≤ g.2.2.2.2.1.2)) || (decide (996 ≤ a) && decide (a ≤ 998) && xMAs.any (fun z => z.1 == o && z.2.1 == i && z.2.2.1 == a) && decide (1 ≤ g.2.2.2.2.1.1) && decide (40 ≤ g.2.2.2.2.1.2))
  | _ => true
theorem xall {α : Type} {l : List α} {f : α → Bool} (h : l.all f = true) {z : α} (hz : z ∈ l) : f z = true := List.all_eq_true.mp h z hz
theorem xfl_of {o i a b : Nat} (h : xFLs.any (fun z => z.1 == o && z.2.1 == i && z.2.2.1 == a && z.2.2.2.1 == b) = true) : a < 13 ∧ ∃ r : vw_C, xcl[a]? = some r ∧ b / 4 < r.2.2 ∧ Cond.fieldLink (xcn o) i (r.2.1 (b / 4)).1 (r.2.1 (b / 4)).2.1 (r.2.1 (b / 4)).2.2.1 ∈ xTs ∧ xkd (b % 4) (xfty a (b / 4)) := by
  obtain ⟨z, hz, e⟩ := List.any_eq_true.mp h
  simp only [Bool.and_eq_true, beq_iff_eq] at e
  obtain ⟨⟨⟨rfl, rfl⟩, rfl⟩, rfl⟩ := e
  have hf := xall xFLs_ok hz
  unfold xfB at hf
  rw [Bool.and_eq_true, decide_eq_true_eq] at hf
  refine ⟨hf.1, ?_⟩
  have hf := hf.2
  split at hf
  · rename_i r hr
    simp only [Bool.and_eq_true, decide_eq_true_eq] at hf
    exact ⟨r, hr, hf.1.1, xat_in hf.1.2, xkdB_ok hf.2⟩
  · cases hf
theorem xcal_of {a n : Nat} {q : Nat × Nat × Nat × Nat × Nat × Nat × Nat} (hq : q ∈ xCAL) (h1 : q.1 = a) (h2 : q.2.1 = n) {g : XMe} (hr : xroomB g (xprog a) = true) : xCallee xTs g (xprog a) n ∧ (q.2.2.2.2.1 ≠ 0 → Cond.instanceMethod (xprog a).1 ∈ xTs) ∧ (q.2.2.2.2.2.1 ≠ 0 → Cond.selects (xprog a).1.cls (xprog a).1 (xprog a).1 ∈ xTs ∧ xRecv xcl (xprog a)) ∧ (q.2.2.2.2.2.2 ≠ 0 → Cond.static (xprog a).1 ∈ xTs) := by
  subst h1
  subst h2
  have h := xall xCAL_ok hq
  unfold xcaB at h
  unfold xroomB at hr
  simp only [Bool.and_eq_true, decide_eq_true_eq] at hr
  simp only [Bool.and_eq_true, Bool.or_eq_true, decide_eq_true_eq, beq_iff_eq] at h
  obtain ⟨⟨⟨⟨⟨⟨⟨w2, w3⟩, w4⟩, w5⟩, w6⟩, w7⟩, w8⟩, w9⟩ := h
  refine ⟨⟨xCAL_w q hq, xat_in w2, w3, w4, w5, w6, hr.1, hr.2⟩, fun z => xat_in (w7.resolve_left z), fun z => ?_, fun z => xat_in (w9.resolve_left z)⟩
  have h8 := w8.resolve_left z
  refine ⟨xat_in h8.1, ?_⟩
  rcases h8.2 with ⟨y1, y2⟩ | ⟨y1, y2⟩
  · exact Or.inl ⟨y1, y2⟩
  · split at y2
    · rename_i r hr
      exact Or.inr ⟨y1, r, hr, of_decide_eq_true y2⟩
    · cases y2
theorem xokt_all : ∀ t k, xokt (xfty t k) = true := by
  have h : ∀ l ∈ xftl, ∀ ty ∈ l, xokt ty = true := by decide +kernel
  intro t k
  unfold xfty
  rw [List.getD_eq_getElem?_getD, List.getD_eq_getElem?_getD]
  cases h1 : xftl[t]? with
  | none => simp [xokt]
  | some l =>
    simp only [Option.getD_some]
    cases h2 : l[k]? with
    | none => rfl
    | some ty => exact h l (List.mem_of_getElem? h1) ty (List.mem_of_getElem? h2)
theorem xlkB_ok {o : Nat} {g : XMe} {pc : Nat} {e : XI} (ho : g.1.cls = xcn o) (h : xlkB o g pc e = true) : xLk xprog xcl xfty xTs xSL xTL xNW g pc e := by
  obtain ⟨ins, npc, a, b⟩ := e
  cases ins with
  | ldc i =>
    simp only [xlkB, Bool.or_eq_true, Bool.and_eq_true, beq_iff_eq] at h
    rcases h with ⟨h0, h⟩ | ⟨h0, h⟩
    · obtain ⟨z, hz, e⟩ := List.any_eq_true.mp h
      simp only [Bool.and_eq_true, beq_iff_eq] at e
      obtain ⟨⟨rfl, rfl⟩, rfl⟩ := e
      refine Or.inl ⟨h0, ?_⟩
      rw [ho]
      exact xat_in (xall xCSs_ok hz)
    · obtain ⟨z, hz, e⟩ := List.any_eq_true.mp h
      simp only [Bool.and_eq_true, beq_iff_eq] at e
      obtain ⟨⟨rfl, rfl⟩, rfl⟩ := e
      have h3 := xall xTLs_ok hz
      obtain ⟨y, hy, e⟩ := List.any_eq_true.mp h3
      simp only [Bool.and_eq_true, beq_iff_eq, decide_eq_true_eq] at e
      obtain ⟨⟨e1, e2⟩, e3⟩ := e
      refine Or.inr ⟨h0, y.2.2.1, ?_⟩
      rw [ho, ← e1, ← e2, ← e3]
      exact hy
  | ldc_w i =>
    simp only [xlkB] at h
    obtain ⟨z, hz, e⟩ := List.any_eq_true.mp h
    simp only [Bool.and_eq_true, beq_iff_eq] at e
    obtain ⟨⟨rfl, rfl⟩, rfl⟩ := e
    show Cond.constant g.1.cls _ _ ∈ xTs
    rw [ho]
    exact xat_in (xall xCSs_ok hz)
  | ldc2_w i =>
    simp only [xlkB] at h
    obtain ⟨z, hz, e⟩ := List.any_eq_true.mp h
    simp only [Bool.and_eq_true, beq_iff_eq] at e
    obtain ⟨⟨rfl, rfl⟩, rfl⟩ := e
    show Cond.constantLong g.1.cls _ _ ∈ xTs
    rw [ho]
    exact xat_in (xall xC2s_ok hz)
  | getstatic i =>
    simp only [xlkB] at h
    obtain ⟨z, hz, e⟩ := List.any_eq_true.mp h
    simp only [Bool.and_eq_true, beq_iff_eq] at e
    obtain ⟨⟨⟨rfl, rfl⟩, rfl⟩, rfl⟩ := e
    have h3 := xall xGSs_ok hz
    unfold xgsB at h3
    split at h3
    · rename_i y hy
      simp only [Bool.and_eq_true, decide_eq_true_eq] at h3
      refine ⟨y.1, y.2.1, y.2.2.1, ?_, ?_⟩
      · have := List.mem_of_getElem? hy
        rw [← show y = (y.1, y.2.1, y.2.2.1, z.2.2.1, z.2.2.2.1) from by rw [← h3.1]]
        exact this
      · rw [ho]; exact xat_in h3.2
    · cases h3
  | goto q =>
    simp only [xlkB, decide_eq_true_eq] at h
    exact h
  | if_icmp c q =>
    simp only [xlkB, decide_eq_true_eq] at h
    exact h
  | ifCond c q =>
    simp only [xlkB, decide_eq_true_eq] at h
    exact h
  | ifnull q =>
    simp only [xlkB, decide_eq_true_eq] at h
    exact h
  | ifnonnull q =>
    simp only [xlkB, decide_eq_true_eq] at h
    exact h
  | getfield i =>
    simp only [xlkB, Bool.or_eq_true, Bool.and_eq_true, beq_iff_eq] at h
    rcases h with ⟨h0, h⟩ | h
    · obtain ⟨z, hz, e⟩ := List.any_eq_true.mp h
      simp only [Bool.and_eq_true, beq_iff_eq] at e
      obtain ⟨⟨rfl, rfl⟩, rfl⟩ := e
      have h3 := xall xSFs_ok hz
      unfold xsfB at h3
      simp only [Bool.or_eq_true, Bool.and_eq_true, beq_iff_eq] at h3
      refine Or.inl ⟨h0, ?_⟩
      rw [ho]
      rcases h3 with ⟨y1, y2⟩ | ⟨y1, y2⟩
      · exact Or.inl ⟨y1, xat_in y2⟩
      · exact Or.inr ⟨y1, xat_in y2⟩
    · obtain ⟨h1, r, h2, h3, h4, h5⟩ := xfl_of h
      exact Or.inr ⟨by omega, r, h2, h3, by rw [ho]; exact h4, h5⟩
  | putfield i =>
    simp only [xlkB, Bool.and_eq_true] at h
    obtain ⟨h1, r, h2, h3, h4, h5⟩ := xfl_of h.1
    refine ⟨by omega, r, h2, h3, by rw [ho]; exact h4, h5, ?_⟩
    have h6 := h.2
    rw [h2] at h6
    simp only [Bool.or_eq_true, Bool.and_eq_true, decide_eq_true_eq, Bool.not_eq_true'] at h6
    rw [ho]
    exact h6
  | new i =>
    simp only [xlkB] at h
    obtain ⟨z, hz, e⟩ := List.any_eq_true.mp h
    simp only [Bool.and_eq_true, beq_iff_eq] at e
    obtain ⟨⟨⟨rfl, rfl⟩, rfl⟩, rfl⟩ := e
    have h3 := xall xCNs_ok hz
    unfold xcnB at h3
    rw [Bool.and_eq_true, decide_eq_true_eq] at h3
    refine ⟨by omega, xokt_all _, ?_⟩
    have h4 := h3.2
    split at h4
    · rename_i r hr
      simp only [Bool.and_eq_true] at h4
      exact ⟨r, hr, by rw [ho]; exact xat_in h4.1.1, xat_in h4.1.2, xat_in h4.2⟩
    · cases h4
  | newarray t =>
    simp only [xlkB, Bool.and_eq_true, decide_eq_true_eq] at h
    refine ⟨h.1.1, h.1.2, h.2, ?_⟩
    rcases (show a = 40 ∨ a = 41 ∨ a = 42 ∨ a = 43 by omega) with e | e | e | e <;> subst e
    · exact xFix_40
    · exact xFix_41
    · exact xFix_42
    · exact xFix_43
  | anewarray i =>
    simp only [xlkB] at h
    obtain ⟨z, hz, e⟩ := List.any_eq_true.mp h
    simp only [Bool.and_eq_true, beq_iff_eq] at e
    obtain ⟨⟨rfl, rfl⟩, rfl⟩ := e
    have h3 := xall xCAs_ok hz
    simp only [Bool.or_eq_true, Bool.and_eq_true, beq_iff_eq] at h3
    rcases h3 with ⟨y1, y2⟩ | ⟨y1, y2⟩
    · exact Or.inl ⟨y1, by rw [ho]; exact xat_in y2⟩
    · exact Or.inr ⟨y1, by rw [ho]; exact xat_in y2⟩
  | multianewarray i d =>
    simp only [xlkB, Bool.and_eq_true, beq_iff_eq] at h
    obtain ⟨z, hz, e⟩ := List.any_eq_true.mp h.2
    simp only [Bool.and_eq_true, beq_iff_eq] at e
    obtain ⟨rfl, rfl⟩ := e
    exact ⟨h.1, by rw [ho]; exact xat_in (xall xCMs_ok hz), xFix_40⟩
  | invokespecial i =>
    simp only [xlkB, Bool.or_eq_true, Bool.and_eq_true, beq_iff_eq, decide_eq_true_eq, Bool.not_eq_true', beq_eq_false_iff_ne] at h
    rcases h with ⟨⟨⟨h0, h1⟩, h2⟩, h3⟩ | ⟨⟨⟨⟨⟨⟨h0, h1⟩, h2⟩, h3⟩, h4⟩, h5⟩, h6⟩
    · refine ⟨fun _ => ?_, fun z => absurd h0 z⟩
      obtain ⟨z, hz, e⟩ := List.any_eq_true.mp h1
      simp only [Bool.and_eq_true, beq_iff_eq] at e
      obtain ⟨rfl, rfl⟩ := e
      exact ⟨by rw [ho]; exact xat_in (xall xOIs_ok hz), xFix_oi, xFix_oc, h2, h3⟩
    · refine ⟨fun z => absurd z h0, fun _ => ?_⟩
      obtain ⟨z, hz, e⟩ := List.any_eq_true.mp h6
      simp only [Bool.and_eq_true, beq_iff_eq, Bool.not_eq_true', beq_eq_false_iff_ne] at e
      obtain ⟨c1, c2, c3, c4⟩ := xcal_of hz e.1.1 e.1.2 h2
      refine ⟨c1, h3, h4, c2 e.2, ?_, h1⟩
      rcases h5 with h5 | h5
      · obtain ⟨z, hz, e⟩ := List.any_eq_true.mp h5
        simp only [Bool.and_eq_true, beq_iff_eq] at e
        obtain ⟨⟨rfl, rfl⟩, rfl⟩ := e
        exact Or.inl (by rw [ho]; exact xat_in (xall xMIs_ok hz))
      · obtain ⟨z, hz, e⟩ := List.any_eq_true.mp h5
        simp only [Bool.and_eq_true, beq_iff_eq] at e
        obtain ⟨⟨rfl, rfl⟩, rfl⟩ := e
        have h7 := xall xNWs_ok hz
        split at h7
        · rename_i y hy
          simp only [Bool.and_eq_true, beq_iff_eq, decide_eq_true_eq] at h7
          refine Or.inr ⟨y.2.2.2, ?_⟩
          rw [ho, ← h7.1.1, ← h7.1.2, ← h7.2]
          exact List.mem_of_getElem? hy
        · cases h7
  | invokevirtual i =>
    simp only [xlkB, Bool.and_eq_true, beq_iff_eq, decide_eq_true_eq] at h
    obtain ⟨⟨⟨h1, h2⟩, h3⟩, h4⟩ := h
    obtain ⟨z, hz, e⟩ := List.any_eq_true.mp h4
    simp only [Bool.and_eq_true, beq_iff_eq, Bool.not_eq_true', beq_eq_false_iff_ne] at e
    obtain ⟨c1, c2, c3, c4⟩ := xcal_of hz e.1.1.1 e.1.1.2 h2
    refine ⟨c1, ?_, c2 e.1.2, (c3 e.2).1, (c3 e.2).2, h1⟩
    obtain ⟨z, hz, e⟩ := List.any_eq_true.mp h3
    simp only [Bool.and_eq_true, beq_iff_eq] at e
    obtain ⟨⟨rfl, rfl⟩, rfl⟩ := e
    rw [ho]
    exact xat_in (xall xMVs_ok hz)
  | invokestatic i =>
    simp only [xlkB, Bool.or_eq_true, Bool.and_eq_true, beq_iff_eq, decide_eq_true_eq] at h
    rcases h with (⟨⟨⟨h0, h1⟩, h2⟩, h3⟩ | ⟨⟨⟨h0, h1⟩, h2⟩, h3⟩) | ⟨⟨⟨⟨h0, h00⟩, h1⟩, h2⟩, h3⟩
    · refine ⟨fun _ => ?_, fun z => by omega, fun z => by omega, fun z => by omega, fun z => by omega⟩
      obtain ⟨z, hz, e⟩ := List.any_eq_true.mp h3
      simp only [Bool.and_eq_true, beq_iff_eq, Bool.not_eq_true', beq_eq_false_iff_ne] at e
      obtain ⟨c1, c2, c3, c4⟩ := xcal_of hz e.1.1 e.1.2 h1
      refine ⟨c1, ?_, c4 e.2⟩
      obtain ⟨z, hz, e⟩ := List.any_eq_true.mp h2
      simp only [Bool.and_eq_true, beq_iff_eq] at e
      obtain ⟨⟨rfl, rfl⟩, rfl⟩ := e
      rw [ho]
      exact xat_in (xall xMSs_ok hz)
    · refine ⟨fun z => by omega, fun _ => ?_, fun z => by omega, fun z => by omega, fun z => by omega⟩
      obtain ⟨z, hz, e⟩ := List.any_eq_true.mp h1
      simp only [Bool.and_eq_true, beq_iff_eq] at e
      obtain ⟨rfl, rfl⟩ := e
      exact ⟨by rw [ho]; exact xat_in (xall xACs_ok hz), xFix_an, xFix_as, xFix_si, h2, h3⟩
    · obtain ⟨z, hz, e⟩ := List.any_eq_true.mp h1
      simp only [Bool.and_eq_true, beq_iff_eq] at e
      obtain ⟨⟨rfl, rfl⟩, rfl⟩ := e
      have h4 := xall xMAs_ok hz
      simp only [Bool.or_eq_true, Bool.and_eq_true, beq_iff_eq] at h4
      refine ⟨fun z => by omega, fun z => by omega, fun q => ?_, fun q => ?_, fun q => ?_⟩
      · rcases h4 with (h4 | h4) | h4 <;> first | exact ⟨by rw [ho]; exact xat_in h4.2, xFix_98, xFix_mi, xFix_c98, h2, h3⟩ | (have := h4.1; omega)
      · rcases h4 with (h4 | h4) | h4 <;> first | exact ⟨by rw [ho]; exact xat_in h4.2, xFix_97, xFix_mi, xFix_c97, h2, h3⟩ | (have := h4.1; omega)
      · rcases h4 with (h4 | h4) | h4 <;> first | exact ⟨by rw [ho]; exact xat_in h4.2, xFix_96, xFix_mi, xFix_c96, h2, h3⟩ | (have := h4.1; omega)
  | _ => exact trivial
/-- all rows of a list are well -/
theorem xfind_ok {o : Nat} {g : XMe} (ho : g.1.cls = xcn o) : ∀ {l : List (Nat × XI)} {pc : Nat} {e : XI}, l.all (fun q => xdecB g q.1 q.2 && xlkB o g q.1 q.2) = true → xfind pc l = some e → xDec g pc e ∧ xLk xprog xcl xfty xTs xSL xTL xNW g pc e
  | [], pc, e, _, h => by cases h
  | (k, e') :: l, pc, e, hl, h => by
    rw [List.all_cons, Bool.and_eq_true, Bool.and_eq_true] at hl
    unfold xfind at h
    by_cases hk : pc = k
    · rw [if_pos hk] at h
      cases h
      subst hk
      exact ⟨xdecB_ok hl.1.1, xlkB_ok ho hl.1.2⟩
    · rw [if_neg hk] at h
      exact xfind_ok ho hl.2 h
theorem xif_ok {c : Prop} [Decidable c] {x y : Option XI} {e : XI} {P : Prop} (h1 : x = some e → P) (h2 : y = some e → P) (h : (if c then x else y) = some e) : P := by
  by_cases hc : c
  · rw [if_pos hc] at h; exact h1 h
  · rw [if_neg hc] at h; exact h2 h
