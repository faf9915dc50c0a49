/-! THE WHOLE RUN: what the small machine does, the real one does -/
def xRet (g : XMe) (pc : Nat) (v : Option Value) : Prop := (v = none ∧ g.2.2.2.1 = none ∧ decode g.2.1 pc = .ok (.return_, 1)) ∨ (∃ x ty, v = some (.int x) ∧ g.2.2.2.1 = some ty ∧ narrow ty (.int x) = .int x ∧ decode g.2.1 pc = .ok (.ireturn, 1)) ∨ (∃ x, v = some (.long x) ∧ g.2.2.2.1 = some .long ∧ decode g.2.1 pc = .ok (.lreturn, 1))
theorem xcallee_of {G : Nat → XMe} {cl : List vw_C} {fty : Nat → Nat → FieldType} {Ts : List Cond} {SL : List (String × String × String × Nat × Nat)} {TL : List (String × Nat × String × Nat)} {NW : List (String × Nat × MethodName × String)} {μ pc : Nat} {ei : XI} {ls : XL} {st : List Value} {M : XM} {ν : Nat} {as rest : List Value} (hok : xLk G cl fty Ts SL TL NW (G μ) pc ei) (hi : xins G μ pc ei ls st M = some (.inr (.inl (ν, as, rest)))) : plainName (G ν).1.cls = true ∧ (xlocs as).length ≤ (G ν).2.2.1 := by
  obtain ⟨ins, npc, a, b⟩ := ei
  cases ins with
  | invokestatic i =>
    simp only [xins] at hi
    by_cases ha : a < 996
    case neg =>
      rw [if_neg ha] at hi
      (repeat' split at hi) <;> cases hi
    case pos =>
      rw [if_pos ha] at hi
      obtain ⟨rfl, h1, h2, h3, h4, -⟩ := xdoCall_spec hi
      exact ⟨(hok.1 ha).1.2.2.1, h4⟩
  | invokevirtual i =>
    simp only [xins] at hi
    split at hi
    · split at hi
      · obtain ⟨rfl, h1, h2, h3, h4, -⟩ := xdoCall_spec hi
        exact ⟨hok.1.2.2.1, h4⟩
      · cases hi
    · cases hi
  | invokespecial i =>
    simp only [xins] at hi
    by_cases ha : a = 0
    · rw [if_pos ha] at hi
      (repeat' split at hi) <;> cases hi
    · rw [if_neg ha] at hi
      split at hi
      · split at hi
        · obtain ⟨rfl, h1, h2, h3, h4, -⟩ := xdoCall_spec hi
          exact ⟨(hok.2 ha).1.2.2.1, h4⟩
        · cases hi
      · cases hi
  | _ =>
    simp only [xins] at hi
    (repeat' split at hi) <;> first | cases hi; done | (simp only [xgo] at hi; cases hi; done) | (simp only [xif, xgo] at hi; split at hi <;> cases hi; done)
theorem xret_of {G : Nat → XMe} {μ pc : Nat} {ei : XI} {ls : XL} {st : List Value} {M : XM} {v : Option Value} (hok : xDec (G μ) pc ei) (hi : xins G μ pc ei ls st M = some (.inr (.inr v))) : xRet (G μ) pc v ∧ st = v.toList := by
  obtain ⟨ins, npc, a, b⟩ := ei
  cases ins with
  | ireturn =>
    simp only [xins] at hi
    simp only [xDec, xlen] at hok
    split at hi
    · split at hi
      · rename_i hr
        cases hi
        exact ⟨Or.inr (Or.inl ⟨_, _, rfl, hr, rfl, hok.1⟩), rfl⟩
      · rename_i hr
        split at hi
        · rename_i h01
          cases hi
          exact ⟨Or.inr (Or.inl ⟨_, _, rfl, hr, by rcases h01 with h | h <;> rw [h] <;> rfl, hok.1⟩), rfl⟩
        · cases hi
      · rename_i hr
        split at hi
        · rename_i h01
          cases hi
          exact ⟨Or.inr (Or.inl ⟨_, _, rfl, hr, h01, hok.1⟩), rfl⟩
        · cases hi
      · rename_i hr
        split at hi
        · rename_i h01
          cases hi
          exact ⟨Or.inr (Or.inl ⟨_, _, rfl, hr, h01, hok.1⟩), rfl⟩
        · cases hi
      · cases hi
    · cases hi
  | lreturn =>
    simp only [xins] at hi
    simp only [xDec, xlen] at hok
    split at hi
    · split at hi
      · rename_i hr
        cases hi
        exact ⟨Or.inr (Or.inr ⟨_, rfl, hr, hok.1⟩), rfl⟩
      · cases hi
    · cases hi
  | return_ =>
    simp only [xins] at hi
    simp only [xDec, xlen] at hok
    split at hi
    · split at hi
      · rename_i hr
        cases hi
        exact ⟨Or.inl ⟨rfl, hr, hok.1⟩, rfl⟩
      · cases hi
    · cases hi
  | _ =>
    simp only [xins] at hi
    (repeat' split at hi) <;> first | cases hi; done | (simp only [xgo] at hi; cases hi; done) | (simp only [xif, xgo] at hi; split at hi <;> cases hi; done) | exact absurd hi xdoCall_noret
theorem xlocs_len {ext : Nat → Value} {B : Nat} (hE : xExt ext) : ∀ as : List Value, (lg_sl (as.map (xv ext B))).length = (xlocs as).length
  | [] => rfl
  | v :: r => by
    have ih := xlocs_len (B := B) hE r
    unfold lg_sl at ih ⊢
    rw [List.map_cons, List.flatMap_cons, List.length_append, ih, xv_cat hE]
    cases v <;> simp [xlocs, Value.category] <;> first | omega | rfl | skip
theorem xnth_app {α : Type} : ∀ (l : List α) (n : Nat) (x : α) (i : Nat) (w : α), xnth (l ++ List.replicate n x) i = some w → xnth l i = some w ∨ (l.length ≤ i ∧ w = x)
  | [], 0, x, i, w, h => by simp [xnth] at h
  | [], n + 1, x, 0, w, h => by simp [xnth, List.replicate_succ] at h; exact Or.inr ⟨Nat.le_refl _, h.symm⟩
  | [], n + 1, x, i + 1, w, h => by
    have h' : xnth ([] ++ List.replicate n x) i = some w := by simpa [xnth, List.replicate_succ] using h
    rcases xnth_app [] n x i w h' with q | ⟨_, q⟩
    · simp [xnth] at q
    · exact Or.inr ⟨by simp, q⟩
  | a :: l, n, x, 0, w, h => Or.inl h
  | a :: l, n, x, i + 1, w, h => by
    rcases xnth_app l n x i w h with q | ⟨q1, q2⟩
    · exact Or.inl q
    · exact Or.inr ⟨by simp; exact q1, q2⟩
theorem xlocs_2 {w : Value} (h : w.category = 2) (r : List Value) : xlocs (w :: r) = some w :: none :: xlocs r := by
  cases w <;> first | rfl | (simp [Value.category] at h)
theorem xlocs_1 {w : Value} (h : ¬ w.category = 2) (r : List Value) : xlocs (w :: r) = some w :: xlocs r := by
  cases w <;> first | rfl | (simp [Value.category] at h)
theorem xlocs_args {ext : Nat → Value} {B : Nat} (hE : xExt ext) : ∀ (as : List Value) (k i : Nat) (v : Value), xnth (xlocs as) i = some (some v) → (k + i, xv ext B v) ∈ lv_args k (as.map (xv ext B))
  | [], k, i, v, h => by simp [xlocs, xnth] at h
  | w :: r, k, i, v, h => by
    have hc : (xv ext B w).category = w.category := xv_cat hE w
    rw [List.map_cons]
    unfold lv_args
    rw [hc]
    by_cases h2 : w.category = 2
    · rw [xlocs_2 h2] at h
      rw [if_pos h2]
      match i, h with
      | 0, h => simp [xnth] at h; subst h; exact List.mem_cons_self
      | 1, h => simp [xnth] at h
      | i + 2, h =>
        have := xlocs_args (B := B) hE r (k + 2) i v h
        rw [show k + (i + 2) = k + 2 + i by omega]
        exact List.mem_cons_of_mem _ this
    · rw [xlocs_1 h2] at h
      rw [if_neg h2]
      match i, h with
      | 0, h => simp [xnth] at h; subst h; exact List.mem_cons_self
      | i + 1, h =>
        have := xlocs_args (B := B) hE r (k + 1) i v h
        rw [show k + (i + 1) = k + 1 + i by omega]
        exact List.mem_cons_of_mem _ this
theorem xent_LR {ext : Nat → Value} {B n : Nat} (hE : xExt ext) {as : List Value} (h : (xlocs as).length ≤ n) : (xent n as).length = n ∧ xLR ext B (xent n as) ((lg_sl (as.map (xv ext B)) ++ List.replicate (n - (lg_sl (as.map (xv ext B))).length) Slot.unset).toArray) := by
  have hl : (xent n as).length = n := by
    unfold xent
    rw [List.length_append, List.length_replicate]
    omega
  refine ⟨hl, lv_args 0 (as.map (xv ext B)), ?_, fun i v hi _ => ?_⟩
  · rw [hl]
    exact lv_entry (as.map (xv ext B)) (by rw [xlocs_len hE]; exact h)
  · unfold xent at hi
    rcases xnth_app _ _ _ _ _ hi with q | ⟨_, q⟩
    · have := xlocs_args (B := B) hE as 0 i v q
      rw [Nat.zero_add] at this
      exact this
    · cases q
section XMAIN
variable {l : Launch} {ext : Nat → Value} {B : Nat} {D : va_G} {cl : List vw_C} {fty : Nat → Nat → FieldType} {Ts : List Cond} {SL : List (String × String × String × Nat × Nat)} {TL : List (String × Nat × String × Nat)} {NW : List (String × Nat × MethodName × String)} {G : Nat → XMe}
/-- what a run of n steps gives -/
def xP (l : Launch) (ext : Nat → Value) (B : Nat) (D : va_G) (cl : List vw_C) (fty : Nat → Nat → FieldType) (Ts : List Cond) (SL : List (String × String × String × Nat × Nat)) (TL : List (String × Nat × String × Nat)) (NW : List (String × Nat × MethodName × String)) (G : Nat → XMe) (n : Nat) : Prop :=
  ∀ (μ pc : Nat) (ls : XL) (st : List Value) (M : XM) (v : Option Value) (M' : XM), xr G n μ pc ls st M = some (v, M') → ∀ (p : Program) (e : Env) (R : Room) (s : State) (m : MethodId) (args : Array Value) (below : List Frame) (meth : Method) (c : Code) (Q : State → Prop) (cells slots mc ms : Nat), p.tables.exec = Jvm.exec → c.code = (G μ).2.1 → c.maxLocals = (G μ).2.2.1 → s.vm.findClass (G μ).1.cls = some m.cls → (∀ w ∈ Ts, w.before args s = true) → ((G μ).1.name = "<init>" → meth.name = "<init>") → xSta ext B D cl SL TL NW s s.heap → (G μ).2.2.2.2.1.1 ≤ R.frames → (G μ).2.2.2.2.1.2 ≤ R.locals → ls.length = (G μ).2.2.1 →
    cells + (M'.1.1 - M.1.1) = mc → slots + (M'.1.2 - M.1.2) = ms → mc ≤ R.cells → ms ≤ R.slots → (∀ pc', xRet (G μ) pc' v → ∀ (H : Heap) (locs : List Loc) (lsr : Array Slot), xAbs ext B D cl fty s H M' → va_S (xA B) s.heap H locs → W p l e R s m args below meth c H locs mc ms Q (F0 m pc' lsr (v.toList.map (xv ext B)))) →
    xW p l e R s m args below meth c Q ext B D cl fty cells slots pc ls st M
theorem x_met {n : Nat} (hE : xExt ext) (ih : xP l ext B D cl fty Ts SL TL NW G n) {ν : Nat} {as : List Value} {M M' : XM} {v : Option Value} (hy : plainName (G ν).1.cls = true) (hl : (xlocs as).length ≤ (G ν).2.2.1) (h : xr G n ν 0 (xent (G ν).2.2.1 as) [] M = some (v, M')) : xMet l ext B D cl fty Ts SL TL NW (G ν) as M v M' := by
  refine Met.ofW (cc := (G ν).2.1) (maxL := (G ν).2.2.1) (ret := (G ν).2.2.2.1) hy rfl ?_
  intro p e s m args below meth c s₁ Bd hml hv
  obtain ⟨rfl, hSt, hA⟩ := hv
  have hx := Bd.exec
  have hb := Bd.bytes
  have hr := Bd.returns
  have hlocks := Bd.notSynchronized
  have hts0 := atoms_spec (ws := Cond.code (G ν).1 (G ν).2.1 (G ν).2.2.1 (G ν).2.2.2.1 :: Ts) Bd.pre
  have hown := findClass_of_methodNamed Bd.named
  have hmn := (name_of_methodNamed Bd.named Bd.method).1
  obtain ⟨hlen, hLR⟩ := xent_LR (B := B) hE hl
  rw [lg_entry_eq]
  refine ih ν 0 (xent (G ν).2.2.1 as) [] M v M' h p e _ s m _ below meth c _ 0 0 _ _ hx hb hml hown (fun w hw => hts0 w (List.mem_cons_of_mem _ hw)) (fun h => hmn.trans h) hSt (Nat.le_refl _) (Nat.le_refl _) hlen (Nat.zero_add _) (Nat.zero_add _) (Nat.le_refl _) (Nat.le_refl _) ?_ s.heap [] _ hA va_S.rf hLR
  intro pc' hret H locs lsr hA' hS'
  have hq : ∀ t : State, t.heap = H → s.WarmedH t.vm → (Outcome.returned (v.map (xv ext B)) = .returned (v.map (xv ext B)) ∧ xAbs ext B D cl fty t t.heap M' ∧ va_F (xA B) s t) := fun t ht hW => ⟨rfl, by rw [ht]; exact xAbs_moved hW.alike hA', hS'.F ht⟩
  rcases hret with ⟨rfl, hr0, hd⟩ | ⟨x, ty, rfl, hr0, hn, hd⟩ | ⟨x, rfl, hr0, hd⟩
  · exact W.vret hx hb (by rw [hr, hr0]) hq hS'.2.2 hd
  · exact W.zret hx hb (by rw [hr, hr0]) hn hq hS'.2.2 hd
  · exact W.lret hx hb (by rw [hr, hr0]) hq hS'.2.2 hd
theorem x_sound (hE : xExt ext) (hC : xCls cl fty Ts) (hg : ∀ w ∈ Ts, goodWord w = true) (hN5 : ∃ r : vw_C, cl[5]? = some r ∧ r.1 = "HopeDrawer$Office") (hN3 : ∃ r : vw_C, cl[3]? = some r ∧ r.1 = "HopeDrawer$Law") (hG : ∀ μ pc ei, (G μ).2.2.2.2.2.2 pc = some ei → xDec (G μ) pc ei ∧ xLk G cl fty Ts SL TL NW (G μ) pc ei) : ∀ n, xP l ext B D cl fty Ts SL TL NW G n := by
  intro n
  induction n with
  | zero => intro μ pc ls st M v M' h; simp [xr] at h
  | succ n ih =>
    intro μ pc ls st M v M' h p e R s m args below meth c Q cells slots mc ms hx hb hml hown hts hmn hSt hfr hlo hn hmc hms hmcR hmsR hend
    unfold xr at h
    cases hc : (G μ).2.2.2.2.2.2 pc with
    | none => rw [hc] at h; cases h
    | some ei =>
      rw [hc] at h
      dsimp only at h
      have hok := hG μ pc ei hc
      cases hi : xins G μ pc ei ls st M with
      | none => rw [hi] at h; cases h
      | some w =>
        rw [hi] at h
        rcases w with ⟨pc', ls', st', M1⟩ | ⟨ν, as, rest⟩ | v'
        · have g1 := xins_grow hi
          have g2 := xr_grow G n _ _ _ _ _ _ _ h
          exact x_go hE hC hN5 hN3 hx hb hml hown hts hmn hSt hfr hlo hn hok hi (by omega) (by omega) (fun cells' slots' e1 e2 => ih μ pc' ls' st' M1 v M' h p e R s m args below meth c Q cells' slots' mc ms hx hb hml hown hts hmn hSt hfr hlo (by omega) (by omega) (by omega) hmcR hmsR hend)
        · dsimp only at h
          cases hxr : xr G n ν 0 (xent (G ν).2.2.1 as) [] M with
          | none => rw [hxr] at h; cases h
          | some q =>
            rw [hxr] at h
            obtain ⟨v1, M1⟩ := q
            have g1 := xr_grow G n _ _ _ _ _ _ _ hxr
            have g2 := xr_grow G n _ _ _ _ _ _ _ h
            obtain ⟨hy, hl⟩ := xcallee_of hok.2 hi
            have hM := x_met hE ih hy hl hxr
            exact x_call hE hg hx hb hml hown hts hSt hfr hlo hn hok hi hM (by omega) (by omega) (ih μ ei.2.1 ls _ M1 v M' h p e R s m args below meth c Q _ _ mc ms hx hb hml hown hts hmn hSt hfr hlo hn (by omega) (by omega) hmcR hmsR hend)
        · cases h
          obtain ⟨hret, rfl⟩ := xret_of hok.1 hi
          intro H locs lsr hA hS hL
          have e1 : mc = cells := by omega
          have e2 : ms = slots := by omega
          subst e1
          subst e2
          exact hend pc hret H locs lsr hA hS
end XMAIN
