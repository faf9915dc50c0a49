/-! calls, and the whole run -/
theorem xpop_spec : ∀ (n : Nat) (acc st as rest : List Value), xpop n acc st = some (as, rest) → ∃ tk : List Value, st = tk ++ rest ∧ as = tk.reverse ++ acc ∧ tk.length = n
  | 0, acc, st, as, rest, h => by
    unfold xpop at h
    cases h
    exact ⟨[], rfl, rfl, rfl⟩
  | n + 1, acc, [], as, rest, h => by
    unfold xpop at h
    cases h
  | n + 1, acc, v :: st, as, rest, h => by
    unfold xpop at h
    obtain ⟨tk, h1, h2, h3⟩ := xpop_spec n (v :: acc) st as rest h
    refine ⟨v :: tk, by rw [h1]; rfl, by rw [h2]; simp, by simp [h3]⟩
theorem xdoCall_spec {G : Nat → XMe} {ν n : Nat} {st : List Value} {ν' : Nat} {as rest : List Value} (h : xdoCall G ν n st = some (.inr (.inl (ν', as, rest)))) : ν' = ν ∧ st = as.reverse ++ rest ∧ as.length = n ∧ xcat rest ≤ 8 ∧ (xlocs as).length ≤ (G ν).2.2.1 ∧ xpop n [] st = some (as, rest) := by
  unfold xdoCall at h
  split at h
  · rename_i as' rest' hp
    split at h
    · rename_i hc
      cases h
      obtain ⟨tk, h1, h2, h3⟩ := xpop_spec _ _ _ _ _ hp
      refine ⟨rfl, ?_, ?_, hc.1, hc.2, hp⟩
      · rw [h2, h1]; simp
      · rw [h2]; simp [h3]
    · cases h
  · cases h
theorem xdoCall_noret {G : Nat → XMe} {ν n : Nat} {st : List Value} {v : Option Value} : ¬ xdoCall G ν n st = some (.inr (.inr v)) := by
  unfold xdoCall
  split
  · split
    · intro h; cases h
    · intro h; cases h
  · intro h; cases h
theorem xins_grow {G : Nat → XMe} {μ pc : Nat} {ei : XI} {ls : XL} {st : List Value} {M : XM} {pc' : Nat} {ls' : XL} {st' : List Value} {M' : XM} (hi : xins G μ pc ei ls st M = some (.inl (pc', ls', st', M'))) : M.1.1 ≤ M'.1.1 ∧ M.1.2 ≤ M'.1.2 ∧ ls'.length = ls.length := by
  obtain ⟨ins, npc, a, b⟩ := ei
  have e0 : ∀ {a : Nat} {b : XL} {c : List Value}, xgo a b c M = some (.inl (pc', ls', st', M')) → b.length = ls.length → M.1.1 ≤ M'.1.1 ∧ M.1.2 ≤ M'.1.2 ∧ ls'.length = ls.length := fun h hl => by
    obtain ⟨rfl, rfl, rfl, rfl⟩ := xgo_inj h
    exact ⟨Nat.le_refl _, Nat.le_refl _, hl⟩
  have e1 : ∀ {a : Nat} {c : List Value} {d : XM}, xgo a ls c d = some (.inl (pc', ls', st', M')) → d.1 = M.1 → M.1.1 ≤ M'.1.1 ∧ M.1.2 ≤ M'.1.2 ∧ ls'.length = ls.length := fun h hd => by
    obtain ⟨rfl, rfl, rfl, rfl⟩ := xgo_inj h
    rw [hd]
    exact ⟨Nat.le_refl _, Nat.le_refl _, rfl⟩
  have e2 : ∀ {q : Prop} [Decidable q] {t f : Nat} {c : List Value}, xif q t f ls c M = some (.inl (pc', ls', st', M')) → M.1.1 ≤ M'.1.1 ∧ M.1.2 ≤ M'.1.2 ∧ ls'.length = ls.length := fun h => by
    obtain ⟨rfl, rfl, rfl, rfl⟩ := xif_inj h
    exact ⟨Nat.le_refl _, Nat.le_refl _, rfl⟩
  cases ins <;> simp only [xins] at hi <;> (repeat' split at hi) <;> first
    | cases hi; done
    | exact e2 hi
    | exact e0 hi rfl
    | exact e0 hi (xset_len _ _ _)
    | exact e0 hi ((xset_len _ _ _).trans (xset_len _ _ _))
    | exact e1 hi rfl
    | exact absurd hi (xdoCall_go _ _ _ _)
    | (obtain ⟨rfl, rfl, rfl, rfl⟩ := xgo_inj hi; refine ⟨?_, ?_, rfl⟩ <;> simp only [xnew_z, xnew_u, xmulti_z, xmulti_u] <;> omega)
theorem xr_grow (G : Nat → XMe) : ∀ (n μ pc : Nat) (ls : XL) (st : List Value) (M : XM) (v : Option Value) (M' : XM), xr G n μ pc ls st M = some (v, M') → M.1.1 ≤ M'.1.1 ∧ M.1.2 ≤ M'.1.2
  | 0, _, _, _, _, _, _, _, h => by simp [xr] at h
  | n + 1, μ, pc, ls, st, M, v, M', h => by
    unfold xr at h
    cases hc : (G μ).2.2.2.2.2.2 pc with
    | none => rw [hc] at h; cases h
    | some e =>
      rw [hc] at h
      dsimp only at h
      cases hi : xins G μ pc e ls st M with
      | none => rw [hi] at h; cases h
      | some w =>
        rw [hi] at h
        rcases w with ⟨pc', ls', st', M1⟩ | ⟨ν, as, rest⟩ | v'
        · have g1 := xins_grow hi
          have g2 := xr_grow G n _ _ _ _ _ _ _ h
          omega
        · dsimp only at h
          cases hx : xr G n ν 0 (xent (G ν).2.2.1 as) [] M with
          | none => rw [hx] at h; cases h
          | some q =>
            rw [hx] at h
            obtain ⟨v1, M1⟩ := q
            have g1 := xr_grow G n _ _ _ _ _ _ _ hx
            have g2 := xr_grow G n _ _ _ _ _ _ _ h
            omega
        · cases h
          exact ⟨Nat.le_refl _, Nat.le_refl _⟩
/-- the tables' words and what stands outside, moved on -/
theorem xover_moved {u U : State} (hvm : u.vm.Alike U.vm) (h : (Cond.arrayOver (.array .int)).before #[] u = true) : (Cond.arrayOver (.array .int)).before #[] U = true := by
  obtain ⟨comp, c, k, h1, h2, h3, h4, h5⟩ := arrayOverA_spec h
  obtain ⟨k', hk', he⟩ := hvm.2.2 _ _ h3
  have hi : (U.vm.classes.findIdx? fun (x : Class) => match x.kind with | .array component _ => component == comp | _ => false) = some c := by
    rw [hvm.findIdx?_eq _ (fun _ => rfl)]; exact h2
  have hkind : k'.kind = .array comp (.array .int) := by rw [he]; exact h4
  have f1 : U.vm.findClass (FieldType.array .int).toString = some comp := by rw [hvm.findClass]; exact h1
  have f2 : U.vm.findClass ("[" ++ (FieldType.array .int).toString) = some c := by rw [hvm.findClass]; exact h5
  unfold Cond.before Cond.holds
  simp only [Cond.value]
  rw [f1, Option.bind_some]
  refine (congrArg (fun o : Option Nat => (o.bind (fun c => (U.vm.classes[c]?).map fun (k : Class) => match k.kind with | .array _ ty => decide (ty = FieldType.array .int) && decide (U.vm.findClass ("[" ++ (FieldType.array .int).toString) = some c) | _ => false) == some true)) hi).trans ?_
  simp [hk', hkind, f2]
section XSM
variable {ext : Nat → Value} {B : Nat} {D : va_G} {cl : List vw_C} {SL : List (String × String × String × Nat × Nat)} {TL : List (String × Nat × String × Nat)} {NW : List (String × Nat × MethodName × String)}
theorem xSta_warm {s U : State} {H : Heap} (hW : s.WarmedH U.vm) (h : xSta ext B D cl SL TL NW s H) : xSta ext B D cl SL TL NW U H := by
  obtain ⟨h1, h2, h3, h4, h5, h6, h7⟩ := h
  refine ⟨fun c q hq => u_Kn_moved hW.alike (h1 c q hq), fun q hq => (h2 q hq).moved hW.alike, fun q hq => ?_, fun q hq => va_Nw.warmM hW (h4 q hq), va_AO.moved hW.alike h5, va_AO.moved hW.alike h6, xover_moved hW.alike h7⟩
  obtain ⟨x, e1, e2⟩ := h3 q hq
  exact ⟨x, e1, e2.warm hW⟩
theorem xSta_same {s U : State} {H : Heap} (hv : U.vm = s.vm) (h : xSta ext B D cl SL TL NW s H) : xSta ext B D cl SL TL NW U H := by
  have hA : s.vm.Alike U.vm := by rw [hv]; exact Vm.Alike.refl _
  obtain ⟨h1, h2, h3, h4, h5, h6, h7⟩ := h
  refine ⟨fun c q hq => u_Kn_moved hA (h1 c q hq), fun q hq => (h2 q hq).moved hA, fun q hq => ?_, fun q hq => va_Nw.same rfl hv.symm (h4 q hq), va_AO.moved hA h5, va_AO.moved hA h6, xover_moved hA h7⟩
  obtain ⟨x, e1, e2⟩ := h3 q hq
  exact ⟨x, e1, e2.same hv⟩
theorem xSta_kept {s : State} {H H' : Heap} (h : xSta ext B D cl SL TL NW s H) (hq : ∀ a : Nat, a < H.size → ¬ xA B a → H'[a]? = H[a]?) : xSta ext B D cl SL TL NW s H' := by
  obtain ⟨h1, h2, h3⟩ := h
  exact ⟨h1, fun q hm => (h2 q hm).kept hq, h3⟩
end XSM
/-- a method's contract, of one run of the small machine -/
def xMet (l : Launch) (ext : Nat → Value) (B : Nat) (D : va_G) (cl : List vw_C) (fty : Nat → Nat → FieldType) (Ts : List Cond) (SL : List (String × String × String × Nat × Nat)) (TL : List (String × Nat × String × Nat)) (NW : List (String × Nat × MethodName × String)) (h : XMe) (as : List Value) (M : XM) (v : Option Value) (M' : XM) : Prop :=
  Met l h.1 (.code h.1 h.2.1 h.2.2.1 h.2.2.2.1 :: Ts) { frames := h.2.2.2.2.1.1, cells := M'.1.1 - M.1.1, slots := M'.1.2 - M.1.2, locals := h.2.2.2.2.1.2 }
    (va_Pc (as.map (xv ext B)) (fun U => xSta ext B D cl SL TL NW U U.heap ∧ xAbs ext B D cl fty U U.heap M))
    (fun _ st oc t => oc = .returned (v.map (xv ext B)) ∧ xAbs ext B D cl fty t t.heap M' ∧ va_F (xA B) st t) (M'.1.1 - M.1.1) (M'.1.2 - M.1.2) (xA B)
section XCALL
variable {p : Program} {l : Launch} {e : Env} {R : Room} {s : State} {m : MethodId} {args : Array Value} {below : List Frame} {meth : Method} {c : Code} {Q : State → Prop} {ext : Nat → Value} {B : Nat} {D : va_G} {cl : List vw_C} {fty : Nat → Nat → FieldType} {cells slots : Nat} {Ts : List Cond} {SL : List (String × String × String × Nat × Nat)} {TL : List (String × Nat × String × Nat)} {NW : List (String × Nat × MethodName × String)} {G : Nat → XMe} {μ : Nat}
theorem x_run {H : Heap} {locs : List Loc} {lsr : Array Slot} {pc : Nat} {ls : XL} {st0 : List Value} {rest : List Value} {M' : XM} {v : Option Value} {mc ms : Nat} (hS : va_S (xA B) s.heap H locs) (hL : xLR ext B ls lsr)
    (hr : va_Run p l e R s m args below meth c H locs cells slots mc ms (F0 m pc lsr st0) (rest.map (xv ext B)) (fun st oc t => oc = .returned (v.map (xv ext B)) ∧ xAbs ext B D cl fty t t.heap M' ∧ va_F (xA B) st t) (xA B))
    (kk : xW p l e R s m args below meth c Q ext B D cl fty (cells + mc) (slots + ms) (pc + 3) ls (v.toList ++ rest) M') : W p l e R s m args below meth c H locs cells slots Q (F0 m pc lsr st0) := by
  intro T hT X
  obtain ⟨v', st₀, t, T', L, h0, X', hLf, e1, e2, ⟨hv, hA, hz, hk⟩, st⟩ := hr T hT X
  cases hv
  rw [h0] at hz hk
  have hal : s.vm.Alike T'.vm := X'.warmed.alike
  have hA' : xAbs ext B D cl fty s T'.heap M' := by
    rw [e1]
    rw [e2] at hal
    exact xAbs_moved hal.symm hA
  have hS' : va_S (xA B) s.heap T'.heap (locs ++ L) := by
    refine ⟨Nat.le_trans hS.1 (by rw [e1]; exact hz), fun q h1 h2 => ?_, fun q hq => ?_⟩
    · rw [e1, hk q (Nat.lt_of_lt_of_le h1 hS.1) h2]; exact hS.2.1 q h1 h2
    · rcases List.mem_append.mp hq with h | h
      · exact hS.2.2 q h
      · exact hLf q h
  obtain ⟨t2, a1, b1⟩ := kk T'.heap (locs ++ L) lsr hA' hS' hL T' rfl X'
  refine ⟨t2, st t2 ?_, b1⟩
  have : (v.map (xv ext B)).toList ++ rest.map (xv ext B) = (v.toList ++ rest).map (xv ext B) := by
    cases v <;> simp
  show Steps p.tables e below (T'.setTop { F0 m pc lsr st0 with pc := pc + 3, stack := (v.map (xv ext B)).toList ++ rest.map (xv ext B) }) t2
  rw [this]
  exact a1
theorem xcat_map (hE : xExt ext) (st : List Value) : (List.map (fun v => v.category) (List.map (xv ext B) st)).sum = xcat st := by
  unfold xcat
  rw [List.map_map]
  congr 1
  exact List.map_congr_left (fun v _ => xv_cat hE v)
theorem xGood {y : MethodName} {bytes : ByteArray} {maxL : Nat} {ret : Option FieldType} (hg : ∀ w ∈ Ts, goodWord w = true) (hc : Cond.code y bytes maxL ret ∈ Ts) : GoodIn Ts (Cond.code y bytes maxL ret :: Ts) := by
  intro w hw
  rcases List.mem_cons.mp hw with h | h
  · rw [h]; exact ⟨hc, good_of_word (hg _ hc)⟩
  · exact ⟨h, good_of_word (hg _ h)⟩
theorem xPre {as : List Value} {M : XM} {H : Heap} {locs : List Loc} (hSt : xSta ext B D cl SL TL NW s s.heap) (hA : xAbs ext B D cl fty s H M) (hS : va_S (xA B) s.heap H locs) : PreS s H (va_Pc (as.map (xv ext B)) (fun U => xSta ext B D cl SL TL NW U U.heap ∧ xAbs ext B D cl fty U U.heap M)) (as.map (xv ext B)) := by
  refine ⟨fun a U g mk q => ⟨q.1, xSta_same (s := U) rfl q.2.1, xAbs_moved (u := U) (Vm.Alike.refl U.vm) q.2.2⟩, fun U hU hW => ⟨rfl, ?_, ?_⟩⟩
  · rw [hU]; exact xSta_warm hW (xSta_kept hSt hS.2.1)
  · rw [hU]; exact xAbs_moved hW.alike hA
theorem x_call (hE : xExt ext) (hg : ∀ w ∈ Ts, goodWord w = true) (hx : p.tables.exec = Jvm.exec) (hb : c.code = (G μ).2.1) (hml : c.maxLocals = (G μ).2.2.1) (hown : s.vm.findClass (G μ).1.cls = some m.cls) (hts : ∀ w ∈ Ts, w.before args s = true) (hSt : xSta ext B D cl SL TL NW s s.heap) (hfr : (G μ).2.2.2.2.1.1 ≤ R.frames) (hlo : (G μ).2.2.2.2.1.2 ≤ R.locals)
    {pc : Nat} {ei : XI} {ls : XL} {st : List Value} {M : XM} {ν : Nat} {as rest : List Value} {v : Option Value} {M' : XM} (hn : ls.length = (G μ).2.2.1) (hok : xDec (G μ) pc ei ∧ xLk G cl fty Ts SL TL NW (G μ) pc ei) (hi : xins G μ pc ei ls st M = some (.inr (.inl (ν, as, rest)))) (hM : xMet l ext B D cl fty Ts SL TL NW (G ν) as M v M') (hcc : cells + (M'.1.1 - M.1.1) ≤ R.cells) (hss : slots + (M'.1.2 - M.1.2) ≤ R.slots)
    (hk : xW p l e R s m args below meth c Q ext B D cl fty (cells + (M'.1.1 - M.1.1)) (slots + (M'.1.2 - M.1.2)) ei.2.1 ls (v.toList ++ rest) M') : xW p l e R s m args below meth c Q ext B D cl fty cells slots pc ls st M := by
  obtain ⟨ins, npc, a, b⟩ := ei
  cases ins with
  | invokestatic i =>
    simp only [xins] at hi
    have hok1 := hok.1
    simp only [xDec, xlen] at hok1
    obtain ⟨hd, rfl⟩ := hok1
    by_cases ha : a < 996
    case neg =>
      rw [if_neg ha] at hi
      (repeat' split at hi) <;> cases hi
    case pos =>
      rw [if_pos ha] at hi
      obtain ⟨rfl, h1, h2, h3, h4, -⟩ := xdoCall_spec hi
      obtain ⟨⟨w1, w2, w3, w4, w5, w6, w7, w8⟩, w9, w10⟩ := hok.2.1 ha
      intro H locs lsr hA hS hL
      refine x_run hS hL (va_runS (n := b) (maxL := (G ν).2.2.1) (bytes := (G ν).2.1) (ret := (G ν).2.2.2.1) (As := as.map (xv ext B)) ⟨hx, hb, hml, hown, hts⟩ hM ?_ (xPre hSt hA hS) rfl (by rw [List.length_map, h2]) (by show lsr.size = _; rw [xLR_size hL, hn]) (by rw [h1]; simp) (by show 2 * 0 + _ ≤ 8; rw [xcat_map hE]; omega) hd ⟨hcc, hss⟩) hk
      exact ⟨callB_of b hts (xGood hg w1) rfl rfl rfl (hts _ w2) (hts _ w9) ⟨w4, w5, w6⟩ ⟨by show (G ν).2.2.2.2.1.1 + 1 ≤ _; omega, by show 8 + ((G ν).2.2.1 + 11) + (G ν).2.2.2.2.1.2 ≤ _; omega⟩, hts _ w10⟩
  | invokevirtual i =>
    simp only [xins] at hi
    have hok1 := hok.1
    simp only [xDec, xlen] at hok1
    obtain ⟨hd, rfl⟩ := hok1
    split at hi
    · rename_i o tl rs hp
      split at hi
      · rename_i hsh
        obtain ⟨rfl, h1, h2, h3, h4, h5⟩ := xdoCall_spec hi
        cases hp.symm.trans h5
        obtain ⟨⟨w1, w2, w3, w4, w5, w6, w7, w8⟩, w9, w10, w11, w12, w13⟩ := hok.2
        intro H locs lsr hA hS hL
        have hrecv : ∃ q, xv ext B (.ref o) = .ref q ∧ ∃ cellB : Cell, H[q]? = some cellB ∧ cellB.vm.isStatics = false ∧ s.vm.findClass (G ν).1.cls = some cellB.cls := by
          rcases w12 with ⟨z1, z2⟩ | ⟨z1, r, z2, z3⟩
          · obtain ⟨-, q, q1, ⟨cell, y1, y2, y3, -⟩, -⟩ := hA.2.1 o (by rw [hsh]; exact z1)
            exact ⟨q, q1, cell, y1, y2, by rw [z2]; exact y3⟩
          · obtain ⟨h16, r', hr', cell, q1, q2, q3, q4⟩ := hA.1 o (by rw [hsh]; exact z1)
            rw [hsh] at hr' q2
            cases z2.symm.trans hr'
            exact ⟨_, xv_16 h16, cell, q1, by rw [q3]; rfl, by rw [q2, ← z3]; exact (hSt.1 _ r z2).2.1⟩
        obtain ⟨q, hq, hcell⟩ := hrecv
        have hpre := xPre (as := .ref o :: tl) hSt hA hS
        rw [List.map_cons, hq] at hpre
        have hM' := hM
        unfold xMet at hM'
        rw [List.map_cons, hq] at hM'
        refine x_run hS hL (va_runV (n := b - 1) (maxL := (G ν).2.2.1) (bytes := (G ν).2.1) (ret := (G ν).2.2.2.1) (C := (G ν).1.cls) (b := q) (As := tl.map (xv ext B)) ⟨hx, hb, hml, hown, hts⟩ hM' ?_ ⟨hpre.1, hcell, hpre.2⟩ rfl ?_ (by show lsr.size = _; rw [xLR_size hL, hn]) ?_ (by show 2 * 0 + _ ≤ 8; rw [xcat_map hE]; omega) hd ⟨hcc, hss⟩) hk
        · exact ⟨callB_of (b - 1) hts (xGood hg w1) rfl rfl rfl (hts _ w2) (hts _ w9) ⟨w4, w5, w6⟩ ⟨by show (G ν).2.2.2.2.1.1 + 1 ≤ _; omega, by show 8 + ((G ν).2.2.1 + 11) + (G ν).2.2.2.2.1.2 ≤ _; omega⟩, hts _ w10, hts _ w11⟩
        · rw [List.length_map]; simp at h2; omega
        · show st.map (xv ext B) = _
          rw [h1]
          simp [hq]
      · cases hi
    · cases hi
  | invokespecial i =>
    simp only [xins] at hi
    have hok1 := hok.1
    simp only [xDec, xlen] at hok1
    obtain ⟨hd, rfl⟩ := hok1
    by_cases ha : a = 0
    · rw [if_pos ha] at hi
      (repeat' split at hi) <;> cases hi
    · rw [if_neg ha] at hi
      split at hi
      · rename_i o tl rs hp
        split at hi
        · rename_i hsh
          obtain ⟨rfl, h1, h2, h3, h4, h5⟩ := xdoCall_spec hi
          cases hp.symm.trans h5
          obtain ⟨⟨w1, w2, w3, w4, w5, w6, w7, w8⟩, w9, w10, w11, w12, w13⟩ := hok.2.2 ha
          intro H locs lsr hA hS hL
          have hq := xv_16 (ext := ext) (B := B) hsh.2
          have hpre := xPre (as := .ref o :: tl) hSt hA hS
          rw [List.map_cons, hq] at hpre
          have hM' := hM
          unfold xMet at hM'
          rw [List.map_cons, hq, w10] at hM'
          rw [w10] at w1
          have hlen : (tl.map (xv ext B)).length = b - 1 := by rw [List.length_map]; simp at h2; omega
          have hstk : st.map (xv ext B) = (tl.map (xv ext B)).reverse ++ .ref (B + (o - 16)) :: rest.map (xv ext B) := by
            rw [h1]
            simp [hq]
          have hRR : (G ν).2.2.2.2.1.1 + 1 ≤ R.frames ∧ 8 + ((G ν).2.2.1 + 11) + (G ν).2.2.2.2.1.2 ≤ R.locals := ⟨by omega, by omega⟩
          rcases w12 with w12 | ⟨host, w12⟩
          · refine x_run hS hL (va_runI (n := b - 1) (maxL := (G ν).2.2.1) (bytes := (G ν).2.1) (b := B + (o - 16)) (As := tl.map (xv ext B)) ⟨hx, hb, hml, hown, hts⟩ hM' ⟨callB_of (b - 1) hts (xGood hg w1) rfl rfl rfl (hts _ w2) (hts _ w12) ⟨w4, w5, w6⟩ hRR, w9, hts _ w11⟩ hpre rfl hlen (by show lsr.size = _; rw [xLR_size hL, hn]) hstk (by show 2 * 0 + _ ≤ 8; rw [xcat_map hE]; omega) hd ⟨hcc, hss⟩) hk
          · refine x_run hS hL (va_runIN (n := b - 1) (maxL := (G ν).2.2.1) (bytes := (G ν).2.1) (host := host) (b := B + (o - 16)) (As := tl.map (xv ext B)) ⟨hx, hb, hml, hown, hts⟩ hM' ⟨va_cnB (b - 1) hts (xGood hg w1) rfl rfl rfl (hSt.2.2.2.1 _ w12) (hts _ w2) ⟨w4, w5, w6⟩ hRR, w9, hts _ w11⟩ hpre rfl hlen (by show lsr.size = _; rw [xLR_size hL, hn]) hstk (by show 2 * 0 + _ ≤ 8; rw [xcat_map hE]; omega) hd ⟨hcc, hss⟩) hk
        · cases hi
      · cases hi
  | _ =>
    simp only [xins] at hi
    (repeat' split at hi) <;> first | cases hi; done | (simp only [xgo] at hi; cases hi; done) | (simp only [xif, xgo] at hi; split at hi <;> cases hi; done)
end XCALL
