/-! the reference's reading: names, ints, faults of meaning -/
def g2 : Nat → Nat → Prop := fun a k => a = 439 ∧ (k = 11 ∨ (13 ≤ k ∧ k ≤ 16))
def g3 : Nat → Nat → Prop := fun a k => a = 439 ∧ (k = 15 ∨ k = 16)
theorem g1_2 {M M' : XM} (e : E3 g1 noF noF M M') : E3 g2 noF noF M M' := e.mono (fun a k q => by unfold g1 at q; unfold g2; omega) (fun _ _ q => q) (fun _ _ q => q)
theorem g3_2 {M M' : XM} (e : E3 g3 noF noF M M') : E3 g2 noF noF M M' := e.mono (fun a k q => by unfold g3 at q; unfold g2; omega) (fun _ _ q => q) (fun _ _ q => q)
/-- the fault of meaning kept so far, none behind u -/
def WM (M : XM) (u k : Nat) (mm : Nat × Int32) : Prop := xI M 439 15 = nI mm.1 ∧ mm.1 ≤ 5 ∧ (mm.1 = 0 → mm.2 = -1) ∧ (mm.1 ≠ 0 → ∃ q, mm.2 = nI q ∧ xI M 439 16 = nI q ∧ (q < u ∨ (q = u ∧ mm.1 ≤ k)) ∧ q ≤ 2000)
section XRB
variable {n : Nat} {c : Nat → Nat} {m : Nat} {O : Nat × Int32 × YS} {M M' : XM} {t : Nat} {p : YS} {Q : Option Value → XM → Prop} {P R : Nat → Nat → Prop} {mm : Nat × Int32}
theorem WM.e3 {u k : Nat} {F : Nat → Nat → Prop} (h : WM M u k mm) (e : E3 P R F M M') (hp : ∀ a k, P a k → ¬ (a = 439 ∧ (k = 15 ∨ k = 16))) : WM M' u k mm := by
  unfold WM
  rw [e.I (fun q => hp _ _ q ⟨rfl, Or.inl rfl⟩), e.I (fun q => hp _ _ q ⟨rfl, Or.inr rfl⟩)]
  exact h
theorem WM.up {u k u' k' : Nat} (h : WM M u k mm) (hu : u < u') : WM M u' k' mm := by
  obtain ⟨h1, h2, h3, h4⟩ := h
  refine ⟨h1, h2, h3, fun q => ?_⟩
  obtain ⟨w, a1, a2, a3, a4⟩ := h4 q
  exact ⟨w, a1, a2, Or.inl (by omega), a4⟩
theorem WM.up2 {u k : Nat} (h : WM M u 0 mm) : WM M u k mm := by
  obtain ⟨h1, h2, h3, h4⟩ := h
  refine ⟨h1, h2, h3, fun q => ?_⟩
  obtain ⟨w, a1, a2, a3, a4⟩ := h4 q
  exact ⟨w, a1, a2, Or.inl (by omega), a4⟩
theorem r_wrong {u k tk : Nat} {x : Int32} (hS : RSh M) (h13 : xI M 439 13 = 0) (ht : tk ≤ 402) (hu : xI M 443 tk = nI u) (u2 : u ≤ 2000) (hx : x = nI k) (hk : 0 < k ∧ k ≤ 5) (h : WM M u k mm)
    (hQ : ∀ M' : XM, E3 g3 noF noF M M' → WM M' u k (ynote k u true mm) → Q none M') : RG xprog 95 0 [some (.ref 439), some (.int x), some (.int (nI tk)), none] [] M Q := by
  obtain ⟨h1, h2, h3, h4⟩ := h
  have y : ynote k u true mm = if mm.1 = 0 then (k, nI u) else mm := rfl
  rw [y] at hQ
  rw [B_95_0, hx]
  by_cases q : mm.1 = 0
  · rw [if_pos q] at hQ
    simp (disch := omega) only [lAdd, addL, lMul, mulL, nMul, nI_add, subL, lSub, nSub, nDec, nCl, lCl, nVp, lVp, nLe, nLt, nEq, lLe, leL, lLt, ltL, eqL, lEq, nM1, nM2, litLt0, one01, zero01, oneNe0, xupE, xupA, xupK, xI_I, xS_I, xF_I, xJ_I, xI_R, xS_R, xF_R, xJ_R, xI_L, xS_L, xF_L, xJ_L, xcat_s, le46, ge16, or_true, true_or, false_or, or_false, eq_self, Option.toList_some, Option.toList_none, List.cons_append, List.nil_append, true_and, and_true, not_false_eq_true, not_true_eq_false, if_true, if_false, hS.s, hS.f, h13, h1, hu, if_pos, if_neg, B_95_46]
    exact hQ _ (((E3.refl _ _ _ _).wI _ (by unfold g3; omega)).wI _ (by unfold g3; omega)) ⟨by simp (disch := omega) only [lAdd, addL, lMul, mulL, nMul, nI_add, subL, lSub, nSub, nDec, nCl, lCl, nVp, lVp, nLe, nLt, nEq, lLe, leL, lLt, ltL, eqL, lEq, nM1, nM2, litLt0, one01, zero01, oneNe0, xupE, xupA, xupK, xI_I, xS_I, xF_I, xJ_I, xI_R, xS_R, xF_R, xJ_R, xI_L, xS_L, xF_L, xJ_L, xcat_s, le46, ge16, or_true, true_or, false_or, or_false, eq_self, Option.toList_some, Option.toList_none, List.cons_append, List.nil_append, true_and, and_true, not_false_eq_true, not_true_eq_false, if_true, if_false], hk.2, fun z => absurd z (by show ¬ k = 0; omega), fun _ => ⟨u, rfl, by simp (disch := omega) only [lAdd, addL, lMul, mulL, nMul, nI_add, subL, lSub, nSub, nDec, nCl, lCl, nVp, lVp, nLe, nLt, nEq, lLe, leL, lLt, ltL, eqL, lEq, nM1, nM2, litLt0, one01, zero01, oneNe0, xupE, xupA, xupK, xI_I, xS_I, xF_I, xJ_I, xI_R, xS_R, xF_R, xJ_R, xI_L, xS_L, xF_L, xJ_L, xcat_s, le46, ge16, or_true, true_or, false_or, or_false, eq_self, Option.toList_some, Option.toList_none, List.cons_append, List.nil_append, true_and, and_true, not_false_eq_true, not_true_eq_false, if_true, if_false], Or.inr ⟨rfl, Nat.le_refl _⟩, u2⟩⟩
  · rw [if_neg q] at hQ
    obtain ⟨w, a1, a2, a3, a4⟩ := h4 q
    rcases a3 with a3 | ⟨a3, a5⟩
    · simp (disch := omega) only [lAdd, addL, lMul, mulL, nMul, nI_add, subL, lSub, nSub, nDec, nCl, lCl, nVp, lVp, nLe, nLt, nEq, lLe, leL, lLt, ltL, eqL, lEq, nM1, nM2, litLt0, one01, zero01, oneNe0, xupE, xupA, xupK, xI_I, xS_I, xF_I, xJ_I, xI_R, xS_R, xF_R, xJ_R, xI_L, xS_L, xF_L, xJ_L, xcat_s, le46, ge16, or_true, true_or, false_or, or_false, eq_self, Option.toList_some, Option.toList_none, List.cons_append, List.nil_append, true_and, and_true, not_false_eq_true, not_true_eq_false, if_true, if_false, hS.s, hS.f, h13, h1, hu, a2, if_pos, if_neg]
      exact hQ M (E3.refl _ _ _ _) ⟨h1, h2, h3, h4⟩
    · subst a3
      simp (disch := omega) only [lAdd, addL, lMul, mulL, nMul, nI_add, subL, lSub, nSub, nDec, nCl, lCl, nVp, lVp, nLe, nLt, nEq, lLe, leL, lLt, ltL, eqL, lEq, nM1, nM2, litLt0, one01, zero01, oneNe0, xupE, xupA, xupK, xI_I, xS_I, xF_I, xJ_I, xI_R, xS_R, xF_R, xJ_R, xI_L, xS_L, xF_L, xJ_L, xcat_s, le46, ge16, or_true, true_or, false_or, or_false, eq_self, Option.toList_some, Option.toList_none, List.cons_append, List.nil_append, true_and, and_true, not_false_eq_true, not_true_eq_false, if_true, if_false, hS.s, hS.f, h13, h1, hu, a2, if_pos, if_neg]
      exact hQ M (E3.refl _ _ _ _) ⟨h1, h2, h3, h4⟩
theorem nm_alike {i j : Nat} (hi : tkK n c i = 2) (hj : tkK n c j = 2) : (rkNm n c i = rkNm n c j) = (tkN n c i = tkN n c j) := by
  obtain ⟨i1, i2, i3⟩ := tkK_2 hi
  obtain ⟨j1, j2, j3⟩ := tkK_2 hj
  have ei : tkE n c i = rn (isWd c) n 2000 i := by unfold tkE; rw [if_pos i1, if_pos i2]
  have ej : tkE n c j = rn (isWd c) n 2000 j := by unfold tkE; rw [if_pos j1, if_pos j2]
  have li : ∀ k, k < tkE n c i - i → 97 ≤ c (i + k) ∧ c (i + k) ≤ 122 := fun k hk => (isWd_i c (i + k)).mp (rn_in (isWd c) n 2000 i (i + k) (by omega) (by omega)).1
  have lj : ∀ k, k < tkE n c j - j → 97 ≤ c (j + k) ∧ c (j + k) ≤ 122 := fun k hk => (isWd_i c (j + k)).mp (rn_in (isWd c) n 2000 j (j + k) (by omega) (by omega)).1
  unfold rkNm tkN
  rw [if_pos i1, if_pos i2, if_pos j1, if_pos j2, ← ei, ← ej]
  apply propext
  exact ⟨fun e => nmv_alike (by omega) (by omega) i3 j3 li lj e, fun e => nmv_alike (by omega) (by omega) i3 j3 li lj e⟩
/-- the names so far -/
def NMs (n : Nat) (c : Nat → Nat) (M : XM) (q : Nat) (nm : Nat → Nat) : Prop := xI M 439 20 = nI q ∧ ∀ i, i < q → xJ M 447 i = rkNm n c (nm i) ∧ tkK n c (nm i) = 2
theorem ynote_2 {k u : Nat} (hk : k ≠ 0) : ynote k u true (ynote k u true mm) = ynote k u true mm := by
  show (if (if mm.1 = 0 then (k, nI u) else mm).1 = 0 then _ else _) = _
  by_cases q : mm.1 = 0
  · rw [if_pos q, if_neg hk]
  · rw [if_neg q, if_neg q]
theorem r_named {q : Nat} {nm : Nat → Nat} (hm : MT n c m) (h : RA n c m O M t p) (h1 : tkK n c (tpos n c t) = 2 → (yst n c t p).1 = 1) (h0 : ¬ tkK n c (tpos n c t) = 2 → (yst n c t p).1 = 0) (hq : q ≤ 13) (hn : NMs n c M q nm) (hw : WM M (tpos n c t) 0 mm)
    (hQ : ∀ M' : XM, E3 g2 noF noF M M' → tkK n c (tpos n c t) = 2 → RA n c m O M' (t + 1) (yst n c t p).2 → WM M' (tpos n c t) 3 (ynote 3 (tpos n c t) (yhas (tkS n c) nm q (tpos n c t)) mm) → Q (some (.int (nI t))) M') (hF : ∀ M' : XM, E3 g2 noF noF M M' → FA O M' → Q (some (.int (nI t))) M') :
    RG xprog 96 0 [some (.ref 439), none, none] [] M Q := by
  have t4 : t ≤ 400 := by have := h.2.2.1; have := hm.1; omega
  have n2 : tpos n c t ≤ 2000 := by have := tpos_le (n := n) (c := c) t; have := hm.2.2.2.2; omega
  rw [B_96_0]
  simp (disch := omega) only [lAdd, addL, lMul, mulL, nMul, nI_add, subL, lSub, nSub, nDec, nCl, lCl, nVp, lVp, nLe, nLt, nEq, lLe, leL, lLt, ltL, eqL, lEq, nM1, nM2, litLt0, one01, zero01, oneNe0, xupE, xupA, xupK, xI_I, xS_I, xF_I, xJ_I, xI_R, xS_R, xF_R, xJ_R, xI_L, xS_L, xF_L, xJ_L, xcat_s, le46, ge16, or_true, true_or, false_or, or_false, eq_self, Option.toList_some, Option.toList_none, List.cons_append, List.nil_append, true_and, and_true, not_false_eq_true, not_true_eq_false, if_true, if_false, h.1.s, h.2.2.2.1]
  refine r_must (q := 2) hm h rfl (by omega) (by omega) h1 h0 ?_ ?_
  · intro M1 e1 k2 a1
    simp (disch := omega) only [lAdd, addL, lMul, mulL, nMul, nI_add, subL, lSub, nSub, nDec, nCl, lCl, nVp, lVp, nLe, nLt, nEq, lLe, leL, lLt, ltL, eqL, lEq, nM1, nM2, litLt0, one01, zero01, oneNe0, xupE, xupA, xupK, xI_I, xS_I, xF_I, xJ_I, xI_R, xS_R, xF_R, xJ_R, xI_L, xS_L, xF_L, xJ_L, xcat_s, le46, ge16, or_true, true_or, false_or, or_false, eq_self, Option.toList_some, Option.toList_none, List.cons_append, List.nil_append, true_and, and_true, not_false_eq_true, not_true_eq_false, if_true, if_false, B_96_10]
    have w1 : WM M1 (tpos n c t) 3 mm := (hw.e3 e1 (fun a k q => by unfold g1 at q; omega)).up2
    have n1 : NMs n c M1 q nm := ⟨by rw [e1.I (by unfold g1; omega)]; exact hn.1, fun i hi => by rw [e1.J id]; exact hn.2 i hi⟩
    have nt : xJ M1 445 t = rkNm n c (tpos n c t) := (a1.2.1.2 t (by have := h.2.2.1; omega)).2.2.2
    have pt : xI M1 443 t = nI (tpos n c t) := (a1.2.1.2 t (by have := h.2.2.1; omega)).2.1
    have loop : ∀ f i (b : Bool) (M2 : XM), i + f = q → E3 g3 noF noF M1 M2 → WM M2 (tpos n c t) 3 (ynote 3 (tpos n c t) b mm) → (b = true ↔ ∃ i', i' < i ∧ tkS n c (nm i') (tpos n c t) = true) → RG xprog 96 12 [some (.ref 439), some (.int (nI t)), some (.int (nI i))] [] M2 Q := by
      intro f
      induction f with
      | zero =>
        intro i b M2 hi e2 w2 hb
        have a2 : RA n c m O M2 (t + 1) (yst n c t p).2 := a1.e3 e2 (fun a k q => by unfold g3 at q; omega) (fun _ _ q => absurd q id)
        have n20 : xI M2 439 20 = nI q := by rw [e2.I (by unfold g3; omega)]; exact n1.1
        rw [B_96_12]
        simp (disch := omega) only [lAdd, addL, lMul, mulL, nMul, nI_add, subL, lSub, nSub, nDec, nCl, lCl, nVp, lVp, nLe, nLt, nEq, lLe, leL, lLt, ltL, eqL, lEq, nM1, nM2, litLt0, one01, zero01, oneNe0, xupE, xupA, xupK, xI_I, xS_I, xF_I, xJ_I, xI_R, xS_R, xF_R, xJ_R, xI_L, xS_L, xF_L, xJ_L, xcat_s, le46, ge16, or_true, true_or, false_or, or_false, eq_self, Option.toList_some, Option.toList_none, List.cons_append, List.nil_append, true_and, and_true, not_false_eq_true, not_true_eq_false, if_true, if_false, a2.1.s, n20, if_pos]
        refine hQ M2 ((g1_2 e1).trans (g3_2 e2)) k2 a2 ?_
        have eb : yhas (tkS n c) nm q (tpos n c t) = b := by
          unfold yhas
          rcases fstN_p (fun i => tkS n c (nm i) (tpos n c t)) q 0 with ⟨f1, f2⟩ | ⟨_, f1, f2⟩
          · rw [decide_eq_false (by omega)]
            cases b
            · rfl
            · obtain ⟨i', z1, z2⟩ := hb.mp rfl
              have := f2 i' (by omega) (by omega)
              rw [this] at z2; exact absurd z2 (by decide)
          · rw [decide_eq_true (by omega)]
            exact (hb.mpr ⟨_, by omega, f2⟩).symm
        rw [eb]; exact w2
      | succ f ih =>
        intro i b M2 hi e2 w2 hb
        have a2 : RA n c m O M2 (t + 1) (yst n c t p).2 := a1.e3 e2 (fun a k q => by unfold g3 at q; omega) (fun _ _ q => absurd q id)
        have n20 : xI M2 439 20 = nI q := by rw [e2.I (by unfold g3; omega)]; exact n1.1
        have ni : xJ M2 447 i = rkNm n c (nm i) := by rw [e2.J id]; exact (n1.2 i (by omega)).1
        have nt2 : xJ M2 445 t = rkNm n c (tpos n c t) := by rw [e2.J id]; exact nt
        have al := nm_alike (n := n) (c := c) (n1.2 i (by omega)).2 k2
        rw [B_96_12]
        simp (disch := omega) only [lAdd, addL, lMul, mulL, nMul, nI_add, subL, lSub, nSub, nDec, nCl, lCl, nVp, lVp, nLe, nLt, nEq, lLe, leL, lLt, ltL, eqL, lEq, nM1, nM2, litLt0, one01, zero01, oneNe0, xupE, xupA, xupK, xI_I, xS_I, xF_I, xJ_I, xI_R, xS_R, xF_R, xJ_R, xI_L, xS_L, xF_L, xJ_L, xcat_s, le46, ge16, or_true, true_or, false_or, or_false, eq_self, Option.toList_some, Option.toList_none, List.cons_append, List.nil_append, true_and, and_true, not_false_eq_true, not_true_eq_false, if_true, if_false, a2.1.s, a2.1.f, n20, a2.2.2.2.2.1, if_neg, ni, nt2, lgc, al]
        by_cases y : tkN n c (nm i) = tkN n c (tpos n c t)
        · rw [if_neg (fun z => z y)]
          refine r_wrong (k := 3) a2.1 a2.2.2.2.2.1 (by omega) (by rw [e2.I (by unfold g3; omega)]; exact pt) n2 rfl (by omega) w2 ?_
          intro M3 e3 w3
          simp (disch := omega) only [lAdd, addL, lMul, mulL, nMul, nI_add, subL, lSub, nSub, nDec, nCl, lCl, nVp, lVp, nLe, nLt, nEq, lLe, leL, lLt, ltL, eqL, lEq, nM1, nM2, litLt0, one01, zero01, oneNe0, xupE, xupA, xupK, xI_I, xS_I, xF_I, xJ_I, xI_R, xS_R, xF_R, xJ_R, xI_L, xS_L, xF_L, xJ_L, xcat_s, le46, ge16, or_true, true_or, false_or, or_false, eq_self, Option.toList_some, Option.toList_none, List.cons_append, List.nil_append, true_and, and_true, not_false_eq_true, not_true_eq_false, if_true, if_false, B_96_49]
          refine ih (i + 1) true M3 (by omega) (e2.trans e3) ?_ ⟨fun _ => ⟨i, by omega, decide_eq_true y⟩, fun _ => rfl⟩
          cases b
          · exact w3
          · rw [ynote_2 (by omega)] at w3; exact w3
        · rw [if_pos y]
          rw [B_96_49]
          simp (disch := omega) only [lAdd, addL, lMul, mulL, nMul, nI_add, subL, lSub, nSub, nDec, nCl, lCl, nVp, lVp, nLe, nLt, nEq, lLe, leL, lLt, ltL, eqL, lEq, nM1, nM2, litLt0, one01, zero01, oneNe0, xupE, xupA, xupK, xI_I, xS_I, xF_I, xJ_I, xI_R, xS_R, xF_R, xJ_R, xI_L, xS_L, xF_L, xJ_L, xcat_s, le46, ge16, or_true, true_or, false_or, or_false, eq_self, Option.toList_some, Option.toList_none, List.cons_append, List.nil_append, true_and, and_true, not_false_eq_true, not_true_eq_false, if_true, if_false]
          refine ih (i + 1) b M2 (by omega) e2 w2 ⟨fun z => ?_, fun ⟨i', z1, z2⟩ => ?_⟩
          · obtain ⟨i', z1, z2⟩ := hb.mp z
            exact ⟨i', by omega, z2⟩
          · by_cases ii : i' = i
            · rw [ii] at z2
              exact absurd (of_decide_eq_true z2) y
            · exact hb.mpr ⟨i', by omega, z2⟩
    exact loop q 0 false M1 (by omega) (E3.refl _ _ _ _) w1 ⟨fun z => absurd z (by decide), fun ⟨i', z1, _⟩ => absurd z1 (by omega)⟩
  · intro M1 e1 f1
    have n20 : xI M1 439 20 = nI q := by rw [e1.I (by unfold g1; omega)]; exact hn.1
    simp (disch := omega) only [lAdd, addL, lMul, mulL, nMul, nI_add, subL, lSub, nSub, nDec, nCl, lCl, nVp, lVp, nLe, nLt, nEq, lLe, leL, lLt, ltL, eqL, lEq, nM1, nM2, litLt0, one01, zero01, oneNe0, xupE, xupA, xupK, xI_I, xS_I, xF_I, xJ_I, xI_R, xS_R, xF_R, xJ_R, xI_L, xS_L, xF_L, xJ_L, xcat_s, le46, ge16, or_true, true_or, false_or, or_false, eq_self, Option.toList_some, Option.toList_none, List.cons_append, List.nil_append, true_and, and_true, not_false_eq_true, not_true_eq_false, if_true, if_false, B_96_10, B_96_12, f1.1.s, n20]
    obtain ⟨s1, f, h2, h3, h4, h5⟩ := f1
    by_cases y : q ≤ 0
    · rw [if_pos y]
      exact hF M1 (g1_2 e1) ⟨s1, f, h2, h3, h4, h5⟩
    · rw [if_neg y, h3]
      simp (disch := omega) only [lAdd, addL, lMul, mulL, nMul, nI_add, subL, lSub, nSub, nDec, nCl, lCl, nVp, lVp, nLe, nLt, nEq, lLe, leL, lLt, ltL, eqL, lEq, nM1, nM2, litLt0, one01, zero01, oneNe0, xupE, xupA, xupK, xI_I, xS_I, xF_I, xJ_I, xI_R, xS_R, xF_R, xJ_R, xI_L, xS_L, xF_L, xJ_L, xcat_s, le46, ge16, or_true, true_or, false_or, or_false, eq_self, Option.toList_some, Option.toList_none, List.cons_append, List.nil_append, true_and, and_true, not_false_eq_true, not_true_eq_false, if_true, if_false, if_pos]
      exact hF M1 (g1_2 e1) ⟨s1, f, h2, h3, h4, h5⟩
theorem r_boundedF {x y : Int32} (h : FA O M) : RG xprog 97 0 [some (.ref 439), some (.int x), some (.int y), none] [] M Q = Q (some (.int x)) M := by
  have hh := h
  obtain ⟨s1, f, h2, h3, h4, h5⟩ := h
  rw [B_97_0]
  simp (disch := omega) only [lAdd, addL, lMul, mulL, nMul, nI_add, subL, lSub, nSub, nDec, nCl, lCl, nVp, lVp, nLe, nLt, nEq, lLe, leL, lLt, ltL, eqL, lEq, nM1, nM2, litLt0, one01, zero01, oneNe0, xupE, xupA, xupK, xI_I, xS_I, xF_I, xJ_I, xI_R, xS_R, xF_R, xJ_R, xI_L, xS_L, xF_L, xJ_L, xcat_s, le46, ge16, or_true, true_or, false_or, or_false, eq_self, Option.toList_some, Option.toList_none, List.cons_append, List.nil_append, true_and, and_true, not_false_eq_true, not_true_eq_false, if_true, if_false, s1.s, h3, if_pos]
  rw [B_97_15, s1.s.1]
  simp (disch := omega) only [lAdd, addL, lMul, mulL, nMul, nI_add, subL, lSub, nSub, nDec, nCl, lCl, nVp, lVp, nLe, nLt, nEq, lLe, leL, lLt, ltL, eqL, lEq, nM1, nM2, litLt0, one01, zero01, oneNe0, xupE, xupA, xupK, xI_I, xS_I, xF_I, xJ_I, xI_R, xS_R, xF_R, xJ_R, xI_L, xS_L, xF_L, xJ_L, xcat_s, le46, ge16, or_true, true_or, false_or, or_false, eq_self, Option.toList_some, Option.toList_none, List.cons_append, List.nil_append, true_and, and_true, not_false_eq_true, not_true_eq_false, if_true, if_false, r_failF hh, B_97_20]
theorem r_bounded {most : Nat} {y : Int32} (hm : MT n c m) (h : RA n c m O M t p) (h1 : tkK n c (tpos n c t) = 3 → (yst n c t p).1 = 1) (h0 : ¬ tkK n c (tpos n c t) = 3 → (yst n c t p).1 = 0) (hy : y = nI most) (hmo : most ≤ 9999) (hw : WM M (tpos n c t) 0 mm)
    (hQ : ∀ M' : XM, E3 g2 noF noF M M' → tkK n c (tpos n c t) = 3 → RA n c m O M' (t + 1) (yst n c t p).2 → WM M' (tpos n c t) 5 (ynote 5 (tpos n c t) (decide (most < tkV n c (tpos n c t))) mm) → Q (some (.int (nI (tkV n c (tpos n c t))))) M') (hF : ∀ (M' : XM) (x : Int32), E3 g2 noF noF M M' → FA O M' → Q (some (.int x)) M') :
    RG xprog 97 0 [some (.ref 439), some (.int 0), some (.int y), none] [] M Q := by
  have t4 : t ≤ 400 := by have := h.2.2.1; have := hm.1; omega
  have n2 : tpos n c t ≤ 2000 := by have := tpos_le (n := n) (c := c) t; have := hm.2.2.2.2; omega
  rw [B_97_0, hy]
  simp (disch := omega) only [lAdd, addL, lMul, mulL, nMul, nI_add, subL, lSub, nSub, nDec, nCl, lCl, nVp, lVp, nLe, nLt, nEq, lLe, leL, lLt, ltL, eqL, lEq, nM1, nM2, litLt0, one01, zero01, oneNe0, xupE, xupA, xupK, xI_I, xS_I, xF_I, xJ_I, xI_R, xS_R, xF_R, xJ_R, xI_L, xS_L, xF_L, xJ_L, xcat_s, le46, ge16, or_true, true_or, false_or, or_false, eq_self, Option.toList_some, Option.toList_none, List.cons_append, List.nil_append, true_and, and_true, not_false_eq_true, not_true_eq_false, if_true, if_false, h.1.s, h.2.2.2.2.1, if_neg]
  rw [r_is (q := 3) (x := 2) hm h rfl (by omega)]
  by_cases k3 : tkK n c (tpos n c t) = 3
  · rw [if_pos k3]
    obtain ⟨d1, d2, d3, d4⟩ := tkK_3 k3
    have vl := tkV_le k3
    have vv : xI M 444 t = nI (tkV n c (tpos n c t)) := by
      rw [(h.2.1.2 t (by have := h.2.2.1; omega)).2.2.1]
      show nI (rkV n c (tpos n c t)) = _
      unfold rkV tkV tkE
      rw [if_pos d1, if_neg d2, if_pos d3, if_pos d1, if_neg d2, if_pos d3]
    have fin : ∀ (b : Bool) (M1 : XM), b = decide (most < tkV n c (tpos n c t)) → E3 g3 noF noF M M1 → WM M1 (tpos n c t) 5 (ynote 5 (tpos n c t) b mm) → RG xprog 97 51 [some (.ref 439), some (.int 0), some (.int (nI most)), some (.int (nI (tkV n c (tpos n c t))))] [] M1 Q := by
      intro b M1 hb e1 w1
      have a1 : RA n c m O M1 t p := h.e3 e1 (fun a k q => by unfold g3 at q; omega) (fun _ _ q => absurd q id)
      rw [B_97_51, a1.1.s.1]
      refine ⟨rfl, ?_⟩
      refine r_goesOn hm a1 (h1 k3) (by omega) ?_ ?_
      · intro M2 e2 a2
        simp (disch := omega) only [lAdd, addL, lMul, mulL, nMul, nI_add, subL, lSub, nSub, nDec, nCl, lCl, nVp, lVp, nLe, nLt, nEq, lLe, leL, lLt, ltL, eqL, lEq, nM1, nM2, litLt0, one01, zero01, oneNe0, xupE, xupA, xupK, xI_I, xS_I, xF_I, xJ_I, xI_R, xS_R, xF_R, xJ_R, xI_L, xS_L, xF_L, xJ_L, xcat_s, le46, ge16, or_true, true_or, false_or, or_false, eq_self, Option.toList_some, Option.toList_none, List.cons_append, List.nil_append, true_and, and_true, not_false_eq_true, not_true_eq_false, if_true, if_false, B_97_55]
        refine hQ M2 ((g3_2 e1).trans (g1_2 e2)) k3 a2 ?_
        rw [← hb]
        exact w1.e3 e2 (fun a k q => by unfold g1 at q; omega)
      · intro M2 e2 f2
        simp (disch := omega) only [lAdd, addL, lMul, mulL, nMul, nI_add, subL, lSub, nSub, nDec, nCl, lCl, nVp, lVp, nLe, nLt, nEq, lLe, leL, lLt, ltL, eqL, lEq, nM1, nM2, litLt0, one01, zero01, oneNe0, xupE, xupA, xupK, xI_I, xS_I, xF_I, xJ_I, xI_R, xS_R, xF_R, xJ_R, xI_L, xS_L, xF_L, xJ_L, xcat_s, le46, ge16, or_true, true_or, false_or, or_false, eq_self, Option.toList_some, Option.toList_none, List.cons_append, List.nil_append, true_and, and_true, not_false_eq_true, not_true_eq_false, if_true, if_false, B_97_55]
        exact hF M2 _ ((g3_2 e1).trans (g1_2 e2)) f2
    simp (disch := omega) only [lAdd, addL, lMul, mulL, nMul, nI_add, subL, lSub, nSub, nDec, nCl, lCl, nVp, lVp, nLe, nLt, nEq, lLe, leL, lLt, ltL, eqL, lEq, nM1, nM2, litLt0, one01, zero01, oneNe0, xupE, xupA, xupK, xI_I, xS_I, xF_I, xJ_I, xI_R, xS_R, xF_R, xJ_R, xI_L, xS_L, xF_L, xJ_L, xcat_s, le46, ge16, or_true, true_or, false_or, or_false, eq_self, Option.toList_some, Option.toList_none, List.cons_append, List.nil_append, true_and, and_true, not_false_eq_true, not_true_eq_false, if_true, if_false, B_97_12, h.1.s, h.1.f, h.2.2.2.1, vv, if_pos, if_neg]
    by_cases y : tkV n c (tpos n c t) ≤ most
    · rw [if_pos y]
      exact fin false M (decide_eq_false (by omega)).symm (E3.refl _ _ _ _) hw.up2
    · rw [if_neg y]
      rw [B_97_42]
      simp (disch := omega) only [lAdd, addL, lMul, mulL, nMul, nI_add, subL, lSub, nSub, nDec, nCl, lCl, nVp, lVp, nLe, nLt, nEq, lLe, leL, lLt, ltL, eqL, lEq, nM1, nM2, litLt0, one01, zero01, oneNe0, xupE, xupA, xupK, xI_I, xS_I, xF_I, xJ_I, xI_R, xS_R, xF_R, xJ_R, xI_L, xS_L, xF_L, xJ_L, xcat_s, le46, ge16, or_true, true_or, false_or, or_false, eq_self, Option.toList_some, Option.toList_none, List.cons_append, List.nil_append, true_and, and_true, not_false_eq_true, not_true_eq_false, if_true, if_false, h.1.s, h.2.2.2.1]
      refine r_wrong (k := 5) h.1 h.2.2.2.2.1 (by omega) h.plc n2 rfl (by omega) hw.up2 ?_
      intro M1 e1 w1
      simp (disch := omega) only [lAdd, addL, lMul, mulL, nMul, nI_add, subL, lSub, nSub, nDec, nCl, lCl, nVp, lVp, nLe, nLt, nEq, lLe, leL, lLt, ltL, eqL, lEq, nM1, nM2, litLt0, one01, zero01, oneNe0, xupE, xupA, xupK, xI_I, xS_I, xF_I, xJ_I, xI_R, xS_R, xF_R, xJ_R, xI_L, xS_L, xF_L, xJ_L, xcat_s, le46, ge16, or_true, true_or, false_or, or_false, eq_self, Option.toList_some, Option.toList_none, List.cons_append, List.nil_append, true_and, and_true, not_false_eq_true, not_true_eq_false, if_true, if_false]
      exact fin true M1 (decide_eq_true (by omega)).symm e1 w1
  · rw [if_neg k3]
    simp (disch := omega) only [lAdd, addL, lMul, mulL, nMul, nI_add, subL, lSub, nSub, nDec, nCl, lCl, nVp, lVp, nLe, nLt, nEq, lLe, leL, lLt, ltL, eqL, lEq, nM1, nM2, litLt0, one01, zero01, oneNe0, xupE, xupA, xupK, xI_I, xS_I, xF_I, xJ_I, xI_R, xS_R, xF_R, xJ_R, xI_L, xS_L, xF_L, xJ_L, xcat_s, le46, ge16, or_true, true_or, false_or, or_false, eq_self, Option.toList_some, Option.toList_none, List.cons_append, List.nil_append, true_and, and_true, not_false_eq_true, not_true_eq_false, if_true, if_false, B_97_12, if_neg, if_pos]
    rw [B_97_15, h.1.s.1]
    refine ⟨rfl, ?_⟩
    refine r_fail0 hm h rfl (h0 k3) ?_
    intro M1 e1 f1
    simp (disch := omega) only [lAdd, addL, lMul, mulL, nMul, nI_add, subL, lSub, nSub, nDec, nCl, lCl, nVp, lVp, nLe, nLt, nEq, lLe, leL, lLt, ltL, eqL, lEq, nM1, nM2, litLt0, one01, zero01, oneNe0, xupE, xupA, xupK, xI_I, xS_I, xF_I, xJ_I, xI_R, xS_R, xF_R, xJ_R, xI_L, xS_L, xF_L, xJ_L, xcat_s, le46, ge16, or_true, true_or, false_or, or_false, eq_self, Option.toList_some, Option.toList_none, List.cons_append, List.nil_append, true_and, and_true, not_false_eq_true, not_true_eq_false, if_true, if_false, B_97_20]
    exact hF M1 0 (g1_2 e1) f1
end XRB
