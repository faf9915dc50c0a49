/-! the reference's reading: codes come out -/
def SG (M : XM) (c0 l0 : Nat) (l : YL) : Prop := l0 ≤ l.1 ∧ xI M 439 42 = nI (c0 + (l.1 - l0)) ∧ ∀ i, i < l.1 - l0 → Sy (l.2 (l0 + i)) (xI M 467 (c0 + i)) (xI M 468 (c0 + i))
def EX (M : XM) (c0 l0 : Nat) (l : YL) (z : Nat × (Nat → Nat)) (ne : Nat) : Prop := SG M c0 l0 l ∧ xI M 439 46 = nI z.1 ∧ (∀ i, i < z.1 → xI M 469 i = nI (k2r (z.2 i))) ∧ xI M 439 12 = nI ne
/-- what an expression changes: codes from c0 on, below cm -/
def gx (c0 cm : Nat) : Nat → Nat → Prop := fun a k => (a = 439 ∧ (k = 11 ∨ k = 12 ∨ k = 13 ∨ k = 14 ∨ k = 42 ∨ k = 46)) ∨ ((a = 467 ∨ a = 468) ∧ c0 ≤ k ∧ k < cm) ∨ a = 469
def go (c0 cm : Nat) : Nat → Nat → Prop := fun a k => (a = 439 ∧ (k = 42 ∨ k = 46)) ∨ ((a = 467 ∨ a = 468) ∧ c0 ≤ k ∧ k < cm)
theorem g1_x {c0 cm : Nat} {M M' : XM} (e : E3 g1 noF noF M M') : E3 (gx c0 cm) noF noF M M' := e.mono (fun a k q => by unfold g1 at q; unfold gx; omega) (fun _ _ q => q) (fun _ _ q => q)
theorem go_x {c0 cm : Nat} {M M' : XM} (e : E3 (go c0 cm) noF noF M M') : E3 (gx c0 cm) noF noF M M' := e.mono (fun a k q => by unfold go at q; unfold gx; omega) (fun _ _ q => q) (fun _ _ q => q)
def emM (M : XM) (x : Nat) (k v : Int32) : XM := xmI (xmI (xmI M 467 x k) 468 x v) 439 42 (nI (x + 1))
theorem r_emit {M : XM} {x : Nat} {k v : Int32} {Q : Option Value → XM → Prop} (hS : RSh M) (h : xI M 439 42 = nI x) (hx : x < 840) : RG xprog 100 0 [some (.ref 439), some (.int k), some (.int v)] [] M Q = Q none (emM M x k v) := by
  rw [B_100_0]
  simp (disch := omega) only [lAdd, addL, lMul, mulL, nMul, nI_add, subL, lSub, nSub, nDec, nCl, lCl, nVp, lVp, nLe, nLt, nEq, lLe, leL, lLt, ltL, eqL, lEq, nM1, nM2, litLt0, one01, zero01, oneNe0, xupE, xupA, xupK, xI_I, xS_I, xF_I, xJ_I, xI_R, xS_R, xF_R, xJ_R, xI_L, xS_L, xF_L, xJ_L, xcat_s, le46, ge16, or_true, true_or, false_or, or_false, eq_self, Option.toList_some, Option.toList_none, List.cons_append, List.nil_append, true_and, and_true, not_false_eq_true, not_true_eq_false, if_true, if_false, hS.s, hS.f, h, B_100_20]
  rfl
theorem emM_e {c0 cm x : Nat} {M : XM} {k v : Int32} (h1 : c0 ≤ x) (h2 : x < cm) : E3 (go c0 cm) noF noF M (emM M x k v) := (((E3.refl _ _ _ _).wI _ (by unfold go; omega)).wI _ (by unfold go; omega)).wI _ (by unfold go; omega)
theorem emM_f {x : Nat} {M : XM} {k v : Int32} : xI (emM M x k v) 439 42 = nI (x + 1) ∧ xI (emM M x k v) 467 = xone (xI M 467) x k ∧ xI (emM M x k v) 468 = xone (xI M 468) x v := by
  unfold emM
  refine ⟨by simp (disch := omega) only [lAdd, addL, lMul, mulL, nMul, nI_add, subL, lSub, nSub, nDec, nCl, lCl, nVp, lVp, nLe, nLt, nEq, lLe, leL, lLt, ltL, eqL, lEq, nM1, nM2, litLt0, one01, zero01, oneNe0, xupE, xupA, xupK, xI_I, xS_I, xF_I, xJ_I, xI_R, xS_R, xF_R, xJ_R, xI_L, xS_L, xF_L, xJ_L, xcat_s, le46, ge16, or_true, true_or, false_or, or_false, eq_self, Option.toList_some, Option.toList_none, List.cons_append, List.nil_append, true_and, and_true, not_false_eq_true, not_true_eq_false, if_true, if_false], ?_, ?_⟩
  · rw [xI_I, xup_n _ _ _ (by omega), xI_I, xup_n _ _ _ (by omega), xI_I, xup_s]
  · rw [xI_I, xup_n _ _ _ (by omega), xI_I, xup_s, xI_I, xup_n _ _ _ (by omega)]
theorem SG.emit {M : XM} {c0 l0 : Nat} {l : YL} {x k v : Int32} (h : SG M c0 l0 l) (hl : l.1 < 400) (hs : Sy x k v) : SG (emM M (c0 + (l.1 - l0)) k v) c0 l0 (yadd l x) := by
  obtain ⟨h1, h2, h3⟩ := h
  obtain ⟨f1, f2, f3⟩ := emM_f (M := M) (x := c0 + (l.1 - l0)) (k := k) (v := v)
  rw [yadd_l hl]
  refine ⟨by show l0 ≤ l.1 + 1; omega, ?_, fun i hi => ?_⟩
  · rw [f1]
    show nI (c0 + (l.1 - l0) + 1) = nI (c0 + (l.1 + 1 - l0))
    congr 1; omega
  · have hi' : i < l.1 + 1 - l0 := hi
    show Sy (xone l.2 l.1 x (l0 + i)) _ _
    rw [f2, f3]
    by_cases q : i = l.1 - l0
    · rw [show l0 + i = l.1 by omega, xone_s, show c0 + i = c0 + (l.1 - l0) by omega, xone_s, xone_s]; exact hs
    · rw [xone_n _ _ (by omega), xone_n _ _ (by omega), xone_n _ _ (by omega)]; exact h3 i (by omega)
theorem SG.e3 {M M' : XM} {c0 l0 : Nat} {l : YL} {P R F : Nat → Nat → Prop} (h : SG M c0 l0 l) (e : E3 P R F M M') (hp : ∀ a k, P a k → ¬ (a = 439 ∧ k = 42) ∧ ¬ ((a = 467 ∨ a = 468) ∧ c0 ≤ k ∧ k < c0 + (l.1 - l0))) : SG M' c0 l0 l := by
  obtain ⟨h1, h2, h3⟩ := h
  refine ⟨h1, by rw [e.I (fun q => (hp _ _ q).1 ⟨rfl, rfl⟩)]; exact h2, fun i hi => ?_⟩
  rw [e.I (fun q => (hp _ _ q).2 ⟨Or.inl rfl, by omega⟩), e.I (fun q => (hp _ _ q).2 ⟨Or.inr rfl, by omega⟩)]
  exact h3 i hi
theorem EX.gg {M M' : XM} {c0 l0 : Nat} {l : YL} {z : Nat × (Nat → Nat)} {ne : Nat} (h : EX M c0 l0 l z ne) (e : E3 g1 noF noF M M') : EX M' c0 l0 l z ne := by
  obtain ⟨h1, h2, h3, h4⟩ := h
  have I : ∀ a k, ¬ g1 a k → xI M' a k = xI M a k := fun a k q => e.I q
  exact ⟨h1.e3 e (fun a k q => by unfold g1 at q; omega), by rw [I _ _ (by unfold g1; omega)]; exact h2, fun i hi => by rw [I _ _ (by unfold g1; omega)]; exact h3 i hi, by rw [I _ _ (by unfold g1; omega)]; exact h4⟩
/-- codes of what waits -/
theorem r_comesOut {c0 l0 ne cm lr : Nat} {x : Int32} {Q : Option Value → XM → Prop} (hlr : (lr = 1 ∧ x = 0) ∨ (lr = 2 ∧ x = 1)) (hcm : cm ≤ 840) : ∀ (cn : Nat) (l : YL) (zw : Nat → Nat) (M : XM) (a2 : Option Value), RSh M → EX M c0 l0 l (cn, zw) ne → (∀ i, i < cn → (6 ≤ zw i ∧ zw i ≤ 9) ∨ zw i = 11) → c0 + (l.1 - l0) + cn ≤ cm → l.1 + cn ≤ 400 → cn ≤ 60 →
    (∀ M' : XM, E3 (go c0 cm) noF noF M M' → EX M' c0 l0 (yrel lr zw cn l).2 ((yrel lr zw cn l).1, zw) ne → Q none M') →
    RG xprog 102 0 [some (.ref 439), some (.int x), a2] [] M Q
  | 0, l, zw, M, a2, hS, h, hz, hc, hl, h60, hQ => by
    have w : xI M 439 46 = nI 0 := h.2.1
    rw [B_102_0]
    simp (disch := omega) only [lAdd, addL, lMul, mulL, nMul, nI_add, subL, lSub, nSub, nDec, nCl, lCl, nVp, lVp, nLe, nLt, nEq, lLe, leL, lLt, ltL, eqL, lEq, nM1, nM2, litLt0, one01, zero01, oneNe0, xupE, xupA, xupK, xI_I, xS_I, xF_I, xJ_I, xI_R, xS_R, xF_R, xJ_R, xI_L, xS_L, xF_L, xJ_L, xcat_s, le46, ge16, or_true, true_or, false_or, or_false, eq_self, Option.toList_some, Option.toList_none, List.cons_append, List.nil_append, true_and, and_true, not_false_eq_true, not_true_eq_false, if_true, if_false, hS.s, w, if_pos]
    exact hQ M (E3.refl _ _ _ _) h
  | cn + 1, l, zw, M, a2, hS, h, hz, hc, hl, h60, hQ => by
    have w : xI M 439 46 = nI (cn + 1) := h.2.1
    have v : xI M 469 cn = nI (k2r (zw cn)) := h.2.2.1 cn (by show cn < cn + 1; omega)
    have hv := hz cn (by omega)
    rw [yrel_s] at hQ
    have pop : ∀ (k : Nat), zw cn = k → (6 ≤ k ∧ k ≤ 9) → lr ≤ yrk k → RG xprog 102 42 [some (.ref 439), some (.int x), some (.int (nI (k2r k)))] [] M Q := by
      intro k hk k6 kr
      rw [hk, if_pos kr] at hQ
      have e0 : E3 (go c0 cm) noF noF M (xmI M 439 46 (nI cn)) := (E3.refl _ _ _ _).wI _ (by unfold go; omega)
      have s0 : RSh (xmI M 439 46 (nI cn)) := hS.e3 e0
      have sg0 : SG (xmI M 439 46 (nI cn)) c0 l0 l := h.1.e3 (P := fun a k => a = 439 ∧ k = 46) (R := noF) (F := noF) ((E3.refl _ _ _ _).wI _ ⟨rfl, rfl⟩) (fun a k q => by omega)
      have c42 : xI (xmI M 439 46 (nI cn)) 439 42 = nI (c0 + (l.1 - l0)) := sg0.2.1
      have h1 := h.1.1
      have f84 : ∀ y : Int32, y = nI (k - 4) → RG xprog 102 84 [some (.ref 439), some (.int x), some (.int (nI (k2r k)))] [.int y, .ref 439] (xmI M 439 46 (nI cn)) Q := by
        intro y hy
        rw [B_102_84]
        simp (disch := omega) only [lAdd, addL, lMul, mulL, nMul, nI_add, subL, lSub, nSub, nDec, nCl, lCl, nVp, lVp, nLe, nLt, nEq, lLe, leL, lLt, ltL, eqL, lEq, nM1, nM2, litLt0, one01, zero01, oneNe0, xupE, xupA, xupK, xI_I, xS_I, xF_I, xJ_I, xI_R, xS_R, xF_R, xJ_R, xI_L, xS_L, xF_L, xJ_L, xcat_s, le46, ge16, or_true, true_or, false_or, or_false, eq_self, Option.toList_some, Option.toList_none, List.cons_append, List.nil_append, true_and, and_true, not_false_eq_true, not_true_eq_false, if_true, if_false, hS.s]
        rw [r_emit s0 c42 (by omega)]
        simp (disch := omega) only [lAdd, addL, lMul, mulL, nMul, nI_add, subL, lSub, nSub, nDec, nCl, lCl, nVp, lVp, nLe, nLt, nEq, lLe, leL, lLt, ltL, eqL, lEq, nM1, nM2, litLt0, one01, zero01, oneNe0, xupE, xupA, xupK, xI_I, xS_I, xF_I, xJ_I, xI_R, xS_R, xF_R, xJ_R, xI_L, xS_L, xF_L, xJ_L, xcat_s, le46, ge16, or_true, true_or, false_or, or_false, eq_self, Option.toList_some, Option.toList_none, List.cons_append, List.nil_append, true_and, and_true, not_false_eq_true, not_true_eq_false, if_true, if_false, B_102_88]
        have e1 : E3 (go c0 cm) noF noF (xmI M 439 46 (nI cn)) (emM (xmI M 439 46 (nI cn)) (c0 + (l.1 - l0)) y 0) := emM_e (by omega) (by omega)
        have sg1 : SG (emM (xmI M 439 46 (nI cn)) (c0 + (l.1 - l0)) y 0) c0 l0 (yadd l (-10 - nI (k - 6))) := sg0.emit (by omega) (Or.inr (Or.inr ⟨k - 6, by omega, rfl, by rw [hy]; congr 1; omega, rfl⟩))
        have ya : (yadd l (-10 - nI (k - 6))).1 = l.1 + 1 := by rw [yadd_l (by omega)]
        refine r_comesOut (ne := ne) hlr hcm cn (yadd l (-10 - nI (k - 6))) zw _ _ (s0.e3 e1) ⟨sg1, ?_, fun i hi => ?_, ?_⟩ (fun i hi => hz i (by omega)) (by omega) (by omega) (by omega) ?_
        · unfold emM
          simp (disch := omega) only [lAdd, addL, lMul, mulL, nMul, nI_add, subL, lSub, nSub, nDec, nCl, lCl, nVp, lVp, nLe, nLt, nEq, lLe, leL, lLt, ltL, eqL, lEq, nM1, nM2, litLt0, one01, zero01, oneNe0, xupE, xupA, xupK, xI_I, xS_I, xF_I, xJ_I, xI_R, xS_R, xF_R, xJ_R, xI_L, xS_L, xF_L, xJ_L, xcat_s, le46, ge16, or_true, true_or, false_or, or_false, eq_self, Option.toList_some, Option.toList_none, List.cons_append, List.nil_append, true_and, and_true, not_false_eq_true, not_true_eq_false, if_true, if_false]
        · have hi' : i < cn := hi
          unfold emM
          simp (disch := omega) only [lAdd, addL, lMul, mulL, nMul, nI_add, subL, lSub, nSub, nDec, nCl, lCl, nVp, lVp, nLe, nLt, nEq, lLe, leL, lLt, ltL, eqL, lEq, nM1, nM2, litLt0, one01, zero01, oneNe0, xupE, xupA, xupK, xI_I, xS_I, xF_I, xJ_I, xI_R, xS_R, xF_R, xJ_R, xI_L, xS_L, xF_L, xJ_L, xcat_s, le46, ge16, or_true, true_or, false_or, or_false, eq_self, Option.toList_some, Option.toList_none, List.cons_append, List.nil_append, true_and, and_true, not_false_eq_true, not_true_eq_false, if_true, if_false]
          exact h.2.2.1 i (by show i < cn + 1; omega)
        · unfold emM
          simp (disch := omega) only [lAdd, addL, lMul, mulL, nMul, nI_add, subL, lSub, nSub, nDec, nCl, lCl, nVp, lVp, nLe, nLt, nEq, lLe, leL, lLt, ltL, eqL, lEq, nM1, nM2, litLt0, one01, zero01, oneNe0, xupE, xupA, xupK, xI_I, xS_I, xF_I, xJ_I, xI_R, xS_R, xF_R, xJ_R, xI_L, xS_L, xF_L, xJ_L, xcat_s, le46, ge16, or_true, true_or, false_or, or_false, eq_self, Option.toList_some, Option.toList_none, List.cons_append, List.nil_append, true_and, and_true, not_false_eq_true, not_true_eq_false, if_true, if_false]
          exact h.2.2.2
        · intro M2 e2 x2
          exact hQ M2 ((e0.trans e1).trans e2) x2
      rw [B_102_42]
      have : k = 6 ∨ k = 7 ∨ k = 8 ∨ k = 9 := by omega
      simp (disch := omega) only [lAdd, addL, lMul, mulL, nMul, nI_add, subL, lSub, nSub, nDec, nCl, lCl, nVp, lVp, nLe, nLt, nEq, lLe, leL, lLt, ltL, eqL, lEq, nM1, nM2, litLt0, one01, zero01, oneNe0, xupE, xupA, xupK, xI_I, xS_I, xF_I, xJ_I, xI_R, xS_R, xF_R, xJ_R, xI_L, xS_L, xF_L, xJ_L, xcat_s, le46, ge16, or_true, true_or, false_or, or_false, eq_self, Option.toList_some, Option.toList_none, List.cons_append, List.nil_append, true_and, and_true, not_false_eq_true, not_true_eq_false, if_true, if_false, hS.s, w, Nat.add_sub_cancel]
      rcases this with q | q | q | q
      · subst q
        rw [if_neg (by decide)]; exact f84 2 rfl
      · subst q
        rw [if_pos (by decide), if_neg (by decide)]; exact f84 3 rfl
      · subst q
        rw [if_pos (by decide), if_pos (by decide), if_neg (by decide)]; exact f84 4 rfl
      · subst q
        rw [if_pos (by decide), if_pos (by decide), if_pos (by decide)]; exact f84 5 rfl
    rw [B_102_0]
    simp (disch := omega) only [lAdd, addL, lMul, mulL, nMul, nI_add, subL, lSub, nSub, nDec, nCl, lCl, nVp, lVp, nLe, nLt, nEq, lLe, leL, lLt, ltL, eqL, lEq, nM1, nM2, litLt0, one01, zero01, oneNe0, xupE, xupA, xupK, xI_I, xS_I, xF_I, xJ_I, xI_R, xS_R, xF_R, xJ_R, xI_L, xS_L, xF_L, xJ_L, xcat_s, le46, ge16, or_true, true_or, false_or, or_false, eq_self, Option.toList_some, Option.toList_none, List.cons_append, List.nil_append, true_and, and_true, not_false_eq_true, not_true_eq_false, if_true, if_false, hS.s, hS.f, w, if_neg, Nat.add_sub_cancel, v]
    rcases hlr with ⟨q1, q2⟩ | ⟨q1, q2⟩
    · subst q1 q2
      rcases hv with y | y
      · have n6 : ¬ nI (k2r (zw cn)) = 6 := by
          have : ∀ k : Fin 10, 6 ≤ k.val → ¬ nI (k2r k.val) = 6 := by decide
          exact this ⟨zw cn, by omega⟩ y.1
        rw [if_neg n6, if_pos rfl]
        refine pop _ rfl y ?_
        have : yrk (zw cn) ≠ 0 := fun q => by have := yrk_0.mp q; omega
        omega
      · rw [y] at hQ ⊢
        rw [if_pos (by decide)]
        rw [if_neg (by decide)] at hQ
        exact hQ M (E3.refl _ _ _ _) h
    · subst q1 q2
      have : zw cn = 6 ∨ zw cn = 7 ∨ zw cn = 8 ∨ zw cn = 9 ∨ zw cn = 11 := by omega
      rcases this with y | y | y | y | y
      · rw [y] at hQ ⊢
        rw [if_neg (by decide), if_neg (by decide), if_pos (by decide)]
        rw [if_neg (by decide)] at hQ
        exact hQ M (E3.refl _ _ _ _) h
      · rw [y] at hQ ⊢
        rw [if_neg (by decide), if_neg (by decide), if_neg (by decide), if_neg (by decide)]
        rw [if_neg (by decide)] at hQ
        exact hQ M (E3.refl _ _ _ _) h
      · have := pop 8 y (by omega) (by decide)
        rw [y, if_neg (by decide), if_neg (by decide), if_neg (by decide), if_pos (by decide)]
        exact this
      · have := pop 9 y (by omega) (by decide)
        rw [y, if_neg (by decide), if_neg (by decide), if_neg (by decide), if_pos (by decide)]
        exact this
      · rw [y] at hQ ⊢
        rw [if_pos (by decide)]
        rw [if_neg (by decide)] at hQ
        exact hQ M (E3.refl _ _ _ _) h
