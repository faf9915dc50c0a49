/-! the class's reading, told purely: one step a token; here the making of laws -/
abbrev YL : Type := Nat × (Nat → Int32)
def yadd (l : YL) (x : Int32) : YL := if l.1 < 400 then (l.1 + 1, xone l.2 l.1 x) else l
def yrk (k : Nat) : Nat := if k = 11 then 0 else if k = 6 then 1 else if k = 7 then 1 else 2
def yrel (lr : Nat) (w : Nat → Nat) : Nat → YL → Nat × YL
  | 0, l => (0, l)
  | c + 1, l => if lr ≤ yrk (w c) then yrel lr w c (yadd l (-10 - nI (w c - 6))) else (c + 1, l)
def yoff (z : Nat × (Nat → Nat)) (k : Nat) : Nat × (Nat → Nat) := if z.1 < 20 then (z.1 + 1, xone z.2 z.1 k) else z
def yskip (l : YL) (sk : Nat) : YL := if sk < l.1 then (l.1, xone l.2 sk (-100 - nI (l.1 - sk - 1))) else l
theorem yrk_le (k : Nat) : yrk k ≤ 2 := by
  unfold yrk
  split
  · omega
  · split
    · omega
    · split <;> omega
theorem yrel_s (lr : Nat) (w : Nat → Nat) (c : Nat) (l : YL) : yrel lr w (c + 1) l = if lr ≤ yrk (w c) then yrel lr w c (yadd l (-10 - nI (w c - 6))) else (c + 1, l) := rfl
theorem E3.rowI {P R F : Nat → Nat → Prop} {M M' : XM} (h : E3 P R F M M') {a : Nat} (q : ∀ k, ¬ P a k) : xI M' a = xI M a := funext fun k => h.I (q k)
def LwI (M : XM) (w : Nat) (l : YL) : Prop := xI M w 1 = nI l.1 ∧ l.1 ≤ 400 ∧ xI M (w + 1) = l.2 ∧ ∀ i, i < l.1 → (-600 : Int32) ≤ l.2 i
def wP (w : Nat) : Nat → Nat → Prop := fun a k => (a = w ∧ k = 1) ∨ a = w + 1
theorem c_addStepY {M : XM} {w : Nat} {l : YL} {x : Int32} {Q : Option Value → XM → Prop} (hs : LawSh M w) (h : LwI M w l) (hx : (-600 : Int32) ≤ x)
    (hQ : ∀ M' : XM, E3 (wP w) noF noF M M' → LwI M' w (yadd l x) → Q none M') : RG xprog 21 0 [some (.ref w), some (.int x)] [] M Q := by
  obtain ⟨s1, s2, s3, s4⟩ := hs
  obtain ⟨h1, h2, h3, h4⟩ := h
  unfold yadd at hQ
  rw [B_21_0, s1, h1]
  by_cases q : 400 ≤ l.1
  · simp (disch := omega) only [lAdd, addL, lMul, mulL, nMul, nI_add, subL, lSub, nSub, nDec, nCl, lCl, nVp, lVp, nLe, nLt, nEq, lLe, leL, lLt, ltL, eqL, lEq, nM1, nM2, litLt0, one01, zero01, oneNe0, xupE, xupA, xupK, xI_I, xS_I, xF_I, xJ_I, xI_R, xS_R, xF_R, xJ_R, xI_L, xS_L, xF_L, xJ_L, xcat_s, le46, ge16, or_true, true_or, false_or, or_false, eq_self, Option.toList_some, Option.toList_none, List.cons_append, List.nil_append, true_and, and_true, not_false_eq_true, not_true_eq_false, if_true, if_false, if_pos, B_21_30]
    refine hQ M (E3.refl _ _ _ _) ?_
    rw [if_neg (by omega)]
    exact ⟨h1, h2, h3, h4⟩
  · simp (disch := omega) only [lAdd, addL, lMul, mulL, nMul, nI_add, subL, lSub, nSub, nDec, nCl, lCl, nVp, lVp, nLe, nLt, nEq, lLe, leL, lLt, ltL, eqL, lEq, nM1, nM2, litLt0, one01, zero01, oneNe0, xupE, xupA, xupK, xI_I, xS_I, xF_I, xJ_I, xI_R, xS_R, xF_R, xJ_R, xI_L, xS_L, xF_L, xJ_L, xcat_s, le46, ge16, or_true, true_or, false_or, or_false, eq_self, Option.toList_some, Option.toList_none, List.cons_append, List.nil_append, true_and, and_true, not_false_eq_true, not_true_eq_false, if_true, if_false, if_neg, s2, s3, h1, B_21_30, s1]
    rw [if_pos (by omega)] at hQ
    refine hQ _ (((E3.refl _ _ _ _).wI _ (Or.inr rfl)).wI _ (Or.inl ⟨rfl, rfl⟩)) ⟨?_, ?_, ?_, ?_⟩
    · simp (disch := omega) only [lAdd, addL, lMul, mulL, nMul, nI_add, subL, lSub, nSub, nDec, nCl, lCl, nVp, lVp, nLe, nLt, nEq, lLe, leL, lLt, ltL, eqL, lEq, nM1, nM2, litLt0, one01, zero01, oneNe0, xupE, xupA, xupK, xI_I, xS_I, xF_I, xJ_I, xI_R, xS_R, xF_R, xJ_R, xI_L, xS_L, xF_L, xJ_L, xcat_s, le46, ge16, or_true, true_or, false_or, or_false, eq_self, Option.toList_some, Option.toList_none, List.cons_append, List.nil_append, true_and, and_true, not_false_eq_true, not_true_eq_false, if_true, if_false]
    · show l.1 + 1 ≤ 400; omega
    · rw [xI_I, xup_n _ _ _ (by omega), xI_I, xup_s, h3]
    · intro i hi
      by_cases z : i = l.1
      · rw [z]
        show -600 ≤ xone l.2 l.1 x l.1
        rw [xone_s]; exact hx
      · show -600 ≤ xone l.2 l.1 x i
        rw [xone_n _ _ z]; exact h4 i (by have : i < l.1 + 1 := hi; omega)
theorem LwI.e3 {M M' : XM} {w : Nat} {l : YL} {P R F : Nat → Nat → Prop} (h : LwI M w l) (e : E3 P R F M M') (hp : ∀ a k, P a k → a ≠ w + 1 ∧ ¬ (a = w ∧ k = 1)) : LwI M' w l :=
  ⟨by rw [e.I (fun q => (hp _ _ q).2 ⟨rfl, rfl⟩)]; exact h.1, h.2.1, by rw [e.rowI (fun k q => (hp _ _ q).1 rfl)]; exact h.2.2.1, h.2.2.2⟩
/-- the maker at work on the law w: l so far, z waiting -/
def MK (M : XM) (w : Nat) (l : YL) (z : Nat × (Nat → Nat)) : Prop := (xS M 22 = (4, 0) ∧ xF M 22 0 = 23 ∧ xS M 23 = (40, 20) ∧ xF M 22 2 = w) ∧ (24 ≤ w ∧ LawSh M w) ∧ LwI M w l ∧ xI M 22 1 = nI z.1 ∧ z.1 ≤ 20 ∧ ∀ i, i < z.1 → xI M 23 i = nI (z.2 i) ∧ 6 ≤ z.2 i ∧ z.2 i ≤ 11
def mP (w : Nat) : Nat → Nat → Prop := fun a k => (a = 22 ∧ (k = 1 ∨ k = 3)) ∨ a = 23 ∨ (a = w ∧ k = 1) ∨ a = w + 1
theorem LawSh.e3 {M M' : XM} {w : Nat} {P R F : Nat → Nat → Prop} (h : LawSh M w) (e : E3 P R F M M') (hf : ∀ a k, F a k → a ≠ w) : LawSh M' w := by
  obtain ⟨a1, a2, a3, a4⟩ := h
  exact ⟨by rw [e.S]; exact a1, by rw [e.FF (fun q => hf _ _ q rfl)]; exact a2, by rw [e.S]; exact a3, a4⟩
theorem MK.fr {M M' : XM} {w : Nat} {l : YL} {z : Nat × (Nat → Nat)} {P R F : Nat → Nat → Prop} (h : MK M w l z) (e : E3 P R F M M') (hp : ∀ a k, P a k → ¬ mP w a k ∨ (a = 22 ∧ k = 3)) (hf : ∀ a k, F a k → a ≠ 22 ∧ a ≠ w) : MK M' w l z := by
  obtain ⟨⟨a1, a2, a3, a4⟩, ⟨b0, b1⟩, b2, b3, b4, b5⟩ := h
  have I := fun (a k : Nat) (q : mP w a k) (n : ¬ (a = 22 ∧ k = 3)) => e.I (a := a) (k := k) fun y => (hp a k y).elim (fun t => t q) n
  refine ⟨⟨by rw [e.S]; exact a1, by rw [e.FF (fun q => (hf _ _ q).1 rfl)]; exact a2, by rw [e.S]; exact a3, by rw [e.FF (fun q => (hf _ _ q).1 rfl)]; exact a4⟩, ⟨b0, b1.e3 e fun a k q => (hf a k q).2⟩, b2.e3 e ?_, ?_, b4, ?_⟩
  · intro a k q
    have := hp a k q
    unfold mP at this
    omega
  · rw [I _ _ (by unfold mP; omega) (by omega)]; exact b3
  · intro i hi
    rw [I _ _ (by unfold mP; omega) (by omega)]; exact b5 i hi
theorem c_rank {M : XM} {k : Nat} {Q : Option Value → XM → Prop} (hk : k ≤ 100) : RG xprog 70 0 [some (.int (nI k))] [] M Q = Q (some (.int (nI (yrk k)))) M := by
  rw [B_70_0]
  unfold yrk
  by_cases q1 : k = 11
  · subst q1; rfl
  by_cases q2 : k = 6
  · subst q2; rfl
  by_cases q3 : k = 7
  · subst q3; rfl
  simp (disch := omega) only [lAdd, addL, lMul, mulL, nMul, nI_add, subL, lSub, nSub, nDec, nCl, lCl, nVp, lVp, nLe, nLt, nEq, lLe, leL, lLt, ltL, eqL, lEq, nM1, nM2, litLt0, one01, zero01, oneNe0, xupE, xupA, xupK, xI_I, xS_I, xF_I, xJ_I, xI_R, xS_R, xF_R, xJ_R, xI_L, xS_L, xF_L, xJ_L, xcat_s, le46, ge16, or_true, true_or, false_or, or_false, eq_self, Option.toList_some, Option.toList_none, List.cons_append, List.nil_append, true_and, and_true, not_false_eq_true, not_true_eq_false, if_true, if_false, if_neg, if_pos]
  rfl
theorem op_lo {k : Nat} (h1 : 6 ≤ k) (h2 : k ≤ 11) : (-600 : Int32) ≤ -10 - nI (k - 6) := by
  have : ∀ k : Fin 12, (-600 : Int32) ≤ -10 - nI (k.val - 6) := by decide
  exact this ⟨k, by omega⟩
theorem MK.addS {M : XM} {w : Nat} {l : YL} {z : Nat × (Nat → Nat)} {x : Int32} {Q : Option Value → XM → Prop} (h : MK M w l z) (hx : (-600 : Int32) ≤ x)
    (hQ : ∀ M' : XM, E3 (mP w) noF noF M M' → MK M' w (yadd l x) z → xI M' 22 3 = xI M 22 3 → Q none M') : RG xprog 21 0 [some (.ref w), some (.int x)] [] M Q := by
  have hw := h.2.1.1
  refine c_addStepY h.2.1.2 h.2.2.1 hx ?_
  intro M1 e1 l1
  refine hQ M1 (e1.mono (fun a k q => by unfold wP at q; unfold mP; omega) (fun _ _ q => q) (fun _ _ q => q)) ?_ (e1.I (by unfold wP; omega))
  obtain ⟨⟨a1, a2, a3, a4⟩, ⟨b0, b1⟩, b2, b3, b4, b5⟩ := h
  refine ⟨⟨by rw [e1.S]; exact a1, by rw [e1.FF id]; exact a2, by rw [e1.S]; exact a3, by rw [e1.FF id]; exact a4⟩, ⟨b0, b1.e3 e1 fun a k q => absurd q id⟩, l1, ?_, b4, ?_⟩
  · rw [e1.I (by unfold wP; omega)]; exact b3
  · intro i hi
    rw [e1.I (by unfold wP; omega)]; exact b5 i hi
theorem c_release {w lr : Nat} {Q : Option Value → XM → Prop} (hr : lr ≤ 2) : ∀ (cn : Nat) (l : YL) (zw : Nat → Nat) (M : XM), MK M w l (cn, zw) →
    (∀ M' : XM, E3 (mP w) noF noF M M' → MK M' w (yrel lr zw cn l).2 ((yrel lr zw cn l).1, zw) → xI M' 22 3 = xI M 22 3 → Q none M') →
    RG xprog 71 0 [some (.ref 22), some (.int (nI lr))] [] M Q
  | 0, l, zw, M, h, hQ => by
    have h1 : xI M 22 1 = nI 0 := h.2.2.2.1
    rw [B_71_0, h.1.1, h1]
    simp (disch := omega) only [lAdd, addL, lMul, mulL, nMul, nI_add, subL, lSub, nSub, nDec, nCl, lCl, nVp, lVp, nLe, nLt, nEq, lLe, leL, lLt, ltL, eqL, lEq, nM1, nM2, litLt0, one01, zero01, oneNe0, xupE, xupA, xupK, xI_I, xS_I, xF_I, xJ_I, xI_R, xS_R, xF_R, xJ_R, xI_L, xS_L, xF_L, xJ_L, xcat_s, le46, ge16, or_true, true_or, false_or, or_false, eq_self, Option.toList_some, Option.toList_none, List.cons_append, List.nil_append, true_and, and_true, not_false_eq_true, not_true_eq_false, if_true, if_false, if_pos]
    exact hQ M (E3.refl _ _ _ _) h rfl
  | cn + 1, l, zw, M, h, hQ => by
    have h1 : xI M 22 1 = nI (cn + 1) := h.2.2.2.1
    have hc : cn + 1 ≤ 20 := h.2.2.2.2.1
    obtain ⟨v1, v2, v3⟩ := h.2.2.2.2.2 cn (by show cn < cn + 1; omega)
    have v1' : xI M 23 cn = nI (zw cn) := v1
    have v2' : 6 ≤ zw cn := v2
    have v3' : zw cn ≤ 11 := v3
    have y2 : yrk (zw cn) ≤ 2 := yrk_le _
    rw [yrel_s] at hQ
    rw [B_71_0, h.1.1, h1]
    simp (disch := omega) only [lAdd, addL, lMul, mulL, nMul, nI_add, subL, lSub, nSub, nDec, nCl, lCl, nVp, lVp, nLe, nLt, nEq, lLe, leL, lLt, ltL, eqL, lEq, nM1, nM2, litLt0, one01, zero01, oneNe0, xupE, xupA, xupK, xI_I, xS_I, xF_I, xJ_I, xI_R, xS_R, xF_R, xJ_R, xI_L, xS_L, xF_L, xJ_L, xcat_s, le46, ge16, or_true, true_or, false_or, or_false, eq_self, Option.toList_some, Option.toList_none, List.cons_append, List.nil_append, true_and, and_true, not_false_eq_true, not_true_eq_false, if_true, if_false, if_neg, h.1.2.1, h.1.2.2.1, Nat.add_sub_cancel, v1', c_rank (show zw cn ≤ 100 by omega), B_71_21]
    by_cases q : yrk (zw cn) < lr
    · rw [if_pos q]
      rw [if_neg (by omega)] at hQ
      exact hQ M (E3.refl _ _ _ _) h rfl
    · rw [if_neg q]
      rw [if_pos (by omega)] at hQ
      simp (disch := omega) only [lAdd, addL, lMul, mulL, nMul, nI_add, subL, lSub, nSub, nDec, nCl, lCl, nVp, lVp, nLe, nLt, nEq, lLe, leL, lLt, ltL, eqL, lEq, nM1, nM2, litLt0, one01, zero01, oneNe0, xupE, xupA, xupK, xI_I, xS_I, xF_I, xJ_I, xI_R, xS_R, xF_R, xJ_R, xI_L, xS_L, xF_L, xJ_L, xcat_s, le46, ge16, or_true, true_or, false_or, or_false, eq_self, Option.toList_some, Option.toList_none, List.cons_append, List.nil_append, true_and, and_true, not_false_eq_true, not_true_eq_false, if_true, if_false, h.1.1, h1, h.1.2.1, h.1.2.2.1, h.1.2.2.2, Nat.add_sub_cancel, v1', h.2.1.2.1]
      have e0 : E3 (mP w) noF noF M (xmI M 22 1 (nI cn)) := (E3.refl _ _ _ _).wI _ (by unfold mP; omega)
      have h0 : MK (xmI M 22 1 (nI cn)) w l (cn, zw) := by
        obtain ⟨⟨a1, a2, a3, a4⟩, ⟨b0, b1⟩, b2, b3, b4, b5⟩ := h
        refine ⟨⟨a1, a2, a3, a4⟩, ⟨b0, b1⟩, ?_, ?_, ?_, ?_⟩
        · refine b2.e3 (P := fun a k => a = 22) (R := noF) (F := noF) ((E3.refl _ _ _ _).wI _ rfl) fun a k q => by omega
        · rw [xI_I, xupE]
        · show cn ≤ 20; omega
        · intro i hi
          rw [xI_I, xupA _ _ _ _ (by omega)]
          exact b5 i (by show i < cn + 1; have : i < cn := hi; omega)
      refine h0.addS (op_lo v2' v3') ?_
      intro M1 e1 h2 s1
      simp (disch := omega) only [lAdd, addL, lMul, mulL, nMul, nI_add, subL, lSub, nSub, nDec, nCl, lCl, nVp, lVp, nLe, nLt, nEq, lLe, leL, lLt, ltL, eqL, lEq, nM1, nM2, litLt0, one01, zero01, oneNe0, xupE, xupA, xupK, xI_I, xS_I, xF_I, xJ_I, xI_R, xS_R, xF_R, xJ_R, xI_L, xS_L, xF_L, xJ_L, xcat_s, le46, ge16, or_true, true_or, false_or, or_false, eq_self, Option.toList_some, Option.toList_none, List.cons_append, List.nil_append, true_and, and_true, not_false_eq_true, not_true_eq_false, if_true, if_false, B_71_57]
      refine c_release hr cn _ zw M1 h2 ?_
      intro M2 e2 h3 s2
      refine hQ M2 ((e0.trans e1).trans e2) h3 ?_
      rw [s2, s1, xI_I, xupK _ _ (by omega)]
theorem yrel_le (lr : Nat) (w : Nat → Nat) : ∀ cn l, (yrel lr w cn l).1 ≤ cn
  | 0, _ => Nat.le_refl 0
  | cn + 1, l => by
    rw [yrel_s]
    split
    · have := yrel_le lr w cn (yadd l (-10 - nI (w cn - 6))); omega
    · exact Nat.le_refl _
theorem c_putOff {M : XM} {w k : Nat} {l : YL} {z : Nat × (Nat → Nat)} {Q : Option Value → XM → Prop} (h : MK M w l z) (k1 : 6 ≤ k) (k2 : k ≤ 11)
    (hQ : ∀ M' : XM, E3 (mP w) noF noF M M' → MK M' w l (yoff z k) → xI M' 22 3 = xI M 22 3 → Q none M') :
    RG xprog 65 0 [some (.ref 22), some (.int (nI k))] [] M Q := by
  have h1 : xI M 22 1 = nI z.1 := h.2.2.2.1
  have hc : z.1 ≤ 20 := h.2.2.2.2.1
  unfold yoff at hQ
  rw [B_65_0, h.1.1, h1]
  by_cases q : 20 ≤ z.1
  · simp (disch := omega) only [lAdd, addL, lMul, mulL, nMul, nI_add, subL, lSub, nSub, nDec, nCl, lCl, nVp, lVp, nLe, nLt, nEq, lLe, leL, lLt, ltL, eqL, lEq, nM1, nM2, litLt0, one01, zero01, oneNe0, xupE, xupA, xupK, xI_I, xS_I, xF_I, xJ_I, xI_R, xS_R, xF_R, xJ_R, xI_L, xS_L, xF_L, xJ_L, xcat_s, le46, ge16, or_true, true_or, false_or, or_false, eq_self, Option.toList_some, Option.toList_none, List.cons_append, List.nil_append, true_and, and_true, not_false_eq_true, not_true_eq_false, if_true, if_false, if_pos, B_65_29]
    rw [if_neg (by omega)] at hQ
    exact hQ M (E3.refl _ _ _ _) h rfl
  · simp (disch := omega) only [lAdd, addL, lMul, mulL, nMul, nI_add, subL, lSub, nSub, nDec, nCl, lCl, nVp, lVp, nLe, nLt, nEq, lLe, leL, lLt, ltL, eqL, lEq, nM1, nM2, litLt0, one01, zero01, oneNe0, xupE, xupA, xupK, xI_I, xS_I, xF_I, xJ_I, xI_R, xS_R, xF_R, xJ_R, xI_L, xS_L, xF_L, xJ_L, xcat_s, le46, ge16, or_true, true_or, false_or, or_false, eq_self, Option.toList_some, Option.toList_none, List.cons_append, List.nil_append, true_and, and_true, not_false_eq_true, not_true_eq_false, if_true, if_false, if_neg, h.1.1, h1, h.1.2.1, h.1.2.2.1, B_65_29]
    rw [if_pos (by omega)] at hQ
    refine hQ _ (((E3.refl _ _ _ _).wI _ (by unfold mP; omega)).wI _ (by unfold mP; omega)) ?_ ?_
    · obtain ⟨⟨a1, a2, a3, a4⟩, ⟨b0, b1⟩, b2, b3, b4, b5⟩ := h
      refine ⟨⟨a1, a2, a3, a4⟩, ⟨b0, b1⟩, ?_, ?_, ?_, ?_⟩
      · refine b2.e3 (P := fun a k => a = 22 ∨ a = 23) (R := noF) (F := noF) (((E3.refl _ _ _ _).wI _ (Or.inr rfl)).wI _ (Or.inl rfl)) fun a k q => by omega
      · rw [xI_I, xupE]
      · show z.1 + 1 ≤ 20; omega
      · intro i hi
        have hi' : i < z.1 + 1 := hi
        rw [xI_I, xupA _ _ _ _ (by omega), xI_I]
        show xup (xI M) 23 z.1 (nI k) 23 i = nI (xone z.2 z.1 k i) ∧ 6 ≤ xone z.2 z.1 k i ∧ xone z.2 z.1 k i ≤ 11
        by_cases y : i = z.1
        · rw [y, xupE, xone_s]; exact ⟨rfl, k1, k2⟩
        · rw [xupK _ _ y, xone_n _ _ y]; exact b5 i (by omega)
    · rw [xI_I, xupK _ _ (by omega), xI_I, xupA _ _ _ _ (by omega)]
def yop (k : Nat) (l : YL) (z : Nat × (Nat → Nat)) : YL × (Nat × (Nat → Nat)) := ((yrel (yrk k) z.2 z.1 l).2, yoff ((yrel (yrk k) z.2 z.1 l).1, z.2) k)
theorem c_addOperator {M : XM} {w k : Nat} {l : YL} {z : Nat × (Nat → Nat)} {Q : Option Value → XM → Prop} (h : MK M w l z) (k1 : 6 ≤ k) (k2 : k ≤ 9)
    (hQ : ∀ M' : XM, E3 (mP w) noF noF M M' → MK M' w (yop k l z).1 (yop k l z).2 → xI M' 22 3 = xI M 22 3 → Q none M') :
    RG xprog 72 0 [some (.ref 22), some (.int (nI k))] [] M Q := by
  have y2 : yrk k ≤ 2 := yrk_le _
  rw [B_72_0, c_rank (by omega)]
  simp (disch := omega) only [lAdd, addL, lMul, mulL, nMul, nI_add, subL, lSub, nSub, nDec, nCl, lCl, nVp, lVp, nLe, nLt, nEq, lLe, leL, lLt, ltL, eqL, lEq, nM1, nM2, litLt0, one01, zero01, oneNe0, xupE, xupA, xupK, xI_I, xS_I, xF_I, xJ_I, xI_R, xS_R, xF_R, xJ_R, xI_L, xS_L, xF_L, xJ_L, xcat_s, le46, ge16, or_true, true_or, false_or, or_false, eq_self, Option.toList_some, Option.toList_none, List.cons_append, List.nil_append, true_and, and_true, not_false_eq_true, not_true_eq_false, if_true, if_false, B_72_5, h.1.1]
  refine c_release y2 z.1 l z.2 M h ?_
  intro M1 e1 h1 s1
  simp (disch := omega) only [lAdd, addL, lMul, mulL, nMul, nI_add, subL, lSub, nSub, nDec, nCl, lCl, nVp, lVp, nLe, nLt, nEq, lLe, leL, lLt, ltL, eqL, lEq, nM1, nM2, litLt0, one01, zero01, oneNe0, xupE, xupA, xupK, xI_I, xS_I, xF_I, xJ_I, xI_R, xS_R, xF_R, xJ_R, xI_L, xS_L, xF_L, xJ_L, xcat_s, le46, ge16, or_true, true_or, false_or, or_false, eq_self, Option.toList_some, Option.toList_none, List.cons_append, List.nil_append, true_and, and_true, not_false_eq_true, not_true_eq_false, if_true, if_false, B_72_8, h1.1.1]
  refine c_putOff h1 k1 (by omega) ?_
  intro M2 e2 h2 s2
  simp (disch := omega) only [lAdd, addL, lMul, mulL, nMul, nI_add, subL, lSub, nSub, nDec, nCl, lCl, nVp, lVp, nLe, nLt, nEq, lLe, leL, lLt, ltL, eqL, lEq, nM1, nM2, litLt0, one01, zero01, oneNe0, xupE, xupA, xupK, xI_I, xS_I, xF_I, xJ_I, xI_R, xS_R, xF_R, xJ_R, xI_L, xS_L, xF_L, xJ_L, xcat_s, le46, ge16, or_true, true_or, false_or, or_false, eq_self, Option.toList_some, Option.toList_none, List.cons_append, List.nil_append, true_and, and_true, not_false_eq_true, not_true_eq_false, if_true, if_false, B_72_13]
  exact hQ M2 (e1.trans e2) h2 (s2.trans s1)
theorem c_close {M : XM} {w : Nat} {l : YL} {z : Nat × (Nat → Nat)} {Q : Option Value → XM → Prop} (h : MK M w l z)
    (hQ : ∀ M' : XM, E3 (mP w) noF noF M M' → MK M' w (yrel 1 z.2 z.1 l).2 ((yrel 1 z.2 z.1 l).1 - 1, z.2) → xI M' 22 3 = xI M 22 3 → Q none M') :
    RG xprog 73 0 [some (.ref 22)] [] M Q := by
  have hc : z.1 ≤ 20 := h.2.2.2.2.1
  have hy := yrel_le 1 z.2 z.1 l
  rw [B_73_0]
  simp (disch := omega) only [lAdd, addL, lMul, mulL, nMul, nI_add, subL, lSub, nSub, nDec, nCl, lCl, nVp, lVp, nLe, nLt, nEq, lLe, leL, lLt, ltL, eqL, lEq, nM1, nM2, litLt0, one01, zero01, oneNe0, xupE, xupA, xupK, xI_I, xS_I, xF_I, xJ_I, xI_R, xS_R, xF_R, xJ_R, xI_L, xS_L, xF_L, xJ_L, xcat_s, le46, ge16, or_true, true_or, false_or, or_false, eq_self, Option.toList_some, Option.toList_none, List.cons_append, List.nil_append, true_and, and_true, not_false_eq_true, not_true_eq_false, if_true, if_false, h.1.1]
  refine c_release (lr := 1) (by omega) z.1 l z.2 M h ?_
  intro M1 e1 h1 s1
  have w1 : xI M1 22 1 = nI (yrel 1 z.2 z.1 l).1 := h1.2.2.2.1
  simp (disch := omega) only [lAdd, addL, lMul, mulL, nMul, nI_add, subL, lSub, nSub, nDec, nCl, lCl, nVp, lVp, nLe, nLt, nEq, lLe, leL, lLt, ltL, eqL, lEq, nM1, nM2, litLt0, one01, zero01, oneNe0, xupE, xupA, xupK, xI_I, xS_I, xF_I, xJ_I, xI_R, xS_R, xF_R, xJ_R, xI_L, xS_L, xF_L, xJ_L, xcat_s, le46, ge16, or_true, true_or, false_or, or_false, eq_self, Option.toList_some, Option.toList_none, List.cons_append, List.nil_append, true_and, and_true, not_false_eq_true, not_true_eq_false, if_true, if_false, B_73_5, h1.1.1, w1]
  have ev : (if (0 : Int32) < nI (yrel 1 z.2 z.1 l).1 - 1 then nI (yrel 1 z.2 z.1 l).1 - 1 else 0) = nI ((yrel 1 z.2 z.1 l).1 - 1) := by
    generalize (yrel 1 z.2 z.1 l).1 = y at hy
    have : ∀ y : Fin 21, (if (0 : Int32) < nI y.val - 1 then nI y.val - 1 else 0) = nI (y.val - 1) := by decide
    exact this ⟨y, by omega⟩
  rw [ev]
  refine hQ _ (e1.wI _ (by unfold mP; omega)) ?_ (by rw [xI_I, xupK _ _ (by omega)]; exact s1)
  obtain ⟨⟨a1, a2, a3, a4⟩, ⟨b0, b1⟩, b2, b3, b4, b5⟩ := h1
  refine ⟨⟨a1, a2, a3, a4⟩, ⟨b0, b1⟩, ?_, ?_, ?_, ?_⟩
  · refine b2.e3 (P := fun a k => a = 22) (R := noF) (F := noF) ((E3.refl _ _ _ _).wI _ rfl) fun a k q => by omega
  · rw [xI_I, xupE]
  · show (yrel 1 z.2 z.1 l).1 - 1 ≤ 20; omega
  · intro i hi
    rw [xI_I, xupA _ _ _ _ (by omega)]
    exact b5 i (by show i < (yrel 1 z.2 z.1 l).1; have : i < (yrel 1 z.2 z.1 l).1 - 1 := hi; omega)
theorem c_startChosen {M : XM} {w : Nat} {l : YL} {z : Nat × (Nat → Nat)} {Q : Option Value → XM → Prop} (h : MK M w l z)
    (hQ : ∀ M' : XM, E3 (mP w) noF noF M M' → MK M' w (yadd l (-100)) z → xI M' 22 3 = nI l.1 → Q none M') :
    RG xprog 74 0 [some (.ref 22)] [] M Q := by
  have hw := h.2.1.1
  rw [B_74_0]
  simp (disch := omega) only [lAdd, addL, lMul, mulL, nMul, nI_add, subL, lSub, nSub, nDec, nCl, lCl, nVp, lVp, nLe, nLt, nEq, lLe, leL, lLt, ltL, eqL, lEq, nM1, nM2, litLt0, one01, zero01, oneNe0, xupE, xupA, xupK, xI_I, xS_I, xF_I, xJ_I, xI_R, xS_R, xF_R, xJ_R, xI_L, xS_L, xF_L, xJ_L, xcat_s, le46, ge16, or_true, true_or, false_or, or_false, eq_self, Option.toList_some, Option.toList_none, List.cons_append, List.nil_append, true_and, and_true, not_false_eq_true, not_true_eq_false, if_true, if_false, h.1.1, h.1.2.2.2, h.2.1.2.1, h.2.2.1.1]
  have e0 : E3 (fun a k => a = 22 ∧ k = 3) noF noF M (xmI M 22 3 (nI l.1)) := (E3.refl _ _ _ _).wI _ ⟨rfl, rfl⟩
  have h0 := h.fr e0 (fun a k q => Or.inr q) (fun a k q => absurd q id)
  refine h0.addS (by decide) ?_
  intro M1 e1 h1 s1
  simp (disch := omega) only [lAdd, addL, lMul, mulL, nMul, nI_add, subL, lSub, nSub, nDec, nCl, lCl, nVp, lVp, nLe, nLt, nEq, lLe, leL, lLt, ltL, eqL, lEq, nM1, nM2, litLt0, one01, zero01, oneNe0, xupE, xupA, xupK, xI_I, xS_I, xF_I, xJ_I, xI_R, xS_R, xF_R, xJ_R, xI_L, xS_L, xF_L, xJ_L, xcat_s, le46, ge16, or_true, true_or, false_or, or_false, eq_self, Option.toList_some, Option.toList_none, List.cons_append, List.nil_append, true_and, and_true, not_false_eq_true, not_true_eq_false, if_true, if_false, B_74_20]
  refine hQ M1 ((e0.mono (fun a k q => by unfold mP; omega) (fun _ _ q => q) (fun _ _ q => q)).trans e1) h1 ?_
  rw [s1, xI_I, xupE]
theorem sk_lo {k : Nat} (h : k ≤ 400) : (-600 : Int32) ≤ -100 - nI k := by
  have : ∀ k : Fin 401, (-600 : Int32) ≤ -100 - nI k.val := by decide +kernel
  exact this ⟨k, by omega⟩
theorem c_endChosen {M : XM} {w sk : Nat} {l : YL} {z : Nat × (Nat → Nat)} {Q : Option Value → XM → Prop} (h : MK M w l z) (hs : xI M 22 3 = nI sk) (h4 : sk ≤ 400)
    (hQ : ∀ M' : XM, E3 (mP w) noF noF M M' → MK M' w (yskip (yadd l (-14)) sk) z → xI M' 22 3 = nI sk → Q none M') :
    RG xprog 76 0 [some (.ref 22)] [] M Q := by
  have hw := h.2.1.1
  rw [B_76_0]
  simp (disch := omega) only [lAdd, addL, lMul, mulL, nMul, nI_add, subL, lSub, nSub, nDec, nCl, lCl, nVp, lVp, nLe, nLt, nEq, lLe, leL, lLt, ltL, eqL, lEq, nM1, nM2, litLt0, one01, zero01, oneNe0, xupE, xupA, xupK, xI_I, xS_I, xF_I, xJ_I, xI_R, xS_R, xF_R, xJ_R, xI_L, xS_L, xF_L, xJ_L, xcat_s, le46, ge16, or_true, true_or, false_or, or_false, eq_self, Option.toList_some, Option.toList_none, List.cons_append, List.nil_append, true_and, and_true, not_false_eq_true, not_true_eq_false, if_true, if_false, h.1.1, h.1.2.2.2, h.2.1.2.1]
  refine h.addS (by decide) ?_
  intro M1 e1 h1 s1
  rw [hs] at s1
  obtain ⟨⟨a1, a2, a3, a4⟩, ⟨b0, b1⟩, b2, b3, b4, b5⟩ := h1
  generalize yadd l (-14) = y at b2 hQ
  simp (disch := omega) only [lAdd, addL, lMul, mulL, nMul, nI_add, subL, lSub, nSub, nDec, nCl, lCl, nVp, lVp, nLe, nLt, nEq, lLe, leL, lLt, ltL, eqL, lEq, nM1, nM2, litLt0, one01, zero01, oneNe0, xupE, xupA, xupK, xI_I, xS_I, xF_I, xJ_I, xI_R, xS_R, xF_R, xJ_R, xI_L, xS_L, xF_L, xJ_L, xcat_s, le46, ge16, or_true, true_or, false_or, or_false, eq_self, Option.toList_some, Option.toList_none, List.cons_append, List.nil_append, true_and, and_true, not_false_eq_true, not_true_eq_false, if_true, if_false, B_76_9, a1, a4, b1.1, s1]
  rw [B_75_0, b1.1, b2.1]
  unfold yskip at hQ
  have y4 := b2.2.1
  by_cases q : sk < y.1
  · rw [if_pos q] at hQ
    simp (disch := omega) only [lAdd, addL, lMul, mulL, nMul, nI_add, subL, lSub, nSub, nDec, nCl, lCl, nVp, lVp, nLe, nLt, nEq, lLe, leL, lLt, ltL, eqL, lEq, nM1, nM2, litLt0, one01, zero01, oneNe0, xupE, xupA, xupK, xI_I, xS_I, xF_I, xJ_I, xI_R, xS_R, xF_R, xJ_R, xI_L, xS_L, xF_L, xJ_L, xcat_s, le46, ge16, or_true, true_or, false_or, or_false, eq_self, Option.toList_some, Option.toList_none, List.cons_append, List.nil_append, true_and, and_true, not_false_eq_true, not_true_eq_false, if_true, if_false, if_neg, b1.2.1, b1.2.2.1, b1.1, B_76_20]
    refine hQ _ (e1.wI _ (by unfold mP; omega)) ⟨⟨a1, a2, a3, a4⟩, ⟨b0, b1⟩, ⟨?_, y4, ?_, ?_⟩, ?_, b4, ?_⟩ ?_
    · rw [xI_I, xupA _ _ _ _ (by omega)]; exact b2.1
    · rw [xI_I, xup_s, b2.2.2.1]
    · intro i hi
      show (-600 : Int32) ≤ xone y.2 sk (-100 - nI (y.1 - sk - 1)) i
      by_cases t : i = sk
      · rw [t, xone_s]; exact sk_lo (by omega)
      · rw [xone_n _ _ t]; exact b2.2.2.2 i hi
    · rw [xI_I, xupA _ _ _ _ (by omega)]; exact b3
    · intro i hi
      rw [xI_I, xupA _ _ _ _ (by omega)]; exact b5 i hi
    · rw [xI_I, xupA _ _ _ _ (by omega)]; exact s1
  · rw [if_neg q] at hQ
    simp (disch := omega) only [lAdd, addL, lMul, mulL, nMul, nI_add, subL, lSub, nSub, nDec, nCl, lCl, nVp, lVp, nLe, nLt, nEq, lLe, leL, lLt, ltL, eqL, lEq, nM1, nM2, litLt0, one01, zero01, oneNe0, xupE, xupA, xupK, xI_I, xS_I, xF_I, xJ_I, xI_R, xS_R, xF_R, xJ_R, xI_L, xS_L, xF_L, xJ_L, xcat_s, le46, ge16, or_true, true_or, false_or, or_false, eq_self, Option.toList_some, Option.toList_none, List.cons_append, List.nil_append, true_and, and_true, not_false_eq_true, not_true_eq_false, if_true, if_false, if_neg, if_pos, B_76_20]
    exact hQ M1 e1 ⟨⟨a1, a2, a3, a4⟩, ⟨b0, b1⟩, b2, b3, b4, b5⟩ s1
