/-! THE LAW: one case for each kind of call -/
def LSc (L : Nat) (xs : Nat → Int32) (M : XM) : Prop := xS M 1 = (40, L) ∧ (∀ j, xI M 1 j = xs j) ∧ M.1.1 ≤ 600000 ∧ M.1.2 ≤ 7302250 ∧ ∀ b, b < 16 → xS M b = xsh0 L b ∧ xI M b = xmi0 xs b ∧ xF M b = xmr0 b
/-- what stands before each call; PK: what the parsers' tables hold -/
def LG (PK : (Nat → Nat → Int64) → Prop) (L : Nat) (xs : Nat → Int32) (B : Nat) (M : XM) : Prop := LSc L xs M ∧ PK (xJ M) ∧ ∃ t lv S, CW M t S ∧ RWd M lv S ∧ SInv B S
theorem LSc.exP {L : Nat} {xs : Nat → Int32} {M M' : XM} {P : Nat → Nat → Prop} (h : LSc L xs M) (e : Ex P M M') (hp : ∀ b k, b < 16 → ¬ P b k) : LSc L xs M' := by
  obtain ⟨h1, h2, h3, h4, h5⟩ := h
  refine ⟨by rw [e.S]; exact h1, fun j => by rw [e.I (hp 1 j (by omega))]; exact h2 j, ?_, ?_, fun b hb => by rw [e.S, e.F, e.row (fun k q => hp b k hb q)]; exact h5 b hb⟩
  · rw [e.1]; exact h3
  · rw [e.1]; exact h4
theorem LSc.exC {L : Nat} {xs : Nat → Int32} {M M' : XM} (h : LSc L xs M) (e : Ex cR M M') : LSc L xs M' := h.exP e fun b k hb q => by unfold cR at q; omega
theorem LSc.exR {L : Nat} {xs : Nat → Int32} {M M' : XM} (h : LSc L xs M) (e : Ex rR M M') : LSc L xs M' := h.exP e fun b k hb q => by unfold rR at q; omega
theorem lse {L : Nat} {xs : Nat → Int32} {M M' : XM} (h : LSc L xs M) (e : Ex cR M M') (j : Nat) : xI M' 1 j = xI M 1 j := by rw [(h.exC e).2.1 j, h.2.1 j]
theorem crS (a k : Nat) (h : cR a k) : rS a k := by unfold cR at h; unfold rS; omega
theorem rcS {t : Nat} (a k : Nat) (h : rR a k) : cS t a k := by unfold rR at h; unfold cS; omega
theorem DB.up {B B' : Nat} {F : XO} (h : DB B F) (hb : B ≤ B') : DB B' F := by
  obtain ⟨d, q1, q2⟩ := h
  exact ⟨d, by omega, q2⟩
theorem SInv.up {B B' : Nat} {S : XS} (h : SInv B S) (hb : B ≤ B') : SInv B' S := by
  obtain ⟨h1, h2, h3, h4, h5, h6, h7, h8⟩ := h
  exact ⟨h1, h2, h3.up hb, h4, h5, fun i hi => ⟨(h6 i hi).1, (h6 i hi).2.up hb⟩, fun i hi G hG => ⟨(h7 i hi G hG).1, (h7 i hi G hG).2.up hb⟩, h8⟩
theorem LG.mk2 {PK : (Nat → Nat → Int64) → Prop} {L B t lv : Nat} {xs : Nat → Int32} {M M1 M2 : XM} {S : XS} (hs : LSc L xs M) (hp : PK (xJ M)) (e1 : Ex cR M M1) (e2 : Ex rR M1 M2) (hc : CW M1 t S) (hr : RWd M2 lv S) (hi : SInv B S) : LG PK L xs B M2 :=
  ⟨(hs.exC e1).exR e2, by rw [e2.2.2.2.1, e1.2.2.2.1]; exact hp, t, lv, S, hc.ex e2 rcS, hr, hi⟩
theorem law_feed {PK : (Nat → Nat → Int64) → Prop} {L k : Nat} {xs : Nat → Int32} {M : XM} {Q : Option Value → XM → Prop} (hL : L ≤ 3072) (hk : 6 * k + 6 ≤ L) (h : LG PK L xs (60 * k) M)
    (hn : ∀ M' : XM, LG PK L xs (60 * (k + 1)) M' → RG xprog 293 18 [some (.ref 1), some (.ref 16), some (.ref 439), some (.int (nI (6 * k + 6)))] [] M' Q) :
    RG xprog 33 0 [some (.ref 16), some (.int (xI M 1 (6 * k + 1))), some (.int (xI M 1 (6 * k + 2))), some (.int (xI M 1 (6 * k + 3))), some (.int (xI M 1 (6 * k + 4))), some (.int (xI M 1 (6 * k + 5)))] [] M (fun v M' => RG xprog 293 229 [some (.ref 1), some (.ref 16), some (.ref 439), some (.int (nI (6 * k)))] (v.toList ++ []) M' Q) := by
  obtain ⟨hs, hp, t, lv, S, hc, hr, hi⟩ := h
  refine c_feed hc hi ?_
  intro M1 e1 hc1
  have hs1 := hs.exC e1
  simp (disch := omega) only [lAdd, addL, lMul, mulL, nMul, nI_add, subL, lSub, nSub, nDec, nCl, lCl, nVp, lVp, nLe, nLt, nEq, lLe, leL, lLt, ltL, eqL, lEq, nM1, nM2, litLt0, one01, zero01, oneNe0, xupE, xupA, xupK, xI_I, xS_I, xF_I, xJ_I, xI_R, xS_R, xF_R, xJ_R, xI_L, xS_L, xF_L, xJ_L, xcat_s, le46, ge16, or_true, true_or, false_or, or_false, eq_self, Option.toList_some, Option.toList_none, List.cons_append, List.nil_append, true_and, and_true, not_false_eq_true, not_true_eq_false, if_true, if_false, B_293_229, hs1.1, (hr.ex e1 crS).1.1.s, lse hs e1]
  refine r_feed (hr.ex e1 crS) hi ?_
  intro M2 e2 hr2
  simp (disch := omega) only [lAdd, addL, lMul, mulL, nMul, nI_add, subL, lSub, nSub, nDec, nCl, lCl, nVp, lVp, nLe, nLt, nEq, lLe, leL, lLt, ltL, eqL, lEq, nM1, nM2, litLt0, one01, zero01, oneNe0, xupE, xupA, xupK, xI_I, xS_I, xF_I, xJ_I, xI_R, xS_R, xF_R, xJ_R, xI_L, xS_L, xF_L, xJ_L, xcat_s, le46, ge16, or_true, true_or, false_or, or_false, eq_self, Option.toList_some, Option.toList_none, List.cons_append, List.nil_append, true_and, and_true, not_false_eq_true, not_true_eq_false, if_true, if_false, B_293_258]
  exact hn M2 (LG.mk2 hs hp e1 e2 hc1 hr2 ((i_feed hi).up (by omega)))
theorem law_back {PK : (Nat → Nat → Int64) → Prop} {L k : Nat} {xs : Nat → Int32} {M : XM} {Q : Option Value → XM → Prop} (hL : L ≤ 3072) (hk : 6 * k + 6 ≤ L) (h : LG PK L xs (60 * k) M)
    (hn : ∀ M' : XM, LG PK L xs (60 * (k + 1)) M' → RG xprog 293 18 [some (.ref 1), some (.ref 16), some (.ref 439), some (.int (nI (6 * k + 6)))] [] M' Q) :
    RG xprog 36 0 [some (.ref 16), some (.int (xI M 1 (6 * k + 1)))] [] M (fun v M' => RG xprog 293 272 [some (.ref 1), some (.ref 16), some (.ref 439), some (.int (nI (6 * k)))] (v.toList ++ []) M' Q) := by
  obtain ⟨hs, hp, t, lv, S, hc, hr, hi⟩ := h
  refine c_back hc hi ?_
  intro M1 e1 hc1
  have hs1 := hs.exC e1
  simp (disch := omega) only [lAdd, addL, lMul, mulL, nMul, nI_add, subL, lSub, nSub, nDec, nCl, lCl, nVp, lVp, nLe, nLt, nEq, lLe, leL, lLt, ltL, eqL, lEq, nM1, nM2, litLt0, one01, zero01, oneNe0, xupE, xupA, xupK, xI_I, xS_I, xF_I, xJ_I, xI_R, xS_R, xF_R, xJ_R, xI_L, xS_L, xF_L, xJ_L, xcat_s, le46, ge16, or_true, true_or, false_or, or_false, eq_self, Option.toList_some, Option.toList_none, List.cons_append, List.nil_append, true_and, and_true, not_false_eq_true, not_true_eq_false, if_true, if_false, B_293_272, hs1.1, (hr.ex e1 crS).1.1.s, lse hs e1]
  refine r_back (hr.ex e1 crS) hi ?_
  intro M2 e2 hr2
  simp (disch := omega) only [lAdd, addL, lMul, mulL, nMul, nI_add, subL, lSub, nSub, nDec, nCl, lCl, nVp, lVp, nLe, nLt, nEq, lLe, leL, lLt, ltL, eqL, lEq, nM1, nM2, litLt0, one01, zero01, oneNe0, xupE, xupA, xupK, xI_I, xS_I, xF_I, xJ_I, xI_R, xS_R, xF_R, xJ_R, xI_L, xS_L, xF_L, xJ_L, xcat_s, le46, ge16, or_true, true_or, false_or, or_false, eq_self, Option.toList_some, Option.toList_none, List.cons_append, List.nil_append, true_and, and_true, not_false_eq_true, not_true_eq_false, if_true, if_false, B_293_281]
  exact hn M2 (LG.mk2 hs hp e1 e2 hc1 hr2 ((i_back hi).up (by omega)))
theorem law_place {PK : (Nat → Nat → Int64) → Prop} {L k : Nat} {xs : Nat → Int32} {M : XM} {Q : Option Value → XM → Prop} (hL : L ≤ 3072) (hk : 6 * k + 6 ≤ L) (h : LG PK L xs (60 * k) M)
    (hn : ∀ M' : XM, LG PK L xs (60 * (k + 1)) M' → RG xprog 293 18 [some (.ref 1), some (.ref 16), some (.ref 439), some (.int (nI (6 * k + 6)))] [] M' Q) :
    RG xprog 108 0 [some (.ref 16)] [] M (fun v M' => RG xprog 293 303 [some (.ref 1), some (.ref 16), some (.ref 439), some (.int (nI (6 * k)))] (v.toList ++ []) M' Q) := by
  obtain ⟨hs, hp, t, lv, S, hc, hr, hi⟩ := h
  refine c_place ⟨hc, Ex.refl _ _⟩ ?_
  intro M1 k1
  have e1 := k1.2
  have hc1 := k1.1
  have hs1 := hs.exC e1
  simp (disch := omega) only [lAdd, addL, lMul, mulL, nMul, nI_add, subL, lSub, nSub, nDec, nCl, lCl, nVp, lVp, nLe, nLt, nEq, lLe, leL, lLt, ltL, eqL, lEq, nM1, nM2, litLt0, one01, zero01, oneNe0, xupE, xupA, xupK, xI_I, xS_I, xF_I, xJ_I, xI_R, xS_R, xF_R, xJ_R, xI_L, xS_L, xF_L, xJ_L, xcat_s, le46, ge16, or_true, true_or, false_or, or_false, eq_self, Option.toList_some, Option.toList_none, List.cons_append, List.nil_append, true_and, and_true, not_false_eq_true, not_true_eq_false, if_true, if_false, B_293_303, hs1.1, (hr.ex e1 crS).1.1.s, lse hs e1]
  refine r_place ⟨hr.ex e1 crS, Ex.refl _ _⟩ ?_
  intro M2 k2
  have e2 := k2.2
  have hr2 := k2.1
  simp (disch := omega) only [lAdd, addL, lMul, mulL, nMul, nI_add, subL, lSub, nSub, nDec, nCl, lCl, nVp, lVp, nLe, nLt, nEq, lLe, leL, lLt, ltL, eqL, lEq, nM1, nM2, litLt0, one01, zero01, oneNe0, xupE, xupA, xupK, xI_I, xS_I, xF_I, xJ_I, xI_R, xS_R, xF_R, xJ_R, xI_L, xS_L, xF_L, xJ_L, xcat_s, le46, ge16, or_true, true_or, false_or, or_false, eq_self, Option.toList_some, Option.toList_none, List.cons_append, List.nil_append, true_and, and_true, not_false_eq_true, not_true_eq_false, if_true, if_false, B_293_307]
  exact hn M2 (LG.mk2 hs hp e1 e2 hc1 hr2 (hi.up (by omega)))
theorem law_letter {PK : (Nat → Nat → Int64) → Prop} {L k : Nat} {xs : Nat → Int32} {M : XM} {Q : Option Value → XM → Prop} (hL : L ≤ 3072) (hk : 6 * k + 6 ≤ L) (h : LG PK L xs (60 * k) M)
    (hn : ∀ M' : XM, LG PK L xs (60 * (k + 1)) M' → RG xprog 293 18 [some (.ref 1), some (.ref 16), some (.ref 439), some (.int (nI (6 * k + 6)))] [] M' Q) :
    RG xprog 112 0 [some (.ref 16), some (.int (xI M 1 (6 * k + 1))), some (.int (xI M 1 (6 * k + 2)))] [] M (fun v M' => RG xprog 293 326 [some (.ref 1), some (.ref 16), some (.ref 439), some (.int (nI (6 * k)))] (v.toList ++ []) M' Q) := by
  obtain ⟨hs, hp, t, lv, S, hc, hr, hi⟩ := h
  refine c_letter ⟨hc, Ex.refl _ _⟩ ?_
  intro M1 k1
  have e1 := k1.2
  have hc1 := k1.1
  have hs1 := hs.exC e1
  simp (disch := omega) only [lAdd, addL, lMul, mulL, nMul, nI_add, subL, lSub, nSub, nDec, nCl, lCl, nVp, lVp, nLe, nLt, nEq, lLe, leL, lLt, ltL, eqL, lEq, nM1, nM2, litLt0, one01, zero01, oneNe0, xupE, xupA, xupK, xI_I, xS_I, xF_I, xJ_I, xI_R, xS_R, xF_R, xJ_R, xI_L, xS_L, xF_L, xJ_L, xcat_s, le46, ge16, or_true, true_or, false_or, or_false, eq_self, Option.toList_some, Option.toList_none, List.cons_append, List.nil_append, true_and, and_true, not_false_eq_true, not_true_eq_false, if_true, if_false, B_293_326, hs1.1, (hr.ex e1 crS).1.1.s, lse hs e1]
  refine r_letter ⟨hr.ex e1 crS, Ex.refl _ _⟩ hi (by omega) ?_
  intro M2 k2
  have e2 := k2.2
  have hr2 := k2.1
  simp (disch := omega) only [lAdd, addL, lMul, mulL, nMul, nI_add, subL, lSub, nSub, nDec, nCl, lCl, nVp, lVp, nLe, nLt, nEq, lLe, leL, lLt, ltL, eqL, lEq, nM1, nM2, litLt0, one01, zero01, oneNe0, xupE, xupA, xupK, xI_I, xS_I, xF_I, xJ_I, xI_R, xS_R, xF_R, xJ_R, xI_L, xS_L, xF_L, xJ_L, xcat_s, le46, ge16, or_true, true_or, false_or, or_false, eq_self, Option.toList_some, Option.toList_none, List.cons_append, List.nil_append, true_and, and_true, not_false_eq_true, not_true_eq_false, if_true, if_false, B_293_340]
  exact hn M2 (LG.mk2 hs hp e1 e2 hc1 hr2 (hi.up (by omega)))
theorem law_reader {PK : (Nat → Nat → Int64) → Prop} {L k : Nat} {xs : Nat → Int32} {M : XM} {Q : Option Value → XM → Prop} (hL : L ≤ 3072) (hk : 6 * k + 6 ≤ L) (h : LG PK L xs (60 * k) M)
    (hn : ∀ M' : XM, LG PK L xs (60 * (k + 1)) M' → RG xprog 293 18 [some (.ref 1), some (.ref 16), some (.ref 439), some (.int (nI (6 * k + 6)))] [] M' Q) :
    RG xprog 120 0 [some (.ref 16), some (.int (xI M 1 (6 * k + 1))), some (.int (xI M 1 (6 * k + 2)))] [] M (fun v M' => RG xprog 293 359 [some (.ref 1), some (.ref 16), some (.ref 439), some (.int (nI (6 * k)))] (v.toList ++ []) M' Q) := by
  obtain ⟨hs, hp, t, lv, S, hc, hr, hi⟩ := h
  refine c_reader ⟨hc, Ex.refl _ _⟩ ?_
  intro M1 k1
  have e1 := k1.2
  have hc1 := k1.1
  have hs1 := hs.exC e1
  simp (disch := omega) only [lAdd, addL, lMul, mulL, nMul, nI_add, subL, lSub, nSub, nDec, nCl, lCl, nVp, lVp, nLe, nLt, nEq, lLe, leL, lLt, ltL, eqL, lEq, nM1, nM2, litLt0, one01, zero01, oneNe0, xupE, xupA, xupK, xI_I, xS_I, xF_I, xJ_I, xI_R, xS_R, xF_R, xJ_R, xI_L, xS_L, xF_L, xJ_L, xcat_s, le46, ge16, or_true, true_or, false_or, or_false, eq_self, Option.toList_some, Option.toList_none, List.cons_append, List.nil_append, true_and, and_true, not_false_eq_true, not_true_eq_false, if_true, if_false, B_293_359, hs1.1, (hr.ex e1 crS).1.1.s, lse hs e1]
  refine r_reader ⟨hr.ex e1 crS, Ex.refl _ _⟩ hi (by omega) ?_
  intro M2 k2
  have e2 := k2.2
  have hr2 := k2.1
  simp (disch := omega) only [lAdd, addL, lMul, mulL, nMul, nI_add, subL, lSub, nSub, nDec, nCl, lCl, nVp, lVp, nLe, nLt, nEq, lLe, leL, lLt, ltL, eqL, lEq, nM1, nM2, litLt0, one01, zero01, oneNe0, xupE, xupA, xupK, xI_I, xS_I, xF_I, xJ_I, xI_R, xS_R, xF_R, xJ_R, xI_L, xS_L, xF_L, xJ_L, xcat_s, le46, ge16, or_true, true_or, false_or, or_false, eq_self, Option.toList_some, Option.toList_none, List.cons_append, List.nil_append, true_and, and_true, not_false_eq_true, not_true_eq_false, if_true, if_false, B_293_373]
  exact hn M2 (LG.mk2 hs hp e1 e2 hc1 hr2 (hi.up (by omega)))
theorem law_tells {PK : (Nat → Nat → Int64) → Prop} {L k : Nat} {xs : Nat → Int32} {M : XM} {Q : Option Value → XM → Prop} (hL : L ≤ 3072) (hk : 6 * k + 6 ≤ L) (h : LG PK L xs (60 * k) M)
    (hn : ∀ M' : XM, LG PK L xs (60 * (k + 1)) M' → RG xprog 293 18 [some (.ref 1), some (.ref 16), some (.ref 439), some (.int (nI (6 * k + 6)))] [] M' Q) :
    RG xprog 132 0 [some (.ref 16), some (.int (xI M 1 (6 * k + 1))), some (.int (xI M 1 (6 * k + 2))), some (.int (xI M 1 (6 * k + 3)))] [] M (fun v M' => RG xprog 293 397 [some (.ref 1), some (.ref 16), some (.ref 439), some (.int (nI (6 * k)))] (v.toList ++ []) M' Q) := by
  obtain ⟨hs, hp, t, lv, S, hc, hr, hi⟩ := h
  refine c_tells ⟨hc, Ex.refl _ _⟩ ?_
  intro M1 k1
  have e1 := k1.2
  have hc1 := k1.1
  have hs1 := hs.exC e1
  simp (disch := omega) only [lAdd, addL, lMul, mulL, nMul, nI_add, subL, lSub, nSub, nDec, nCl, lCl, nVp, lVp, nLe, nLt, nEq, lLe, leL, lLt, ltL, eqL, lEq, nM1, nM2, litLt0, one01, zero01, oneNe0, xupE, xupA, xupK, xI_I, xS_I, xF_I, xJ_I, xI_R, xS_R, xF_R, xJ_R, xI_L, xS_L, xF_L, xJ_L, xcat_s, le46, ge16, or_true, true_or, false_or, or_false, eq_self, Option.toList_some, Option.toList_none, List.cons_append, List.nil_append, true_and, and_true, not_false_eq_true, not_true_eq_false, if_true, if_false, B_293_397, hs1.1, (hr.ex e1 crS).1.1.s, lse hs e1]
  refine r_tells ⟨hr.ex e1 crS, Ex.refl _ _⟩ hi (by omega) ?_
  intro M2 k2
  have e2 := k2.2
  have hr2 := k2.1
  simp (disch := omega) only [lAdd, addL, lMul, mulL, nMul, nI_add, subL, lSub, nSub, nDec, nCl, lCl, nVp, lVp, nLe, nLt, nEq, lLe, leL, lLt, ltL, eqL, lEq, nM1, nM2, litLt0, one01, zero01, oneNe0, xupE, xupA, xupK, xI_I, xS_I, xF_I, xJ_I, xI_R, xS_R, xF_R, xJ_R, xI_L, xS_L, xF_L, xJ_L, xcat_s, le46, ge16, or_true, true_or, false_or, or_false, eq_self, Option.toList_some, Option.toList_none, List.cons_append, List.nil_append, true_and, and_true, not_false_eq_true, not_true_eq_false, if_true, if_false, B_293_416]
  exact hn M2 (LG.mk2 hs hp e1 e2 hc1 hr2 (hi.up (by omega)))
theorem law_answers {PK : (Nat → Nat → Int64) → Prop} {L k : Nat} {xs : Nat → Int32} {M : XM} {Q : Option Value → XM → Prop} (hL : L ≤ 3072) (hk : 6 * k + 6 ≤ L) (h : LG PK L xs (60 * k) M)
    (hn : ∀ M' : XM, LG PK L xs (60 * (k + 1)) M' → RG xprog 293 18 [some (.ref 1), some (.ref 16), some (.ref 439), some (.int (nI (6 * k + 6)))] [] M' Q) :
    RG xprog 143 0 [some (.ref 16), some (.int (xI M 1 (6 * k + 1))), some (.int (xI M 1 (6 * k + 2)))] [] M (fun v M' => RG xprog 293 435 [some (.ref 1), some (.ref 16), some (.ref 439), some (.int (nI (6 * k)))] (v.toList ++ []) M' Q) := by
  obtain ⟨hs, hp, t, lv, S, hc, hr, hi⟩ := h
  refine c_answers ⟨hc, Ex.refl _ _⟩ ?_
  intro M1 k1
  have e1 := k1.2
  have hc1 := k1.1
  have hs1 := hs.exC e1
  simp (disch := omega) only [lAdd, addL, lMul, mulL, nMul, nI_add, subL, lSub, nSub, nDec, nCl, lCl, nVp, lVp, nLe, nLt, nEq, lLe, leL, lLt, ltL, eqL, lEq, nM1, nM2, litLt0, one01, zero01, oneNe0, xupE, xupA, xupK, xI_I, xS_I, xF_I, xJ_I, xI_R, xS_R, xF_R, xJ_R, xI_L, xS_L, xF_L, xJ_L, xcat_s, le46, ge16, or_true, true_or, false_or, or_false, eq_self, Option.toList_some, Option.toList_none, List.cons_append, List.nil_append, true_and, and_true, not_false_eq_true, not_true_eq_false, if_true, if_false, B_293_435, hs1.1, (hr.ex e1 crS).1.1.s, lse hs e1]
  refine r_answers ⟨hr.ex e1 crS, Ex.refl _ _⟩ hi (by omega) ?_
  intro M2 k2
  have e2 := k2.2
  have hr2 := k2.1
  simp (disch := omega) only [lAdd, addL, lMul, mulL, nMul, nI_add, subL, lSub, nSub, nDec, nCl, lCl, nVp, lVp, nLe, nLt, nEq, lLe, leL, lLt, ltL, eqL, lEq, nM1, nM2, litLt0, one01, zero01, oneNe0, xupE, xupA, xupK, xI_I, xS_I, xF_I, xJ_I, xI_R, xS_R, xF_R, xJ_R, xI_L, xS_L, xF_L, xJ_L, xcat_s, le46, ge16, or_true, true_or, false_or, or_false, eq_self, Option.toList_some, Option.toList_none, List.cons_append, List.nil_append, true_and, and_true, not_false_eq_true, not_true_eq_false, if_true, if_false, B_293_449]
  exact hn M2 (LG.mk2 hs hp e1 e2 hc1 hr2 (hi.up (by omega)))
theorem law_send {PK : (Nat → Nat → Int64) → Prop} {L k : Nat} {xs : Nat → Int32} {M : XM} {Q : Option Value → XM → Prop} (hL : L ≤ 3072) (hk : 6 * k + 6 ≤ L) (h : LG PK L xs (60 * k) M)
    (hn : ∀ M' : XM, LG PK L xs (60 * (k + 1)) M' → RG xprog 293 18 [some (.ref 1), some (.ref 16), some (.ref 439), some (.int (nI (6 * k + 6)))] [] M' Q) :
    RG xprog 151 0 [some (.ref 16), some (.int (xI M 1 (6 * k + 1))), some (.int (xI M 1 (6 * k + 2)))] [] M (fun v M' => RG xprog 293 468 [some (.ref 1), some (.ref 16), some (.ref 439), some (.int (nI (6 * k)))] (v.toList ++ []) M' Q) := by
  obtain ⟨hs, hp, t, lv, S, hc, hr, hi⟩ := h
  refine c_send hc hi ?_
  intro M1 e1 hc1
  have hs1 := hs.exC e1
  simp (disch := omega) only [lAdd, addL, lMul, mulL, nMul, nI_add, subL, lSub, nSub, nDec, nCl, lCl, nVp, lVp, nLe, nLt, nEq, lLe, leL, lLt, ltL, eqL, lEq, nM1, nM2, litLt0, one01, zero01, oneNe0, xupE, xupA, xupK, xI_I, xS_I, xF_I, xJ_I, xI_R, xS_R, xF_R, xJ_R, xI_L, xS_L, xF_L, xJ_L, xcat_s, le46, ge16, or_true, true_or, false_or, or_false, eq_self, Option.toList_some, Option.toList_none, List.cons_append, List.nil_append, true_and, and_true, not_false_eq_true, not_true_eq_false, if_true, if_false, B_293_468, hs1.1, (hr.ex e1 crS).1.1.s, lse hs e1]
  refine r_send ⟨hr.ex e1 crS, Ex.refl _ _⟩ hi (by omega) ?_
  intro M2 e2 hr2
  simp (disch := omega) only [lAdd, addL, lMul, mulL, nMul, nI_add, subL, lSub, nSub, nDec, nCl, lCl, nVp, lVp, nLe, nLt, nEq, lLe, leL, lLt, ltL, eqL, lEq, nM1, nM2, litLt0, one01, zero01, oneNe0, xupE, xupA, xupK, xI_I, xS_I, xF_I, xJ_I, xI_R, xS_R, xF_R, xJ_R, xI_L, xS_L, xF_L, xJ_L, xcat_s, le46, ge16, or_true, true_or, false_or, or_false, eq_self, Option.toList_some, Option.toList_none, List.cons_append, List.nil_append, true_and, and_true, not_false_eq_true, not_true_eq_false, if_true, if_false, B_293_482]
  exact hn M2 (LG.mk2 hs hp e1 e2 hc1 hr2 ((i_send hi).up (by omega)))
theorem law_takeBack {PK : (Nat → Nat → Int64) → Prop} {L k : Nat} {xs : Nat → Int32} {M : XM} {Q : Option Value → XM → Prop} (hL : L ≤ 3072) (hk : 6 * k + 6 ≤ L) (h : LG PK L xs (60 * k) M)
    (hn : ∀ M' : XM, LG PK L xs (60 * (k + 1)) M' → RG xprog 293 18 [some (.ref 1), some (.ref 16), some (.ref 439), some (.int (nI (6 * k + 6)))] [] M' Q) :
    RG xprog 157 0 [some (.ref 16), some (.int (xI M 1 (6 * k + 1)))] [] M (fun v M' => RG xprog 293 496 [some (.ref 1), some (.ref 16), some (.ref 439), some (.int (nI (6 * k)))] (v.toList ++ []) M' Q) := by
  obtain ⟨hs, hp, t, lv, S, hc, hr, hi⟩ := h
  refine c_takeBack hc hi ?_
  intro M1 e1 hc1
  have hs1 := hs.exC e1
  simp (disch := omega) only [lAdd, addL, lMul, mulL, nMul, nI_add, subL, lSub, nSub, nDec, nCl, lCl, nVp, lVp, nLe, nLt, nEq, lLe, leL, lLt, ltL, eqL, lEq, nM1, nM2, litLt0, one01, zero01, oneNe0, xupE, xupA, xupK, xI_I, xS_I, xF_I, xJ_I, xI_R, xS_R, xF_R, xJ_R, xI_L, xS_L, xF_L, xJ_L, xcat_s, le46, ge16, or_true, true_or, false_or, or_false, eq_self, Option.toList_some, Option.toList_none, List.cons_append, List.nil_append, true_and, and_true, not_false_eq_true, not_true_eq_false, if_true, if_false, B_293_496, hs1.1, (hr.ex e1 crS).1.1.s, lse hs e1]
  refine r_takeBack ⟨hr.ex e1 crS, Ex.refl _ _⟩ hi (by omega) ?_
  intro M2 e2 hr2
  simp (disch := omega) only [lAdd, addL, lMul, mulL, nMul, nI_add, subL, lSub, nSub, nDec, nCl, lCl, nVp, lVp, nLe, nLt, nEq, lLe, leL, lLt, ltL, eqL, lEq, nM1, nM2, litLt0, one01, zero01, oneNe0, xupE, xupA, xupK, xI_I, xS_I, xF_I, xJ_I, xI_R, xS_R, xF_R, xJ_R, xI_L, xS_L, xF_L, xJ_L, xcat_s, le46, ge16, or_true, true_or, false_or, or_false, eq_self, Option.toList_some, Option.toList_none, List.cons_append, List.nil_append, true_and, and_true, not_false_eq_true, not_true_eq_false, if_true, if_false, B_293_505]
  exact hn M2 (LG.mk2 hs hp e1 e2 hc1 hr2 ((i_takeBack hi).up (by omega)))
theorem law_burn {PK : (Nat → Nat → Int64) → Prop} {L k : Nat} {xs : Nat → Int32} {M : XM} {Q : Option Value → XM → Prop} (hL : L ≤ 3072) (hk : 6 * k + 6 ≤ L) (h : LG PK L xs (60 * k) M)
    (hn : ∀ M' : XM, LG PK L xs (60 * (k + 1)) M' → RG xprog 293 18 [some (.ref 1), some (.ref 16), some (.ref 439), some (.int (nI (6 * k + 6)))] [] M' Q) :
    RG xprog 159 0 [some (.ref 16), some (.int (xI M 1 (6 * k + 1)))] [] M (fun v M' => RG xprog 293 519 [some (.ref 1), some (.ref 16), some (.ref 439), some (.int (nI (6 * k)))] (v.toList ++ []) M' Q) := by
  obtain ⟨hs, hp, t, lv, S, hc, hr, hi⟩ := h
  refine c_burn hc hi ?_
  intro M1 e1 hc1
  have hs1 := hs.exC e1
  simp (disch := omega) only [lAdd, addL, lMul, mulL, nMul, nI_add, subL, lSub, nSub, nDec, nCl, lCl, nVp, lVp, nLe, nLt, nEq, lLe, leL, lLt, ltL, eqL, lEq, nM1, nM2, litLt0, one01, zero01, oneNe0, xupE, xupA, xupK, xI_I, xS_I, xF_I, xJ_I, xI_R, xS_R, xF_R, xJ_R, xI_L, xS_L, xF_L, xJ_L, xcat_s, le46, ge16, or_true, true_or, false_or, or_false, eq_self, Option.toList_some, Option.toList_none, List.cons_append, List.nil_append, true_and, and_true, not_false_eq_true, not_true_eq_false, if_true, if_false, B_293_519, hs1.1, (hr.ex e1 crS).1.1.s, lse hs e1]
  refine r_burn ⟨hr.ex e1 crS, Ex.refl _ _⟩ hi (by omega) ?_
  intro M2 e2 hr2
  simp (disch := omega) only [lAdd, addL, lMul, mulL, nMul, nI_add, subL, lSub, nSub, nDec, nCl, lCl, nVp, lVp, nLe, nLt, nEq, lLe, leL, lLt, ltL, eqL, lEq, nM1, nM2, litLt0, one01, zero01, oneNe0, xupE, xupA, xupK, xI_I, xS_I, xF_I, xJ_I, xI_R, xS_R, xF_R, xJ_R, xI_L, xS_L, xF_L, xJ_L, xcat_s, le46, ge16, or_true, true_or, false_or, or_false, eq_self, Option.toList_some, Option.toList_none, List.cons_append, List.nil_append, true_and, and_true, not_false_eq_true, not_true_eq_false, if_true, if_false, B_293_528]
  exact hn M2 (LG.mk2 hs hp e1 e2 hc1 hr2 ((i_burn hi).up (by omega)))
theorem law_days {PK : (Nat → Nat → Int64) → Prop} {L k : Nat} {xs : Nat → Int32} {M : XM} {Q : Option Value → XM → Prop} (hL : L ≤ 3072) (hk : 6 * k + 6 ≤ L) (h : LG PK L xs (60 * k) M)
    (hn : ∀ M' : XM, LG PK L xs (60 * (k + 1)) M' → RG xprog 293 18 [some (.ref 1), some (.ref 16), some (.ref 439), some (.int (nI (6 * k + 6)))] [] M' Q) :
    RG xprog 174 0 [some (.ref 16), some (.int (xI M 1 (6 * k + 1))), none] [] M (fun v M' => RG xprog 293 542 [some (.ref 1), some (.ref 16), some (.ref 439), some (.int (nI (6 * k)))] (v.toList ++ []) M' Q) := by
  obtain ⟨hs, hp, t, lv, S, hc, hr, hi⟩ := h
  refine c_days hc hi ?_
  intro M1 e1 hc1
  have hs1 := hs.exC e1
  simp (disch := omega) only [lAdd, addL, lMul, mulL, nMul, nI_add, subL, lSub, nSub, nDec, nCl, lCl, nVp, lVp, nLe, nLt, nEq, lLe, leL, lLt, ltL, eqL, lEq, nM1, nM2, litLt0, one01, zero01, oneNe0, xupE, xupA, xupK, xI_I, xS_I, xF_I, xJ_I, xI_R, xS_R, xF_R, xJ_R, xI_L, xS_L, xF_L, xJ_L, xcat_s, le46, ge16, or_true, true_or, false_or, or_false, eq_self, Option.toList_some, Option.toList_none, List.cons_append, List.nil_append, true_and, and_true, not_false_eq_true, not_true_eq_false, if_true, if_false, B_293_542, hs1.1, (hr.ex e1 crS).1.1.s, lse hs e1]
  refine r_days ⟨hr.ex e1 crS, Ex.refl _ _⟩ hi (by omega) ?_
  intro M2 e2 hr2
  simp (disch := omega) only [lAdd, addL, lMul, mulL, nMul, nI_add, subL, lSub, nSub, nDec, nCl, lCl, nVp, lVp, nLe, nLt, nEq, lLe, leL, lLt, ltL, eqL, lEq, nM1, nM2, litLt0, one01, zero01, oneNe0, xupE, xupA, xupK, xI_I, xS_I, xF_I, xJ_I, xI_R, xS_R, xF_R, xJ_R, xI_L, xS_L, xF_L, xJ_L, xcat_s, le46, ge16, or_true, true_or, false_or, or_false, eq_self, Option.toList_some, Option.toList_none, List.cons_append, List.nil_append, true_and, and_true, not_false_eq_true, not_true_eq_false, if_true, if_false, B_293_551]
  exact hn M2 (LG.mk2 hs hp e1 e2 hc1 hr2 ((i_days hi).up (by omega)))
theorem law_undo {PK : (Nat → Nat → Int64) → Prop} {L k : Nat} {xs : Nat → Int32} {M : XM} {Q : Option Value → XM → Prop} (hL : L ≤ 3072) (hk : 6 * k + 6 ≤ L) (h : LG PK L xs (60 * k) M)
    (hn : ∀ M' : XM, LG PK L xs (60 * (k + 1)) M' → RG xprog 293 18 [some (.ref 1), some (.ref 16), some (.ref 439), some (.int (nI (6 * k + 6)))] [] M' Q) :
    RG xprog 184 0 [some (.ref 16)] [] M (fun v M' => RG xprog 293 560 [some (.ref 1), some (.ref 16), some (.ref 439), some (.int (nI (6 * k)))] (v.toList ++ []) M' Q) := by
  obtain ⟨hs, hp, t, lv, S, hc, hr, hi⟩ := h
  refine c_undo hc hi ?_
  intro M1 e1 hc1
  have hs1 := hs.exC e1
  simp (disch := omega) only [lAdd, addL, lMul, mulL, nMul, nI_add, subL, lSub, nSub, nDec, nCl, lCl, nVp, lVp, nLe, nLt, nEq, lLe, leL, lLt, ltL, eqL, lEq, nM1, nM2, litLt0, one01, zero01, oneNe0, xupE, xupA, xupK, xI_I, xS_I, xF_I, xJ_I, xI_R, xS_R, xF_R, xJ_R, xI_L, xS_L, xF_L, xJ_L, xcat_s, le46, ge16, or_true, true_or, false_or, or_false, eq_self, Option.toList_some, Option.toList_none, List.cons_append, List.nil_append, true_and, and_true, not_false_eq_true, not_true_eq_false, if_true, if_false, B_293_560, hs1.1, (hr.ex e1 crS).1.1.s, lse hs e1]
  refine r_undo (hr.ex e1 crS) hi ?_
  intro M2 e2 hr2
  simp (disch := omega) only [lAdd, addL, lMul, mulL, nMul, nI_add, subL, lSub, nSub, nDec, nCl, lCl, nVp, lVp, nLe, nLt, nEq, lLe, leL, lLt, ltL, eqL, lEq, nM1, nM2, litLt0, one01, zero01, oneNe0, xupE, xupA, xupK, xI_I, xS_I, xF_I, xJ_I, xI_R, xS_R, xF_R, xJ_R, xI_L, xS_L, xF_L, xJ_L, xcat_s, le46, ge16, or_true, true_or, false_or, or_false, eq_self, Option.toList_some, Option.toList_none, List.cons_append, List.nil_append, true_and, and_true, not_false_eq_true, not_true_eq_false, if_true, if_false, B_293_564]
  exact hn M2 (LG.mk2 hs hp e1 e2 hc1 hr2 ((i_undo hi).up (by omega)))
theorem law_dealt {PK : (Nat → Nat → Int64) → Prop} {L k : Nat} {xs : Nat → Int32} {M : XM} {Q : Option Value → XM → Prop} (hL : L ≤ 3072) (hk : 6 * k + 6 ≤ L) (h : LG PK L xs (60 * k) M)
    (hn : ∀ M' : XM, LG PK L xs (60 * (k + 1)) M' → RG xprog 293 18 [some (.ref 1), some (.ref 16), some (.ref 439), some (.int (nI (6 * k + 6)))] [] M' Q) :
    RG xprog 193 0 [some (.ref 16), some (.int (xI M 1 (6 * k + 1)))] [] M (fun v M' => RG xprog 293 578 [some (.ref 1), some (.ref 16), some (.ref 439), some (.int (nI (6 * k)))] (v.toList ++ []) M' Q) := by
  obtain ⟨hs, hp, t, lv, S, hc, hr, hi⟩ := h
  refine c_dealt ⟨hc, Ex.refl _ _⟩ ?_
  intro M1 k1
  have e1 := k1.2
  have hc1 := k1.1
  have hs1 := hs.exC e1
  simp (disch := omega) only [lAdd, addL, lMul, mulL, nMul, nI_add, subL, lSub, nSub, nDec, nCl, lCl, nVp, lVp, nLe, nLt, nEq, lLe, leL, lLt, ltL, eqL, lEq, nM1, nM2, litLt0, one01, zero01, oneNe0, xupE, xupA, xupK, xI_I, xS_I, xF_I, xJ_I, xI_R, xS_R, xF_R, xJ_R, xI_L, xS_L, xF_L, xJ_L, xcat_s, le46, ge16, or_true, true_or, false_or, or_false, eq_self, Option.toList_some, Option.toList_none, List.cons_append, List.nil_append, true_and, and_true, not_false_eq_true, not_true_eq_false, if_true, if_false, B_293_578, hs1.1, (hr.ex e1 crS).1.1.s, lse hs e1]
  refine r_dealt ⟨hr.ex e1 crS, Ex.refl _ _⟩ hi (by omega) ?_
  intro M2 k2
  have e2 := k2.2
  have hr2 := k2.1
  simp (disch := omega) only [lAdd, addL, lMul, mulL, nMul, nI_add, subL, lSub, nSub, nDec, nCl, lCl, nVp, lVp, nLe, nLt, nEq, lLe, leL, lLt, ltL, eqL, lEq, nM1, nM2, litLt0, one01, zero01, oneNe0, xupE, xupA, xupK, xI_I, xS_I, xF_I, xJ_I, xI_R, xS_R, xF_R, xJ_R, xI_L, xS_L, xF_L, xJ_L, xcat_s, le46, ge16, or_true, true_or, false_or, or_false, eq_self, Option.toList_some, Option.toList_none, List.cons_append, List.nil_append, true_and, and_true, not_false_eq_true, not_true_eq_false, if_true, if_false, B_293_587]
  exact hn M2 (LG.mk2 hs hp e1 e2 hc1 hr2 (hi.up (by omega)))
theorem law_stable {PK : (Nat → Nat → Int64) → Prop} {L k : Nat} {xs : Nat → Int32} {M : XM} {Q : Option Value → XM → Prop} (hL : L ≤ 3072) (hk : 6 * k + 6 ≤ L) (h : LG PK L xs (60 * k) M)
    (hn : ∀ M' : XM, LG PK L xs (60 * (k + 1)) M' → RG xprog 293 18 [some (.ref 1), some (.ref 16), some (.ref 439), some (.int (nI (6 * k + 6)))] [] M' Q) :
    RG xprog 207 0 [some (.ref 16), some (.int (xI M 1 (6 * k + 1)))] [] M (fun v M' => RG xprog 293 601 [some (.ref 1), some (.ref 16), some (.ref 439), some (.int (nI (6 * k)))] (v.toList ++ []) M' Q) := by
  obtain ⟨hs, hp, t, lv, S, hc, hr, hi⟩ := h
  refine c_stable ⟨hc, Ex.refl _ _⟩ ?_
  intro M1 k1
  have e1 := k1.2
  have hc1 := k1.1
  have hs1 := hs.exC e1
  simp (disch := omega) only [lAdd, addL, lMul, mulL, nMul, nI_add, subL, lSub, nSub, nDec, nCl, lCl, nVp, lVp, nLe, nLt, nEq, lLe, leL, lLt, ltL, eqL, lEq, nM1, nM2, litLt0, one01, zero01, oneNe0, xupE, xupA, xupK, xI_I, xS_I, xF_I, xJ_I, xI_R, xS_R, xF_R, xJ_R, xI_L, xS_L, xF_L, xJ_L, xcat_s, le46, ge16, or_true, true_or, false_or, or_false, eq_self, Option.toList_some, Option.toList_none, List.cons_append, List.nil_append, true_and, and_true, not_false_eq_true, not_true_eq_false, if_true, if_false, B_293_601, hs1.1, (hr.ex e1 crS).1.1.s, lse hs e1]
  refine r_stable ⟨hr.ex e1 crS, Ex.refl _ _⟩ hi (by omega) ?_
  intro M2 k2
  have e2 := k2.2
  have hr2 := k2.1
  simp (disch := omega) only [lAdd, addL, lMul, mulL, nMul, nI_add, subL, lSub, nSub, nDec, nCl, lCl, nVp, lVp, nLe, nLt, nEq, lLe, leL, lLt, ltL, eqL, lEq, nM1, nM2, litLt0, one01, zero01, oneNe0, xupE, xupA, xupK, xI_I, xS_I, xF_I, xJ_I, xI_R, xS_R, xF_R, xJ_R, xI_L, xS_L, xF_L, xJ_L, xcat_s, le46, ge16, or_true, true_or, false_or, or_false, eq_self, Option.toList_some, Option.toList_none, List.cons_append, List.nil_append, true_and, and_true, not_false_eq_true, not_true_eq_false, if_true, if_false, B_293_610]
  exact hn M2 (LG.mk2 hs hp e1 e2 hc1 hr2 (hi.up (by omega)))
theorem law_uneasy {PK : (Nat → Nat → Int64) → Prop} {L k : Nat} {xs : Nat → Int32} {M : XM} {Q : Option Value → XM → Prop} (hL : L ≤ 3072) (hk : 6 * k + 6 ≤ L) (h : LG PK L xs (60 * k) M)
    (hn : ∀ M' : XM, LG PK L xs (60 * (k + 1)) M' → RG xprog 293 18 [some (.ref 1), some (.ref 16), some (.ref 439), some (.int (nI (6 * k + 6)))] [] M' Q) :
    RG xprog 213 0 [some (.ref 16), some (.int (xI M 1 (6 * k + 1))), none, none, none, none] [] M (fun v M' => RG xprog 293 624 [some (.ref 1), some (.ref 16), some (.ref 439), some (.int (nI (6 * k)))] (v.toList ++ []) M' Q) := by
  obtain ⟨hs, hp, t, lv, S, hc, hr, hi⟩ := h
  refine c_uneasy ⟨hc, Ex.refl _ _⟩ hi ?_
  intro M1 k1
  have e1 := k1.2
  have hc1 := k1.1
  have hs1 := hs.exC e1
  simp (disch := omega) only [lAdd, addL, lMul, mulL, nMul, nI_add, subL, lSub, nSub, nDec, nCl, lCl, nVp, lVp, nLe, nLt, nEq, lLe, leL, lLt, ltL, eqL, lEq, nM1, nM2, litLt0, one01, zero01, oneNe0, xupE, xupA, xupK, xI_I, xS_I, xF_I, xJ_I, xI_R, xS_R, xF_R, xJ_R, xI_L, xS_L, xF_L, xJ_L, xcat_s, le46, ge16, or_true, true_or, false_or, or_false, eq_self, Option.toList_some, Option.toList_none, List.cons_append, List.nil_append, true_and, and_true, not_false_eq_true, not_true_eq_false, if_true, if_false, B_293_624, hs1.1, (hr.ex e1 crS).1.1.s, lse hs e1]
  refine r_uneasy ⟨hr.ex e1 crS, Ex.refl _ _⟩ hi (by omega) ?_
  intro M2 k2
  have e2 := k2.2
  have hr2 := k2.1
  simp (disch := omega) only [lAdd, addL, lMul, mulL, nMul, nI_add, subL, lSub, nSub, nDec, nCl, lCl, nVp, lVp, nLe, nLt, nEq, lLe, leL, lLt, ltL, eqL, lEq, nM1, nM2, litLt0, one01, zero01, oneNe0, xupE, xupA, xupK, xI_I, xS_I, xF_I, xJ_I, xI_R, xS_R, xF_R, xJ_R, xI_L, xS_L, xF_L, xJ_L, xcat_s, le46, ge16, or_true, true_or, false_or, or_false, eq_self, Option.toList_some, Option.toList_none, List.cons_append, List.nil_append, true_and, and_true, not_false_eq_true, not_true_eq_false, if_true, if_false, B_293_633]
  exact hn M2 (LG.mk2 hs hp e1 e2 hc1 hr2 (hi.up (by omega)))
theorem law_favourite {PK : (Nat → Nat → Int64) → Prop} {L k : Nat} {xs : Nat → Int32} {M : XM} {Q : Option Value → XM → Prop} (hL : L ≤ 3072) (hk : 6 * k + 6 ≤ L) (h : LG PK L xs (60 * k) M)
    (hn : ∀ M' : XM, LG PK L xs (60 * (k + 1)) M' → RG xprog 293 18 [some (.ref 1), some (.ref 16), some (.ref 439), some (.int (nI (6 * k + 6)))] [] M' Q) :
    RG xprog 216 0 [some (.ref 16), some (.int (xI M 1 (6 * k + 1))), some (.int (xI M 1 (6 * k + 2))), none, none, none, none] [] M (fun v M' => RG xprog 293 652 [some (.ref 1), some (.ref 16), some (.ref 439), some (.int (nI (6 * k)))] (v.toList ++ []) M' Q) := by
  obtain ⟨hs, hp, t, lv, S, hc, hr, hi⟩ := h
  refine c_favourite ⟨hc, Ex.refl _ _⟩ ?_
  intro M1 k1
  have e1 := k1.2
  have hc1 := k1.1
  have hs1 := hs.exC e1
  simp (disch := omega) only [lAdd, addL, lMul, mulL, nMul, nI_add, subL, lSub, nSub, nDec, nCl, lCl, nVp, lVp, nLe, nLt, nEq, lLe, leL, lLt, ltL, eqL, lEq, nM1, nM2, litLt0, one01, zero01, oneNe0, xupE, xupA, xupK, xI_I, xS_I, xF_I, xJ_I, xI_R, xS_R, xF_R, xJ_R, xI_L, xS_L, xF_L, xJ_L, xcat_s, le46, ge16, or_true, true_or, false_or, or_false, eq_self, Option.toList_some, Option.toList_none, List.cons_append, List.nil_append, true_and, and_true, not_false_eq_true, not_true_eq_false, if_true, if_false, B_293_652, hs1.1, (hr.ex e1 crS).1.1.s, lse hs e1]
  refine r_favourite ⟨hr.ex e1 crS, Ex.refl _ _⟩ hi (by omega) ?_
  intro M2 k2
  have e2 := k2.2
  have hr2 := k2.1
  simp (disch := omega) only [lAdd, addL, lMul, mulL, nMul, nI_add, subL, lSub, nSub, nDec, nCl, lCl, nVp, lVp, nLe, nLt, nEq, lLe, leL, lLt, ltL, eqL, lEq, nM1, nM2, litLt0, one01, zero01, oneNe0, xupE, xupA, xupK, xI_I, xS_I, xF_I, xJ_I, xI_R, xS_R, xF_R, xJ_R, xI_L, xS_L, xF_L, xJ_L, xcat_s, le46, ge16, or_true, true_or, false_or, or_false, eq_self, Option.toList_some, Option.toList_none, List.cons_append, List.nil_append, true_and, and_true, not_false_eq_true, not_true_eq_false, if_true, if_false, B_293_666]
  exact hn M2 (LG.mk2 hs hp e1 e2 hc1 hr2 (hi.up (by omega)))
theorem law_crowd {PK : (Nat → Nat → Int64) → Prop} {L k : Nat} {xs : Nat → Int32} {M : XM} {Q : Option Value → XM → Prop} (hL : L ≤ 3072) (hk : 6 * k + 6 ≤ L) (h : LG PK L xs (60 * k) M)
    (hn : ∀ M' : XM, LG PK L xs (60 * (k + 1)) M' → RG xprog 293 18 [some (.ref 1), some (.ref 16), some (.ref 439), some (.int (nI (6 * k + 6)))] [] M' Q) :
    RG xprog 218 0 [some (.ref 16), some (.int (xI M 1 (6 * k + 1))), some (.int (xI M 1 (6 * k + 2))), none, none] [] M (fun v M' => RG xprog 293 685 [some (.ref 1), some (.ref 16), some (.ref 439), some (.int (nI (6 * k)))] (v.toList ++ []) M' Q) := by
  obtain ⟨hs, hp, t, lv, S, hc, hr, hi⟩ := h
  refine c_crowd ⟨hc, Ex.refl _ _⟩ ?_
  intro M1 k1
  have e1 := k1.2
  have hc1 := k1.1
  have hs1 := hs.exC e1
  simp (disch := omega) only [lAdd, addL, lMul, mulL, nMul, nI_add, subL, lSub, nSub, nDec, nCl, lCl, nVp, lVp, nLe, nLt, nEq, lLe, leL, lLt, ltL, eqL, lEq, nM1, nM2, litLt0, one01, zero01, oneNe0, xupE, xupA, xupK, xI_I, xS_I, xF_I, xJ_I, xI_R, xS_R, xF_R, xJ_R, xI_L, xS_L, xF_L, xJ_L, xcat_s, le46, ge16, or_true, true_or, false_or, or_false, eq_self, Option.toList_some, Option.toList_none, List.cons_append, List.nil_append, true_and, and_true, not_false_eq_true, not_true_eq_false, if_true, if_false, B_293_685, hs1.1, (hr.ex e1 crS).1.1.s, lse hs e1]
  refine r_crowd ⟨hr.ex e1 crS, Ex.refl _ _⟩ hi (by omega) ?_
  intro M2 k2
  have e2 := k2.2
  have hr2 := k2.1
  simp (disch := omega) only [lAdd, addL, lMul, mulL, nMul, nI_add, subL, lSub, nSub, nDec, nCl, lCl, nVp, lVp, nLe, nLt, nEq, lLe, leL, lLt, ltL, eqL, lEq, nM1, nM2, litLt0, one01, zero01, oneNe0, xupE, xupA, xupK, xI_I, xS_I, xF_I, xJ_I, xI_R, xS_R, xF_R, xJ_R, xI_L, xS_L, xF_L, xJ_L, xcat_s, le46, ge16, or_true, true_or, false_or, or_false, eq_self, Option.toList_some, Option.toList_none, List.cons_append, List.nil_append, true_and, and_true, not_false_eq_true, not_true_eq_false, if_true, if_false, B_293_699]
  exact hn M2 (LG.mk2 hs hp e1 e2 hc1 hr2 (hi.up (by omega)))
theorem law_chain {PK : (Nat → Nat → Int64) → Prop} {L k : Nat} {xs : Nat → Int32} {M : XM} {Q : Option Value → XM → Prop} (hL : L ≤ 3072) (hk : 6 * k + 6 ≤ L) (h : LG PK L xs (60 * k) M)
    (hn : ∀ M' : XM, LG PK L xs (60 * (k + 1)) M' → RG xprog 293 18 [some (.ref 1), some (.ref 16), some (.ref 439), some (.int (nI (6 * k + 6)))] [] M' Q) :
    RG xprog 225 0 [some (.ref 16), some (.int (xI M 1 (6 * k + 1)))] [] M (fun v M' => RG xprog 293 713 [some (.ref 1), some (.ref 16), some (.ref 439), some (.int (nI (6 * k)))] (v.toList ++ []) M' Q) := by
  obtain ⟨hs, hp, t, lv, S, hc, hr, hi⟩ := h
  refine c_chain ⟨hc, Ex.refl _ _⟩ ?_
  intro M1 k1
  have e1 := k1.2
  have hc1 := k1.1
  have hs1 := hs.exC e1
  simp (disch := omega) only [lAdd, addL, lMul, mulL, nMul, nI_add, subL, lSub, nSub, nDec, nCl, lCl, nVp, lVp, nLe, nLt, nEq, lLe, leL, lLt, ltL, eqL, lEq, nM1, nM2, litLt0, one01, zero01, oneNe0, xupE, xupA, xupK, xI_I, xS_I, xF_I, xJ_I, xI_R, xS_R, xF_R, xJ_R, xI_L, xS_L, xF_L, xJ_L, xcat_s, le46, ge16, or_true, true_or, false_or, or_false, eq_self, Option.toList_some, Option.toList_none, List.cons_append, List.nil_append, true_and, and_true, not_false_eq_true, not_true_eq_false, if_true, if_false, B_293_713, hs1.1, (hr.ex e1 crS).1.1.s, lse hs e1]
  refine r_chain ⟨hr.ex e1 crS, Ex.refl _ _⟩ hi (by omega) ?_
  intro M2 k2
  have e2 := k2.2
  have hr2 := k2.1
  simp (disch := omega) only [lAdd, addL, lMul, mulL, nMul, nI_add, subL, lSub, nSub, nDec, nCl, lCl, nVp, lVp, nLe, nLt, nEq, lLe, leL, lLt, ltL, eqL, lEq, nM1, nM2, litLt0, one01, zero01, oneNe0, xupE, xupA, xupK, xI_I, xS_I, xF_I, xJ_I, xI_R, xS_R, xF_R, xJ_R, xI_L, xS_L, xF_L, xJ_L, xcat_s, le46, ge16, or_true, true_or, false_or, or_false, eq_self, Option.toList_some, Option.toList_none, List.cons_append, List.nil_append, true_and, and_true, not_false_eq_true, not_true_eq_false, if_true, if_false, B_293_722]
  exact hn M2 (LG.mk2 hs hp e1 e2 hc1 hr2 (hi.up (by omega)))
theorem law_bundle {PK : (Nat → Nat → Int64) → Prop} {L k : Nat} {xs : Nat → Int32} {M : XM} {Q : Option Value → XM → Prop} (hL : L ≤ 3072) (hk : 6 * k + 6 ≤ L) (h : LG PK L xs (60 * k) M)
    (hn : ∀ M' : XM, LG PK L xs (60 * (k + 1)) M' → RG xprog 293 18 [some (.ref 1), some (.ref 16), some (.ref 439), some (.int (nI (6 * k + 6)))] [] M' Q) :
    RG xprog 229 0 [some (.ref 16), some (.int (xI M 1 (6 * k + 1)))] [] M (fun v M' => RG xprog 293 736 [some (.ref 1), some (.ref 16), some (.ref 439), some (.int (nI (6 * k)))] (v.toList ++ []) M' Q) := by
  obtain ⟨hs, hp, t, lv, S, hc, hr, hi⟩ := h
  refine c_bundle ⟨hc, Ex.refl _ _⟩ ?_
  intro M1 k1
  have e1 := k1.2
  have hc1 := k1.1
  have hs1 := hs.exC e1
  simp (disch := omega) only [lAdd, addL, lMul, mulL, nMul, nI_add, subL, lSub, nSub, nDec, nCl, lCl, nVp, lVp, nLe, nLt, nEq, lLe, leL, lLt, ltL, eqL, lEq, nM1, nM2, litLt0, one01, zero01, oneNe0, xupE, xupA, xupK, xI_I, xS_I, xF_I, xJ_I, xI_R, xS_R, xF_R, xJ_R, xI_L, xS_L, xF_L, xJ_L, xcat_s, le46, ge16, or_true, true_or, false_or, or_false, eq_self, Option.toList_some, Option.toList_none, List.cons_append, List.nil_append, true_and, and_true, not_false_eq_true, not_true_eq_false, if_true, if_false, B_293_736, hs1.1, (hr.ex e1 crS).1.1.s, lse hs e1]
  refine r_bundle ⟨hr.ex e1 crS, Ex.refl _ _⟩ hi (by omega) ?_
  intro M2 k2
  have e2 := k2.2
  have hr2 := k2.1
  simp (disch := omega) only [lAdd, addL, lMul, mulL, nMul, nI_add, subL, lSub, nSub, nDec, nCl, lCl, nVp, lVp, nLe, nLt, nEq, lLe, leL, lLt, ltL, eqL, lEq, nM1, nM2, litLt0, one01, zero01, oneNe0, xupE, xupA, xupK, xI_I, xS_I, xF_I, xJ_I, xI_R, xS_R, xF_R, xJ_R, xI_L, xS_L, xF_L, xJ_L, xcat_s, le46, ge16, or_true, true_or, false_or, or_false, eq_self, Option.toList_some, Option.toList_none, List.cons_append, List.nil_append, true_and, and_true, not_false_eq_true, not_true_eq_false, if_true, if_false, B_293_745]
  exact hn M2 (LG.mk2 hs hp e1 e2 hc1 hr2 (hi.up (by omega)))
theorem law_keep {PK : (Nat → Nat → Int64) → Prop} {L k : Nat} {xs : Nat → Int32} {M : XM} {Q : Option Value → XM → Prop} (hL : L ≤ 3072) (hk : 6 * k + 6 ≤ L) (h : LG PK L xs (60 * k) M)
    (hn : ∀ M' : XM, LG PK L xs (60 * (k + 1)) M' → RG xprog 293 18 [some (.ref 1), some (.ref 16), some (.ref 439), some (.int (nI (6 * k + 6)))] [] M' Q) :
    RG xprog 232 0 [some (.ref 16), some (.int (xI M 1 (6 * k + 1))), none] [] M (fun v M' => RG xprog 293 759 [some (.ref 1), some (.ref 16), some (.ref 439), some (.int (nI (6 * k)))] (v.toList ++ []) M' Q) := by
  obtain ⟨hs, hp, t, lv, S, hc, hr, hi⟩ := h
  refine c_keep ⟨hc, Ex.refl _ _⟩ hi ?_
  intro M1 k1
  have e1 := k1.2
  have hc1 := k1.1
  have hs1 := hs.exC e1
  simp (disch := omega) only [lAdd, addL, lMul, mulL, nMul, nI_add, subL, lSub, nSub, nDec, nCl, lCl, nVp, lVp, nLe, nLt, nEq, lLe, leL, lLt, ltL, eqL, lEq, nM1, nM2, litLt0, one01, zero01, oneNe0, xupE, xupA, xupK, xI_I, xS_I, xF_I, xJ_I, xI_R, xS_R, xF_R, xJ_R, xI_L, xS_L, xF_L, xJ_L, xcat_s, le46, ge16, or_true, true_or, false_or, or_false, eq_self, Option.toList_some, Option.toList_none, List.cons_append, List.nil_append, true_and, and_true, not_false_eq_true, not_true_eq_false, if_true, if_false, B_293_759, hs1.1, (hr.ex e1 crS).1.1.s, lse hs e1]
  refine r_keep ⟨hr.ex e1 crS, Ex.refl _ _⟩ hi (by omega) ?_
  intro M2 k2
  have e2 := k2.2
  have hr2 := k2.1
  simp (disch := omega) only [lAdd, addL, lMul, mulL, nMul, nI_add, subL, lSub, nSub, nDec, nCl, lCl, nVp, lVp, nLe, nLt, nEq, lLe, leL, lLt, ltL, eqL, lEq, nM1, nM2, litLt0, one01, zero01, oneNe0, xupE, xupA, xupK, xI_I, xS_I, xF_I, xJ_I, xI_R, xS_R, xF_R, xJ_R, xI_L, xS_L, xF_L, xJ_L, xcat_s, le46, ge16, or_true, true_or, false_or, or_false, eq_self, Option.toList_some, Option.toList_none, List.cons_append, List.nil_append, true_and, and_true, not_false_eq_true, not_true_eq_false, if_true, if_false, B_293_768]
  exact hn M2 (LG.mk2 hs hp e1 e2 hc1 hr2 (hi.up (by omega)))
theorem law_barren {PK : (Nat → Nat → Int64) → Prop} {L k : Nat} {xs : Nat → Int32} {M : XM} {Q : Option Value → XM → Prop} (hL : L ≤ 3072) (hk : 6 * k + 6 ≤ L) (h : LG PK L xs (60 * k) M)
    (hn : ∀ M' : XM, LG PK L xs (60 * (k + 1)) M' → RG xprog 293 18 [some (.ref 1), some (.ref 16), some (.ref 439), some (.int (nI (6 * k + 6)))] [] M' Q) :
    RG xprog 234 0 [some (.ref 16), none, none] [] M (fun v M' => RG xprog 293 777 [some (.ref 1), some (.ref 16), some (.ref 439), some (.int (nI (6 * k)))] (v.toList ++ []) M' Q) := by
  obtain ⟨hs, hp, t, lv, S, hc, hr, hi⟩ := h
  refine c_barren ⟨hc, Ex.refl _ _⟩ ?_
  intro M1 k1
  have e1 := k1.2
  have hc1 := k1.1
  have hs1 := hs.exC e1
  simp (disch := omega) only [lAdd, addL, lMul, mulL, nMul, nI_add, subL, lSub, nSub, nDec, nCl, lCl, nVp, lVp, nLe, nLt, nEq, lLe, leL, lLt, ltL, eqL, lEq, nM1, nM2, litLt0, one01, zero01, oneNe0, xupE, xupA, xupK, xI_I, xS_I, xF_I, xJ_I, xI_R, xS_R, xF_R, xJ_R, xI_L, xS_L, xF_L, xJ_L, xcat_s, le46, ge16, or_true, true_or, false_or, or_false, eq_self, Option.toList_some, Option.toList_none, List.cons_append, List.nil_append, true_and, and_true, not_false_eq_true, not_true_eq_false, if_true, if_false, B_293_777, hs1.1, (hr.ex e1 crS).1.1.s, lse hs e1]
  refine r_barren ⟨hr.ex e1 crS, Ex.refl _ _⟩ hi (by omega) ?_
  intro M2 k2
  have e2 := k2.2
  have hr2 := k2.1
  simp (disch := omega) only [lAdd, addL, lMul, mulL, nMul, nI_add, subL, lSub, nSub, nDec, nCl, lCl, nVp, lVp, nLe, nLt, nEq, lLe, leL, lLt, ltL, eqL, lEq, nM1, nM2, litLt0, one01, zero01, oneNe0, xupE, xupA, xupK, xI_I, xS_I, xF_I, xJ_I, xI_R, xS_R, xF_R, xJ_R, xI_L, xS_L, xF_L, xJ_L, xcat_s, le46, ge16, or_true, true_or, false_or, or_false, eq_self, Option.toList_some, Option.toList_none, List.cons_append, List.nil_append, true_and, and_true, not_false_eq_true, not_true_eq_false, if_true, if_false, B_293_781]
  exact hn M2 (LG.mk2 hs hp e1 e2 hc1 hr2 (hi.up (by omega)))
theorem law_change {PK : (Nat → Nat → Int64) → Prop} {L k : Nat} {xs : Nat → Int32} {M : XM} {Q : Option Value → XM → Prop} (hL : L ≤ 3072) (hk : 6 * k + 6 ≤ L) (h : LG PK L xs (60 * k) M)
    (hn : ∀ M' : XM, LG PK L xs (60 * (k + 1)) M' → RG xprog 293 18 [some (.ref 1), some (.ref 16), some (.ref 439), some (.int (nI (6 * k + 6)))] [] M' Q) :
    RG xprog 237 0 [some (.ref 16), some (.int (xI M 1 (6 * k + 1))), some (.int (xI M 1 (6 * k + 2)))] [] M (fun v M' => RG xprog 293 800 [some (.ref 1), some (.ref 16), some (.ref 439), some (.int (nI (6 * k)))] (v.toList ++ []) M' Q) := by
  obtain ⟨hs, hp, t, lv, S, hc, hr, hi⟩ := h
  refine c_change ⟨hc, Ex.refl _ _⟩ hi ?_
  intro M1 k1
  have e1 := k1.2
  have hc1 := k1.1
  have hs1 := hs.exC e1
  simp (disch := omega) only [lAdd, addL, lMul, mulL, nMul, nI_add, subL, lSub, nSub, nDec, nCl, lCl, nVp, lVp, nLe, nLt, nEq, lLe, leL, lLt, ltL, eqL, lEq, nM1, nM2, litLt0, one01, zero01, oneNe0, xupE, xupA, xupK, xI_I, xS_I, xF_I, xJ_I, xI_R, xS_R, xF_R, xJ_R, xI_L, xS_L, xF_L, xJ_L, xcat_s, le46, ge16, or_true, true_or, false_or, or_false, eq_self, Option.toList_some, Option.toList_none, List.cons_append, List.nil_append, true_and, and_true, not_false_eq_true, not_true_eq_false, if_true, if_false, B_293_800, hs1.1, (hr.ex e1 crS).1.1.s, lse hs e1]
  refine r_change ⟨hr.ex e1 crS, Ex.refl _ _⟩ hi (by omega) ?_
  intro M2 k2
  have e2 := k2.2
  have hr2 := k2.1
  simp (disch := omega) only [lAdd, addL, lMul, mulL, nMul, nI_add, subL, lSub, nSub, nDec, nCl, lCl, nVp, lVp, nLe, nLt, nEq, lLe, leL, lLt, ltL, eqL, lEq, nM1, nM2, litLt0, one01, zero01, oneNe0, xupE, xupA, xupK, xI_I, xS_I, xF_I, xJ_I, xI_R, xS_R, xF_R, xJ_R, xI_L, xS_L, xF_L, xJ_L, xcat_s, le46, ge16, or_true, true_or, false_or, or_false, eq_self, Option.toList_some, Option.toList_none, List.cons_append, List.nil_append, true_and, and_true, not_false_eq_true, not_true_eq_false, if_true, if_false, B_293_814]
  exact hn M2 (LG.mk2 hs hp e1 e2 hc1 hr2 (hi.up (by omega)))
theorem law_changeBest {PK : (Nat → Nat → Int64) → Prop} {L k : Nat} {xs : Nat → Int32} {M : XM} {Q : Option Value → XM → Prop} (hL : L ≤ 3072) (hk : 6 * k + 6 ≤ L) (h : LG PK L xs (60 * k) M)
    (hn : ∀ M' : XM, LG PK L xs (60 * (k + 1)) M' → RG xprog 293 18 [some (.ref 1), some (.ref 16), some (.ref 439), some (.int (nI (6 * k + 6)))] [] M' Q) :
    RG xprog 241 0 [some (.ref 16), some (.int (xI M 1 (6 * k + 1))), none, none, none, none, none] [] M (fun v M' => RG xprog 293 828 [some (.ref 1), some (.ref 16), some (.ref 439), some (.int (nI (6 * k)))] (v.toList ++ []) M' Q) := by
  obtain ⟨hs, hp, t, lv, S, hc, hr, hi⟩ := h
  refine c_changeBest ⟨hc, Ex.refl _ _⟩ hi ?_
  intro M1 k1
  have e1 := k1.2
  have hc1 := k1.1
  have hs1 := hs.exC e1
  simp (disch := omega) only [lAdd, addL, lMul, mulL, nMul, nI_add, subL, lSub, nSub, nDec, nCl, lCl, nVp, lVp, nLe, nLt, nEq, lLe, leL, lLt, ltL, eqL, lEq, nM1, nM2, litLt0, one01, zero01, oneNe0, xupE, xupA, xupK, xI_I, xS_I, xF_I, xJ_I, xI_R, xS_R, xF_R, xJ_R, xI_L, xS_L, xF_L, xJ_L, xcat_s, le46, ge16, or_true, true_or, false_or, or_false, eq_self, Option.toList_some, Option.toList_none, List.cons_append, List.nil_append, true_and, and_true, not_false_eq_true, not_true_eq_false, if_true, if_false, B_293_828, hs1.1, (hr.ex e1 crS).1.1.s, lse hs e1]
  refine r_changeBest ⟨hr.ex e1 crS, Ex.refl _ _⟩ hi (by omega) ?_
  intro M2 k2
  have e2 := k2.2
  have hr2 := k2.1
  simp (disch := omega) only [lAdd, addL, lMul, mulL, nMul, nI_add, subL, lSub, nSub, nDec, nCl, lCl, nVp, lVp, nLe, nLt, nEq, lLe, leL, lLt, ltL, eqL, lEq, nM1, nM2, litLt0, one01, zero01, oneNe0, xupE, xupA, xupK, xI_I, xS_I, xF_I, xJ_I, xI_R, xS_R, xF_R, xJ_R, xI_L, xS_L, xF_L, xJ_L, xcat_s, le46, ge16, or_true, true_or, false_or, or_false, eq_self, Option.toList_some, Option.toList_none, List.cons_append, List.nil_append, true_and, and_true, not_false_eq_true, not_true_eq_false, if_true, if_false, B_293_837]
  exact hn M2 (LG.mk2 hs hp e1 e2 hc1 hr2 (hi.up (by omega)))
theorem law_waiting {PK : (Nat → Nat → Int64) → Prop} {L k : Nat} {xs : Nat → Int32} {M : XM} {Q : Option Value → XM → Prop} (hL : L ≤ 3072) (hk : 6 * k + 6 ≤ L) (h : LG PK L xs (60 * k) M)
    (hn : ∀ M' : XM, LG PK L xs (60 * (k + 1)) M' → RG xprog 293 18 [some (.ref 1), some (.ref 16), some (.ref 439), some (.int (nI (6 * k + 6)))] [] M' Q) :
    RG xprog 246 0 [some (.ref 16), some (.int (xI M 1 (6 * k + 1)))] [] M (fun v M' => RG xprog 293 851 [some (.ref 1), some (.ref 16), some (.ref 439), some (.int (nI (6 * k)))] (v.toList ++ []) M' Q) := by
  obtain ⟨hs, hp, t, lv, S, hc, hr, hi⟩ := h
  refine c_waiting ⟨hc, Ex.refl _ _⟩ hi ?_
  intro M1 k1
  have e1 := k1.2
  have hc1 := k1.1
  have hs1 := hs.exC e1
  simp (disch := omega) only [lAdd, addL, lMul, mulL, nMul, nI_add, subL, lSub, nSub, nDec, nCl, lCl, nVp, lVp, nLe, nLt, nEq, lLe, leL, lLt, ltL, eqL, lEq, nM1, nM2, litLt0, one01, zero01, oneNe0, xupE, xupA, xupK, xI_I, xS_I, xF_I, xJ_I, xI_R, xS_R, xF_R, xJ_R, xI_L, xS_L, xF_L, xJ_L, xcat_s, le46, ge16, or_true, true_or, false_or, or_false, eq_self, Option.toList_some, Option.toList_none, List.cons_append, List.nil_append, true_and, and_true, not_false_eq_true, not_true_eq_false, if_true, if_false, B_293_851, hs1.1, (hr.ex e1 crS).1.1.s, lse hs e1]
  refine r_waiting ⟨hr.ex e1 crS, Ex.refl _ _⟩ hi (by omega) ?_
  intro M2 k2
  have e2 := k2.2
  have hr2 := k2.1
  simp (disch := omega) only [lAdd, addL, lMul, mulL, nMul, nI_add, subL, lSub, nSub, nDec, nCl, lCl, nVp, lVp, nLe, nLt, nEq, lLe, leL, lLt, ltL, eqL, lEq, nM1, nM2, litLt0, one01, zero01, oneNe0, xupE, xupA, xupK, xI_I, xS_I, xF_I, xJ_I, xI_R, xS_R, xF_R, xJ_R, xI_L, xS_L, xF_L, xJ_L, xcat_s, le46, ge16, or_true, true_or, false_or, or_false, eq_self, Option.toList_some, Option.toList_none, List.cons_append, List.nil_append, true_and, and_true, not_false_eq_true, not_true_eq_false, if_true, if_false, B_293_860]
  exact hn M2 (LG.mk2 hs hp e1 e2 hc1 hr2 (hi.up (by omega)))
theorem law_first {PK : (Nat → Nat → Int64) → Prop} {L k : Nat} {xs : Nat → Int32} {M : XM} {Q : Option Value → XM → Prop} (hL : L ≤ 3072) (hk : 6 * k + 6 ≤ L) (h : LG PK L xs (60 * k) M)
    (hn : ∀ M' : XM, LG PK L xs (60 * (k + 1)) M' → RG xprog 293 18 [some (.ref 1), some (.ref 16), some (.ref 439), some (.int (nI (6 * k + 6)))] [] M' Q) :
    RG xprog 252 0 [some (.ref 16), none, none] [] M (fun v M' => RG xprog 293 869 [some (.ref 1), some (.ref 16), some (.ref 439), some (.int (nI (6 * k)))] (v.toList ++ []) M' Q) := by
  obtain ⟨hs, hp, t, lv, S, hc, hr, hi⟩ := h
  refine c_first ⟨hc, Ex.refl _ _⟩ hi ?_
  intro M1 k1
  have e1 := k1.2
  have hc1 := k1.1
  have hs1 := hs.exC e1
  simp (disch := omega) only [lAdd, addL, lMul, mulL, nMul, nI_add, subL, lSub, nSub, nDec, nCl, lCl, nVp, lVp, nLe, nLt, nEq, lLe, leL, lLt, ltL, eqL, lEq, nM1, nM2, litLt0, one01, zero01, oneNe0, xupE, xupA, xupK, xI_I, xS_I, xF_I, xJ_I, xI_R, xS_R, xF_R, xJ_R, xI_L, xS_L, xF_L, xJ_L, xcat_s, le46, ge16, or_true, true_or, false_or, or_false, eq_self, Option.toList_some, Option.toList_none, List.cons_append, List.nil_append, true_and, and_true, not_false_eq_true, not_true_eq_false, if_true, if_false, B_293_869, hs1.1, (hr.ex e1 crS).1.1.s, lse hs e1]
  refine r_first ⟨hr.ex e1 crS, Ex.refl _ _⟩ hi (by omega) ?_
  intro M2 k2
  have e2 := k2.2
  have hr2 := k2.1
  simp (disch := omega) only [lAdd, addL, lMul, mulL, nMul, nI_add, subL, lSub, nSub, nDec, nCl, lCl, nVp, lVp, nLe, nLt, nEq, lLe, leL, lLt, ltL, eqL, lEq, nM1, nM2, litLt0, one01, zero01, oneNe0, xupE, xupA, xupK, xI_I, xS_I, xF_I, xJ_I, xI_R, xS_R, xF_R, xJ_R, xI_L, xS_L, xF_L, xJ_L, xcat_s, le46, ge16, or_true, true_or, false_or, or_false, eq_self, Option.toList_some, Option.toList_none, List.cons_append, List.nil_append, true_and, and_true, not_false_eq_true, not_true_eq_false, if_true, if_false, B_293_873]
  exact hn M2 (LG.mk2 hs hp e1 e2 hc1 hr2 (hi.up (by omega)))
theorem law_then {PK : (Nat → Nat → Int64) → Prop} {L k : Nat} {xs : Nat → Int32} {M : XM} {Q : Option Value → XM → Prop} (hL : L ≤ 3072) (hk : 6 * k + 6 ≤ L) (h : LG PK L xs (60 * k) M)
    (hn : ∀ M' : XM, LG PK L xs (60 * (k + 1)) M' → RG xprog 293 18 [some (.ref 1), some (.ref 16), some (.ref 439), some (.int (nI (6 * k + 6)))] [] M' Q) :
    RG xprog 255 0 [some (.ref 16), some (.int (xI M 1 (6 * k + 1))), some (.int (xI M 1 (6 * k + 2))), some (.int (xI M 1 (6 * k + 3)))] [] M (fun v M' => RG xprog 293 897 [some (.ref 1), some (.ref 16), some (.ref 439), some (.int (nI (6 * k)))] (v.toList ++ []) M' Q) := by
  obtain ⟨hs, hp, t, lv, S, hc, hr, hi⟩ := h
  refine c_then ⟨hc, Ex.refl _ _⟩ hi ?_
  intro M1 k1
  have e1 := k1.2
  have hc1 := k1.1
  have hs1 := hs.exC e1
  simp (disch := omega) only [lAdd, addL, lMul, mulL, nMul, nI_add, subL, lSub, nSub, nDec, nCl, lCl, nVp, lVp, nLe, nLt, nEq, lLe, leL, lLt, ltL, eqL, lEq, nM1, nM2, litLt0, one01, zero01, oneNe0, xupE, xupA, xupK, xI_I, xS_I, xF_I, xJ_I, xI_R, xS_R, xF_R, xJ_R, xI_L, xS_L, xF_L, xJ_L, xcat_s, le46, ge16, or_true, true_or, false_or, or_false, eq_self, Option.toList_some, Option.toList_none, List.cons_append, List.nil_append, true_and, and_true, not_false_eq_true, not_true_eq_false, if_true, if_false, B_293_897, hs1.1, (hr.ex e1 crS).1.1.s, lse hs e1]
  refine r_then ⟨hr.ex e1 crS, Ex.refl _ _⟩ hi (by omega) ?_
  intro M2 k2
  have e2 := k2.2
  have hr2 := k2.1
  simp (disch := omega) only [lAdd, addL, lMul, mulL, nMul, nI_add, subL, lSub, nSub, nDec, nCl, lCl, nVp, lVp, nLe, nLt, nEq, lLe, leL, lLt, ltL, eqL, lEq, nM1, nM2, litLt0, one01, zero01, oneNe0, xupE, xupA, xupK, xI_I, xS_I, xF_I, xJ_I, xI_R, xS_R, xF_R, xJ_R, xI_L, xS_L, xF_L, xJ_L, xcat_s, le46, ge16, or_true, true_or, false_or, or_false, eq_self, Option.toList_some, Option.toList_none, List.cons_append, List.nil_append, true_and, and_true, not_false_eq_true, not_true_eq_false, if_true, if_false, B_293_916]
  exact hn M2 (LG.mk2 hs hp e1 e2 hc1 hr2 (hi.up (by omega)))
theorem law_readerIn {PK : (Nat → Nat → Int64) → Prop} {L k : Nat} {xs : Nat → Int32} {M : XM} {Q : Option Value → XM → Prop} (hL : L ≤ 3072) (hk : 6 * k + 6 ≤ L) (h : LG PK L xs (60 * k) M)
    (hn : ∀ M' : XM, LG PK L xs (60 * (k + 1)) M' → RG xprog 293 18 [some (.ref 1), some (.ref 16), some (.ref 439), some (.int (nI (6 * k + 6)))] [] M' Q) :
    RG xprog 257 0 [some (.ref 16), some (.int (xI M 1 (6 * k + 1))), some (.int (xI M 1 (6 * k + 2))), some (.int (xI M 1 (6 * k + 3)))] [] M (fun v M' => RG xprog 293 940 [some (.ref 1), some (.ref 16), some (.ref 439), some (.int (nI (6 * k)))] (v.toList ++ []) M' Q) := by
  obtain ⟨hs, hp, t, lv, S, hc, hr, hi⟩ := h
  refine c_readerIn ⟨hc, Ex.refl _ _⟩ hi ?_
  intro M1 k1
  have e1 := k1.2
  have hc1 := k1.1
  have hs1 := hs.exC e1
  simp (disch := omega) only [lAdd, addL, lMul, mulL, nMul, nI_add, subL, lSub, nSub, nDec, nCl, lCl, nVp, lVp, nLe, nLt, nEq, lLe, leL, lLt, ltL, eqL, lEq, nM1, nM2, litLt0, one01, zero01, oneNe0, xupE, xupA, xupK, xI_I, xS_I, xF_I, xJ_I, xI_R, xS_R, xF_R, xJ_R, xI_L, xS_L, xF_L, xJ_L, xcat_s, le46, ge16, or_true, true_or, false_or, or_false, eq_self, Option.toList_some, Option.toList_none, List.cons_append, List.nil_append, true_and, and_true, not_false_eq_true, not_true_eq_false, if_true, if_false, B_293_940, hs1.1, (hr.ex e1 crS).1.1.s, lse hs e1]
  refine r_readerIn ⟨hr.ex e1 crS, Ex.refl _ _⟩ hi (by omega) ?_
  intro M2 k2
  have e2 := k2.2
  have hr2 := k2.1
  simp (disch := omega) only [lAdd, addL, lMul, mulL, nMul, nI_add, subL, lSub, nSub, nDec, nCl, lCl, nVp, lVp, nLe, nLt, nEq, lLe, leL, lLt, ltL, eqL, lEq, nM1, nM2, litLt0, one01, zero01, oneNe0, xupE, xupA, xupK, xI_I, xS_I, xF_I, xJ_I, xI_R, xS_R, xF_R, xJ_R, xI_L, xS_L, xF_L, xJ_L, xcat_s, le46, ge16, or_true, true_or, false_or, or_false, eq_self, Option.toList_some, Option.toList_none, List.cons_append, List.nil_append, true_and, and_true, not_false_eq_true, not_true_eq_false, if_true, if_false, B_293_959]
  exact hn M2 (LG.mk2 hs hp e1 e2 hc1 hr2 (hi.up (by omega)))
theorem law_likedIn {PK : (Nat → Nat → Int64) → Prop} {L k : Nat} {xs : Nat → Int32} {M : XM} {Q : Option Value → XM → Prop} (hL : L ≤ 3072) (hk : 6 * k + 6 ≤ L) (h : LG PK L xs (60 * k) M)
    (hn : ∀ M' : XM, LG PK L xs (60 * (k + 1)) M' → RG xprog 293 18 [some (.ref 1), some (.ref 16), some (.ref 439), some (.int (nI (6 * k + 6)))] [] M' Q) :
    RG xprog 260 0 [some (.ref 16), some (.int (xI M 1 (6 * k + 1)))] [] M (fun v M' => RG xprog 293 973 [some (.ref 1), some (.ref 16), some (.ref 439), some (.int (nI (6 * k)))] (v.toList ++ []) M' Q) := by
  obtain ⟨hs, hp, t, lv, S, hc, hr, hi⟩ := h
  refine c_likedIn ⟨hc, Ex.refl _ _⟩ hi ?_
  intro M1 k1
  have e1 := k1.2
  have hc1 := k1.1
  have hs1 := hs.exC e1
  simp (disch := omega) only [lAdd, addL, lMul, mulL, nMul, nI_add, subL, lSub, nSub, nDec, nCl, lCl, nVp, lVp, nLe, nLt, nEq, lLe, leL, lLt, ltL, eqL, lEq, nM1, nM2, litLt0, one01, zero01, oneNe0, xupE, xupA, xupK, xI_I, xS_I, xF_I, xJ_I, xI_R, xS_R, xF_R, xJ_R, xI_L, xS_L, xF_L, xJ_L, xcat_s, le46, ge16, or_true, true_or, false_or, or_false, eq_self, Option.toList_some, Option.toList_none, List.cons_append, List.nil_append, true_and, and_true, not_false_eq_true, not_true_eq_false, if_true, if_false, B_293_973, hs1.1, (hr.ex e1 crS).1.1.s, lse hs e1]
  refine r_likedIn ⟨hr.ex e1 crS, Ex.refl _ _⟩ hi (by omega) ?_
  intro M2 k2
  have e2 := k2.2
  have hr2 := k2.1
  simp (disch := omega) only [lAdd, addL, lMul, mulL, nMul, nI_add, subL, lSub, nSub, nDec, nCl, lCl, nVp, lVp, nLe, nLt, nEq, lLe, leL, lLt, ltL, eqL, lEq, nM1, nM2, litLt0, one01, zero01, oneNe0, xupE, xupA, xupK, xI_I, xS_I, xF_I, xJ_I, xI_R, xS_R, xF_R, xJ_R, xI_L, xS_L, xF_L, xJ_L, xcat_s, le46, ge16, or_true, true_or, false_or, or_false, eq_self, Option.toList_some, Option.toList_none, List.cons_append, List.nil_append, true_and, and_true, not_false_eq_true, not_true_eq_false, if_true, if_false, B_293_982]
  exact hn M2 (LG.mk2 hs hp e1 e2 hc1 hr2 (hi.up (by omega)))
theorem law_year {PK : (Nat → Nat → Int64) → Prop} {L k : Nat} {xs : Nat → Int32} {M : XM} {Q : Option Value → XM → Prop} (hL : L ≤ 3072) (hk : 6 * k + 6 ≤ L) (h : LG PK L xs (60 * k) M)
    (hn : ∀ M' : XM, LG PK L xs (60 * (k + 1)) M' → RG xprog 293 18 [some (.ref 1), some (.ref 16), some (.ref 439), some (.int (nI (6 * k + 6)))] [] M' Q) :
    RG xprog 264 0 [some (.ref 16), some (.int (xI M 1 (6 * k + 1))), some (.int (xI M 1 (6 * k + 2))), some (.int (xI M 1 (6 * k + 3))), none, none] [] M (fun v M' => RG xprog 293 1006 [some (.ref 1), some (.ref 16), some (.ref 439), some (.int (nI (6 * k)))] (v.toList ++ []) M' Q) := by
  obtain ⟨hs, hp, t, lv, S, hc, hr, hi⟩ := h
  refine c_year ⟨hc, Ex.refl _ _⟩ hi ?_
  intro M1 k1
  have e1 := k1.2
  have hc1 := k1.1
  have hs1 := hs.exC e1
  simp (disch := omega) only [lAdd, addL, lMul, mulL, nMul, nI_add, subL, lSub, nSub, nDec, nCl, lCl, nVp, lVp, nLe, nLt, nEq, lLe, leL, lLt, ltL, eqL, lEq, nM1, nM2, litLt0, one01, zero01, oneNe0, xupE, xupA, xupK, xI_I, xS_I, xF_I, xJ_I, xI_R, xS_R, xF_R, xJ_R, xI_L, xS_L, xF_L, xJ_L, xcat_s, le46, ge16, or_true, true_or, false_or, or_false, eq_self, Option.toList_some, Option.toList_none, List.cons_append, List.nil_append, true_and, and_true, not_false_eq_true, not_true_eq_false, if_true, if_false, B_293_1006, hs1.1, (hr.ex e1 crS).1.1.s, lse hs e1]
  refine r_year ⟨hr.ex e1 crS, Ex.refl _ _⟩ hi (by omega) ?_
  intro M2 k2
  have e2 := k2.2
  have hr2 := k2.1
  simp (disch := omega) only [lAdd, addL, lMul, mulL, nMul, nI_add, subL, lSub, nSub, nDec, nCl, lCl, nVp, lVp, nLe, nLt, nEq, lLe, leL, lLt, ltL, eqL, lEq, nM1, nM2, litLt0, one01, zero01, oneNe0, xupE, xupA, xupK, xI_I, xS_I, xF_I, xJ_I, xI_R, xS_R, xF_R, xJ_R, xI_L, xS_L, xF_L, xJ_L, xcat_s, le46, ge16, or_true, true_or, false_or, or_false, eq_self, Option.toList_some, Option.toList_none, List.cons_append, List.nil_append, true_and, and_true, not_false_eq_true, not_true_eq_false, if_true, if_false, B_293_1025]
  exact hn M2 (LG.mk2 hs hp e1 e2 hc1 hr2 (hi.up (by omega)))
theorem law_search {PK : (Nat → Nat → Int64) → Prop} {L k : Nat} {xs : Nat → Int32} {M : XM} {Q : Option Value → XM → Prop} (hL : L ≤ 3072) (hk : 6 * k + 6 ≤ L) (h : LG PK L xs (60 * k) M)
    (hn : ∀ M' : XM, LG PK L xs (60 * (k + 1)) M' → RG xprog 293 18 [some (.ref 1), some (.ref 16), some (.ref 439), some (.int (nI (6 * k + 6)))] [] M' Q) :
    RG xprog 267 0 [some (.ref 16), some (.int (xI M 1 (6 * k + 1))), some (.int (xI M 1 (6 * k + 2))), none, none, none] [] M (fun v M' => RG xprog 293 1044 [some (.ref 1), some (.ref 16), some (.ref 439), some (.int (nI (6 * k)))] (v.toList ++ []) M' Q) := by
  obtain ⟨hs, hp, t, lv, S, hc, hr, hi⟩ := h
  refine c_search ⟨hc, Ex.refl _ _⟩ hi ?_
  intro M1 k1
  have e1 := k1.2
  have hc1 := k1.1
  have hs1 := hs.exC e1
  simp (disch := omega) only [lAdd, addL, lMul, mulL, nMul, nI_add, subL, lSub, nSub, nDec, nCl, lCl, nVp, lVp, nLe, nLt, nEq, lLe, leL, lLt, ltL, eqL, lEq, nM1, nM2, litLt0, one01, zero01, oneNe0, xupE, xupA, xupK, xI_I, xS_I, xF_I, xJ_I, xI_R, xS_R, xF_R, xJ_R, xI_L, xS_L, xF_L, xJ_L, xcat_s, le46, ge16, or_true, true_or, false_or, or_false, eq_self, Option.toList_some, Option.toList_none, List.cons_append, List.nil_append, true_and, and_true, not_false_eq_true, not_true_eq_false, if_true, if_false, B_293_1044, hs1.1, (hr.ex e1 crS).1.1.s, lse hs e1]
  refine r_search ⟨hr.ex e1 crS, Ex.refl _ _⟩ hi (by omega) ?_
  intro M2 k2
  have e2 := k2.2
  have hr2 := k2.1
  simp (disch := omega) only [lAdd, addL, lMul, mulL, nMul, nI_add, subL, lSub, nSub, nDec, nCl, lCl, nVp, lVp, nLe, nLt, nEq, lLe, leL, lLt, ltL, eqL, lEq, nM1, nM2, litLt0, one01, zero01, oneNe0, xupE, xupA, xupK, xI_I, xS_I, xF_I, xJ_I, xI_R, xS_R, xF_R, xJ_R, xI_L, xS_L, xF_L, xJ_L, xcat_s, le46, ge16, or_true, true_or, false_or, or_false, eq_self, Option.toList_some, Option.toList_none, List.cons_append, List.nil_append, true_and, and_true, not_false_eq_true, not_true_eq_false, if_true, if_false, B_293_1058]
  exact hn M2 (LG.mk2 hs hp e1 e2 hc1 hr2 (hi.up (by omega)))
theorem law_forget {PK : (Nat → Nat → Int64) → Prop} {L k : Nat} {xs : Nat → Int32} {M : XM} {Q : Option Value → XM → Prop} (hL : L ≤ 3072) (hk : 6 * k + 6 ≤ L) (h : LG PK L xs (60 * k) M)
    (hn : ∀ M' : XM, LG PK L xs (60 * (k + 1)) M' → RG xprog 293 18 [some (.ref 1), some (.ref 16), some (.ref 439), some (.int (nI (6 * k + 6)))] [] M' Q) :
    RG xprog 274 0 [some (.ref 16), none] [] M (fun v M' => RG xprog 293 1126 [some (.ref 1), some (.ref 16), some (.ref 439), some (.int (nI (6 * k)))] (v.toList ++ []) M' Q) := by
  obtain ⟨hs, hp, t, lv, S, hc, hr, hi⟩ := h
  refine c_forget hc ?_
  intro M1 e1 hc1
  have hs1 := hs.exC e1
  simp (disch := omega) only [lAdd, addL, lMul, mulL, nMul, nI_add, subL, lSub, nSub, nDec, nCl, lCl, nVp, lVp, nLe, nLt, nEq, lLe, leL, lLt, ltL, eqL, lEq, nM1, nM2, litLt0, one01, zero01, oneNe0, xupE, xupA, xupK, xI_I, xS_I, xF_I, xJ_I, xI_R, xS_R, xF_R, xJ_R, xI_L, xS_L, xF_L, xJ_L, xcat_s, le46, ge16, or_true, true_or, false_or, or_false, eq_self, Option.toList_some, Option.toList_none, List.cons_append, List.nil_append, true_and, and_true, not_false_eq_true, not_true_eq_false, if_true, if_false, B_293_1126, hs1.1, (hr.ex e1 crS).1.1.s, lse hs e1]
  refine r_forget (hr.ex e1 crS) ?_
  intro M2 e2 hr2
  simp (disch := omega) only [lAdd, addL, lMul, mulL, nMul, nI_add, subL, lSub, nSub, nDec, nCl, lCl, nVp, lVp, nLe, nLt, nEq, lLe, leL, lLt, ltL, eqL, lEq, nM1, nM2, litLt0, one01, zero01, oneNe0, xupE, xupA, xupK, xI_I, xS_I, xF_I, xJ_I, xI_R, xS_R, xF_R, xJ_R, xI_L, xS_L, xF_L, xJ_L, xcat_s, le46, ge16, or_true, true_or, false_or, or_false, eq_self, Option.toList_some, Option.toList_none, List.cons_append, List.nil_append, true_and, and_true, not_false_eq_true, not_true_eq_false, if_true, if_false, B_293_1130]
  exact hn M2 (LG.mk2 hs hp e1 e2 hc1 hr2 ((i_forget hi).up (by omega)))
theorem law_which {PK : (Nat → Nat → Int64) → Prop} {L k : Nat} {xs : Nat → Int32} {M : XM} {Q : Option Value → XM → Prop} (hL : L ≤ 3072) (hk : 6 * k + 6 ≤ L) (h : LG PK L xs (60 * k) M)
    (hn : ∀ M' : XM, LG PK L xs (60 * (k + 1)) M' → RG xprog 293 18 [some (.ref 1), some (.ref 16), some (.ref 439), some (.int (nI (6 * k + 6)))] [] M' Q) :
    RG xprog 278 0 [some (.ref 16), some (.int (xI M 1 (6 * k + 1))), some (.int (xI M 1 (6 * k + 2))), none] [] M (fun v M' => RG xprog 293 1149 [some (.ref 1), some (.ref 16), some (.ref 439), some (.int (nI (6 * k)))] (v.toList ++ []) M' Q) := by
  obtain ⟨hs, hp, t, lv, S, hc, hr, hi⟩ := h
  refine c_which ⟨hc, Ex.refl _ _⟩ hi ?_
  intro M1 k1
  have e1 := k1.2
  have hc1 := k1.1
  have hs1 := hs.exC e1
  simp (disch := omega) only [lAdd, addL, lMul, mulL, nMul, nI_add, subL, lSub, nSub, nDec, nCl, lCl, nVp, lVp, nLe, nLt, nEq, lLe, leL, lLt, ltL, eqL, lEq, nM1, nM2, litLt0, one01, zero01, oneNe0, xupE, xupA, xupK, xI_I, xS_I, xF_I, xJ_I, xI_R, xS_R, xF_R, xJ_R, xI_L, xS_L, xF_L, xJ_L, xcat_s, le46, ge16, or_true, true_or, false_or, or_false, eq_self, Option.toList_some, Option.toList_none, List.cons_append, List.nil_append, true_and, and_true, not_false_eq_true, not_true_eq_false, if_true, if_false, B_293_1149, hs1.1, (hr.ex e1 crS).1.1.s, lse hs e1]
  refine r_which ⟨hr.ex e1 crS, Ex.refl _ _⟩ hi ?_
  intro M2 k2
  have e2 := k2.2
  have hr2 := k2.1
  simp (disch := omega) only [lAdd, addL, lMul, mulL, nMul, nI_add, subL, lSub, nSub, nDec, nCl, lCl, nVp, lVp, nLe, nLt, nEq, lLe, leL, lLt, ltL, eqL, lEq, nM1, nM2, litLt0, one01, zero01, oneNe0, xupE, xupA, xupK, xI_I, xS_I, xF_I, xJ_I, xI_R, xS_R, xF_R, xJ_R, xI_L, xS_L, xF_L, xJ_L, xcat_s, le46, ge16, or_true, true_or, false_or, or_false, eq_self, Option.toList_some, Option.toList_none, List.cons_append, List.nil_append, true_and, and_true, not_false_eq_true, not_true_eq_false, if_true, if_false, B_293_1163]
  exact hn M2 (LG.mk2 hs hp e1 e2 hc1 hr2 (hi.up (by omega)))
theorem law_next {PK : (Nat → Nat → Int64) → Prop} {L k : Nat} {xs : Nat → Int32} {M : XM} {Q : Option Value → XM → Prop} (hL : L ≤ 3072) (hk : 6 * k + 6 ≤ L) (h : LG PK L xs (60 * k) M)
    (hn : ∀ M' : XM, LG PK L xs (60 * (k + 1)) M' → RG xprog 293 18 [some (.ref 1), some (.ref 16), some (.ref 439), some (.int (nI (6 * k + 6)))] [] M' Q) :
    RG xprog 283 0 [some (.ref 16), some (.int (xI M 1 (6 * k + 1)))] [] M (fun v M' => RG xprog 293 1177 [some (.ref 1), some (.ref 16), some (.ref 439), some (.int (nI (6 * k)))] (v.toList ++ []) M' Q) := by
  obtain ⟨hs, hp, t, lv, S, hc, hr, hi⟩ := h
  refine c_next ⟨hc, Ex.refl _ _⟩ hi ?_
  intro M1 k1
  have e1 := k1.2
  have hc1 := k1.1
  have hs1 := hs.exC e1
  simp (disch := omega) only [lAdd, addL, lMul, mulL, nMul, nI_add, subL, lSub, nSub, nDec, nCl, lCl, nVp, lVp, nLe, nLt, nEq, lLe, leL, lLt, ltL, eqL, lEq, nM1, nM2, litLt0, one01, zero01, oneNe0, xupE, xupA, xupK, xI_I, xS_I, xF_I, xJ_I, xI_R, xS_R, xF_R, xJ_R, xI_L, xS_L, xF_L, xJ_L, xcat_s, le46, ge16, or_true, true_or, false_or, or_false, eq_self, Option.toList_some, Option.toList_none, List.cons_append, List.nil_append, true_and, and_true, not_false_eq_true, not_true_eq_false, if_true, if_false, B_293_1177, hs1.1, (hr.ex e1 crS).1.1.s, lse hs e1]
  refine r_next ⟨hr.ex e1 crS, Ex.refl _ _⟩ hi ?_
  intro M2 k2
  have e2 := k2.2
  have hr2 := k2.1
  simp (disch := omega) only [lAdd, addL, lMul, mulL, nMul, nI_add, subL, lSub, nSub, nDec, nCl, lCl, nVp, lVp, nLe, nLt, nEq, lLe, leL, lLt, ltL, eqL, lEq, nM1, nM2, litLt0, one01, zero01, oneNe0, xupE, xupA, xupK, xI_I, xS_I, xF_I, xJ_I, xI_R, xS_R, xF_R, xJ_R, xI_L, xS_L, xF_L, xJ_L, xcat_s, le46, ge16, or_true, true_or, false_or, or_false, eq_self, Option.toList_some, Option.toList_none, List.cons_append, List.nil_append, true_and, and_true, not_false_eq_true, not_true_eq_false, if_true, if_false, B_293_1186]
  exact hn M2 (LG.mk2 hs hp e1 e2 hc1 hr2 (hi.up (by omega)))
theorem law_hold {PK : (Nat → Nat → Int64) → Prop} {L k : Nat} {xs : Nat → Int32} {M : XM} {Q : Option Value → XM → Prop} (hL : L ≤ 3072) (hk : 6 * k + 6 ≤ L) (h : LG PK L xs (60 * k) M)
    (hn : ∀ M' : XM, LG PK L xs (60 * (k + 1)) M' → RG xprog 293 18 [some (.ref 1), some (.ref 16), some (.ref 439), some (.int (nI (6 * k + 6)))] [] M' Q) :
    RG xprog 285 0 [some (.ref 16), some (.int (xI M 1 (6 * k + 1)))] [] M (fun v M' => RG xprog 293 1200 [some (.ref 1), some (.ref 16), some (.ref 439), some (.int (nI (6 * k)))] (v.toList ++ []) M' Q) := by
  obtain ⟨hs, hp, t, lv, S, hc, hr, hi⟩ := h
  refine c_hold hc hi ?_
  intro M1 e1 hc1
  have hs1 := hs.exC e1
  simp (disch := omega) only [lAdd, addL, lMul, mulL, nMul, nI_add, subL, lSub, nSub, nDec, nCl, lCl, nVp, lVp, nLe, nLt, nEq, lLe, leL, lLt, ltL, eqL, lEq, nM1, nM2, litLt0, one01, zero01, oneNe0, xupE, xupA, xupK, xI_I, xS_I, xF_I, xJ_I, xI_R, xS_R, xF_R, xJ_R, xI_L, xS_L, xF_L, xJ_L, xcat_s, le46, ge16, or_true, true_or, false_or, or_false, eq_self, Option.toList_some, Option.toList_none, List.cons_append, List.nil_append, true_and, and_true, not_false_eq_true, not_true_eq_false, if_true, if_false, B_293_1200, hs1.1, (hr.ex e1 crS).1.1.s, lse hs e1]
  refine r_hold (hr.ex e1 crS) hi ?_
  intro M2 e2 hr2
  simp (disch := omega) only [lAdd, addL, lMul, mulL, nMul, nI_add, subL, lSub, nSub, nDec, nCl, lCl, nVp, lVp, nLe, nLt, nEq, lLe, leL, lLt, ltL, eqL, lEq, nM1, nM2, litLt0, one01, zero01, oneNe0, xupE, xupA, xupK, xI_I, xS_I, xF_I, xJ_I, xI_R, xS_R, xF_R, xJ_R, xI_L, xS_L, xF_L, xJ_L, xcat_s, le46, ge16, or_true, true_or, false_or, or_false, eq_self, Option.toList_some, Option.toList_none, List.cons_append, List.nil_append, true_and, and_true, not_false_eq_true, not_true_eq_false, if_true, if_false, B_293_1209]
  exact hn M2 (LG.mk2 hs hp e1 e2 hc1 hr2 ((i_hold hi).up (by omega)))
theorem law_restore {PK : (Nat → Nat → Int64) → Prop} {L k : Nat} {xs : Nat → Int32} {M : XM} {Q : Option Value → XM → Prop} (hL : L ≤ 3072) (hk : 6 * k + 6 ≤ L) (h : LG PK L xs (60 * k) M)
    (hn : ∀ M' : XM, LG PK L xs (60 * (k + 1)) M' → RG xprog 293 18 [some (.ref 1), some (.ref 16), some (.ref 439), some (.int (nI (6 * k + 6)))] [] M' Q) :
    RG xprog 287 0 [some (.ref 16), some (.int (xI M 1 (6 * k + 1)))] [] M (fun v M' => RG xprog 293 1223 [some (.ref 1), some (.ref 16), some (.ref 439), some (.int (nI (6 * k)))] (v.toList ++ []) M' Q) := by
  obtain ⟨hs, hp, t, lv, S, hc, hr, hi⟩ := h
  refine c_restore hc hi ?_
  intro M1 e1 hc1
  have hs1 := hs.exC e1
  simp (disch := omega) only [lAdd, addL, lMul, mulL, nMul, nI_add, subL, lSub, nSub, nDec, nCl, lCl, nVp, lVp, nLe, nLt, nEq, lLe, leL, lLt, ltL, eqL, lEq, nM1, nM2, litLt0, one01, zero01, oneNe0, xupE, xupA, xupK, xI_I, xS_I, xF_I, xJ_I, xI_R, xS_R, xF_R, xJ_R, xI_L, xS_L, xF_L, xJ_L, xcat_s, le46, ge16, or_true, true_or, false_or, or_false, eq_self, Option.toList_some, Option.toList_none, List.cons_append, List.nil_append, true_and, and_true, not_false_eq_true, not_true_eq_false, if_true, if_false, B_293_1223, hs1.1, (hr.ex e1 crS).1.1.s, lse hs e1]
  refine r_restore (hr.ex e1 crS) hi ?_
  intro M2 e2 hr2
  simp (disch := omega) only [lAdd, addL, lMul, mulL, nMul, nI_add, subL, lSub, nSub, nDec, nCl, lCl, nVp, lVp, nLe, nLt, nEq, lLe, leL, lLt, ltL, eqL, lEq, nM1, nM2, litLt0, one01, zero01, oneNe0, xupE, xupA, xupK, xI_I, xS_I, xF_I, xJ_I, xI_R, xS_R, xF_R, xJ_R, xI_L, xS_L, xF_L, xJ_L, xcat_s, le46, ge16, or_true, true_or, false_or, or_false, eq_self, Option.toList_some, Option.toList_none, List.cons_append, List.nil_append, true_and, and_true, not_false_eq_true, not_true_eq_false, if_true, if_false, B_293_1232]
  exact hn M2 (LG.mk2 hs hp e1 e2 hc1 hr2 ((i_restore hi).up (by omega)))
theorem law_count {PK : (Nat → Nat → Int64) → Prop} {L k : Nat} {xs : Nat → Int32} {M : XM} {Q : Option Value → XM → Prop} (hL : L ≤ 3072) (hk : 6 * k + 6 ≤ L) (h : LG PK L xs (60 * k) M)
    (hn : ∀ M' : XM, LG PK L xs (60 * (k + 1)) M' → RG xprog 293 18 [some (.ref 1), some (.ref 16), some (.ref 439), some (.int (nI (6 * k + 6)))] [] M' Q) :
    RG xprog 291 0 [some (.ref 16), some (.int (xI M 1 (6 * k + 1)))] [] M (fun v M' => RG xprog 293 1246 [some (.ref 1), some (.ref 16), some (.ref 439), some (.int (nI (6 * k)))] (v.toList ++ []) M' Q) := by
  obtain ⟨hs, hp, t, lv, S, hc, hr, hi⟩ := h
  refine c_count ⟨hc, Ex.refl _ _⟩ hi ?_
  intro M1 k1
  have e1 := k1.2
  have hc1 := k1.1
  have hs1 := hs.exC e1
  simp (disch := omega) only [lAdd, addL, lMul, mulL, nMul, nI_add, subL, lSub, nSub, nDec, nCl, lCl, nVp, lVp, nLe, nLt, nEq, lLe, leL, lLt, ltL, eqL, lEq, nM1, nM2, litLt0, one01, zero01, oneNe0, xupE, xupA, xupK, xI_I, xS_I, xF_I, xJ_I, xI_R, xS_R, xF_R, xJ_R, xI_L, xS_L, xF_L, xJ_L, xcat_s, le46, ge16, or_true, true_or, false_or, or_false, eq_self, Option.toList_some, Option.toList_none, List.cons_append, List.nil_append, true_and, and_true, not_false_eq_true, not_true_eq_false, if_true, if_false, B_293_1246, hs1.1, (hr.ex e1 crS).1.1.s, lse hs e1]
  refine r_count ⟨hr.ex e1 crS, Ex.refl _ _⟩ hi (by omega) ?_
  intro M2 k2
  have e2 := k2.2
  have hr2 := k2.1
  simp (disch := omega) only [lAdd, addL, lMul, mulL, nMul, nI_add, subL, lSub, nSub, nDec, nCl, lCl, nVp, lVp, nLe, nLt, nEq, lLe, leL, lLt, ltL, eqL, lEq, nM1, nM2, litLt0, one01, zero01, oneNe0, xupE, xupA, xupK, xI_I, xS_I, xF_I, xJ_I, xI_R, xS_R, xF_R, xJ_R, xI_L, xS_L, xF_L, xJ_L, xcat_s, le46, ge16, or_true, true_or, false_or, or_false, eq_self, Option.toList_some, Option.toList_none, List.cons_append, List.nil_append, true_and, and_true, not_false_eq_true, not_true_eq_false, if_true, if_false, B_293_1255]
  exact hn M2 (LG.mk2 hs hp e1 e2 hc1 hr2 (hi.up (by omega)))
