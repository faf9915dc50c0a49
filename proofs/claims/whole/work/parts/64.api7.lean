/-! answers: count, place -/
theorem e33 : (3 : Int32) - 3 = 0 ∧ (4 : Int32) - 3 = 1 ∧ (5 : Int32) - 3 = 2 ∧ (6 : Int32) - 3 = 3 := by decide
def A_count (S : XS) (w : Int32) : Int32 :=
  if w = 0 then nI (tN (zT S)) else if w = 1 then nI (tR (zT S)) else if w = 2 then oD (zF S) else
  if w = 3 then xbits (oW (zF S)) 0 (tN (zT S)) else if w = 4 then xbits (oW (zF S)) 1 (tN (zT S)) else if w = 5 then xbits (oW (zF S)) 2 (tN (zT S)) else if w = 6 then xbits (oW (zF S)) 3 (tN (zT S)) else
  if w = 7 then allR (zT S) (zF S) else if w = 8 then nI (zPn S) else if w = 9 then nI (zHn S) else if w = 10 then nI (zDn S) else if w = 11 then nI (pcn (bn (slb (zS S)) 3)) else
  if w = 12 then (if tS (zT S) 1 ≤ lotv (tS (zT S) 2) (oD (zF S)) then 0 else 1) else if w = 13 then xsum (oB (zF S)) (tN (zT S)) else if w = 14 then xsum (oU (zF S)) (tR (zT S)) else if w = 15 then xbits (oS (zF S)) (-2) (tR (zT S)) else -1
theorem CW.tp {M : XM} {t : Nat} {S : XS} (h : CW M t S) : xS M 17 = (7, 0) ∧ xF M 17 0 = 18 ∧ xS M 18 = (41, 2000) ∧ xI M 17 1 = nI (zPn S) := ⟨h.1.2.1.1, h.1.2.1.2.1, h.1.2.1.2.2, h.2.2.2.2.2.1.1⟩
theorem CW.hs {M : XM} {t : Nat} {S : XS} (h : CW M t S) : xS M 120 = (2, 0) ∧ xF M 120 0 = 121 ∧ xS M 121 = (45, 40) ∧ xI M 120 2 = nI (zHn S) := ⟨h.1.2.2.2.2.1.1, h.1.2.2.2.2.1.2.1, h.1.2.2.2.2.1.2.2.1, h.2.2.2.2.2.2.2.1.1⟩
theorem CW.td {M : XM} {t : Nat} {S : XS} (h : CW M t S) : xS M 402 = (10, 0) ∧ xF M 402 0 = 403 ∧ xF M 402 1 = 404 ∧ xF M 402 2 = 405 ∧ xS M 403 = (40, 20) ∧ xS M 404 = (40, 20) ∧ xS M 405 = (42, 20) ∧ xI M 402 3 = nI (zDn S) := ⟨h.1.2.2.2.2.2.1.1, h.1.2.2.2.2.2.1.2.1, h.1.2.2.2.2.2.1.2.2.1, h.1.2.2.2.2.2.1.2.2.2.1, h.1.2.2.2.2.2.1.2.2.2.2.1, h.1.2.2.2.2.2.1.2.2.2.2.2.1, h.1.2.2.2.2.2.1.2.2.2.2.2.2, h.2.2.2.2.2.2.2.2.2.1⟩
theorem CW.tdv {M : XM} {t : Nat} {S : XS} (h : CW M t S) {i : Nat} (hi : i < zDn S) : xI M 403 i = zD0 S i ∧ xI M 404 i = zD1 S i ∧ xI M 405 i = zD2 S i := h.2.2.2.2.2.2.2.2.2.2 i hi
theorem CW.sl {M : XM} {t : Nat} {S : XS} (h : CW M t S) : xI M 16 7 = nI (bn (slb (zS S)) 3) := h.2.2.2.2.2.2.2.2.1.1
theorem c_count {M0 M : XM} {t B : Nat} {S : XS} {w : Int32} {Q : Option Value → XM → Prop} (h : CK M0 t S M) (hi : SInv B S)
    (hQ : ∀ M' : XM, CK M0 t S M' → Q (some (.int (A_count S w))) M') :
    RG xprog 291 0 [some (.ref 16), some (.int w)] [] M Q := by
  have n7 := h.1.tx.n7
  have r6 := h.1.tx.r6
  unfold A_count at hQ
  rw [B_291_0]
  have q := hQ M h
  have lat := fun p (Q : Option Value → XM → Prop) => c_lettersAt (p := p) (Q := Q) h.1.of.1 n7
  by_cases q0 : w = 0
  · subst q0
    simp (disch := omega) only [llEq, llLt, llLe, nFalse, lAdd, addL, lMul, mulL, nMul, nI_add, subL, lSub, nSub, nDec, nCl, lCl, nVp, lVp, nLe, nLt, nEq, lLe, leL, lLt, ltL, eqL, lEq, nM1, nM2, litLt0, one01, zero01, oneNe0, xupE, xupA, xupK, xI_I, xS_I, xF_I, xJ_I, xI_R, xS_R, xF_R, xJ_R, xI_L, xS_L, xF_L, xJ_L, xcat_s, le46, ge16, or_true, true_or, false_or, or_false, eq_self, Option.toList_some, Option.toList_none, List.cons_append, List.nil_append, true_and, and_true, not_false_eq_true, not_true_eq_false, if_true, if_false, h.1.d, h.1.tx.f, h.1.tx.n, h.1.tx.r, h.1.of.f, h.1.of.v] at q ⊢
    exact q
  by_cases q1 : w = 1
  · subst q1
    simp (disch := omega) only [llEq, llLt, llLe, nFalse, lAdd, addL, lMul, mulL, nMul, nI_add, subL, lSub, nSub, nDec, nCl, lCl, nVp, lVp, nLe, nLt, nEq, lLe, leL, lLt, ltL, eqL, lEq, nM1, nM2, litLt0, one01, zero01, oneNe0, xupE, xupA, xupK, xI_I, xS_I, xF_I, xJ_I, xI_R, xS_R, xF_R, xJ_R, xI_L, xS_L, xF_L, xJ_L, xcat_s, le46, ge16, or_true, true_or, false_or, or_false, eq_self, Option.toList_some, Option.toList_none, List.cons_append, List.nil_append, true_and, and_true, not_false_eq_true, not_true_eq_false, if_true, if_false, h.1.d, h.1.tx.f, h.1.tx.n, h.1.tx.r, h.1.of.f, h.1.of.v] at q ⊢
    exact q
  by_cases q2 : w = 2
  · subst q2
    simp (disch := omega) only [llEq, llLt, llLe, nFalse, lAdd, addL, lMul, mulL, nMul, nI_add, subL, lSub, nSub, nDec, nCl, lCl, nVp, lVp, nLe, nLt, nEq, lLe, leL, lLt, ltL, eqL, lEq, nM1, nM2, litLt0, one01, zero01, oneNe0, xupE, xupA, xupK, xI_I, xS_I, xF_I, xJ_I, xI_R, xS_R, xF_R, xJ_R, xI_L, xS_L, xF_L, xJ_L, xcat_s, le46, ge16, or_true, true_or, false_or, or_false, eq_self, Option.toList_some, Option.toList_none, List.cons_append, List.nil_append, true_and, and_true, not_false_eq_true, not_true_eq_false, if_true, if_false, h.1.d, h.1.tx.f, h.1.tx.n, h.1.tx.r, h.1.of.f, h.1.of.v] at q ⊢
    exact q
  by_cases q3 : w = 3
  · subst q3
    simp (disch := omega) only [llEq, llLt, llLe, nFalse, lAdd, addL, lMul, mulL, nMul, nI_add, subL, lSub, nSub, nDec, nCl, lCl, nVp, lVp, nLe, nLt, nEq, lLe, leL, lLt, ltL, eqL, lEq, nM1, nM2, litLt0, one01, zero01, oneNe0, xupE, xupA, xupK, xI_I, xS_I, xF_I, xJ_I, xI_R, xS_R, xF_R, xJ_R, xI_L, xS_L, xF_L, xJ_L, xcat_s, le46, ge16, or_true, true_or, false_or, or_false, eq_self, Option.toList_some, Option.toList_none, List.cons_append, List.nil_append, true_and, and_true, not_false_eq_true, not_true_eq_false, if_true, if_false, B_291_104, h.1.d, h.1.tx.f, h.1.tx.n, h.1.tx.r, h.1.of.f, h.1.of.v, e33, lat, B_291_121] at q ⊢
    exact q
  by_cases q4 : w = 4
  · subst q4
    simp (disch := omega) only [llEq, llLt, llLe, nFalse, lAdd, addL, lMul, mulL, nMul, nI_add, subL, lSub, nSub, nDec, nCl, lCl, nVp, lVp, nLe, nLt, nEq, lLe, leL, lLt, ltL, eqL, lEq, nM1, nM2, litLt0, one01, zero01, oneNe0, xupE, xupA, xupK, xI_I, xS_I, xF_I, xJ_I, xI_R, xS_R, xF_R, xJ_R, xI_L, xS_L, xF_L, xJ_L, xcat_s, le46, ge16, or_true, true_or, false_or, or_false, eq_self, Option.toList_some, Option.toList_none, List.cons_append, List.nil_append, true_and, and_true, not_false_eq_true, not_true_eq_false, if_true, if_false, B_291_104, h.1.d, h.1.tx.f, h.1.tx.n, h.1.tx.r, h.1.of.f, h.1.of.v, e33, lat, B_291_121] at q ⊢
    exact q
  by_cases q5 : w = 5
  · subst q5
    simp (disch := omega) only [llEq, llLt, llLe, nFalse, lAdd, addL, lMul, mulL, nMul, nI_add, subL, lSub, nSub, nDec, nCl, lCl, nVp, lVp, nLe, nLt, nEq, lLe, leL, lLt, ltL, eqL, lEq, nM1, nM2, litLt0, one01, zero01, oneNe0, xupE, xupA, xupK, xI_I, xS_I, xF_I, xJ_I, xI_R, xS_R, xF_R, xJ_R, xI_L, xS_L, xF_L, xJ_L, xcat_s, le46, ge16, or_true, true_or, false_or, or_false, eq_self, Option.toList_some, Option.toList_none, List.cons_append, List.nil_append, true_and, and_true, not_false_eq_true, not_true_eq_false, if_true, if_false, B_291_104, h.1.d, h.1.tx.f, h.1.tx.n, h.1.tx.r, h.1.of.f, h.1.of.v, e33, lat, B_291_121] at q ⊢
    exact q
  by_cases q6 : w = 6
  · subst q6
    simp (disch := omega) only [llEq, llLt, llLe, nFalse, lAdd, addL, lMul, mulL, nMul, nI_add, subL, lSub, nSub, nDec, nCl, lCl, nVp, lVp, nLe, nLt, nEq, lLe, leL, lLt, ltL, eqL, lEq, nM1, nM2, litLt0, one01, zero01, oneNe0, xupE, xupA, xupK, xI_I, xS_I, xF_I, xJ_I, xI_R, xS_R, xF_R, xJ_R, xI_L, xS_L, xF_L, xJ_L, xcat_s, le46, ge16, or_true, true_or, false_or, or_false, eq_self, Option.toList_some, Option.toList_none, List.cons_append, List.nil_append, true_and, and_true, not_false_eq_true, not_true_eq_false, if_true, if_false, B_291_104, h.1.d, h.1.tx.f, h.1.tx.n, h.1.tx.r, h.1.of.f, h.1.of.v, e33, lat, B_291_121] at q ⊢
    exact q
  by_cases q7 : w = 7
  · subst q7
    simp (disch := omega) only [llEq, llLt, llLe, nFalse, lAdd, addL, lMul, mulL, nMul, nI_add, subL, lSub, nSub, nDec, nCl, lCl, nVp, lVp, nLe, nLt, nEq, lLe, leL, lLt, ltL, eqL, lEq, nM1, nM2, litLt0, one01, zero01, oneNe0, xupE, xupA, xupK, xI_I, xS_I, xF_I, xJ_I, xI_R, xS_R, xF_R, xJ_R, xI_L, xS_L, xF_L, xJ_L, xcat_s, le46, ge16, or_true, true_or, false_or, or_false, eq_self, Option.toList_some, Option.toList_none, List.cons_append, List.nil_append, true_and, and_true, not_false_eq_true, not_true_eq_false, if_true, if_false, h.1.d, h.1.tx.f, h.1.tx.n, h.1.tx.r, h.1.of.f, h.1.of.v] at hQ ⊢
    refine c_allLikes h.1.tx h.1.of hi.2.1 h.1.sep ?_
    intro M1 e1
    simp (disch := omega) only [lAdd, addL, lMul, mulL, nMul, nI_add, subL, lSub, nSub, nDec, nCl, lCl, nVp, lVp, nLe, nLt, nEq, lLe, leL, lLt, ltL, eqL, lEq, nM1, nM2, litLt0, one01, zero01, oneNe0, xupE, xupA, xupK, xI_I, xS_I, xF_I, xJ_I, xI_R, xS_R, xF_R, xJ_R, xI_L, xS_L, xF_L, xJ_L, xcat_s, le46, ge16, or_true, true_or, false_or, or_false, eq_self, Option.toList_some, Option.toList_none, List.cons_append, List.nil_append, true_and, and_true, not_false_eq_true, not_true_eq_false, if_true, if_false, B_291_133]
    exact hQ M1 (h.stepX e1)
  by_cases q8 : w = 8
  · subst q8
    simp (disch := omega) only [llEq, llLt, llLe, nFalse, lAdd, addL, lMul, mulL, nMul, nI_add, subL, lSub, nSub, nDec, nCl, lCl, nVp, lVp, nLe, nLt, nEq, lLe, leL, lLt, ltL, eqL, lEq, nM1, nM2, litLt0, one01, zero01, oneNe0, xupE, xupA, xupK, xI_I, xS_I, xF_I, xJ_I, xI_R, xS_R, xF_R, xJ_R, xI_L, xS_L, xF_L, xJ_L, xcat_s, le46, ge16, or_true, true_or, false_or, or_false, eq_self, Option.toList_some, Option.toList_none, List.cons_append, List.nil_append, true_and, and_true, not_false_eq_true, not_true_eq_false, if_true, if_false, h.1.d, h.1.tx.f, h.1.tx.n, h.1.tx.r, h.1.of.f, h.1.of.v, h.1.tp, h.1.hs, h.1.td] at q ⊢
    exact q
  by_cases q9 : w = 9
  · subst q9
    simp (disch := omega) only [llEq, llLt, llLe, nFalse, lAdd, addL, lMul, mulL, nMul, nI_add, subL, lSub, nSub, nDec, nCl, lCl, nVp, lVp, nLe, nLt, nEq, lLe, leL, lLt, ltL, eqL, lEq, nM1, nM2, litLt0, one01, zero01, oneNe0, xupE, xupA, xupK, xI_I, xS_I, xF_I, xJ_I, xI_R, xS_R, xF_R, xJ_R, xI_L, xS_L, xF_L, xJ_L, xcat_s, le46, ge16, or_true, true_or, false_or, or_false, eq_self, Option.toList_some, Option.toList_none, List.cons_append, List.nil_append, true_and, and_true, not_false_eq_true, not_true_eq_false, if_true, if_false, h.1.d, h.1.tx.f, h.1.tx.n, h.1.tx.r, h.1.of.f, h.1.of.v, h.1.tp, h.1.hs, h.1.td] at q ⊢
    exact q
  by_cases q10 : w = 10
  · subst q10
    simp (disch := omega) only [llEq, llLt, llLe, nFalse, lAdd, addL, lMul, mulL, nMul, nI_add, subL, lSub, nSub, nDec, nCl, lCl, nVp, lVp, nLe, nLt, nEq, lLe, leL, lLt, ltL, eqL, lEq, nM1, nM2, litLt0, one01, zero01, oneNe0, xupE, xupA, xupK, xI_I, xS_I, xF_I, xJ_I, xI_R, xS_R, xF_R, xJ_R, xI_L, xS_L, xF_L, xJ_L, xcat_s, le46, ge16, or_true, true_or, false_or, or_false, eq_self, Option.toList_some, Option.toList_none, List.cons_append, List.nil_append, true_and, and_true, not_false_eq_true, not_true_eq_false, if_true, if_false, h.1.d, h.1.tx.f, h.1.tx.n, h.1.tx.r, h.1.of.f, h.1.of.v, h.1.tp, h.1.hs, h.1.td] at q ⊢
    exact q
  by_cases q11 : w = 11
  · subst q11
    simp (disch := omega) only [llEq, llLt, llLe, nFalse, lAdd, addL, lMul, mulL, nMul, nI_add, subL, lSub, nSub, nDec, nCl, lCl, nVp, lVp, nLe, nLt, nEq, lLe, leL, lLt, ltL, eqL, lEq, nM1, nM2, litLt0, one01, zero01, oneNe0, xupE, xupA, xupK, xI_I, xS_I, xF_I, xJ_I, xI_R, xS_R, xF_R, xJ_R, xI_L, xS_L, xF_L, xJ_L, xcat_s, le46, ge16, or_true, true_or, false_or, or_false, eq_self, Option.toList_some, Option.toList_none, List.cons_append, List.nil_append, true_and, and_true, not_false_eq_true, not_true_eq_false, if_true, if_false, h.1.d, h.1.tx.f, h.1.tx.n, h.1.tx.r, h.1.of.f, h.1.of.v, h.1.sl, c_bitCount (bn128 (slb (zS S)) (show 3 ≤ 7 by omega)), B_291_165] at q ⊢
    exact q
  by_cases q12 : w = 12
  · subst q12
    simp (disch := omega) only [llEq, llLt, llLe, nFalse, lAdd, addL, lMul, mulL, nMul, nI_add, subL, lSub, nSub, nDec, nCl, lCl, nVp, lVp, nLe, nLt, nEq, lLe, leL, lLt, ltL, eqL, lEq, nM1, nM2, litLt0, one01, zero01, oneNe0, xupE, xupA, xupK, xI_I, xS_I, xF_I, xJ_I, xI_R, xS_R, xF_R, xJ_R, xI_L, xS_L, xF_L, xJ_L, xcat_s, le46, ge16, or_true, true_or, false_or, or_false, eq_self, Option.toList_some, Option.toList_none, List.cons_append, List.nil_append, true_and, and_true, not_false_eq_true, not_true_eq_false, if_true, if_false, h.1.d, h.1.tx.f, h.1.tx.n, h.1.tx.r, h.1.of.f, h.1.of.v, c_seed h.1.tx, B_291_173, c_wet h.1.tx, B_291_187, c_isWet, B_291_190, ite01, ite_i] at q ⊢
    exact q
  by_cases q13 : w = 13
  · subst q13
    simp (disch := omega) only [llEq, llLt, llLe, nFalse, lAdd, addL, lMul, mulL, nMul, nI_add, subL, lSub, nSub, nDec, nCl, lCl, nVp, lVp, nLe, nLt, nEq, lLe, leL, lLt, ltL, eqL, lEq, nM1, nM2, litLt0, one01, zero01, oneNe0, xupE, xupA, xupK, xI_I, xS_I, xF_I, xJ_I, xI_R, xS_R, xF_R, xJ_R, xI_L, xS_L, xF_L, xJ_L, xcat_s, le46, ge16, or_true, true_or, false_or, or_false, eq_self, Option.toList_some, Option.toList_none, List.cons_append, List.nil_append, true_and, and_true, not_false_eq_true, not_true_eq_false, if_true, if_false, h.1.d, h.1.tx.f, h.1.tx.n, h.1.tx.r, h.1.of.f, h.1.of.v, c_allSentBack h.1.of.1 n7, B_291_213] at q ⊢
    exact q
  by_cases q14 : w = 14
  · subst q14
    simp (disch := omega) only [llEq, llLt, llLe, nFalse, lAdd, addL, lMul, mulL, nMul, nI_add, subL, lSub, nSub, nDec, nCl, lCl, nVp, lVp, nLe, nLt, nEq, lLe, leL, lLt, ltL, eqL, lEq, nM1, nM2, litLt0, one01, zero01, oneNe0, xupE, xupA, xupK, xI_I, xS_I, xF_I, xJ_I, xI_R, xS_R, xF_R, xJ_R, xI_L, xS_L, xF_L, xJ_L, xcat_s, le46, ge16, or_true, true_or, false_or, or_false, eq_self, Option.toList_some, Option.toList_none, List.cons_append, List.nil_append, true_and, and_true, not_false_eq_true, not_true_eq_false, if_true, if_false, h.1.d, h.1.tx.f, h.1.tx.n, h.1.tx.r, h.1.of.f, h.1.of.v, c_allHad h.1.of.1 r6, B_291_228] at q ⊢
    exact q
  by_cases q15 : w = 15
  · subst q15
    simp (disch := omega) only [llEq, llLt, llLe, nFalse, lAdd, addL, lMul, mulL, nMul, nI_add, subL, lSub, nSub, nDec, nCl, lCl, nVp, lVp, nLe, nLt, nEq, lLe, leL, lLt, ltL, eqL, lEq, nM1, nM2, litLt0, one01, zero01, oneNe0, xupE, xupA, xupK, xI_I, xS_I, xF_I, xJ_I, xI_R, xS_R, xF_R, xJ_R, xI_L, xS_L, xF_L, xJ_L, xcat_s, le46, ge16, or_true, true_or, false_or, or_false, eq_self, Option.toList_some, Option.toList_none, List.cons_append, List.nil_append, true_and, and_true, not_false_eq_true, not_true_eq_false, if_true, if_false, h.1.d, h.1.tx.f, h.1.tx.n, h.1.tx.r, h.1.of.f, h.1.of.v, c_freeReaders h.1.of.1 r6, B_291_243] at q ⊢
    exact q
  simp only [q0, q1, q2, q3, q4, q5, q6, q7, q8, q9, q10, q11, q12, q13, q14, q15, if_false] at q ⊢
  exact q
theorem r_isFree {M : XM} {lv a : Nat} {T : XT} {F : XO} {Q : Option Value → XM → Prop} (h : RR M lv T F) (ha : a < 6) : RG xprog 194 0 [some (.ref 439), some (.int (nI a))] [] M Q = Q (some (.int (if oS F a = -2 then 1 else 0))) M := by
  have n7 := h.n7
  rw [B_194_0]
  simp (disch := omega) only [h.s.s, r_letterOf h ha, B_194_5, lAdd, addL, lMul, mulL, nMul, nI_add, subL, lSub, nSub, nDec, nCl, lCl, nVp, lVp, nLe, nLt, nEq, lLe, leL, lLt, ltL, eqL, lEq, nM1, nM2, litLt0, one01, zero01, oneNe0, xupE, xupA, xupK, xI_I, xS_I, xF_I, xJ_I, xI_R, xS_R, xF_R, xJ_R, xI_L, xS_L, xF_L, xJ_L, xcat_s, le46, ge16, or_true, true_or, false_or, or_false, eq_self, Option.toList_some, Option.toList_none, List.cons_append, List.nil_append, true_and, and_true, not_false_eq_true, not_true_eq_false, if_true, if_false, ite_i]
  congr 3
  by_cases hs : oS F a = -2
  · rw [hs, if_neg (by decide), if_pos rfl]
  · obtain ⟨l, h1, h2⟩ := h.i.s2 ha hs
    rw [if_neg hs, h2, if_pos (by rw [lLe (by omega) (by omega)]; omega)]
theorem held3 (b0 b1 b2 : Bool) : (if b0 = true then (1 : Int32) else 0) + (if b1 = true then 1 else 0) + (if b2 = true then 1 else 0) = nI (pcn (bn (fun i => if i = 0 then b0 else if i = 1 then b1 else b2) 3)) := by
  cases b0 <;> cases b1 <;> cases b2 <;> decide
theorem r_count {M0 M : XM} {lv B : Nat} {S : XS} {w : Int32} {Q : Option Value → XM → Prop} (h : RK M0 lv S M) (hi : SInv B S) (hB : B ≤ 99999)
    (hQ : ∀ M' : XM, RK M0 lv S M' → Q (some (.int (A_count S w))) M') :
    RG xprog 292 0 [some (.ref 439), some (.int w), none, none] [] M Q := by
  have n7 := h.1.1.n7
  have r6 := h.1.1.r6
  have l2 := h.1.1.lv2
  unfold A_count at hQ
  rw [B_292_0]
  simp (disch := omega) only [h.1.1.1.s, lAdd, addL, lMul, mulL, nMul, nI_add, subL, lSub, nSub, nDec, nCl, lCl, nVp, lVp, nLe, nLt, nEq, lLe, leL, lLt, ltL, eqL, lEq, nM1, nM2, litLt0, one01, zero01, oneNe0, xupE, xupA, xupK, xI_I, xS_I, xF_I, xJ_I, xI_R, xS_R, xF_R, xJ_R, xI_L, xS_L, xF_L, xJ_L, xcat_s, le46, ge16, or_true, true_or, false_or, or_false, eq_self, Option.toList_some, Option.toList_none, List.cons_append, List.nil_append, true_and, and_true, not_false_eq_true, not_true_eq_false, if_true, if_false]
  refine r_copies h hi hB ?_
  intro M1 h1
  have q := hQ M1 h1.1
  simp (disch := omega) only [lAdd, addL, lMul, mulL, nMul, nI_add, subL, lSub, nSub, nDec, nCl, lCl, nVp, lVp, nLe, nLt, nEq, lLe, leL, lLt, ltL, eqL, lEq, nM1, nM2, litLt0, one01, zero01, oneNe0, xupE, xupA, xupK, xI_I, xS_I, xF_I, xJ_I, xI_R, xS_R, xF_R, xJ_R, xI_L, xS_L, xF_L, xJ_L, xcat_s, le46, ge16, or_true, true_or, false_or, or_false, eq_self, Option.toList_some, Option.toList_none, List.cons_append, List.nil_append, true_and, and_true, not_false_eq_true, not_true_eq_false, if_true, if_false]
  rw [B_292_4]
  have k2 := h1.1.1.2.2.1.1
  have k55 := h1.1.1.2.2.2.2.1.1
  have k62 := h1.1.1.2.2.2.2.2.2.1
  have wb := fun p (Q : Option Value → XM → Prop) => r_whereBits (p := p) (Q := Q) h1.2.1
  by_cases q0 : w = 0
  · subst q0
    simp (disch := omega) only [llEq, llLt, llLe, nFalse, lAdd, addL, lMul, mulL, nMul, nI_add, subL, lSub, nSub, nDec, nCl, lCl, nVp, lVp, nLe, nLt, nEq, lLe, leL, lLt, ltL, eqL, lEq, nM1, nM2, litLt0, one01, zero01, oneNe0, xupE, xupA, xupK, xI_I, xS_I, xF_I, xJ_I, xI_R, xS_R, xF_R, xJ_R, xI_L, xS_L, xF_L, xJ_L, xcat_s, le46, ge16, or_true, true_or, false_or, or_false, eq_self, Option.toList_some, Option.toList_none, List.cons_append, List.nil_append, true_and, and_true, not_false_eq_true, not_true_eq_false, if_true, if_false, h1.2.1.s.s, h1.2.1.s.f, h1.2.1.v, h1.2.1.n, h1.2.1.r, h1.2.1.d] at q ⊢
    exact q
  by_cases q1 : w = 1
  · subst q1
    simp (disch := omega) only [llEq, llLt, llLe, nFalse, lAdd, addL, lMul, mulL, nMul, nI_add, subL, lSub, nSub, nDec, nCl, lCl, nVp, lVp, nLe, nLt, nEq, lLe, leL, lLt, ltL, eqL, lEq, nM1, nM2, litLt0, one01, zero01, oneNe0, xupE, xupA, xupK, xI_I, xS_I, xF_I, xJ_I, xI_R, xS_R, xF_R, xJ_R, xI_L, xS_L, xF_L, xJ_L, xcat_s, le46, ge16, or_true, true_or, false_or, or_false, eq_self, Option.toList_some, Option.toList_none, List.cons_append, List.nil_append, true_and, and_true, not_false_eq_true, not_true_eq_false, if_true, if_false, h1.2.1.s.s, h1.2.1.s.f, h1.2.1.v, h1.2.1.n, h1.2.1.r, h1.2.1.d] at q ⊢
    exact q
  by_cases q2 : w = 2
  · subst q2
    simp (disch := omega) only [llEq, llLt, llLe, nFalse, lAdd, addL, lMul, mulL, nMul, nI_add, subL, lSub, nSub, nDec, nCl, lCl, nVp, lVp, nLe, nLt, nEq, lLe, leL, lLt, ltL, eqL, lEq, nM1, nM2, litLt0, one01, zero01, oneNe0, xupE, xupA, xupK, xI_I, xS_I, xF_I, xJ_I, xI_R, xS_R, xF_R, xJ_R, xI_L, xS_L, xF_L, xJ_L, xcat_s, le46, ge16, or_true, true_or, false_or, or_false, eq_self, Option.toList_some, Option.toList_none, List.cons_append, List.nil_append, true_and, and_true, not_false_eq_true, not_true_eq_false, if_true, if_false, h1.2.1.s.s, h1.2.1.s.f, h1.2.1.v, h1.2.1.n, h1.2.1.r, h1.2.1.d] at q ⊢
    exact q
  by_cases q3 : w = 3
  · subst q3
    simp (disch := omega) only [llEq, llLt, llLe, nFalse, lAdd, addL, lMul, mulL, nMul, nI_add, subL, lSub, nSub, nDec, nCl, lCl, nVp, lVp, nLe, nLt, nEq, lLe, leL, lLt, ltL, eqL, lEq, nM1, nM2, litLt0, one01, zero01, oneNe0, xupE, xupA, xupK, xI_I, xS_I, xF_I, xJ_I, xI_R, xS_R, xF_R, xJ_R, xI_L, xS_L, xF_L, xJ_L, xcat_s, le46, ge16, or_true, true_or, false_or, or_false, eq_self, Option.toList_some, Option.toList_none, List.cons_append, List.nil_append, true_and, and_true, not_false_eq_true, not_true_eq_false, if_true, if_false, h1.2.1.s.s, h1.2.1.s.f, h1.2.1.v, h1.2.1.n, h1.2.1.r, wb, B_292_117, B_292_123, B_292_129, B_292_135] at q ⊢
    exact q
  by_cases q4 : w = 4
  · subst q4
    simp (disch := omega) only [llEq, llLt, llLe, nFalse, lAdd, addL, lMul, mulL, nMul, nI_add, subL, lSub, nSub, nDec, nCl, lCl, nVp, lVp, nLe, nLt, nEq, lLe, leL, lLt, ltL, eqL, lEq, nM1, nM2, litLt0, one01, zero01, oneNe0, xupE, xupA, xupK, xI_I, xS_I, xF_I, xJ_I, xI_R, xS_R, xF_R, xJ_R, xI_L, xS_L, xF_L, xJ_L, xcat_s, le46, ge16, or_true, true_or, false_or, or_false, eq_self, Option.toList_some, Option.toList_none, List.cons_append, List.nil_append, true_and, and_true, not_false_eq_true, not_true_eq_false, if_true, if_false, h1.2.1.s.s, h1.2.1.s.f, h1.2.1.v, h1.2.1.n, h1.2.1.r, wb, B_292_117, B_292_123, B_292_129, B_292_135] at q ⊢
    exact q
  by_cases q5 : w = 5
  · subst q5
    simp (disch := omega) only [llEq, llLt, llLe, nFalse, lAdd, addL, lMul, mulL, nMul, nI_add, subL, lSub, nSub, nDec, nCl, lCl, nVp, lVp, nLe, nLt, nEq, lLe, leL, lLt, ltL, eqL, lEq, nM1, nM2, litLt0, one01, zero01, oneNe0, xupE, xupA, xupK, xI_I, xS_I, xF_I, xJ_I, xI_R, xS_R, xF_R, xJ_R, xI_L, xS_L, xF_L, xJ_L, xcat_s, le46, ge16, or_true, true_or, false_or, or_false, eq_self, Option.toList_some, Option.toList_none, List.cons_append, List.nil_append, true_and, and_true, not_false_eq_true, not_true_eq_false, if_true, if_false, h1.2.1.s.s, h1.2.1.s.f, h1.2.1.v, h1.2.1.n, h1.2.1.r, wb, B_292_117, B_292_123, B_292_129, B_292_135] at q ⊢
    exact q
  by_cases q6 : w = 6
  · subst q6
    simp (disch := omega) only [llEq, llLt, llLe, nFalse, lAdd, addL, lMul, mulL, nMul, nI_add, subL, lSub, nSub, nDec, nCl, lCl, nVp, lVp, nLe, nLt, nEq, lLe, leL, lLt, ltL, eqL, lEq, nM1, nM2, litLt0, one01, zero01, oneNe0, xupE, xupA, xupK, xI_I, xS_I, xF_I, xJ_I, xI_R, xS_R, xF_R, xJ_R, xI_L, xS_L, xF_L, xJ_L, xcat_s, le46, ge16, or_true, true_or, false_or, or_false, eq_self, Option.toList_some, Option.toList_none, List.cons_append, List.nil_append, true_and, and_true, not_false_eq_true, not_true_eq_false, if_true, if_false, h1.2.1.s.s, h1.2.1.s.f, h1.2.1.v, h1.2.1.n, h1.2.1.r, wb, B_292_117, B_292_123, B_292_129, B_292_135] at q ⊢
    exact q
  by_cases q7 : w = 7
  · subst q7
    simp (disch := omega) only [llEq, llLt, llLe, nFalse, lAdd, addL, lMul, mulL, nMul, nI_add, subL, lSub, nSub, nDec, nCl, lCl, nVp, lVp, nLe, nLt, nEq, lLe, leL, lLt, ltL, eqL, lEq, nM1, nM2, litLt0, one01, zero01, oneNe0, xupE, xupA, xupK, xI_I, xS_I, xF_I, xJ_I, xI_R, xS_R, xF_R, xJ_R, xI_L, xS_L, xF_L, xJ_L, xcat_s, le46, ge16, or_true, true_or, false_or, or_false, eq_self, Option.toList_some, Option.toList_none, List.cons_append, List.nil_append, true_and, and_true, not_false_eq_true, not_true_eq_false, if_true, if_false, h1.2.1.s.s, h1.2.1.s.f, h1.2.1.v, h1.2.1.n, h1.2.1.r] at hQ ⊢
    refine q_likedAll h1 ?_
    intro M2 h2
    simp (disch := omega) only [lAdd, addL, lMul, mulL, nMul, nI_add, subL, lSub, nSub, nDec, nCl, lCl, nVp, lVp, nLe, nLt, nEq, lLe, leL, lLt, ltL, eqL, lEq, nM1, nM2, litLt0, one01, zero01, oneNe0, xupE, xupA, xupK, xI_I, xS_I, xF_I, xJ_I, xI_R, xS_R, xF_R, xJ_R, xI_L, xS_L, xF_L, xJ_L, xcat_s, le46, ge16, or_true, true_or, false_or, or_false, eq_self, Option.toList_some, Option.toList_none, List.cons_append, List.nil_append, true_and, and_true, not_false_eq_true, not_true_eq_false, if_true, if_false, B_292_140]
    exact hQ M2 h2.1
  by_cases q8 : w = 8
  · subst q8
    simp (disch := omega) only [llEq, llLt, llLe, nFalse, lAdd, addL, lMul, mulL, nMul, nI_add, subL, lSub, nSub, nDec, nCl, lCl, nVp, lVp, nLe, nLt, nEq, lLe, leL, lLt, ltL, eqL, lEq, nM1, nM2, litLt0, one01, zero01, oneNe0, xupE, xupA, xupK, xI_I, xS_I, xF_I, xJ_I, xI_R, xS_R, xF_R, xJ_R, xI_L, xS_L, xF_L, xJ_L, xcat_s, le46, ge16, or_true, true_or, false_or, or_false, eq_self, Option.toList_some, Option.toList_none, List.cons_append, List.nil_append, true_and, and_true, not_false_eq_true, not_true_eq_false, if_true, if_false, h1.2.1.s.s, h1.2.1.s.f, h1.2.1.v, h1.2.1.n, h1.2.1.r, k2, k55, k62] at q ⊢
    exact q
  by_cases q9 : w = 9
  · subst q9
    simp (disch := omega) only [llEq, llLt, llLe, nFalse, lAdd, addL, lMul, mulL, nMul, nI_add, subL, lSub, nSub, nDec, nCl, lCl, nVp, lVp, nLe, nLt, nEq, lLe, leL, lLt, ltL, eqL, lEq, nM1, nM2, litLt0, one01, zero01, oneNe0, xupE, xupA, xupK, xI_I, xS_I, xF_I, xJ_I, xI_R, xS_R, xF_R, xJ_R, xI_L, xS_L, xF_L, xJ_L, xcat_s, le46, ge16, or_true, true_or, false_or, or_false, eq_self, Option.toList_some, Option.toList_none, List.cons_append, List.nil_append, true_and, and_true, not_false_eq_true, not_true_eq_false, if_true, if_false, h1.2.1.s.s, h1.2.1.s.f, h1.2.1.v, h1.2.1.n, h1.2.1.r, k2, k55, k62] at q ⊢
    exact q
  by_cases q10 : w = 10
  · subst q10
    simp (disch := omega) only [llEq, llLt, llLe, nFalse, lAdd, addL, lMul, mulL, nMul, nI_add, subL, lSub, nSub, nDec, nCl, lCl, nVp, lVp, nLe, nLt, nEq, lLe, leL, lLt, ltL, eqL, lEq, nM1, nM2, litLt0, one01, zero01, oneNe0, xupE, xupA, xupK, xI_I, xS_I, xF_I, xJ_I, xI_R, xS_R, xF_R, xJ_R, xI_L, xS_L, xF_L, xJ_L, xcat_s, le46, ge16, or_true, true_or, false_or, or_false, eq_self, Option.toList_some, Option.toList_none, List.cons_append, List.nil_append, true_and, and_true, not_false_eq_true, not_true_eq_false, if_true, if_false, h1.2.1.s.s, h1.2.1.s.f, h1.2.1.v, h1.2.1.n, h1.2.1.r, k2, k55, k62] at q ⊢
    exact q
  by_cases q11 : w = 11
  · subst q11
    have s0 := (h1.1.1.2.2.2.2.2.1 0 (by omega)).1
    have s1 := (h1.1.1.2.2.2.2.2.1 1 (by omega)).1
    have s2 := (h1.1.1.2.2.2.2.2.1 2 (by omega)).1
    have hh := held3 (slb (zS S) 0) (slb (zS S) 1) (slb (zS S) 2)
    have eb : bn (fun i => if i = 0 then slb (zS S) 0 else if i = 1 then slb (zS S) 1 else slb (zS S) 2) 3 = bn (slb (zS S)) 3 := bn_congr 3 fun i hi => by
      rcases (show i = 0 ∨ i = 1 ∨ i = 2 by omega) with rfl | rfl | rfl <;> rfl
    rw [eb] at hh
    simp (disch := omega) only [llEq, llLt, llLe, nFalse, lAdd, addL, lMul, mulL, nMul, nI_add, subL, lSub, nSub, nDec, nCl, lCl, nVp, lVp, nLe, nLt, nEq, lLe, leL, lLt, ltL, eqL, lEq, nM1, nM2, litLt0, one01, zero01, oneNe0, xupE, xupA, xupK, xI_I, xS_I, xF_I, xJ_I, xI_R, xS_R, xF_R, xJ_R, xI_L, xS_L, xF_L, xJ_L, xcat_s, le46, ge16, or_true, true_or, false_or, or_false, eq_self, Option.toList_some, Option.toList_none, List.cons_append, List.nil_append, true_and, and_true, not_false_eq_true, not_true_eq_false, if_true, if_false, h1.2.1.s.s, h1.2.1.s.f, h1.2.1.v, h1.2.1.n, h1.2.1.r, s0, or_true] at q ⊢
    rw [← hh] at q
    have g1 : ∀ x : Int32, Q (some (.int (x + (if slb (zS S) 1 = true then 1 else 0) + if slb (zS S) 2 = true then 1 else 0))) M1 → RG xprog 292 170 [some (.ref 439), some (.int 11), some (.int 0), none] [.int x] M1 Q := by
      intro x hx
      rw [B_292_170]
      simp (disch := omega) only [llEq, llLt, llLe, nFalse, lAdd, addL, lMul, mulL, nMul, nI_add, subL, lSub, nSub, nDec, nCl, lCl, nVp, lVp, nLe, nLt, nEq, lLe, leL, lLt, ltL, eqL, lEq, nM1, nM2, litLt0, one01, zero01, oneNe0, xupE, xupA, xupK, xI_I, xS_I, xF_I, xJ_I, xI_R, xS_R, xF_R, xJ_R, xI_L, xS_L, xF_L, xJ_L, xcat_s, le46, ge16, or_true, true_or, false_or, or_false, eq_self, Option.toList_some, Option.toList_none, List.cons_append, List.nil_append, true_and, and_true, not_false_eq_true, not_true_eq_false, if_true, if_false, h1.2.1.s.s, h1.2.1.s.f, h1.2.1.v, h1.2.1.n, h1.2.1.r, s1, or_true]
      have g2 : ∀ y z : Int32, Q (some (.int (z + y + if slb (zS S) 2 = true then 1 else 0))) M1 → RG xprog 292 184 [some (.ref 439), some (.int 11), some (.int 0), none] [.int y, .int z] M1 Q := by
        intro y z hz
        rw [B_292_184]
        simp (disch := omega) only [llEq, llLt, llLe, nFalse, lAdd, addL, lMul, mulL, nMul, nI_add, subL, lSub, nSub, nDec, nCl, lCl, nVp, lVp, nLe, nLt, nEq, lLe, leL, lLt, ltL, eqL, lEq, nM1, nM2, litLt0, one01, zero01, oneNe0, xupE, xupA, xupK, xI_I, xS_I, xF_I, xJ_I, xI_R, xS_R, xF_R, xJ_R, xI_L, xS_L, xF_L, xJ_L, xcat_s, le46, ge16, or_true, true_or, false_or, or_false, eq_self, Option.toList_some, Option.toList_none, List.cons_append, List.nil_append, true_and, and_true, not_false_eq_true, not_true_eq_false, if_true, if_false, h1.2.1.s.s, h1.2.1.s.f, h1.2.1.v, h1.2.1.n, h1.2.1.r, s2, or_true, B_292_199]
        by_cases b2 : slb (zS S) 2 = true
        · rw [if_pos b2] at hz
          rw [if_pos b2, if_neg (by decide)]
          exact hz
        · rw [if_neg b2] at hz
          rw [if_neg b2, if_pos rfl]
          exact hz
      by_cases b1 : slb (zS S) 1 = true
      · rw [if_pos b1] at hx
        rw [if_pos b1, if_neg (by decide)]
        exact g2 _ _ hx
      · rw [if_neg b1] at hx
        rw [if_neg b1, if_pos rfl]
        exact g2 _ _ hx
    by_cases b0 : slb (zS S) 0 = true
    · rw [if_pos b0] at q
      rw [if_pos b0, if_neg (by decide)]
      exact g1 _ q
    · rw [if_neg b0] at q
      rw [if_neg b0, if_pos rfl]
      exact g1 _ q
  by_cases q12 : w = 12
  · subst q12
    simp (disch := omega) only [llEq, llLt, llLe, nFalse, lAdd, addL, lMul, mulL, nMul, nI_add, subL, lSub, nSub, nDec, nCl, lCl, nVp, lVp, nLe, nLt, nEq, lLe, leL, lLt, ltL, eqL, lEq, nM1, nM2, litLt0, one01, zero01, oneNe0, xupE, xupA, xupK, xI_I, xS_I, xF_I, xJ_I, xI_R, xS_R, xF_R, xJ_R, xI_L, xS_L, xF_L, xJ_L, xcat_s, le46, ge16, or_true, true_or, false_or, or_false, eq_self, Option.toList_some, Option.toList_none, List.cons_append, List.nil_append, true_and, and_true, not_false_eq_true, not_true_eq_false, if_true, if_false, h1.2.1.s.s, h1.2.1.s.f, h1.2.1.v, h1.2.1.n, h1.2.1.r, r_isWet h1.2.1, B_292_205, ite01, ite_i, h1.2.2.1] at q ⊢
    exact q
  by_cases q13 : w = 13
  · subst q13
    simp (disch := omega) only [llEq, llLt, llLe, nFalse, lAdd, addL, lMul, mulL, nMul, nI_add, subL, lSub, nSub, nDec, nCl, lCl, nVp, lVp, nLe, nLt, nEq, lLe, leL, lLt, ltL, eqL, lEq, nM1, nM2, litLt0, one01, zero01, oneNe0, xupE, xupA, xupK, xI_I, xS_I, xF_I, xJ_I, xI_R, xS_R, xF_R, xJ_R, xI_L, xS_L, xF_L, xJ_L, xcat_s, le46, ge16, or_true, true_or, false_or, or_false, eq_self, Option.toList_some, Option.toList_none, List.cons_append, List.nil_append, true_and, and_true, not_false_eq_true, not_true_eq_false, if_true, if_false, h1.2.1.s.s, h1.2.1.s.f, h1.2.1.v, h1.2.1.n, h1.2.1.r, r_backMany h1.2.1, B_292_218] at q ⊢
    exact q
  by_cases q14 : w = 14
  · subst q14
    simp (disch := omega) only [llEq, llLt, llLe, nFalse, lAdd, addL, lMul, mulL, nMul, nI_add, subL, lSub, nSub, nDec, nCl, lCl, nVp, lVp, nLe, nLt, nEq, lLe, leL, lLt, ltL, eqL, lEq, nM1, nM2, litLt0, one01, zero01, oneNe0, xupE, xupA, xupK, xI_I, xS_I, xF_I, xJ_I, xI_R, xS_R, xF_R, xJ_R, xI_L, xS_L, xF_L, xJ_L, xcat_s, le46, ge16, or_true, true_or, false_or, or_false, eq_self, Option.toList_some, Option.toList_none, List.cons_append, List.nil_append, true_and, and_true, not_false_eq_true, not_true_eq_false, if_true, if_false] at q ⊢
    have loop : ∀ k i, i + k = tR (zT S) → RG xprog 292 221 [some (.ref 439), some (.int 14), some (.int (xsum (oU (zF S)) i)), some (.int (nI i))] [] M1 Q := by
      intro k
      induction k with
      | zero =>
        intro i hi
        have : i = tR (zT S) := by omega
        subst this
        rw [B_292_221]
        simp (disch := omega) only [lAdd, addL, lMul, mulL, nMul, nI_add, subL, lSub, nSub, nDec, nCl, lCl, nVp, lVp, nLe, nLt, nEq, lLe, leL, lLt, ltL, eqL, lEq, nM1, nM2, litLt0, one01, zero01, oneNe0, xupE, xupA, xupK, xI_I, xS_I, xF_I, xJ_I, xI_R, xS_R, xF_R, xJ_R, xI_L, xS_L, xF_L, xJ_L, xcat_s, le46, ge16, or_true, true_or, false_or, or_false, eq_self, Option.toList_some, Option.toList_none, List.cons_append, List.nil_append, true_and, and_true, not_false_eq_true, not_true_eq_false, if_true, if_false, h1.2.1.s.s, h1.2.1.s.f, h1.2.1.v, h1.2.1.n, h1.2.1.r, Nat.le_refl]
        exact q
      | succ k ih =>
        intro i hi
        rw [B_292_221]
        simp (disch := omega) only [lAdd, addL, lMul, mulL, nMul, nI_add, subL, lSub, nSub, nDec, nCl, lCl, nVp, lVp, nLe, nLt, nEq, lLe, leL, lLt, ltL, eqL, lEq, nM1, nM2, litLt0, one01, zero01, oneNe0, xupE, xupA, xupK, xI_I, xS_I, xF_I, xJ_I, xI_R, xS_R, xF_R, xJ_R, xI_L, xS_L, xF_L, xJ_L, xcat_s, le46, ge16, or_true, true_or, false_or, or_false, eq_self, Option.toList_some, Option.toList_none, List.cons_append, List.nil_append, true_and, and_true, not_false_eq_true, not_true_eq_false, if_true, if_false, h1.2.1.s.s, h1.2.1.s.f, h1.2.1.v, h1.2.1.n, h1.2.1.r, if_neg, h1.2.1.a (show i < tR (zT S) by omega)]
        exact ih (i + 1) (by omega)
    exact loop (tR (zT S)) 0 (by omega)
  by_cases q15 : w = 15
  · subst q15
    simp (disch := omega) only [llEq, llLt, llLe, nFalse, lAdd, addL, lMul, mulL, nMul, nI_add, subL, lSub, nSub, nDec, nCl, lCl, nVp, lVp, nLe, nLt, nEq, lLe, leL, lLt, ltL, eqL, lEq, nM1, nM2, litLt0, one01, zero01, oneNe0, xupE, xupA, xupK, xI_I, xS_I, xF_I, xJ_I, xI_R, xS_R, xF_R, xJ_R, xI_L, xS_L, xF_L, xJ_L, xcat_s, le46, ge16, or_true, true_or, false_or, or_false, eq_self, Option.toList_some, Option.toList_none, List.cons_append, List.nil_append, true_and, and_true, not_false_eq_true, not_true_eq_false, if_true, if_false] at q ⊢
    have loop : ∀ k i, i + k = tR (zT S) → RG xprog 292 256 [some (.ref 439), some (.int 15), some (.int (xbits (oS (zF S)) (-2) i)), some (.int (nI i))] [] M1 Q := by
      intro k
      induction k with
      | zero =>
        intro i hi
        have : i = tR (zT S) := by omega
        subst this
        rw [B_292_256]
        simp (disch := omega) only [lAdd, addL, lMul, mulL, nMul, nI_add, subL, lSub, nSub, nDec, nCl, lCl, nVp, lVp, nLe, nLt, nEq, lLe, leL, lLt, ltL, eqL, lEq, nM1, nM2, litLt0, one01, zero01, oneNe0, xupE, xupA, xupK, xI_I, xS_I, xF_I, xJ_I, xI_R, xS_R, xF_R, xJ_R, xI_L, xS_L, xF_L, xJ_L, xcat_s, le46, ge16, or_true, true_or, false_or, or_false, eq_self, Option.toList_some, Option.toList_none, List.cons_append, List.nil_append, true_and, and_true, not_false_eq_true, not_true_eq_false, if_true, if_false, h1.2.1.s.s, h1.2.1.s.f, h1.2.1.v, h1.2.1.n, h1.2.1.r, Nat.le_refl]
        exact q
      | succ k ih =>
        intro i hi
        have e := ih (i + 1) (by omega)
        rw [xbits_s] at e
        rw [B_292_256]
        simp (disch := omega) only [lAdd, addL, lMul, mulL, nMul, nI_add, subL, lSub, nSub, nDec, nCl, lCl, nVp, lVp, nLe, nLt, nEq, lLe, leL, lLt, ltL, eqL, lEq, nM1, nM2, litLt0, one01, zero01, oneNe0, xupE, xupA, xupK, xI_I, xS_I, xF_I, xJ_I, xI_R, xS_R, xF_R, xJ_R, xI_L, xS_L, xF_L, xJ_L, xcat_s, le46, ge16, or_true, true_or, false_or, or_false, eq_self, Option.toList_some, Option.toList_none, List.cons_append, List.nil_append, true_and, and_true, not_false_eq_true, not_true_eq_false, if_true, if_false, h1.2.1.s.s, h1.2.1.s.f, h1.2.1.v, h1.2.1.n, h1.2.1.r, if_neg, r_isFree h1.2.1 (show i < 6 by omega), B_292_274]
        by_cases hs : oS (zF S) i = -2
        · rw [if_pos hs] at e
          rw [if_pos hs, if_neg (by decide)]
          exact e
        · rw [if_neg hs] at e
          rw [if_neg hs, if_pos rfl]
          exact e
    exact loop (tR (zT S)) 0 (by omega)
  simp only [q0, q1, q2, q3, q4, q5, q6, q7, q8, q9, q10, q11, q12, q13, q14, q15, if_false] at q ⊢
  exact q
theorem c_place {M0 M : XM} {t : Nat} {S : XS} {Q : Option Value → XM → Prop} (h : CK M0 t S M) (hQ : ∀ M' : XM, CK M0 t S M' → Q (some (.int (zL S))) M') : RG xprog 108 0 [some (.ref 16)] [] M Q := by
  rw [B_108_0]
  simp (disch := omega) only [h.1.d, lAdd, addL, lMul, mulL, nMul, nI_add, subL, lSub, nSub, nDec, nCl, lCl, nVp, lVp, nLe, nLt, nEq, lLe, leL, lLt, ltL, eqL, lEq, nM1, nM2, litLt0, one01, zero01, oneNe0, xupE, xupA, xupK, xI_I, xS_I, xF_I, xJ_I, xI_R, xS_R, xF_R, xJ_R, xI_L, xS_L, xF_L, xJ_L, xcat_s, le46, ge16, or_true, true_or, false_or, or_false, eq_self, Option.toList_some, Option.toList_none, List.cons_append, List.nil_append, true_and, and_true, not_false_eq_true, not_true_eq_false, if_true, if_false, h.1.2.2.2.2.2.2.1]
  exact hQ M h
theorem r_place {M0 M : XM} {lv : Nat} {S : XS} {Q : Option Value → XM → Prop} (h : RK M0 lv S M) (hQ : ∀ M' : XM, RK M0 lv S M' → Q (some (.int (zL S))) M') : RG xprog 109 0 [some (.ref 439)] [] M Q := by
  rw [B_109_0]
  simp (disch := omega) only [h.1.1.1.s, lAdd, addL, lMul, mulL, nMul, nI_add, subL, lSub, nSub, nDec, nCl, lCl, nVp, lVp, nLe, nLt, nEq, lLe, leL, lLt, ltL, eqL, lEq, nM1, nM2, litLt0, one01, zero01, oneNe0, xupE, xupA, xupK, xI_I, xS_I, xF_I, xJ_I, xI_R, xS_R, xF_R, xJ_R, xI_L, xS_L, xF_L, xJ_L, xcat_s, le46, ge16, or_true, true_or, false_or, or_false, eq_self, Option.toList_some, Option.toList_none, List.cons_append, List.nil_append, true_and, and_true, not_false_eq_true, not_true_eq_false, if_true, if_false, h.1.2.2.2.1]
  exact hQ M h
