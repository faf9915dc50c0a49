section XLIT
variable {a b : Nat}
theorem llEq (ha : (OfNat.ofNat a : Nat) < 2 ^ 31) (hb : (OfNat.ofNat b : Nat) < 2 ^ 31) : ((no_index (OfNat.ofNat a : Int32)) = (no_index (OfNat.ofNat b : Int32))) = ((OfNat.ofNat a : Nat) = (OfNat.ofNat b : Nat)) := nEq ha hb
theorem llLt (ha : (OfNat.ofNat a : Nat) < 2 ^ 31) (hb : (OfNat.ofNat b : Nat) < 2 ^ 31) : ((no_index (OfNat.ofNat a : Int32)) < (no_index (OfNat.ofNat b : Int32))) = ((OfNat.ofNat a : Nat) < (OfNat.ofNat b : Nat)) := nLt ha hb
theorem llLe (ha : (OfNat.ofNat a : Nat) < 2 ^ 31) (hb : (OfNat.ofNat b : Nat) < 2 ^ 31) : ((no_index (OfNat.ofNat a : Int32)) ≤ (no_index (OfNat.ofNat b : Int32))) = ((OfNat.ofNat a : Nat) ≤ (OfNat.ofNat b : Nat)) := nLe ha hb
theorem nFalse (h : ¬ a = b) : (a = b) = False := eq_false h
end XLIT
theorem cN_n {n : Nat} (h : n < 2 ^ 31) : cN (nI n) = n := nI_clamp h
/-! what the document asks of what is: answers -/
def A_letter (S : XS) (x w : Int32) : Int32 := if isLb (tN (zT S)) x then (if w = 0 then tL (zT S) (cN x) 0 else if w = 1 then tL (zT S) (cN x) 1 else if w = 2 then tL (zT S) (cN x) 2 else if w = 3 then tL (zT S) (cN x) 3 else if w = 4 then oW (zF S) (cN x) else if w = 5 then oH (zF S) (cN x) else if w = 6 then oB (zF S) (cN x) else if w = 7 then ipos (oD (zF S) - tL (zT S) (cN x) 3) else -1) else -1
theorem c_letter {M0 M : XM} {t : Nat} {S : XS} {x w : Int32} {Q : Option Value → XM → Prop} (h : CK M0 t S M)
    (hQ : ∀ M' : XM, CK M0 t S M' → Q (some (.int (A_letter S x w))) M') :
    RG xprog 112 0 [some (.ref 16), some (.int x), some (.int w)] [] M Q := by
  have n7 := h.1.tx.n7
  have r6 := h.1.tx.r6
  have q := hQ M h
  unfold A_letter at q
  rw [B_112_0]
  simp (disch := omega) only [h.1.d, c_isLetter h.1, lAdd, addL, lMul, mulL, nMul, nI_add, subL, lSub, nSub, nDec, nCl, lCl, nVp, lVp, nLe, nLt, nEq, lLe, leL, lLt, ltL, eqL, lEq, nM1, nM2, litLt0, one01, zero01, oneNe0, xupE, xupA, xupK, xI_I, xS_I, xF_I, xJ_I, xI_R, xS_R, xF_R, xJ_R, xI_L, xS_L, xF_L, xJ_L, xcat_s, le46, ge16, or_true, true_or, false_or, or_false, eq_self, Option.toList_some, Option.toList_none, List.cons_append, List.nil_append, true_and, and_true, not_false_eq_true, not_true_eq_false, if_true, if_false]
  by_cases hx : isLb (tN (zT S)) x
  · obtain ⟨l, hl, rfl⟩ := isLb_get hx (by omega)
    rw [if_pos hx, B_112_5, if_pos (by decide)]
    rw [if_pos hx, cN_n (by omega)] at q
    have l7 : l < 7 := by omega
    by_cases q0 : w = 0
    · subst q0
      simp (disch := omega) only [llEq, llLt, llLe, nFalse, lAdd, addL, lMul, mulL, nMul, nI_add, subL, lSub, nSub, nDec, nCl, lCl, nVp, lVp, nLe, nLt, nEq, lLe, leL, lLt, ltL, eqL, lEq, nM1, nM2, litLt0, one01, zero01, oneNe0, xupE, xupA, xupK, xI_I, xS_I, xF_I, xJ_I, xI_R, xS_R, xF_R, xJ_R, xI_L, xS_L, xF_L, xJ_L, xcat_s, le46, ge16, or_true, true_or, false_or, or_false, eq_self, Option.toList_some, Option.toList_none, List.cons_append, List.nil_append, true_and, and_true, not_false_eq_true, not_true_eq_false, if_true, if_false, B_112_56, h.1.d, h.1.tx.f, h.1.tx.l l7, h.1.tx.lm l7, h.1.of.f, h.1.of.v, c_ageOn h.1.tx l7, B_112_113] at q ⊢
      exact q
    by_cases q1 : w = 1
    · subst q1
      simp (disch := omega) only [llEq, llLt, llLe, nFalse, lAdd, addL, lMul, mulL, nMul, nI_add, subL, lSub, nSub, nDec, nCl, lCl, nVp, lVp, nLe, nLt, nEq, lLe, leL, lLt, ltL, eqL, lEq, nM1, nM2, litLt0, one01, zero01, oneNe0, xupE, xupA, xupK, xI_I, xS_I, xF_I, xJ_I, xI_R, xS_R, xF_R, xJ_R, xI_L, xS_L, xF_L, xJ_L, xcat_s, le46, ge16, or_true, true_or, false_or, or_false, eq_self, Option.toList_some, Option.toList_none, List.cons_append, List.nil_append, true_and, and_true, not_false_eq_true, not_true_eq_false, if_true, if_false, B_112_56, h.1.d, h.1.tx.f, h.1.tx.l l7, h.1.tx.lm l7, h.1.of.f, h.1.of.v, c_ageOn h.1.tx l7, B_112_113] at q ⊢
      exact q
    by_cases q2 : w = 2
    · subst q2
      simp (disch := omega) only [llEq, llLt, llLe, nFalse, lAdd, addL, lMul, mulL, nMul, nI_add, subL, lSub, nSub, nDec, nCl, lCl, nVp, lVp, nLe, nLt, nEq, lLe, leL, lLt, ltL, eqL, lEq, nM1, nM2, litLt0, one01, zero01, oneNe0, xupE, xupA, xupK, xI_I, xS_I, xF_I, xJ_I, xI_R, xS_R, xF_R, xJ_R, xI_L, xS_L, xF_L, xJ_L, xcat_s, le46, ge16, or_true, true_or, false_or, or_false, eq_self, Option.toList_some, Option.toList_none, List.cons_append, List.nil_append, true_and, and_true, not_false_eq_true, not_true_eq_false, if_true, if_false, B_112_56, h.1.d, h.1.tx.f, h.1.tx.l l7, h.1.tx.lm l7, h.1.of.f, h.1.of.v, c_ageOn h.1.tx l7, B_112_113] at q ⊢
      exact q
    by_cases q3 : w = 3
    · subst q3
      simp (disch := omega) only [llEq, llLt, llLe, nFalse, lAdd, addL, lMul, mulL, nMul, nI_add, subL, lSub, nSub, nDec, nCl, lCl, nVp, lVp, nLe, nLt, nEq, lLe, leL, lLt, ltL, eqL, lEq, nM1, nM2, litLt0, one01, zero01, oneNe0, xupE, xupA, xupK, xI_I, xS_I, xF_I, xJ_I, xI_R, xS_R, xF_R, xJ_R, xI_L, xS_L, xF_L, xJ_L, xcat_s, le46, ge16, or_true, true_or, false_or, or_false, eq_self, Option.toList_some, Option.toList_none, List.cons_append, List.nil_append, true_and, and_true, not_false_eq_true, not_true_eq_false, if_true, if_false, B_112_56, h.1.d, h.1.tx.f, h.1.tx.l l7, h.1.tx.lm l7, h.1.of.f, h.1.of.v, c_ageOn h.1.tx l7, B_112_113] at q ⊢
      exact q
    by_cases q4 : w = 4
    · subst q4
      simp (disch := omega) only [llEq, llLt, llLe, nFalse, lAdd, addL, lMul, mulL, nMul, nI_add, subL, lSub, nSub, nDec, nCl, lCl, nVp, lVp, nLe, nLt, nEq, lLe, leL, lLt, ltL, eqL, lEq, nM1, nM2, litLt0, one01, zero01, oneNe0, xupE, xupA, xupK, xI_I, xS_I, xF_I, xJ_I, xI_R, xS_R, xF_R, xJ_R, xI_L, xS_L, xF_L, xJ_L, xcat_s, le46, ge16, or_true, true_or, false_or, or_false, eq_self, Option.toList_some, Option.toList_none, List.cons_append, List.nil_append, true_and, and_true, not_false_eq_true, not_true_eq_false, if_true, if_false, B_112_56, h.1.d, h.1.tx.f, h.1.tx.l l7, h.1.tx.lm l7, h.1.of.f, h.1.of.v, c_ageOn h.1.tx l7, B_112_113] at q ⊢
      exact q
    by_cases q5 : w = 5
    · subst q5
      simp (disch := omega) only [llEq, llLt, llLe, nFalse, lAdd, addL, lMul, mulL, nMul, nI_add, subL, lSub, nSub, nDec, nCl, lCl, nVp, lVp, nLe, nLt, nEq, lLe, leL, lLt, ltL, eqL, lEq, nM1, nM2, litLt0, one01, zero01, oneNe0, xupE, xupA, xupK, xI_I, xS_I, xF_I, xJ_I, xI_R, xS_R, xF_R, xJ_R, xI_L, xS_L, xF_L, xJ_L, xcat_s, le46, ge16, or_true, true_or, false_or, or_false, eq_self, Option.toList_some, Option.toList_none, List.cons_append, List.nil_append, true_and, and_true, not_false_eq_true, not_true_eq_false, if_true, if_false, B_112_56, h.1.d, h.1.tx.f, h.1.tx.l l7, h.1.tx.lm l7, h.1.of.f, h.1.of.v, c_ageOn h.1.tx l7, B_112_113] at q ⊢
      exact q
    by_cases q6 : w = 6
    · subst q6
      simp (disch := omega) only [llEq, llLt, llLe, nFalse, lAdd, addL, lMul, mulL, nMul, nI_add, subL, lSub, nSub, nDec, nCl, lCl, nVp, lVp, nLe, nLt, nEq, lLe, leL, lLt, ltL, eqL, lEq, nM1, nM2, litLt0, one01, zero01, oneNe0, xupE, xupA, xupK, xI_I, xS_I, xF_I, xJ_I, xI_R, xS_R, xF_R, xJ_R, xI_L, xS_L, xF_L, xJ_L, xcat_s, le46, ge16, or_true, true_or, false_or, or_false, eq_self, Option.toList_some, Option.toList_none, List.cons_append, List.nil_append, true_and, and_true, not_false_eq_true, not_true_eq_false, if_true, if_false, B_112_56, h.1.d, h.1.tx.f, h.1.tx.l l7, h.1.tx.lm l7, h.1.of.f, h.1.of.v, c_ageOn h.1.tx l7, B_112_113] at q ⊢
      exact q
    by_cases q7 : w = 7
    · subst q7
      simp (disch := omega) only [llEq, llLt, llLe, nFalse, lAdd, addL, lMul, mulL, nMul, nI_add, subL, lSub, nSub, nDec, nCl, lCl, nVp, lVp, nLe, nLt, nEq, lLe, leL, lLt, ltL, eqL, lEq, nM1, nM2, litLt0, one01, zero01, oneNe0, xupE, xupA, xupK, xI_I, xS_I, xF_I, xJ_I, xI_R, xS_R, xF_R, xJ_R, xI_L, xS_L, xF_L, xJ_L, xcat_s, le46, ge16, or_true, true_or, false_or, or_false, eq_self, Option.toList_some, Option.toList_none, List.cons_append, List.nil_append, true_and, and_true, not_false_eq_true, not_true_eq_false, if_true, if_false, B_112_56, h.1.d, h.1.tx.f, h.1.tx.l l7, h.1.tx.lm l7, h.1.of.f, h.1.of.v, c_ageOn h.1.tx l7, B_112_113] at q ⊢
      exact q
    simp only [q0, q1, q2, q3, q4, q5, q6, q7, if_false] at q ⊢
    exact q
  · rw [if_neg hx, B_112_5, if_neg (by decide)]
    rw [if_neg hx] at q
    exact q
theorem r_letter {M0 M : XM} {lv B : Nat} {S : XS} {x w : Int32} {Q : Option Value → XM → Prop} (h : RK M0 lv S M) (hi : SInv B S) (hB : B ≤ 99999)
    (hQ : ∀ M' : XM, RK M0 lv S M' → Q (some (.int (A_letter S x w))) M') :
    RG xprog 118 0 [some (.ref 439), some (.int x), some (.int w)] [] M Q := by
  have n7 := h.1.1.n7
  have l2 := h.1.1.lv2
  unfold A_letter at hQ
  rw [B_118_0]
  simp (disch := omega) only [h.1.1.1.s, r_isLetter h.1.1, B_118_5, lAdd, addL, lMul, mulL, nMul, nI_add, subL, lSub, nSub, nDec, nCl, lCl, nVp, lVp, nLe, nLt, nEq, lLe, leL, lLt, ltL, eqL, lEq, nM1, nM2, litLt0, one01, zero01, oneNe0, xupE, xupA, xupK, xI_I, xS_I, xF_I, xJ_I, xI_R, xS_R, xF_R, xJ_R, xI_L, xS_L, xF_L, xJ_L, xcat_s, le46, ge16, or_true, true_or, false_or, or_false, eq_self, Option.toList_some, Option.toList_none, List.cons_append, List.nil_append, true_and, and_true, not_false_eq_true, not_true_eq_false, if_true, if_false]
  by_cases hx : isLb (tN (zT S)) x
  · obtain ⟨l, hl, rfl⟩ := isLb_get hx (by omega)
    rw [if_pos hx, if_pos (by decide)]
    rw [if_pos hx, cN_n (by omega)] at hQ
    have l7 : l < 7 := by omega
    refine r_copies h hi hB ?_
    intro M1 h1
    have q := hQ M1 h1.1
    simp (disch := omega) only [B_118_14, lAdd, addL, lMul, mulL, nMul, nI_add, subL, lSub, nSub, nDec, nCl, lCl, nVp, lVp, nLe, nLt, nEq, lLe, leL, lLt, ltL, eqL, lEq, nM1, nM2, litLt0, one01, zero01, oneNe0, xupE, xupA, xupK, xI_I, xS_I, xF_I, xJ_I, xI_R, xS_R, xF_R, xJ_R, xI_L, xS_L, xF_L, xJ_L, xcat_s, le46, ge16, or_true, true_or, false_or, or_false, eq_self, Option.toList_some, Option.toList_none, List.cons_append, List.nil_append, true_and, and_true, not_false_eq_true, not_true_eq_false, if_true, if_false]
    by_cases q0 : w = 0
    · subst q0
      simp (disch := omega) only [llEq, llLt, llLe, nFalse, lAdd, addL, lMul, mulL, nMul, nI_add, subL, lSub, nSub, nDec, nCl, lCl, nVp, lVp, nLe, nLt, nEq, lLe, leL, lLt, ltL, eqL, lEq, nM1, nM2, litLt0, one01, zero01, oneNe0, xupE, xupA, xupK, xI_I, xS_I, xF_I, xJ_I, xI_R, xS_R, xF_R, xJ_R, xI_L, xS_L, xF_L, xJ_L, xcat_s, le46, ge16, or_true, true_or, false_or, or_false, eq_self, Option.toList_some, Option.toList_none, List.cons_append, List.nil_append, true_and, and_true, not_false_eq_true, not_true_eq_false, if_true, if_false, h1.2.1.s.s, h1.2.1.s.f, h1.2.1.v, h1.2.1.1.l hl, h1.2.1.l l7, r_ageOf h1.2.1.1 h1.2.1.2.1 h1.2.1.2.2.1 hl, B_118_152] at q ⊢
      exact q
    by_cases q1 : w = 1
    · subst q1
      simp (disch := omega) only [llEq, llLt, llLe, nFalse, lAdd, addL, lMul, mulL, nMul, nI_add, subL, lSub, nSub, nDec, nCl, lCl, nVp, lVp, nLe, nLt, nEq, lLe, leL, lLt, ltL, eqL, lEq, nM1, nM2, litLt0, one01, zero01, oneNe0, xupE, xupA, xupK, xI_I, xS_I, xF_I, xJ_I, xI_R, xS_R, xF_R, xJ_R, xI_L, xS_L, xF_L, xJ_L, xcat_s, le46, ge16, or_true, true_or, false_or, or_false, eq_self, Option.toList_some, Option.toList_none, List.cons_append, List.nil_append, true_and, and_true, not_false_eq_true, not_true_eq_false, if_true, if_false, h1.2.1.s.s, h1.2.1.s.f, h1.2.1.v, h1.2.1.1.l hl, h1.2.1.l l7, r_ageOf h1.2.1.1 h1.2.1.2.1 h1.2.1.2.2.1 hl, B_118_152] at q ⊢
      exact q
    by_cases q2 : w = 2
    · subst q2
      simp (disch := omega) only [llEq, llLt, llLe, nFalse, lAdd, addL, lMul, mulL, nMul, nI_add, subL, lSub, nSub, nDec, nCl, lCl, nVp, lVp, nLe, nLt, nEq, lLe, leL, lLt, ltL, eqL, lEq, nM1, nM2, litLt0, one01, zero01, oneNe0, xupE, xupA, xupK, xI_I, xS_I, xF_I, xJ_I, xI_R, xS_R, xF_R, xJ_R, xI_L, xS_L, xF_L, xJ_L, xcat_s, le46, ge16, or_true, true_or, false_or, or_false, eq_self, Option.toList_some, Option.toList_none, List.cons_append, List.nil_append, true_and, and_true, not_false_eq_true, not_true_eq_false, if_true, if_false, h1.2.1.s.s, h1.2.1.s.f, h1.2.1.v, h1.2.1.1.l hl, h1.2.1.l l7, r_ageOf h1.2.1.1 h1.2.1.2.1 h1.2.1.2.2.1 hl, B_118_152] at q ⊢
      exact q
    by_cases q3 : w = 3
    · subst q3
      simp (disch := omega) only [llEq, llLt, llLe, nFalse, lAdd, addL, lMul, mulL, nMul, nI_add, subL, lSub, nSub, nDec, nCl, lCl, nVp, lVp, nLe, nLt, nEq, lLe, leL, lLt, ltL, eqL, lEq, nM1, nM2, litLt0, one01, zero01, oneNe0, xupE, xupA, xupK, xI_I, xS_I, xF_I, xJ_I, xI_R, xS_R, xF_R, xJ_R, xI_L, xS_L, xF_L, xJ_L, xcat_s, le46, ge16, or_true, true_or, false_or, or_false, eq_self, Option.toList_some, Option.toList_none, List.cons_append, List.nil_append, true_and, and_true, not_false_eq_true, not_true_eq_false, if_true, if_false, h1.2.1.s.s, h1.2.1.s.f, h1.2.1.v, h1.2.1.1.l hl, h1.2.1.l l7, r_ageOf h1.2.1.1 h1.2.1.2.1 h1.2.1.2.2.1 hl, B_118_152] at q ⊢
      exact q
    by_cases q4 : w = 4
    · subst q4
      simp (disch := omega) only [llEq, llLt, llLe, nFalse, lAdd, addL, lMul, mulL, nMul, nI_add, subL, lSub, nSub, nDec, nCl, lCl, nVp, lVp, nLe, nLt, nEq, lLe, leL, lLt, ltL, eqL, lEq, nM1, nM2, litLt0, one01, zero01, oneNe0, xupE, xupA, xupK, xI_I, xS_I, xF_I, xJ_I, xI_R, xS_R, xF_R, xJ_R, xI_L, xS_L, xF_L, xJ_L, xcat_s, le46, ge16, or_true, true_or, false_or, or_false, eq_self, Option.toList_some, Option.toList_none, List.cons_append, List.nil_append, true_and, and_true, not_false_eq_true, not_true_eq_false, if_true, if_false, h1.2.1.s.s, h1.2.1.s.f, h1.2.1.v, h1.2.1.1.l hl, h1.2.1.l l7, r_ageOf h1.2.1.1 h1.2.1.2.1 h1.2.1.2.2.1 hl, B_118_152] at q ⊢
      exact q
    by_cases q5 : w = 5
    · subst q5
      simp (disch := omega) only [llEq, llLt, llLe, nFalse, lAdd, addL, lMul, mulL, nMul, nI_add, subL, lSub, nSub, nDec, nCl, lCl, nVp, lVp, nLe, nLt, nEq, lLe, leL, lLt, ltL, eqL, lEq, nM1, nM2, litLt0, one01, zero01, oneNe0, xupE, xupA, xupK, xI_I, xS_I, xF_I, xJ_I, xI_R, xS_R, xF_R, xJ_R, xI_L, xS_L, xF_L, xJ_L, xcat_s, le46, ge16, or_true, true_or, false_or, or_false, eq_self, Option.toList_some, Option.toList_none, List.cons_append, List.nil_append, true_and, and_true, not_false_eq_true, not_true_eq_false, if_true, if_false, h1.2.1.s.s, h1.2.1.s.f, h1.2.1.v, h1.2.1.1.l hl, h1.2.1.l l7, r_ageOf h1.2.1.1 h1.2.1.2.1 h1.2.1.2.2.1 hl, B_118_152] at q ⊢
      exact q
    by_cases q6 : w = 6
    · subst q6
      simp (disch := omega) only [llEq, llLt, llLe, nFalse, lAdd, addL, lMul, mulL, nMul, nI_add, subL, lSub, nSub, nDec, nCl, lCl, nVp, lVp, nLe, nLt, nEq, lLe, leL, lLt, ltL, eqL, lEq, nM1, nM2, litLt0, one01, zero01, oneNe0, xupE, xupA, xupK, xI_I, xS_I, xF_I, xJ_I, xI_R, xS_R, xF_R, xJ_R, xI_L, xS_L, xF_L, xJ_L, xcat_s, le46, ge16, or_true, true_or, false_or, or_false, eq_self, Option.toList_some, Option.toList_none, List.cons_append, List.nil_append, true_and, and_true, not_false_eq_true, not_true_eq_false, if_true, if_false, h1.2.1.s.s, h1.2.1.s.f, h1.2.1.v, h1.2.1.1.l hl, h1.2.1.l l7, r_ageOf h1.2.1.1 h1.2.1.2.1 h1.2.1.2.2.1 hl, B_118_152] at q ⊢
      exact q
    by_cases q7 : w = 7
    · subst q7
      simp (disch := omega) only [llEq, llLt, llLe, nFalse, lAdd, addL, lMul, mulL, nMul, nI_add, subL, lSub, nSub, nDec, nCl, lCl, nVp, lVp, nLe, nLt, nEq, lLe, leL, lLt, ltL, eqL, lEq, nM1, nM2, litLt0, one01, zero01, oneNe0, xupE, xupA, xupK, xI_I, xS_I, xF_I, xJ_I, xI_R, xS_R, xF_R, xJ_R, xI_L, xS_L, xF_L, xJ_L, xcat_s, le46, ge16, or_true, true_or, false_or, or_false, eq_self, Option.toList_some, Option.toList_none, List.cons_append, List.nil_append, true_and, and_true, not_false_eq_true, not_true_eq_false, if_true, if_false, h1.2.1.s.s, h1.2.1.s.f, h1.2.1.v, h1.2.1.1.l hl, h1.2.1.l l7, r_ageOf h1.2.1.1 h1.2.1.2.1 h1.2.1.2.2.1 hl, B_118_152] at q ⊢
      exact q
    simp only [q0, q1, q2, q3, q4, q5, q6, q7, if_false] at q ⊢
    exact q
  · rw [if_neg hx, if_neg (by decide)]
    rw [if_neg hx] at hQ
    exact hQ M h
def A_reader (S : XS) (x w : Int32) : Int32 := if isLb (tR (zT S)) x then (if w = 0 then oA (zF S) (cN x) else if w = 1 then tM (zT S) (cN x) 1 else if w = 2 then tM (zT S) (cN x) 2 else if w = 3 then oS (zF S) (cN x) else if w = 4 then oU (zF S) (cN x) else -1) else -1
theorem c_reader {M0 M : XM} {t : Nat} {S : XS} {x w : Int32} {Q : Option Value → XM → Prop} (h : CK M0 t S M)
    (hQ : ∀ M' : XM, CK M0 t S M' → Q (some (.int (A_reader S x w))) M') :
    RG xprog 120 0 [some (.ref 16), some (.int x), some (.int w)] [] M Q := by
  have r6 := h.1.tx.r6
  have q := hQ M h
  unfold A_reader at q
  rw [B_120_0]
  simp (disch := omega) only [h.1.d, c_isReader h.1, B_120_5, lAdd, addL, lMul, mulL, nMul, nI_add, subL, lSub, nSub, nDec, nCl, lCl, nVp, lVp, nLe, nLt, nEq, lLe, leL, lLt, ltL, eqL, lEq, nM1, nM2, litLt0, one01, zero01, oneNe0, xupE, xupA, xupK, xI_I, xS_I, xF_I, xJ_I, xI_R, xS_R, xF_R, xJ_R, xI_L, xS_L, xF_L, xJ_L, xcat_s, le46, ge16, or_true, true_or, false_or, or_false, eq_self, Option.toList_some, Option.toList_none, List.cons_append, List.nil_append, true_and, and_true, not_false_eq_true, not_true_eq_false, if_true, if_false]
  by_cases hx : isLb (tR (zT S)) x
  · obtain ⟨l, hl, rfl⟩ := isLb_get hx (by omega)
    rw [if_pos hx, if_pos (by decide)]
    rw [if_pos hx, cN_n (by omega)] at q
    have l7 : l < 6 := by omega
    by_cases q0 : w = 0
    · subst q0
      simp (disch := omega) only [llEq, llLt, llLe, nFalse, lAdd, addL, lMul, mulL, nMul, nI_add, subL, lSub, nSub, nDec, nCl, lCl, nVp, lVp, nLe, nLt, nEq, lLe, leL, lLt, ltL, eqL, lEq, nM1, nM2, litLt0, one01, zero01, oneNe0, xupE, xupA, xupK, xI_I, xS_I, xF_I, xJ_I, xI_R, xS_R, xF_R, xJ_R, xI_L, xS_L, xF_L, xJ_L, xcat_s, le46, ge16, or_true, true_or, false_or, or_false, eq_self, Option.toList_some, Option.toList_none, List.cons_append, List.nil_append, true_and, and_true, not_false_eq_true, not_true_eq_false, if_true, if_false, B_120_54, h.1.d, h.1.tx.f, h.1.tx.a l7, h.1.tx.rm l7, h.1.of.f, h.1.of.v] at q ⊢
      exact q
    by_cases q1 : w = 1
    · subst q1
      simp (disch := omega) only [llEq, llLt, llLe, nFalse, lAdd, addL, lMul, mulL, nMul, nI_add, subL, lSub, nSub, nDec, nCl, lCl, nVp, lVp, nLe, nLt, nEq, lLe, leL, lLt, ltL, eqL, lEq, nM1, nM2, litLt0, one01, zero01, oneNe0, xupE, xupA, xupK, xI_I, xS_I, xF_I, xJ_I, xI_R, xS_R, xF_R, xJ_R, xI_L, xS_L, xF_L, xJ_L, xcat_s, le46, ge16, or_true, true_or, false_or, or_false, eq_self, Option.toList_some, Option.toList_none, List.cons_append, List.nil_append, true_and, and_true, not_false_eq_true, not_true_eq_false, if_true, if_false, B_120_54, h.1.d, h.1.tx.f, h.1.tx.a l7, h.1.tx.rm l7, h.1.of.f, h.1.of.v] at q ⊢
      exact q
    by_cases q2 : w = 2
    · subst q2
      simp (disch := omega) only [llEq, llLt, llLe, nFalse, lAdd, addL, lMul, mulL, nMul, nI_add, subL, lSub, nSub, nDec, nCl, lCl, nVp, lVp, nLe, nLt, nEq, lLe, leL, lLt, ltL, eqL, lEq, nM1, nM2, litLt0, one01, zero01, oneNe0, xupE, xupA, xupK, xI_I, xS_I, xF_I, xJ_I, xI_R, xS_R, xF_R, xJ_R, xI_L, xS_L, xF_L, xJ_L, xcat_s, le46, ge16, or_true, true_or, false_or, or_false, eq_self, Option.toList_some, Option.toList_none, List.cons_append, List.nil_append, true_and, and_true, not_false_eq_true, not_true_eq_false, if_true, if_false, B_120_54, h.1.d, h.1.tx.f, h.1.tx.a l7, h.1.tx.rm l7, h.1.of.f, h.1.of.v] at q ⊢
      exact q
    by_cases q3 : w = 3
    · subst q3
      simp (disch := omega) only [llEq, llLt, llLe, nFalse, lAdd, addL, lMul, mulL, nMul, nI_add, subL, lSub, nSub, nDec, nCl, lCl, nVp, lVp, nLe, nLt, nEq, lLe, leL, lLt, ltL, eqL, lEq, nM1, nM2, litLt0, one01, zero01, oneNe0, xupE, xupA, xupK, xI_I, xS_I, xF_I, xJ_I, xI_R, xS_R, xF_R, xJ_R, xI_L, xS_L, xF_L, xJ_L, xcat_s, le46, ge16, or_true, true_or, false_or, or_false, eq_self, Option.toList_some, Option.toList_none, List.cons_append, List.nil_append, true_and, and_true, not_false_eq_true, not_true_eq_false, if_true, if_false, B_120_54, h.1.d, h.1.tx.f, h.1.tx.a l7, h.1.tx.rm l7, h.1.of.f, h.1.of.v] at q ⊢
      exact q
    by_cases q4 : w = 4
    · subst q4
      simp (disch := omega) only [llEq, llLt, llLe, nFalse, lAdd, addL, lMul, mulL, nMul, nI_add, subL, lSub, nSub, nDec, nCl, lCl, nVp, lVp, nLe, nLt, nEq, lLe, leL, lLt, ltL, eqL, lEq, nM1, nM2, litLt0, one01, zero01, oneNe0, xupE, xupA, xupK, xI_I, xS_I, xF_I, xJ_I, xI_R, xS_R, xF_R, xJ_R, xI_L, xS_L, xF_L, xJ_L, xcat_s, le46, ge16, or_true, true_or, false_or, or_false, eq_self, Option.toList_some, Option.toList_none, List.cons_append, List.nil_append, true_and, and_true, not_false_eq_true, not_true_eq_false, if_true, if_false, B_120_54, h.1.d, h.1.tx.f, h.1.tx.a l7, h.1.tx.rm l7, h.1.of.f, h.1.of.v] at q ⊢
      exact q
    simp only [q0, q1, q2, q3, q4, if_false] at q ⊢
    exact q
  · rw [if_neg hx, if_neg (by decide)]
    rw [if_neg hx] at q
    exact q
theorem r_reader {M0 M : XM} {lv B : Nat} {S : XS} {x w : Int32} {Q : Option Value → XM → Prop} (h : RK M0 lv S M) (hi : SInv B S) (hB : B ≤ 99999)
    (hQ : ∀ M' : XM, RK M0 lv S M' → Q (some (.int (A_reader S x w))) M') :
    RG xprog 123 0 [some (.ref 439), some (.int x), some (.int w)] [] M Q := by
  have n7 := h.1.1.r6
  have l2 := h.1.1.lv2
  unfold A_reader at hQ
  rw [B_123_0]
  simp (disch := omega) only [h.1.1.1.s, r_isReader h.1.1, B_123_5, lAdd, addL, lMul, mulL, nMul, nI_add, subL, lSub, nSub, nDec, nCl, lCl, nVp, lVp, nLe, nLt, nEq, lLe, leL, lLt, ltL, eqL, lEq, nM1, nM2, litLt0, one01, zero01, oneNe0, xupE, xupA, xupK, xI_I, xS_I, xF_I, xJ_I, xI_R, xS_R, xF_R, xJ_R, xI_L, xS_L, xF_L, xJ_L, xcat_s, le46, ge16, or_true, true_or, false_or, or_false, eq_self, Option.toList_some, Option.toList_none, List.cons_append, List.nil_append, true_and, and_true, not_false_eq_true, not_true_eq_false, if_true, if_false]
  by_cases hx : isLb (tR (zT S)) x
  · obtain ⟨l, hl, rfl⟩ := isLb_get hx (by omega)
    rw [if_pos hx, if_pos (by decide)]
    rw [if_pos hx, cN_n (by omega)] at hQ
    refine r_copies h hi hB ?_
    intro M1 h1
    have q := hQ M1 h1.1
    simp (disch := omega) only [B_123_14, lAdd, addL, lMul, mulL, nMul, nI_add, subL, lSub, nSub, nDec, nCl, lCl, nVp, lVp, nLe, nLt, nEq, lLe, leL, lLt, ltL, eqL, lEq, nM1, nM2, litLt0, one01, zero01, oneNe0, xupE, xupA, xupK, xI_I, xS_I, xF_I, xJ_I, xI_R, xS_R, xF_R, xJ_R, xI_L, xS_L, xF_L, xJ_L, xcat_s, le46, ge16, or_true, true_or, false_or, or_false, eq_self, Option.toList_some, Option.toList_none, List.cons_append, List.nil_append, true_and, and_true, not_false_eq_true, not_true_eq_false, if_true, if_false]
    by_cases q0 : w = 0
    · subst q0
      simp (disch := omega) only [llEq, llLt, llLe, nFalse, lAdd, addL, lMul, mulL, nMul, nI_add, subL, lSub, nSub, nDec, nCl, lCl, nVp, lVp, nLe, nLt, nEq, lLe, leL, lLt, ltL, eqL, lEq, nM1, nM2, litLt0, one01, zero01, oneNe0, xupE, xupA, xupK, xI_I, xS_I, xF_I, xJ_I, xI_R, xS_R, xF_R, xJ_R, xI_L, xS_L, xF_L, xJ_L, xcat_s, le46, ge16, or_true, true_or, false_or, or_false, eq_self, Option.toList_some, Option.toList_none, List.cons_append, List.nil_append, true_and, and_true, not_false_eq_true, not_true_eq_false, if_true, if_false, h1.2.1.s.s, h1.2.1.s.f, h1.2.1.v, h1.2.1.1.a hl, h1.2.1.a hl, r_letterOf h1.2.1 (show l < 6 by omega), B_123_93] at q ⊢
      exact q
    by_cases q1 : w = 1
    · subst q1
      simp (disch := omega) only [llEq, llLt, llLe, nFalse, lAdd, addL, lMul, mulL, nMul, nI_add, subL, lSub, nSub, nDec, nCl, lCl, nVp, lVp, nLe, nLt, nEq, lLe, leL, lLt, ltL, eqL, lEq, nM1, nM2, litLt0, one01, zero01, oneNe0, xupE, xupA, xupK, xI_I, xS_I, xF_I, xJ_I, xI_R, xS_R, xF_R, xJ_R, xI_L, xS_L, xF_L, xJ_L, xcat_s, le46, ge16, or_true, true_or, false_or, or_false, eq_self, Option.toList_some, Option.toList_none, List.cons_append, List.nil_append, true_and, and_true, not_false_eq_true, not_true_eq_false, if_true, if_false, h1.2.1.s.s, h1.2.1.s.f, h1.2.1.v, h1.2.1.1.a hl, h1.2.1.a hl, r_letterOf h1.2.1 (show l < 6 by omega), B_123_93] at q ⊢
      exact q
    by_cases q2 : w = 2
    · subst q2
      simp (disch := omega) only [llEq, llLt, llLe, nFalse, lAdd, addL, lMul, mulL, nMul, nI_add, subL, lSub, nSub, nDec, nCl, lCl, nVp, lVp, nLe, nLt, nEq, lLe, leL, lLt, ltL, eqL, lEq, nM1, nM2, litLt0, one01, zero01, oneNe0, xupE, xupA, xupK, xI_I, xS_I, xF_I, xJ_I, xI_R, xS_R, xF_R, xJ_R, xI_L, xS_L, xF_L, xJ_L, xcat_s, le46, ge16, or_true, true_or, false_or, or_false, eq_self, Option.toList_some, Option.toList_none, List.cons_append, List.nil_append, true_and, and_true, not_false_eq_true, not_true_eq_false, if_true, if_false, h1.2.1.s.s, h1.2.1.s.f, h1.2.1.v, h1.2.1.1.a hl, h1.2.1.a hl, r_letterOf h1.2.1 (show l < 6 by omega), B_123_93] at q ⊢
      exact q
    by_cases q3 : w = 3
    · subst q3
      simp (disch := omega) only [llEq, llLt, llLe, nFalse, lAdd, addL, lMul, mulL, nMul, nI_add, subL, lSub, nSub, nDec, nCl, lCl, nVp, lVp, nLe, nLt, nEq, lLe, leL, lLt, ltL, eqL, lEq, nM1, nM2, litLt0, one01, zero01, oneNe0, xupE, xupA, xupK, xI_I, xS_I, xF_I, xJ_I, xI_R, xS_R, xF_R, xJ_R, xI_L, xS_L, xF_L, xJ_L, xcat_s, le46, ge16, or_true, true_or, false_or, or_false, eq_self, Option.toList_some, Option.toList_none, List.cons_append, List.nil_append, true_and, and_true, not_false_eq_true, not_true_eq_false, if_true, if_false, h1.2.1.s.s, h1.2.1.s.f, h1.2.1.v, h1.2.1.1.a hl, h1.2.1.a hl, r_letterOf h1.2.1 (show l < 6 by omega), B_123_93] at q ⊢
      exact q
    by_cases q4 : w = 4
    · subst q4
      simp (disch := omega) only [llEq, llLt, llLe, nFalse, lAdd, addL, lMul, mulL, nMul, nI_add, subL, lSub, nSub, nDec, nCl, lCl, nVp, lVp, nLe, nLt, nEq, lLe, leL, lLt, ltL, eqL, lEq, nM1, nM2, litLt0, one01, zero01, oneNe0, xupE, xupA, xupK, xI_I, xS_I, xF_I, xJ_I, xI_R, xS_R, xF_R, xJ_R, xI_L, xS_L, xF_L, xJ_L, xcat_s, le46, ge16, or_true, true_or, false_or, or_false, eq_self, Option.toList_some, Option.toList_none, List.cons_append, List.nil_append, true_and, and_true, not_false_eq_true, not_true_eq_false, if_true, if_false, h1.2.1.s.s, h1.2.1.s.f, h1.2.1.v, h1.2.1.1.a hl, h1.2.1.a hl, r_letterOf h1.2.1 (show l < 6 by omega), B_123_93] at q ⊢
      exact q
    simp only [q0, q1, q2, q3, q4, if_false] at q ⊢
    exact q
  · rw [if_neg hx, if_neg (by decide)]
    rw [if_neg hx] at hQ
    exact hQ M h
def A_tells (S : XS) (x y w : Int32) : Int32 := if isLb (tN (zT S)) x then (if isLb (tR (zT S)) y then (if w = 0 then lkv (zT S) (zF S) (cN x) (cN y) else if w = 1 then rav (zT S) (zF S) (cN x) (cN y) else if w = 2 then (if tW (zT S) 2 (vvar (zT S) (zF S) (cN x) (cN y)) ≤ 0 then 0 else 1) else -1) else -1) else -1
theorem ite01 {c : Prop} [Decidable c] : ((if c then (0 : Int32) else 1) = 0) = c := by
  by_cases h : c
  · rw [if_pos h]; exact propext ⟨fun _ => h, fun _ => rfl⟩
  · rw [if_neg h]; exact propext ⟨fun q => absurd q (by decide), fun q => absurd q h⟩
theorem c_tells {M0 M : XM} {t : Nat} {S : XS} {x y w : Int32} {Q : Option Value → XM → Prop} (h : CK M0 t S M)
    (hQ : ∀ M' : XM, CK M0 t S M' → Q (some (.int (A_tells S x y w))) M') :
    RG xprog 132 0 [some (.ref 16), some (.int x), some (.int y), some (.int w)] [] M Q := by
  have r6 := h.1.tx.r6
  have n7 := h.1.tx.n7
  unfold A_tells at hQ
  rw [B_132_0]
  simp (disch := omega) only [h.1.d, c_isLetter h.1, B_132_5, lAdd, addL, lMul, mulL, nMul, nI_add, subL, lSub, nSub, nDec, nCl, lCl, nVp, lVp, nLe, nLt, nEq, lLe, leL, lLt, ltL, eqL, lEq, nM1, nM2, litLt0, one01, zero01, oneNe0, xupE, xupA, xupK, xI_I, xS_I, xF_I, xJ_I, xI_R, xS_R, xF_R, xJ_R, xI_L, xS_L, xF_L, xJ_L, xcat_s, le46, ge16, or_true, true_or, false_or, or_false, eq_self, Option.toList_some, Option.toList_none, List.cons_append, List.nil_append, true_and, and_true, not_false_eq_true, not_true_eq_false, if_true, if_false, c_isReader h.1, B_132_13]
  by_cases hx : isLb (tN (zT S)) x
  · obtain ⟨l, hl, rfl⟩ := isLb_get hx (by omega)
    rw [if_pos hx, if_neg (by decide)]
    rw [if_pos hx, cN_n (by omega)] at hQ
    by_cases hy : isLb (tR (zT S)) y
    · obtain ⟨a, ha, rfl⟩ := isLb_get hy (by omega)
      rw [if_pos hy, if_pos (by decide)]
      rw [if_pos hy, cN_n (by omega)] at hQ
      by_cases q0 : w = 0
      · simp only [q0, if_true] at hQ ⊢
        refine c_likesNow h (by omega) (by omega) ?_
        intro M1 h1
        simp (disch := omega) only [lAdd, addL, lMul, mulL, nMul, nI_add, subL, lSub, nSub, nDec, nCl, lCl, nVp, lVp, nLe, nLt, nEq, lLe, leL, lLt, ltL, eqL, lEq, nM1, nM2, litLt0, one01, zero01, oneNe0, xupE, xupA, xupK, xI_I, xS_I, xF_I, xJ_I, xI_R, xS_R, xF_R, xJ_R, xI_L, xS_L, xF_L, xJ_L, xcat_s, le46, ge16, or_true, true_or, false_or, or_false, eq_self, Option.toList_some, Option.toList_none, List.cons_append, List.nil_append, true_and, and_true, not_false_eq_true, not_true_eq_false, if_true, if_false, B_132_50]
        exact hQ M1 h1
      by_cases q1 : w = 1
      · subst q1
        simp (disch := omega) only [llEq, llLt, llLe, nFalse, lAdd, addL, lMul, mulL, nMul, nI_add, subL, lSub, nSub, nDec, nCl, lCl, nVp, lVp, nLe, nLt, nEq, lLe, leL, lLt, ltL, eqL, lEq, nM1, nM2, litLt0, one01, zero01, oneNe0, xupE, xupA, xupK, xI_I, xS_I, xF_I, xJ_I, xI_R, xS_R, xF_R, xJ_R, xI_L, xS_L, xF_L, xJ_L, xcat_s, le46, ge16, or_true, true_or, false_or, or_false, eq_self, Option.toList_some, Option.toList_none, List.cons_append, List.nil_append, true_and, and_true, not_false_eq_true, not_true_eq_false, if_true, if_false, h.1.tx.f] at hQ ⊢
        refine c_rathersOf h.1.tx h.1.of (by omega) (by omega) h.1.sep ?_
        intro M1 e1
        simp (disch := omega) only [lAdd, addL, lMul, mulL, nMul, nI_add, subL, lSub, nSub, nDec, nCl, lCl, nVp, lVp, nLe, nLt, nEq, lLe, leL, lLt, ltL, eqL, lEq, nM1, nM2, litLt0, one01, zero01, oneNe0, xupE, xupA, xupK, xI_I, xS_I, xF_I, xJ_I, xI_R, xS_R, xF_R, xJ_R, xI_L, xS_L, xF_L, xJ_L, xcat_s, le46, ge16, or_true, true_or, false_or, or_false, eq_self, Option.toList_some, Option.toList_none, List.cons_append, List.nil_append, true_and, and_true, not_false_eq_true, not_true_eq_false, if_true, if_false, B_132_64]
        exact hQ M1 (h.stepX e1)
      by_cases q2 : w = 2
      · subst q2
        simp (disch := omega) only [llEq, llLt, llLe, nFalse, lAdd, addL, lMul, mulL, nMul, nI_add, subL, lSub, nSub, nDec, nCl, lCl, nVp, lVp, nLe, nLt, nEq, lLe, leL, lLt, ltL, eqL, lEq, nM1, nM2, litLt0, one01, zero01, oneNe0, xupE, xupA, xupK, xI_I, xS_I, xF_I, xJ_I, xI_R, xS_R, xF_R, xJ_R, xI_L, xS_L, xF_L, xJ_L, xcat_s, le46, ge16, or_true, true_or, false_or, or_false, eq_self, Option.toList_some, Option.toList_none, List.cons_append, List.nil_append, true_and, and_true, not_false_eq_true, not_true_eq_false, if_true, if_false, h.1.tx.f] at hQ ⊢
        refine c_isReturned h.1.tx h.1.of (by omega) (by omega) h.1.sep ?_
        intro M1 e1
        simp (disch := omega) only [lAdd, addL, lMul, mulL, nMul, nI_add, subL, lSub, nSub, nDec, nCl, lCl, nVp, lVp, nLe, nLt, nEq, lLe, leL, lLt, ltL, eqL, lEq, nM1, nM2, litLt0, one01, zero01, oneNe0, xupE, xupA, xupK, xI_I, xS_I, xF_I, xJ_I, xI_R, xS_R, xF_R, xJ_R, xI_L, xS_L, xF_L, xJ_L, xcat_s, le46, ge16, or_true, true_or, false_or, or_false, eq_self, Option.toList_some, Option.toList_none, List.cons_append, List.nil_append, true_and, and_true, not_false_eq_true, not_true_eq_false, if_true, if_false, B_132_78, ite01, ite_i]
        exact hQ M1 (h.stepX e1)
      simp only [q0, q1, q2, if_false] at hQ ⊢
      exact hQ M h
    · rw [if_neg hy, if_neg (by decide)]
      rw [if_neg hy] at hQ
      exact hQ M h
  · rw [if_neg hx, if_pos rfl]
    rw [if_neg hx] at hQ
    exact hQ M h
theorem r_tells {M0 M : XM} {lv B : Nat} {S : XS} {x y w : Int32} {Q : Option Value → XM → Prop} (h : RK M0 lv S M) (hi : SInv B S) (hB : B ≤ 99999)
    (hQ : ∀ M' : XM, RK M0 lv S M' → Q (some (.int (A_tells S x y w))) M') :
    RG xprog 140 0 [some (.ref 439), some (.int x), some (.int y), some (.int w)] [] M Q := by
  have n7 := h.1.1.n7
  have r6 := h.1.1.r6
  unfold A_tells at hQ
  rw [B_140_0]
  simp (disch := omega) only [h.1.1.1.s, r_isLetter h.1.1, B_140_5, lAdd, addL, lMul, mulL, nMul, nI_add, subL, lSub, nSub, nDec, nCl, lCl, nVp, lVp, nLe, nLt, nEq, lLe, leL, lLt, ltL, eqL, lEq, nM1, nM2, litLt0, one01, zero01, oneNe0, xupE, xupA, xupK, xI_I, xS_I, xF_I, xJ_I, xI_R, xS_R, xF_R, xJ_R, xI_L, xS_L, xF_L, xJ_L, xcat_s, le46, ge16, or_true, true_or, false_or, or_false, eq_self, Option.toList_some, Option.toList_none, List.cons_append, List.nil_append, true_and, and_true, not_false_eq_true, not_true_eq_false, if_true, if_false, r_isReader h.1.1, B_140_13]
  by_cases hx : isLb (tN (zT S)) x
  · obtain ⟨l, hl, rfl⟩ := isLb_get hx (by omega)
    rw [if_pos hx, if_neg (by decide)]
    rw [if_pos hx, cN_n (by omega)] at hQ
    by_cases hy : isLb (tR (zT S)) y
    · obtain ⟨a, ha, rfl⟩ := isLb_get hy (by omega)
      rw [if_pos hy, if_pos (by decide)]
      rw [if_pos hy, cN_n (by omega)] at hQ
      refine r_copies h hi hB ?_
      intro M1 h1
      simp (disch := omega) only [B_140_22, lAdd, addL, lMul, mulL, nMul, nI_add, subL, lSub, nSub, nDec, nCl, lCl, nVp, lVp, nLe, nLt, nEq, lLe, leL, lLt, ltL, eqL, lEq, nM1, nM2, litLt0, one01, zero01, oneNe0, xupE, xupA, xupK, xI_I, xS_I, xF_I, xJ_I, xI_R, xS_R, xF_R, xJ_R, xI_L, xS_L, xF_L, xJ_L, xcat_s, le46, ge16, or_true, true_or, false_or, or_false, eq_self, Option.toList_some, Option.toList_none, List.cons_append, List.nil_append, true_and, and_true, not_false_eq_true, not_true_eq_false, if_true, if_false, h1.2.1.s.s]
      by_cases q0 : w = 0
      · simp only [q0, if_true] at hQ ⊢
        refine q_likesOf h1 hl ha ?_
        intro M2 h2
        simp (disch := omega) only [lAdd, addL, lMul, mulL, nMul, nI_add, subL, lSub, nSub, nDec, nCl, lCl, nVp, lVp, nLe, nLt, nEq, lLe, leL, lLt, ltL, eqL, lEq, nM1, nM2, litLt0, one01, zero01, oneNe0, xupE, xupA, xupK, xI_I, xS_I, xF_I, xJ_I, xI_R, xS_R, xF_R, xJ_R, xI_L, xS_L, xF_L, xJ_L, xcat_s, le46, ge16, or_true, true_or, false_or, or_false, eq_self, Option.toList_some, Option.toList_none, List.cons_append, List.nil_append, true_and, and_true, not_false_eq_true, not_true_eq_false, if_true, if_false, B_140_54]
        exact hQ M2 h2.1
      by_cases q1 : w = 1
      · subst q1
        simp (disch := omega) only [llEq, llLt, llLe, nFalse, lAdd, addL, lMul, mulL, nMul, nI_add, subL, lSub, nSub, nDec, nCl, lCl, nVp, lVp, nLe, nLt, nEq, lLe, leL, lLt, ltL, eqL, lEq, nM1, nM2, litLt0, one01, zero01, oneNe0, xupE, xupA, xupK, xI_I, xS_I, xF_I, xJ_I, xI_R, xS_R, xF_R, xJ_R, xI_L, xS_L, xF_L, xJ_L, xcat_s, le46, ge16, or_true, true_or, false_or, or_false, eq_self, Option.toList_some, Option.toList_none, List.cons_append, List.nil_append, true_and, and_true, not_false_eq_true, not_true_eq_false, if_true, if_false] at hQ ⊢
        refine q_rathersOf h1 hl ha ?_
        intro M2 h2
        simp (disch := omega) only [lAdd, addL, lMul, mulL, nMul, nI_add, subL, lSub, nSub, nDec, nCl, lCl, nVp, lVp, nLe, nLt, nEq, lLe, leL, lLt, ltL, eqL, lEq, nM1, nM2, litLt0, one01, zero01, oneNe0, xupE, xupA, xupK, xI_I, xS_I, xF_I, xJ_I, xI_R, xS_R, xF_R, xJ_R, xI_L, xS_L, xF_L, xJ_L, xcat_s, le46, ge16, or_true, true_or, false_or, or_false, eq_self, Option.toList_some, Option.toList_none, List.cons_append, List.nil_append, true_and, and_true, not_false_eq_true, not_true_eq_false, if_true, if_false, B_140_61]
        exact hQ M2 h2.1
      by_cases q2 : w = 2
      · subst q2
        simp (disch := omega) only [llEq, llLt, llLe, nFalse, lAdd, addL, lMul, mulL, nMul, nI_add, subL, lSub, nSub, nDec, nCl, lCl, nVp, lVp, nLe, nLt, nEq, lLe, leL, lLt, ltL, eqL, lEq, nM1, nM2, litLt0, one01, zero01, oneNe0, xupE, xupA, xupK, xI_I, xS_I, xF_I, xJ_I, xI_R, xS_R, xF_R, xJ_R, xI_L, xS_L, xF_L, xJ_L, xcat_s, le46, ge16, or_true, true_or, false_or, or_false, eq_self, Option.toList_some, Option.toList_none, List.cons_append, List.nil_append, true_and, and_true, not_false_eq_true, not_true_eq_false, if_true, if_false] at hQ ⊢
        refine q_doesReturn h1 hl ha ?_
        intro M2 h2
        simp (disch := omega) only [lAdd, addL, lMul, mulL, nMul, nI_add, subL, lSub, nSub, nDec, nCl, lCl, nVp, lVp, nLe, nLt, nEq, lLe, leL, lLt, ltL, eqL, lEq, nM1, nM2, litLt0, one01, zero01, oneNe0, xupE, xupA, xupK, xI_I, xS_I, xF_I, xJ_I, xI_R, xS_R, xF_R, xJ_R, xI_L, xS_L, xF_L, xJ_L, xcat_s, le46, ge16, or_true, true_or, false_or, or_false, eq_self, Option.toList_some, Option.toList_none, List.cons_append, List.nil_append, true_and, and_true, not_false_eq_true, not_true_eq_false, if_true, if_false, B_140_68, ite01, ite_i]
        exact hQ M2 h2.1
      simp only [q0, q1, q2, if_false] at hQ ⊢
      exact hQ M1 h1.1
    · rw [if_neg hy, if_neg (by decide)]
      rw [if_neg hy] at hQ
      exact hQ M h
  · rw [if_neg hx, if_pos rfl]
    rw [if_neg hx] at hQ
    exact hQ M h
