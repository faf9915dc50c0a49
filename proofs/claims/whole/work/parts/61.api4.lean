/-! answers: keep, barren, change, changeBest -/
def mos1 (T : XT) (F : XO) (a l : Nat) (s : Int32) : Int32 := if ¬ oW F l = 1 then s else if s < lkv T F l a then lkv T F l a else s
def mosF (T : XT) (F : XO) (a : Nat) : Int32 := iter (mos1 T F a) (tN T) 0
theorem c_mostOnShelf {M0 M : XM} {t a : Nat} {S : XS} {Q : Option Value → XM → Prop} (h : CK M0 t S M) (ha : a < 6)
    (hQ : ∀ M' : XM, CK M0 t S M' → Q (some (.int (mosF (zT S) (zF S) a))) M') :
    RG xprog 231 0 [some (.ref 16), some (.int (nI a)), none, none] [] M Q := by
  have n7 := h.1.tx.n7
  rw [B_231_0]
  refine x_for (tN (zT S)) (fun i (s : XM × Int32) => CK M0 t S s.1 ∧ s.2 = iter (mos1 (zT S) (zF S) a) i 0) (fun i s => RG xprog 231 4 [some (.ref 16), some (.int (nI a)), some (.int s.2), some (.int (nI i))] [] s.1 Q) ?_ ?_ 0 (M, 0) (by omega) ⟨h, rfl⟩
  · rintro ⟨M1, x⟩ ⟨k1, e1⟩
    dsimp only at k1 e1 ⊢
    rw [B_231_4]
    simp (disch := omega) only [k1.1.d, k1.1.tx.f, k1.1.tx.n, k1.1.tx.r, k1.1.of.f, k1.1.of.v, lAdd, addL, lMul, mulL, nMul, nI_add, subL, lSub, nSub, nDec, nCl, lCl, nVp, lVp, nLe, nLt, nEq, lLe, leL, lLt, ltL, eqL, lEq, nM1, nM2, litLt0, one01, zero01, oneNe0, xupE, xupA, xupK, xI_I, xS_I, xF_I, xJ_I, xI_R, xS_R, xF_R, xJ_R, xI_L, xS_L, xF_L, xJ_L, xcat_s, le46, ge16, or_true, true_or, false_or, or_false, eq_self, Option.toList_some, Option.toList_none, List.cons_append, List.nil_append, true_and, and_true, not_false_eq_true, not_true_eq_false, if_true, if_false, Nat.le_refl]
    rw [e1]
    exact hQ M1 k1
  · rintro l ⟨M1, x⟩ hl ⟨k1, e1⟩ ih
    dsimp only at k1 e1 ⊢
    rw [iter_s, ← e1, mos1] at ih
    rw [B_231_4]
    simp (disch := omega) only [k1.1.d, k1.1.tx.f, k1.1.tx.n, k1.1.tx.r, k1.1.of.f, k1.1.of.v, lAdd, addL, lMul, mulL, nMul, nI_add, subL, lSub, nSub, nDec, nCl, lCl, nVp, lVp, nLe, nLt, nEq, lLe, leL, lLt, ltL, eqL, lEq, nM1, nM2, litLt0, one01, zero01, oneNe0, xupE, xupA, xupK, xI_I, xS_I, xF_I, xJ_I, xI_R, xS_R, xF_R, xJ_R, xI_L, xS_L, xF_L, xJ_L, xcat_s, le46, ge16, or_true, true_or, false_or, or_false, eq_self, Option.toList_some, Option.toList_none, List.cons_append, List.nil_append, true_and, and_true, not_false_eq_true, not_true_eq_false, if_true, if_false, if_neg]
    by_cases hw : oW (zF S) l = 1
    · rw [if_neg (fun q => q hw)]
      rw [if_neg (fun q => q hw)] at ih
      refine c_likesNow k1 (by omega) (by omega) ?_
      intro M2 k2
      simp (disch := omega) only [lAdd, addL, lMul, mulL, nMul, nI_add, subL, lSub, nSub, nDec, nCl, lCl, nVp, lVp, nLe, nLt, nEq, lLe, leL, lLt, ltL, eqL, lEq, nM1, nM2, litLt0, one01, zero01, oneNe0, xupE, xupA, xupK, xI_I, xS_I, xF_I, xJ_I, xI_R, xS_R, xF_R, xJ_R, xI_L, xS_L, xF_L, xJ_L, xcat_s, le46, ge16, or_true, true_or, false_or, or_false, eq_self, Option.toList_some, Option.toList_none, List.cons_append, List.nil_append, true_and, and_true, not_false_eq_true, not_true_eq_false, if_true, if_false, B_231_35]
      exact ih (M2, _) ⟨k2, rfl⟩
    · rw [if_pos hw]
      rw [if_pos hw] at ih
      exact ih (M1, x) ⟨k1, rfl⟩
def A_keep (S : XS) (x : Int32) : Int32 := if isAt S 2 x then lkv (zT S) (zF S) (cN x) (cN (oH (zF S) (cN x))) - mosF (zT S) (zF S) (cN (oH (zF S) (cN x))) else -100000
theorem c_keep {M0 M : XM} {t B : Nat} {S : XS} {x : Int32} {Q : Option Value → XM → Prop} (h : CK M0 t S M) (hi : SInv B S)
    (hQ : ∀ M' : XM, CK M0 t S M' → Q (some (.int (A_keep S x))) M') :
    RG xprog 232 0 [some (.ref 16), some (.int x), none] [] M Q := by
  have n7 := h.1.tx.n7
  have r6 := h.1.tx.r6
  unfold A_keep at hQ
  rw [B_232_0]
  simp (disch := omega) only [h.1.d, c_isWith h.1, B_232_5, lAdd, addL, lMul, mulL, nMul, nI_add, subL, lSub, nSub, nDec, nCl, lCl, nVp, lVp, nLe, nLt, nEq, lLe, leL, lLt, ltL, eqL, lEq, nM1, nM2, litLt0, one01, zero01, oneNe0, xupE, xupA, xupK, xI_I, xS_I, xF_I, xJ_I, xI_R, xS_R, xF_R, xJ_R, xI_L, xS_L, xF_L, xJ_L, xcat_s, le46, ge16, or_true, true_or, false_or, or_false, eq_self, Option.toList_some, Option.toList_none, List.cons_append, List.nil_append, true_and, and_true, not_false_eq_true, not_true_eq_false, if_true, if_false]
  by_cases hx : isAt S 2 x
  · rw [if_pos hx, if_pos (by decide)]
    rw [if_pos hx] at hQ
    obtain ⟨l, hl, rfl⟩ := isLb_get hx.1 (by omega)
    have hw := hx.2
    rw [cN_n (by omega)] at hw hQ
    obtain ⟨a, ha, hh, _⟩ := hi.2.1.w2 (by omega) hw
    rw [hh, cN_n (by omega)] at hQ
    simp (disch := omega) only [h.1.d, h.1.tx.f, h.1.tx.n, h.1.tx.r, h.1.of.f, h.1.of.v, lAdd, addL, lMul, mulL, nMul, nI_add, subL, lSub, nSub, nDec, nCl, lCl, nVp, lVp, nLe, nLt, nEq, lLe, leL, lLt, ltL, eqL, lEq, nM1, nM2, litLt0, one01, zero01, oneNe0, xupE, xupA, xupK, xI_I, xS_I, xF_I, xJ_I, xI_R, xS_R, xF_R, xJ_R, xI_L, xS_L, xF_L, xJ_L, xcat_s, le46, ge16, or_true, true_or, false_or, or_false, eq_self, Option.toList_some, Option.toList_none, List.cons_append, List.nil_append, true_and, and_true, not_false_eq_true, not_true_eq_false, if_true, if_false, hh]
    refine c_likesNow h (by omega) (by omega) ?_
    intro M1 k1
    simp (disch := omega) only [k1.1.d, k1.1.tx.f, k1.1.tx.n, k1.1.tx.r, k1.1.of.f, k1.1.of.v, lAdd, addL, lMul, mulL, nMul, nI_add, subL, lSub, nSub, nDec, nCl, lCl, nVp, lVp, nLe, nLt, nEq, lLe, leL, lLt, ltL, eqL, lEq, nM1, nM2, litLt0, one01, zero01, oneNe0, xupE, xupA, xupK, xI_I, xS_I, xF_I, xJ_I, xI_R, xS_R, xF_R, xJ_R, xI_L, xS_L, xF_L, xJ_L, xcat_s, le46, ge16, or_true, true_or, false_or, or_false, eq_self, Option.toList_some, Option.toList_none, List.cons_append, List.nil_append, true_and, and_true, not_false_eq_true, not_true_eq_false, if_true, if_false, B_232_27]
    refine c_mostOnShelf k1 (by omega) ?_
    intro M2 k2
    simp (disch := omega) only [lAdd, addL, lMul, mulL, nMul, nI_add, subL, lSub, nSub, nDec, nCl, lCl, nVp, lVp, nLe, nLt, nEq, lLe, leL, lLt, ltL, eqL, lEq, nM1, nM2, litLt0, one01, zero01, oneNe0, xupE, xupA, xupK, xI_I, xS_I, xF_I, xJ_I, xI_R, xS_R, xF_R, xJ_R, xI_L, xS_L, xF_L, xJ_L, xcat_s, le46, ge16, or_true, true_or, false_or, or_false, eq_self, Option.toList_some, Option.toList_none, List.cons_append, List.nil_append, true_and, and_true, not_false_eq_true, not_true_eq_false, if_true, if_false, B_232_32]
    exact hQ M2 k2
  · rw [if_neg hx, if_neg (by decide)]
    rw [if_neg hx] at hQ
    exact hQ M h
theorem r_keep {M0 M : XM} {lv B : Nat} {S : XS} {x : Int32} {Q : Option Value → XM → Prop} (h : RK M0 lv S M) (hi : SInv B S) (hB : B ≤ 99999)
    (hQ : ∀ M' : XM, RK M0 lv S M' → Q (some (.int (A_keep S x))) M') :
    RG xprog 233 0 [some (.ref 439), some (.int x), none, none, none] [] M Q := by
  have n7 := h.1.1.n7
  have r6 := h.1.1.r6
  have l2 := h.1.1.lv2
  unfold A_keep at hQ
  rw [B_233_0]
  simp (disch := omega) only [h.1.1.1.s, r_isLetter h.1.1, B_233_5, lAdd, addL, lMul, mulL, nMul, nI_add, subL, lSub, nSub, nDec, nCl, lCl, nVp, lVp, nLe, nLt, nEq, lLe, leL, lLt, ltL, eqL, lEq, nM1, nM2, litLt0, one01, zero01, oneNe0, xupE, xupA, xupK, xI_I, xS_I, xF_I, xJ_I, xI_R, xS_R, xF_R, xJ_R, xI_L, xS_L, xF_L, xJ_L, xcat_s, le46, ge16, or_true, true_or, false_or, or_false, eq_self, Option.toList_some, Option.toList_none, List.cons_append, List.nil_append, true_and, and_true, not_false_eq_true, not_true_eq_false, if_true, if_false, B_233_18]
  by_cases hx : isLb (tN (zT S)) x
  · obtain ⟨l, hl, rfl⟩ := isLb_get hx (by omega)
    rw [if_pos hx, if_neg (by decide)]
    simp (disch := omega) only [lAdd, addL, lMul, mulL, nMul, nI_add, subL, lSub, nSub, nDec, nCl, lCl, nVp, lVp, nLe, nLt, nEq, lLe, leL, lLt, ltL, eqL, lEq, nM1, nM2, litLt0, one01, zero01, oneNe0, xupE, xupA, xupK, xI_I, xS_I, xF_I, xJ_I, xI_R, xS_R, xF_R, xJ_R, xI_L, xS_L, xF_L, xJ_L, xcat_s, le46, ge16, or_true, true_or, false_or, or_false, eq_self, Option.toList_some, Option.toList_none, List.cons_append, List.nil_append, true_and, and_true, not_false_eq_true, not_true_eq_false, if_true, if_false, h.1.1.1.s, h.1.1.1.f, (h.1.2.1.1 l (by omega)).1]
    by_cases hw : oW (zF S) l = 2
    · rw [if_pos hw]
      rw [if_pos (c := isAt S 2 (nI l)) ⟨hx, by rw [cN_n (by omega)]; exact hw⟩, cN_n (by omega)] at hQ
      obtain ⟨a, ha, hh, _⟩ := hi.2.1.w2 (by omega) hw
      rw [hh, cN_n (by omega)] at hQ
      refine r_copies h hi hB ?_
      intro M1 h1
      simp (disch := omega) only [lAdd, addL, lMul, mulL, nMul, nI_add, subL, lSub, nSub, nDec, nCl, lCl, nVp, lVp, nLe, nLt, nEq, lLe, leL, lLt, ltL, eqL, lEq, nM1, nM2, litLt0, one01, zero01, oneNe0, xupE, xupA, xupK, xI_I, xS_I, xF_I, xJ_I, xI_R, xS_R, xF_R, xJ_R, xI_L, xS_L, xF_L, xJ_L, xcat_s, le46, ge16, or_true, true_or, false_or, or_false, eq_self, Option.toList_some, Option.toList_none, List.cons_append, List.nil_append, true_and, and_true, not_false_eq_true, not_true_eq_false, if_true, if_false, B_233_26, h1.2.1.s.s, h1.2.1.s.f, h1.2.1.v, h1.2.1.n, h1.2.1.r, h1.2.1.l (show l < 7 by omega), hh]
      refine x_for (tN (zT S)) (fun i (s : XM × Int32) => RQ M0 lv S (zF S) (tS (zT S) 2) 0 s.1 ∧ s.2 = iter (mos1 (zT S) (zF S) a) i 0) (fun i s => RG xprog 233 41 [some (.ref 439), some (.int (nI l)), some (.int (nI a)), some (.int s.2), some (.int (nI i))] [] s.1 Q) ?_ ?_ 0 (M1, 0) (by omega) ⟨h1, rfl⟩
      · rintro ⟨M2, y⟩ ⟨k1, e1⟩
        dsimp only at k1 e1 ⊢
        rw [B_233_41]
        simp (disch := omega) only [k1.2.1.s.s, k1.2.1.s.f, k1.2.1.v, k1.2.1.n, k1.2.1.r, lAdd, addL, lMul, mulL, nMul, nI_add, subL, lSub, nSub, nDec, nCl, lCl, nVp, lVp, nLe, nLt, nEq, lLe, leL, lLt, ltL, eqL, lEq, nM1, nM2, litLt0, one01, zero01, oneNe0, xupE, xupA, xupK, xI_I, xS_I, xF_I, xJ_I, xI_R, xS_R, xF_R, xJ_R, xI_L, xS_L, xF_L, xJ_L, xcat_s, le46, ge16, or_true, true_or, false_or, or_false, eq_self, Option.toList_some, Option.toList_none, List.cons_append, List.nil_append, true_and, and_true, not_false_eq_true, not_true_eq_false, if_true, if_false, Nat.le_refl]
        refine q_likesOf k1 hl ha ?_
        intro M3 k2
        simp (disch := omega) only [lAdd, addL, lMul, mulL, nMul, nI_add, subL, lSub, nSub, nDec, nCl, lCl, nVp, lVp, nLe, nLt, nEq, lLe, leL, lLt, ltL, eqL, lEq, nM1, nM2, litLt0, one01, zero01, oneNe0, xupE, xupA, xupK, xI_I, xS_I, xF_I, xJ_I, xI_R, xS_R, xF_R, xJ_R, xI_L, xS_L, xF_L, xJ_L, xcat_s, le46, ge16, or_true, true_or, false_or, or_false, eq_self, Option.toList_some, Option.toList_none, List.cons_append, List.nil_append, true_and, and_true, not_false_eq_true, not_true_eq_false, if_true, if_false, B_233_97]
        rw [e1]
        exact hQ M3 k2.1
      · rintro j ⟨M2, y⟩ hj ⟨k1, e1⟩ ih
        dsimp only at k1 e1 ⊢
        rw [iter_s, ← e1, mos1] at ih
        rw [B_233_41]
        simp (disch := omega) only [k1.2.1.s.s, k1.2.1.s.f, k1.2.1.v, k1.2.1.n, k1.2.1.r, lAdd, addL, lMul, mulL, nMul, nI_add, subL, lSub, nSub, nDec, nCl, lCl, nVp, lVp, nLe, nLt, nEq, lLe, leL, lLt, ltL, eqL, lEq, nM1, nM2, litLt0, one01, zero01, oneNe0, xupE, xupA, xupK, xI_I, xS_I, xF_I, xJ_I, xI_R, xS_R, xF_R, xJ_R, xI_L, xS_L, xF_L, xJ_L, xcat_s, le46, ge16, or_true, true_or, false_or, or_false, eq_self, Option.toList_some, Option.toList_none, List.cons_append, List.nil_append, true_and, and_true, not_false_eq_true, not_true_eq_false, if_true, if_false, if_neg, k1.2.1.l (show j < 7 by omega)]
        by_cases hs : oW (zF S) j = 1
        · rw [if_neg (fun q => q hs)]
          rw [if_neg (fun q => q hs)] at ih
          refine q_likesOf k1 hj ha ?_
          intro M3 k2
          simp (disch := omega) only [lAdd, addL, lMul, mulL, nMul, nI_add, subL, lSub, nSub, nDec, nCl, lCl, nVp, lVp, nLe, nLt, nEq, lLe, leL, lLt, ltL, eqL, lEq, nM1, nM2, litLt0, one01, zero01, oneNe0, xupE, xupA, xupK, xI_I, xS_I, xF_I, xJ_I, xI_R, xS_R, xF_R, xJ_R, xI_L, xS_L, xF_L, xJ_L, xcat_s, le46, ge16, or_true, true_or, false_or, or_false, eq_self, Option.toList_some, Option.toList_none, List.cons_append, List.nil_append, true_and, and_true, not_false_eq_true, not_true_eq_false, if_true, if_false, B_233_73, k2.2.1.s.s, k2.2.1.s.f, k2.2.1.v, k2.2.1.n, k2.2.1.r]
          by_cases hc : lkv (zT S) (zF S) j a ≤ y
          · rw [if_pos hc]
            rw [if_neg (by rw [← le_nlt]; exact hc)] at ih
            exact ih (M3, y) ⟨k2, rfl⟩
          · rw [if_neg hc]
            rw [if_pos (Classical.not_not.mp (by rw [← le_nlt]; exact hc))] at ih
            refine q_likesOf k2 hj ha ?_
            intro M4 k3
            simp (disch := omega) only [lAdd, addL, lMul, mulL, nMul, nI_add, subL, lSub, nSub, nDec, nCl, lCl, nVp, lVp, nLe, nLt, nEq, lLe, leL, lLt, ltL, eqL, lEq, nM1, nM2, litLt0, one01, zero01, oneNe0, xupE, xupA, xupK, xI_I, xS_I, xF_I, xJ_I, xI_R, xS_R, xF_R, xJ_R, xI_L, xS_L, xF_L, xJ_L, xcat_s, le46, ge16, or_true, true_or, false_or, or_false, eq_self, Option.toList_some, Option.toList_none, List.cons_append, List.nil_append, true_and, and_true, not_false_eq_true, not_true_eq_false, if_true, if_false, B_233_84]
            exact ih (M4, _) ⟨k3, rfl⟩
        · rw [if_pos hs]
          rw [if_pos hs] at ih
          exact ih (M2, y) ⟨k1, rfl⟩
    · rw [if_neg hw]
      rw [if_neg (fun q => hw (by have := q.2; rw [cN_n (by omega)] at this; exact this))] at hQ
      exact hQ M h
  · rw [if_neg hx, if_pos rfl]
    rw [if_neg (fun q => hx q.1)] at hQ
    exact hQ M h
def barF (T : XT) (F : XO) : Int32 := iter (fun a s => if ¬ mosF T F a = 0 then s else s ||| ((1 : Int32) <<< (nI a &&& 31))) (tR T) 0
theorem c_barren {M0 M : XM} {t : Nat} {S : XS} {Q : Option Value → XM → Prop} (h : CK M0 t S M)
    (hQ : ∀ M' : XM, CK M0 t S M' → Q (some (.int (barF (zT S) (zF S)))) M') :
    RG xprog 234 0 [some (.ref 16), none, none] [] M Q := by
  have r6 := h.1.tx.r6
  rw [B_234_0]
  refine x_for (tR (zT S)) (fun i (s : XM × Int32) => CK M0 t S s.1 ∧ s.2 = iter (fun a s => if ¬ mosF (zT S) (zF S) a = 0 then s else s ||| ((1 : Int32) <<< (nI a &&& 31))) i 0) (fun i s => RG xprog 234 4 [some (.ref 16), some (.int s.2), some (.int (nI i))] [] s.1 Q) ?_ ?_ 0 (M, 0) (by omega) ⟨h, rfl⟩
  · rintro ⟨M1, x⟩ ⟨k1, e1⟩
    dsimp only at k1 e1 ⊢
    rw [B_234_4]
    simp (disch := omega) only [k1.1.d, k1.1.tx.f, k1.1.tx.n, k1.1.tx.r, k1.1.of.f, k1.1.of.v, lAdd, addL, lMul, mulL, nMul, nI_add, subL, lSub, nSub, nDec, nCl, lCl, nVp, lVp, nLe, nLt, nEq, lLe, leL, lLt, ltL, eqL, lEq, nM1, nM2, litLt0, one01, zero01, oneNe0, xupE, xupA, xupK, xI_I, xS_I, xF_I, xJ_I, xI_R, xS_R, xF_R, xJ_R, xI_L, xS_L, xF_L, xJ_L, xcat_s, le46, ge16, or_true, true_or, false_or, or_false, eq_self, Option.toList_some, Option.toList_none, List.cons_append, List.nil_append, true_and, and_true, not_false_eq_true, not_true_eq_false, if_true, if_false, Nat.le_refl]
    rw [e1]
    exact hQ M1 k1
  · rintro a ⟨M1, x⟩ ha ⟨k1, e1⟩ ih
    dsimp only at k1 e1 ⊢
    rw [iter_s, ← e1] at ih
    rw [B_234_4]
    simp (disch := omega) only [k1.1.d, k1.1.tx.f, k1.1.tx.n, k1.1.tx.r, k1.1.of.f, k1.1.of.v, lAdd, addL, lMul, mulL, nMul, nI_add, subL, lSub, nSub, nDec, nCl, lCl, nVp, lVp, nLe, nLt, nEq, lLe, leL, lLt, ltL, eqL, lEq, nM1, nM2, litLt0, one01, zero01, oneNe0, xupE, xupA, xupK, xI_I, xS_I, xF_I, xJ_I, xI_R, xS_R, xF_R, xJ_R, xI_L, xS_L, xF_L, xJ_L, xcat_s, le46, ge16, or_true, true_or, false_or, or_false, eq_self, Option.toList_some, Option.toList_none, List.cons_append, List.nil_append, true_and, and_true, not_false_eq_true, not_true_eq_false, if_true, if_false, if_neg]
    refine c_mostOnShelf k1 (by omega) ?_
    intro M2 k2
    simp (disch := omega) only [lAdd, addL, lMul, mulL, nMul, nI_add, subL, lSub, nSub, nDec, nCl, lCl, nVp, lVp, nLe, nLt, nEq, lLe, leL, lLt, ltL, eqL, lEq, nM1, nM2, litLt0, one01, zero01, oneNe0, xupE, xupA, xupK, xI_I, xS_I, xF_I, xJ_I, xI_R, xS_R, xF_R, xJ_R, xI_L, xS_L, xF_L, xJ_L, xcat_s, le46, ge16, or_true, true_or, false_or, or_false, eq_self, Option.toList_some, Option.toList_none, List.cons_append, List.nil_append, true_and, and_true, not_false_eq_true, not_true_eq_false, if_true, if_false, B_234_20]
    split
    · rename_i hc
      rw [if_pos hc] at ih
      exact ih (M2, x) ⟨k2, rfl⟩
    · rename_i hc
      rw [if_neg hc] at ih
      exact ih (M2, _) ⟨k2, rfl⟩
theorem mos_flag (T : XT) (F : XO) (a : Nat) : iter (fun l (f : Int32) => if ¬ oW F l = 1 then f else if lkv T F l a ≤ 0 then f else 0) (tN T) 1 = if mosF T F a = 0 then 1 else 0 := by
  have e0 : (0 : Int32).toInt = 0 := rfl
  have key := iter_rel (fun i (f s : Int32) => (f = if s = 0 then 1 else 0) ∧ 0 ≤ s.toInt) (fun l (f : Int32) => if ¬ oW F l = 1 then f else if lkv T F l a ≤ 0 then f else 0) (mos1 T F a) 1 0 (tN T) ⟨by rw [if_pos rfl], by rw [e0]; omega⟩ (by
    intro i f s hi ⟨h1, h2⟩
    unfold mos1
    by_cases hw : oW F i = 1
    · simp only [hw, not_true_eq_false, if_false]
      have hl := lkv0 T F i a
      by_cases hc : s < lkv T F i a
      · rw [if_pos hc]
        refine ⟨?_, hl⟩
        rw [i32_lt] at hc
        rw [if_neg (by rw [i32_le, e0]; omega), if_neg (by rw [← Int32.toInt_inj, e0]; omega)]
      · rw [if_neg hc]
        refine ⟨?_, h2⟩
        rw [i32_lt] at hc
        by_cases hz : lkv T F i a ≤ 0
        · rw [if_pos hz]; exact h1
        · rw [if_neg hz, if_neg]
          rw [i32_le, e0] at hz
          rw [← Int32.toInt_inj, e0]
          omega
    · simp only [hw, not_false_eq_true, if_true]
      exact ⟨h1, h2⟩)
  exact key.1
theorem r_barren {M0 M : XM} {lv B : Nat} {S : XS} {Q : Option Value → XM → Prop} (h : RK M0 lv S M) (hi : SInv B S) (hB : B ≤ 99999)
    (hQ : ∀ M' : XM, RK M0 lv S M' → Q (some (.int (barF (zT S) (zF S)))) M') :
    RG xprog 235 0 [some (.ref 439), none, none, none, none] [] M Q := by
  have n7 := h.1.1.n7
  have r6 := h.1.1.r6
  have l2 := h.1.1.lv2
  rw [B_235_0]
  simp (disch := omega) only [h.1.1.1.s, lAdd, addL, lMul, mulL, nMul, nI_add, subL, lSub, nSub, nDec, nCl, lCl, nVp, lVp, nLe, nLt, nEq, lLe, leL, lLt, ltL, eqL, lEq, nM1, nM2, litLt0, one01, zero01, oneNe0, xupE, xupA, xupK, xI_I, xS_I, xF_I, xJ_I, xI_R, xS_R, xF_R, xJ_R, xI_L, xS_L, xF_L, xJ_L, xcat_s, le46, ge16, or_true, true_or, false_or, or_false, eq_self, Option.toList_some, Option.toList_none, List.cons_append, List.nil_append, true_and, and_true, not_false_eq_true, not_true_eq_false, if_true, if_false]
  refine r_copies h hi hB ?_
  intro M1 h1
  simp (disch := omega) only [lAdd, addL, lMul, mulL, nMul, nI_add, subL, lSub, nSub, nDec, nCl, lCl, nVp, lVp, nLe, nLt, nEq, lLe, leL, lLt, ltL, eqL, lEq, nM1, nM2, litLt0, one01, zero01, oneNe0, xupE, xupA, xupK, xI_I, xS_I, xF_I, xJ_I, xI_R, xS_R, xF_R, xJ_R, xI_L, xS_L, xF_L, xJ_L, xcat_s, le46, ge16, or_true, true_or, false_or, or_false, eq_self, Option.toList_some, Option.toList_none, List.cons_append, List.nil_append, true_and, and_true, not_false_eq_true, not_true_eq_false, if_true, if_false, B_235_4]
  refine x_for (tR (zT S)) (fun i (s : XM × Int32 × Option Value × Option Value) => RQ M0 lv S (zF S) (tS (zT S) 2) 0 s.1 ∧ s.2.1 = iter (fun a s => if ¬ mosF (zT S) (zF S) a = 0 then s else s ||| ((1 : Int32) <<< (nI a &&& 31))) i 0) (fun i s => RG xprog 235 8 [some (.ref 439), some (.int s.2.1), some (.int (nI i)), s.2.2.1, s.2.2.2] [] s.1 Q) ?_ ?_ 0 (M1, 0, none, none) (by omega) ⟨h1, rfl⟩
  · rintro ⟨M1, x, y, z⟩ ⟨k1, e1⟩
    dsimp only at k1 e1 ⊢
    rw [B_235_8]
    simp (disch := omega) only [k1.2.1.s.s, k1.2.1.s.f, k1.2.1.v, k1.2.1.n, k1.2.1.r, lAdd, addL, lMul, mulL, nMul, nI_add, subL, lSub, nSub, nDec, nCl, lCl, nVp, lVp, nLe, nLt, nEq, lLe, leL, lLt, ltL, eqL, lEq, nM1, nM2, litLt0, one01, zero01, oneNe0, xupE, xupA, xupK, xI_I, xS_I, xF_I, xJ_I, xI_R, xS_R, xF_R, xJ_R, xI_L, xS_L, xF_L, xJ_L, xcat_s, le46, ge16, or_true, true_or, false_or, or_false, eq_self, Option.toList_some, Option.toList_none, List.cons_append, List.nil_append, true_and, and_true, not_false_eq_true, not_true_eq_false, if_true, if_false, Nat.le_refl]
    rw [e1]
    exact hQ M1 k1.1
  · rintro a ⟨M1, x, y, z⟩ ha ⟨k1, e1⟩ ih
    dsimp only at k1 e1 ⊢
    rw [iter_s, ← e1] at ih
    rw [B_235_8]
    simp (disch := omega) only [k1.2.1.s.s, k1.2.1.s.f, k1.2.1.v, k1.2.1.n, k1.2.1.r, lAdd, addL, lMul, mulL, nMul, nI_add, subL, lSub, nSub, nDec, nCl, lCl, nVp, lVp, nLe, nLt, nEq, lLe, leL, lLt, ltL, eqL, lEq, nM1, nM2, litLt0, one01, zero01, oneNe0, xupE, xupA, xupK, xI_I, xS_I, xF_I, xJ_I, xI_R, xS_R, xF_R, xJ_R, xI_L, xS_L, xF_L, xJ_L, xcat_s, le46, ge16, or_true, true_or, false_or, or_false, eq_self, Option.toList_some, Option.toList_none, List.cons_append, List.nil_append, true_and, and_true, not_false_eq_true, not_true_eq_false, if_true, if_false, if_neg]
    refine x_for (tN (zT S)) (fun i (s : XM × Int32) => RQ M0 lv S (zF S) (tS (zT S) 2) 0 s.1 ∧ s.2 = iter (fun l (f : Int32) => if ¬ oW (zF S) l = 1 then f else if lkv (zT S) (zF S) l a ≤ 0 then f else 0) i 1) (fun i s => RG xprog 235 26 [some (.ref 439), some (.int x), some (.int (nI a)), some (.int s.2), some (.int (nI i))] [] s.1 Q) ?_ ?_ 0 (M1, 1) (by omega) ⟨k1, rfl⟩
    · rintro ⟨M2, f⟩ ⟨k2, e2⟩
      dsimp only at k2 e2 ⊢
      rw [mos_flag] at e2
      rw [B_235_26]
      simp (disch := omega) only [k2.2.1.s.s, k2.2.1.s.f, k2.2.1.v, k2.2.1.n, k2.2.1.r, lAdd, addL, lMul, mulL, nMul, nI_add, subL, lSub, nSub, nDec, nCl, lCl, nVp, lVp, nLe, nLt, nEq, lLe, leL, lLt, ltL, eqL, lEq, nM1, nM2, litLt0, one01, zero01, oneNe0, xupE, xupA, xupK, xI_I, xS_I, xF_I, xJ_I, xI_R, xS_R, xF_R, xJ_R, xI_L, xS_L, xF_L, xJ_L, xcat_s, le46, ge16, or_true, true_or, false_or, or_false, eq_self, Option.toList_some, Option.toList_none, List.cons_append, List.nil_append, true_and, and_true, not_false_eq_true, not_true_eq_false, if_true, if_false, Nat.le_refl]
      by_cases hm : mosF (zT S) (zF S) a = 0
      · rw [if_pos hm] at e2
        rw [if_neg (fun q => q hm)] at ih
        rw [e2, if_neg (by decide)]
        exact ih (M2, _, _, _) ⟨k2, rfl⟩
      · rw [if_neg hm] at e2
        rw [if_pos hm] at ih
        rw [e2, if_pos rfl]
        exact ih (M2, x, _, _) ⟨k2, rfl⟩
    · rintro l ⟨M2, f⟩ hl ⟨k2, e2⟩ ih2
      dsimp only at k2 e2 ⊢
      rw [iter_s, ← e2] at ih2
      rw [B_235_26]
      simp (disch := omega) only [k2.2.1.s.s, k2.2.1.s.f, k2.2.1.v, k2.2.1.n, k2.2.1.r, lAdd, addL, lMul, mulL, nMul, nI_add, subL, lSub, nSub, nDec, nCl, lCl, nVp, lVp, nLe, nLt, nEq, lLe, leL, lLt, ltL, eqL, lEq, nM1, nM2, litLt0, one01, zero01, oneNe0, xupE, xupA, xupK, xI_I, xS_I, xF_I, xJ_I, xI_R, xS_R, xF_R, xJ_R, xI_L, xS_L, xF_L, xJ_L, xcat_s, le46, ge16, or_true, true_or, false_or, or_false, eq_self, Option.toList_some, Option.toList_none, List.cons_append, List.nil_append, true_and, and_true, not_false_eq_true, not_true_eq_false, if_true, if_false, if_neg, k2.2.1.l (show l < 7 by omega)]
      by_cases hs : oW (zF S) l = 1
      · rw [if_neg (fun q => q hs)]
        rw [if_neg (fun q => q hs)] at ih2
        refine q_likesOf k2 hl ha ?_
        intro M3 k3
        simp (disch := omega) only [lAdd, addL, lMul, mulL, nMul, nI_add, subL, lSub, nSub, nDec, nCl, lCl, nVp, lVp, nLe, nLt, nEq, lLe, leL, lLt, ltL, eqL, lEq, nM1, nM2, litLt0, one01, zero01, oneNe0, xupE, xupA, xupK, xI_I, xS_I, xF_I, xJ_I, xI_R, xS_R, xF_R, xJ_R, xI_L, xS_L, xF_L, xJ_L, xcat_s, le46, ge16, or_true, true_or, false_or, or_false, eq_self, Option.toList_some, Option.toList_none, List.cons_append, List.nil_append, true_and, and_true, not_false_eq_true, not_true_eq_false, if_true, if_false, B_235_58]
        split
        · rename_i hc
          rw [if_pos hc] at ih2
          exact ih2 (M3, f) ⟨k3, rfl⟩
        · rename_i hc
          rw [if_neg hc] at ih2
          exact ih2 (M3, 0) ⟨k3, rfl⟩
      · rw [if_pos hs]
        rw [if_pos hs] at ih2
        exact ih2 (M2, f) ⟨k2, rfl⟩
def gainF (T : XT) (F : XO) (l o : Nat) : Int32 := lkv T F l (cN (oH F o)) + lkv T F o (cN (oH F l)) - lkv T F l (cN (oH F l)) - lkv T F o (cN (oH F o))
theorem c_gain {M0 M : XM} {t l o B : Nat} {S : XS} {Q : Option Value → XM → Prop} (h : CK M0 t S M) (hi : SInv B S) (hl : l < tN (zT S)) (ho : o < tN (zT S)) (wl : oW (zF S) l = 2) (wo : oW (zF S) o = 2)
    (hQ : ∀ M' : XM, CK M0 t S M' → Q (some (.int (gainF (zT S) (zF S) l o))) M') :
    RG xprog 236 0 [some (.ref 16), some (.int (nI l)), some (.int (nI o)), none, none] [] M Q := by
  have n7 := h.1.tx.n7
  have r6 := h.1.tx.r6
  obtain ⟨a, ha, hh, _⟩ := hi.2.1.w2 (by omega) wl
  obtain ⟨b, hb, hh2, _⟩ := hi.2.1.w2 (by omega) wo
  unfold gainF at hQ
  rw [hh, hh2, cN_n (by omega), cN_n (by omega)] at hQ
  rw [B_236_0]
  simp (disch := omega) only [h.1.d, h.1.tx.f, h.1.tx.n, h.1.tx.r, h.1.of.f, h.1.of.v, lAdd, addL, lMul, mulL, nMul, nI_add, subL, lSub, nSub, nDec, nCl, lCl, nVp, lVp, nLe, nLt, nEq, lLe, leL, lLt, ltL, eqL, lEq, nM1, nM2, litLt0, one01, zero01, oneNe0, xupE, xupA, xupK, xI_I, xS_I, xF_I, xJ_I, xI_R, xS_R, xF_R, xJ_R, xI_L, xS_L, xF_L, xJ_L, xcat_s, le46, ge16, or_true, true_or, false_or, or_false, eq_self, Option.toList_some, Option.toList_none, List.cons_append, List.nil_append, true_and, and_true, not_false_eq_true, not_true_eq_false, if_true, if_false, hh, hh2]
  refine c_likesNow h (by omega) (by omega) ?_
  intro M1 k1
  simp (disch := omega) only [lAdd, addL, lMul, mulL, nMul, nI_add, subL, lSub, nSub, nDec, nCl, lCl, nVp, lVp, nLe, nLt, nEq, lLe, leL, lLt, ltL, eqL, lEq, nM1, nM2, litLt0, one01, zero01, oneNe0, xupE, xupA, xupK, xI_I, xS_I, xF_I, xJ_I, xI_R, xS_R, xF_R, xJ_R, xI_L, xS_L, xF_L, xJ_L, xcat_s, le46, ge16, or_true, true_or, false_or, or_false, eq_self, Option.toList_some, Option.toList_none, List.cons_append, List.nil_append, true_and, and_true, not_false_eq_true, not_true_eq_false, if_true, if_false, B_236_28, k1.1.d, k1.1.tx.f, k1.1.tx.n, k1.1.tx.r, k1.1.of.f, k1.1.of.v]
  refine c_likesNow k1 (by omega) (by omega) ?_
  intro M2 k2
  simp (disch := omega) only [lAdd, addL, lMul, mulL, nMul, nI_add, subL, lSub, nSub, nDec, nCl, lCl, nVp, lVp, nLe, nLt, nEq, lLe, leL, lLt, ltL, eqL, lEq, nM1, nM2, litLt0, one01, zero01, oneNe0, xupE, xupA, xupK, xI_I, xS_I, xF_I, xJ_I, xI_R, xS_R, xF_R, xJ_R, xI_L, xS_L, xF_L, xJ_L, xcat_s, le46, ge16, or_true, true_or, false_or, or_false, eq_self, Option.toList_some, Option.toList_none, List.cons_append, List.nil_append, true_and, and_true, not_false_eq_true, not_true_eq_false, if_true, if_false, B_236_34, k2.1.d, k2.1.tx.f, k2.1.tx.n, k2.1.tx.r, k2.1.of.f, k2.1.of.v]
  refine c_likesNow k2 (by omega) (by omega) ?_
  intro M3 k3
  simp (disch := omega) only [lAdd, addL, lMul, mulL, nMul, nI_add, subL, lSub, nSub, nDec, nCl, lCl, nVp, lVp, nLe, nLt, nEq, lLe, leL, lLt, ltL, eqL, lEq, nM1, nM2, litLt0, one01, zero01, oneNe0, xupE, xupA, xupK, xI_I, xS_I, xF_I, xJ_I, xI_R, xS_R, xF_R, xJ_R, xI_L, xS_L, xF_L, xJ_L, xcat_s, le46, ge16, or_true, true_or, false_or, or_false, eq_self, Option.toList_some, Option.toList_none, List.cons_append, List.nil_append, true_and, and_true, not_false_eq_true, not_true_eq_false, if_true, if_false, B_236_41, k3.1.d, k3.1.tx.f, k3.1.tx.n, k3.1.tx.r, k3.1.of.f, k3.1.of.v]
  refine c_likesNow k3 (by omega) (by omega) ?_
  intro M4 k4
  simp (disch := omega) only [lAdd, addL, lMul, mulL, nMul, nI_add, subL, lSub, nSub, nDec, nCl, lCl, nVp, lVp, nLe, nLt, nEq, lLe, leL, lLt, ltL, eqL, lEq, nM1, nM2, litLt0, one01, zero01, oneNe0, xupE, xupA, xupK, xI_I, xS_I, xF_I, xJ_I, xI_R, xS_R, xF_R, xJ_R, xI_L, xS_L, xF_L, xJ_L, xcat_s, le46, ge16, or_true, true_or, false_or, or_false, eq_self, Option.toList_some, Option.toList_none, List.cons_append, List.nil_append, true_and, and_true, not_false_eq_true, not_true_eq_false, if_true, if_false, B_236_49]
  exact hQ M4 k4
theorem r_moreBy {M0 M : XM} {lv l o : Nat} {S : XS} {F : XO} {sd st : Int32} {Q : Option Value → XM → Prop} (h : RQ M0 lv S F sd st M) (hl : l < tN (zT S)) (ho : o < tN (zT S)) (wl : oW F l = 2) (wo : oW F o = 2)
    (hQ : ∀ M' : XM, RQ M0 lv S F sd st M' → Q (some (.int (gainF (zT S) F l o))) M') :
    RG xprog 239 0 [some (.ref 439), some (.int (nI l)), some (.int (nI o)), none, none] [] M Q := by
  have n7 := h.2.1.n7
  have r6 := h.2.1.r6
  obtain ⟨a, ha, hh, _⟩ := h.2.1.i.w2 (show l < 7 by omega) wl
  obtain ⟨b, hb, hh2, _⟩ := h.2.1.i.w2 (show o < 7 by omega) wo
  unfold gainF at hQ
  rw [hh, hh2, cN_n (by omega), cN_n (by omega)] at hQ
  rw [B_239_0]
  simp (disch := omega) only [h.2.1.s.s, h.2.1.s.f, h.2.1.v, h.2.1.n, h.2.1.r, lAdd, addL, lMul, mulL, nMul, nI_add, subL, lSub, nSub, nDec, nCl, lCl, nVp, lVp, nLe, nLt, nEq, lLe, leL, lLt, ltL, eqL, lEq, nM1, nM2, litLt0, one01, zero01, oneNe0, xupE, xupA, xupK, xI_I, xS_I, xF_I, xJ_I, xI_R, xS_R, xF_R, xJ_R, xI_L, xS_L, xF_L, xJ_L, xcat_s, le46, ge16, or_true, true_or, false_or, or_false, eq_self, Option.toList_some, Option.toList_none, List.cons_append, List.nil_append, true_and, and_true, not_false_eq_true, not_true_eq_false, if_true, if_false, h.2.1.l (show l < 7 by omega), h.2.1.l (show o < 7 by omega), hh, hh2]
  refine q_likesOf h hl hb ?_
  intro M1 k1
  simp (disch := omega) only [lAdd, addL, lMul, mulL, nMul, nI_add, subL, lSub, nSub, nDec, nCl, lCl, nVp, lVp, nLe, nLt, nEq, lLe, leL, lLt, ltL, eqL, lEq, nM1, nM2, litLt0, one01, zero01, oneNe0, xupE, xupA, xupK, xI_I, xS_I, xF_I, xJ_I, xI_R, xS_R, xF_R, xJ_R, xI_L, xS_L, xF_L, xJ_L, xcat_s, le46, ge16, or_true, true_or, false_or, or_false, eq_self, Option.toList_some, Option.toList_none, List.cons_append, List.nil_append, true_and, and_true, not_false_eq_true, not_true_eq_false, if_true, if_false, B_239_28, k1.2.1.s.s, k1.2.1.s.f, k1.2.1.v, k1.2.1.n, k1.2.1.r]
  refine q_likesOf k1 ho ha ?_
  intro M2 k2
  simp (disch := omega) only [lAdd, addL, lMul, mulL, nMul, nI_add, subL, lSub, nSub, nDec, nCl, lCl, nVp, lVp, nLe, nLt, nEq, lLe, leL, lLt, ltL, eqL, lEq, nM1, nM2, litLt0, one01, zero01, oneNe0, xupE, xupA, xupK, xI_I, xS_I, xF_I, xJ_I, xI_R, xS_R, xF_R, xJ_R, xI_L, xS_L, xF_L, xJ_L, xcat_s, le46, ge16, or_true, true_or, false_or, or_false, eq_self, Option.toList_some, Option.toList_none, List.cons_append, List.nil_append, true_and, and_true, not_false_eq_true, not_true_eq_false, if_true, if_false, B_239_34, k2.2.1.s.s, k2.2.1.s.f, k2.2.1.v, k2.2.1.n, k2.2.1.r]
  refine q_likesOf k2 hl ha ?_
  intro M3 k3
  simp (disch := omega) only [lAdd, addL, lMul, mulL, nMul, nI_add, subL, lSub, nSub, nDec, nCl, lCl, nVp, lVp, nLe, nLt, nEq, lLe, leL, lLt, ltL, eqL, lEq, nM1, nM2, litLt0, one01, zero01, oneNe0, xupE, xupA, xupK, xI_I, xS_I, xF_I, xJ_I, xI_R, xS_R, xF_R, xJ_R, xI_L, xS_L, xF_L, xJ_L, xcat_s, le46, ge16, or_true, true_or, false_or, or_false, eq_self, Option.toList_some, Option.toList_none, List.cons_append, List.nil_append, true_and, and_true, not_false_eq_true, not_true_eq_false, if_true, if_false, B_239_41, k3.2.1.s.s, k3.2.1.s.f, k3.2.1.v, k3.2.1.n, k3.2.1.r]
  refine q_likesOf k3 ho hb ?_
  intro M4 k4
  simp (disch := omega) only [lAdd, addL, lMul, mulL, nMul, nI_add, subL, lSub, nSub, nDec, nCl, lCl, nVp, lVp, nLe, nLt, nEq, lLe, leL, lLt, ltL, eqL, lEq, nM1, nM2, litLt0, one01, zero01, oneNe0, xupE, xupA, xupK, xI_I, xS_I, xF_I, xJ_I, xI_R, xS_R, xF_R, xJ_R, xI_L, xS_L, xF_L, xJ_L, xcat_s, le46, ge16, or_true, true_or, false_or, or_false, eq_self, Option.toList_some, Option.toList_none, List.cons_append, List.nil_append, true_and, and_true, not_false_eq_true, not_true_eq_false, if_true, if_false, B_239_49]
  exact hQ M4 k4
def A_change (S : XS) (x y : Int32) : Int32 := if ¬ x = y ∧ isAt S 2 x ∧ isAt S 2 y then gainF (zT S) (zF S) (cN x) (cN y) else -100000
theorem c_change {M0 M : XM} {t B : Nat} {S : XS} {x y : Int32} {Q : Option Value → XM → Prop} (h : CK M0 t S M) (hi : SInv B S)
    (hQ : ∀ M' : XM, CK M0 t S M' → Q (some (.int (A_change S x y))) M') :
    RG xprog 237 0 [some (.ref 16), some (.int x), some (.int y)] [] M Q := by
  have n7 := h.1.tx.n7
  unfold A_change at hQ
  rw [B_237_0]
  simp (disch := omega) only [h.1.d, c_isWith h.1, B_237_10, B_237_18, B_237_21, lAdd, addL, lMul, mulL, nMul, nI_add, subL, lSub, nSub, nDec, nCl, lCl, nVp, lVp, nLe, nLt, nEq, lLe, leL, lLt, ltL, eqL, lEq, nM1, nM2, litLt0, one01, zero01, oneNe0, xupE, xupA, xupK, xI_I, xS_I, xF_I, xJ_I, xI_R, xS_R, xF_R, xJ_R, xI_L, xS_L, xF_L, xJ_L, xcat_s, le46, ge16, or_true, true_or, false_or, or_false, eq_self, Option.toList_some, Option.toList_none, List.cons_append, List.nil_append, true_and, and_true, not_false_eq_true, not_true_eq_false, if_true, if_false]
  by_cases hxy : x = y
  · rw [if_pos hxy]
    rw [if_neg (fun q => q.1 hxy)] at hQ
    exact hQ M h
  rw [if_neg hxy]
  by_cases hx : isAt S 2 x
  · rw [if_pos hx, if_neg (by decide)]
    by_cases hy : isAt S 2 y
    · rw [if_pos hy, if_pos (by decide)]
      rw [if_pos ⟨hxy, hx, hy⟩] at hQ
      obtain ⟨l, hl, rfl⟩ := isLb_get hx.1 (by omega)
      obtain ⟨o, ho, rfl⟩ := isLb_get hy.1 (by omega)
      have wl := hx.2
      have wo := hy.2
      rw [cN_n (by omega)] at wl wo hQ
      rw [cN_n (by omega)] at hQ
      refine c_gain h hi hl ho wl wo ?_
      intro M1 k1
      simp (disch := omega) only [lAdd, addL, lMul, mulL, nMul, nI_add, subL, lSub, nSub, nDec, nCl, lCl, nVp, lVp, nLe, nLt, nEq, lLe, leL, lLt, ltL, eqL, lEq, nM1, nM2, litLt0, one01, zero01, oneNe0, xupE, xupA, xupK, xI_I, xS_I, xF_I, xJ_I, xI_R, xS_R, xF_R, xJ_R, xI_L, xS_L, xF_L, xJ_L, xcat_s, le46, ge16, or_true, true_or, false_or, or_false, eq_self, Option.toList_some, Option.toList_none, List.cons_append, List.nil_append, true_and, and_true, not_false_eq_true, not_true_eq_false, if_true, if_false, B_237_30]
      exact hQ M1 k1
    · rw [if_neg hy, if_neg (by decide)]
      rw [if_neg (fun q => hy q.2.2)] at hQ
      exact hQ M h
  · rw [if_neg hx, if_pos rfl]
    rw [if_neg (fun q => hx q.2.1)] at hQ
    exact hQ M h
theorem r_change {M0 M : XM} {lv B : Nat} {S : XS} {x y : Int32} {Q : Option Value → XM → Prop} (h : RK M0 lv S M) (hi : SInv B S) (hB : B ≤ 99999)
    (hQ : ∀ M' : XM, RK M0 lv S M' → Q (some (.int (A_change S x y))) M') :
    RG xprog 240 0 [some (.ref 439), some (.int x), some (.int y)] [] M Q := by
  have n7 := h.1.1.n7
  unfold A_change at hQ
  rw [B_240_0]
  simp (disch := omega) only [h.1.1.1.s, r_isRead h.1, B_240_5, B_240_13, B_240_21, lAdd, addL, lMul, mulL, nMul, nI_add, subL, lSub, nSub, nDec, nCl, lCl, nVp, lVp, nLe, nLt, nEq, lLe, leL, lLt, ltL, eqL, lEq, nM1, nM2, litLt0, one01, zero01, oneNe0, xupE, xupA, xupK, xI_I, xS_I, xF_I, xJ_I, xI_R, xS_R, xF_R, xJ_R, xI_L, xS_L, xF_L, xJ_L, xcat_s, le46, ge16, or_true, true_or, false_or, or_false, eq_self, Option.toList_some, Option.toList_none, List.cons_append, List.nil_append, true_and, and_true, not_false_eq_true, not_true_eq_false, if_true, if_false]
  by_cases hx : isAt S 2 x
  · rw [if_pos hx, if_neg (by decide)]
    by_cases hy : isAt S 2 y
    · rw [if_pos hy, if_neg (by decide)]
      by_cases hxy : x = y
      · rw [if_neg (fun q => q hxy)]
        rw [if_neg (fun q => q.1 hxy)] at hQ
        exact hQ M h
      rw [if_pos hxy]
      rw [if_pos ⟨hxy, hx, hy⟩] at hQ
      obtain ⟨l, hl, rfl⟩ := isLb_get hx.1 (by omega)
      obtain ⟨o, ho, rfl⟩ := isLb_get hy.1 (by omega)
      have wl := hx.2
      have wo := hy.2
      rw [cN_n (by omega)] at wl wo hQ
      rw [cN_n (by omega)] at hQ
      refine r_copies h hi hB ?_
      intro M1 h1
      simp (disch := omega) only [lAdd, addL, lMul, mulL, nMul, nI_add, subL, lSub, nSub, nDec, nCl, lCl, nVp, lVp, nLe, nLt, nEq, lLe, leL, lLt, ltL, eqL, lEq, nM1, nM2, litLt0, one01, zero01, oneNe0, xupE, xupA, xupK, xI_I, xS_I, xF_I, xJ_I, xI_R, xS_R, xF_R, xJ_R, xI_L, xS_L, xF_L, xJ_L, xcat_s, le46, ge16, or_true, true_or, false_or, or_false, eq_self, Option.toList_some, Option.toList_none, List.cons_append, List.nil_append, true_and, and_true, not_false_eq_true, not_true_eq_false, if_true, if_false, B_240_29, h1.2.1.s.s, h1.2.1.s.f, h1.2.1.v, h1.2.1.n, h1.2.1.r]
      refine r_moreBy h1 hl ho wl wo ?_
      intro M2 k1
      simp (disch := omega) only [lAdd, addL, lMul, mulL, nMul, nI_add, subL, lSub, nSub, nDec, nCl, lCl, nVp, lVp, nLe, nLt, nEq, lLe, leL, lLt, ltL, eqL, lEq, nM1, nM2, litLt0, one01, zero01, oneNe0, xupE, xupA, xupK, xI_I, xS_I, xF_I, xJ_I, xI_R, xS_R, xF_R, xJ_R, xI_L, xS_L, xF_L, xJ_L, xcat_s, le46, ge16, or_true, true_or, false_or, or_false, eq_self, Option.toList_some, Option.toList_none, List.cons_append, List.nil_append, true_and, and_true, not_false_eq_true, not_true_eq_false, if_true, if_false, B_240_35]
      exact hQ M2 k1.1
    · rw [if_neg hy, if_pos rfl]
      rw [if_neg (fun q => hy q.2.2)] at hQ
      exact hQ M h
  · rw [if_neg hx, if_pos rfl]
    rw [if_neg (fun q => hx q.2.1)] at hQ
    exact hQ M h
def chg1 (T : XT) (F : XO) (l o : Nat) (s : Int32 × Int32) : Int32 × Int32 := if l < o ∧ oW F l = 2 ∧ oW F o = 2 ∧ ¬ gainF T F l o ≤ s.2 then (nI (10 * l + o), gainF T F l o) else s
def chgF (T : XT) (F : XO) : Int32 × Int32 := iter (fun l s => iter (chg1 T F l) (tN T) s) (tN T) (-2, 0)
theorem chg_low (T : XT) (F : XO) (l : Nat) (s : Int32 × Int32) : ∀ i, i ≤ l + 1 → iter (chg1 T F l) i s = s
  | 0, _ => rfl
  | i + 1, h => by
    rw [iter_s, chg_low T F l s i (by omega)]
    unfold chg1
    rw [if_neg (fun q => absurd q.1 (by omega))]
def A_changeBest (S : XS) (w : Int32) : Int32 := if is01 w then (if w = 0 then (chgF (zT S) (zF S)).1 else if ¬ (chgF (zT S) (zF S)).1 = -2 then (chgF (zT S) (zF S)).2 else (chgF (zT S) (zF S)).1) else -1
theorem isAt_nI {S : XS} {l : Nat} {p : Int32} (hl : l < tN (zT S)) (n7 : tN (zT S) ≤ 7) : isAt S p (nI l) = (oW (zF S) l = p) := by
  unfold isAt
  rw [cN_n (by omega)]
  exact propext ⟨fun q => q.2, fun q => ⟨isLb_nI hl (by omega), q⟩⟩
theorem c_changeBest {M0 M : XM} {t B : Nat} {S : XS} {w : Int32} {Q : Option Value → XM → Prop} (h : CK M0 t S M) (hi : SInv B S)
    (hQ : ∀ M' : XM, CK M0 t S M' → Q (some (.int (A_changeBest S w))) M') :
    RG xprog 241 0 [some (.ref 16), some (.int w), none, none, none, none, none] [] M Q := by
  have n7 := h.1.tx.n7
  unfold A_changeBest at hQ
  have go : is01 w → RG xprog 241 11 [some (.ref 16), some (.int w), none, none, none, none, none] [] M Q := by
    intro hw
    rw [if_pos hw] at hQ
    rw [B_241_11]
    refine x_for (tN (zT S)) (fun i (s : XM × Int32 × Int32 × Option Value × Option Value) => CK M0 t S s.1 ∧ (s.2.1, s.2.2.1) = iter (fun l s => iter (chg1 (zT S) (zF S) l) (tN (zT S)) s) i (-2, 0)) (fun i s => RG xprog 241 19 [some (.ref 16), some (.int w), some (.int s.2.1), some (.int s.2.2.1), some (.int (nI i)), s.2.2.2.1, s.2.2.2.2] [] s.1 Q) ?_ ?_ 0 (M, -2, 0, none, none) (by omega) ⟨h, rfl⟩
    · rintro ⟨M1, x, y, z, z2⟩ ⟨k1, e1⟩
      dsimp only at k1 e1 ⊢
      have q := hQ M1 k1
      unfold chgF at q
      rw [← e1] at q
      rw [B_241_19]
      simp (disch := omega) only [k1.1.d, k1.1.tx.f, k1.1.tx.n, k1.1.tx.r, k1.1.of.f, k1.1.of.v, lAdd, addL, lMul, mulL, nMul, nI_add, subL, lSub, nSub, nDec, nCl, lCl, nVp, lVp, nLe, nLt, nEq, lLe, leL, lLt, ltL, eqL, lEq, nM1, nM2, litLt0, one01, zero01, oneNe0, xupE, xupA, xupK, xI_I, xS_I, xF_I, xJ_I, xI_R, xS_R, xF_R, xJ_R, xI_L, xS_L, xF_L, xJ_L, xcat_s, le46, ge16, or_true, true_or, false_or, or_false, eq_self, Option.toList_some, Option.toList_none, List.cons_append, List.nil_append, true_and, and_true, not_false_eq_true, not_true_eq_false, if_true, if_false, Nat.le_refl, ite_i]
      exact q
    · rintro l ⟨M1, x, y, z, z2⟩ hl ⟨k1, e1⟩ ih
      dsimp only at k1 e1 ⊢
      rw [iter_s, ← e1] at ih
      rw [B_241_19]
      simp (disch := omega) only [k1.1.d, k1.1.tx.f, k1.1.tx.n, k1.1.tx.r, k1.1.of.f, k1.1.of.v, lAdd, addL, lMul, mulL, nMul, nI_add, subL, lSub, nSub, nDec, nCl, lCl, nVp, lVp, nLe, nLt, nEq, lLe, leL, lLt, ltL, eqL, lEq, nM1, nM2, litLt0, one01, zero01, oneNe0, xupE, xupA, xupK, xI_I, xS_I, xF_I, xJ_I, xI_R, xS_R, xF_R, xJ_R, xI_L, xS_L, xF_L, xJ_L, xcat_s, le46, ge16, or_true, true_or, false_or, or_false, eq_self, Option.toList_some, Option.toList_none, List.cons_append, List.nil_append, true_and, and_true, not_false_eq_true, not_true_eq_false, if_true, if_false, if_neg]
      refine x_for (tN (zT S)) (fun i (s : XM × Int32 × Int32 × Option Value) => l < i ∧ CK M0 t S s.1 ∧ (s.2.1, s.2.2.1) = iter (chg1 (zT S) (zF S) l) i (x, y)) (fun i s => RG xprog 241 37 [some (.ref 16), some (.int w), some (.int s.2.1), some (.int s.2.2.1), some (.int (nI l)), some (.int (nI i)), s.2.2.2] [] s.1 Q) ?_ ?_ (l + 1) (M1, x, y, z2) (by omega) ⟨by omega, k1, by rw [chg_low _ _ _ _ _ (by omega)]⟩
      · rintro ⟨M2, x2, y2, z3⟩ ⟨_, k2, e2⟩
        dsimp only at k2 e2 ⊢
        rw [B_241_37]
        simp (disch := omega) only [k2.1.d, k2.1.tx.f, k2.1.tx.n, k2.1.tx.r, k2.1.of.f, k2.1.of.v, lAdd, addL, lMul, mulL, nMul, nI_add, subL, lSub, nSub, nDec, nCl, lCl, nVp, lVp, nLe, nLt, nEq, lLe, leL, lLt, ltL, eqL, lEq, nM1, nM2, litLt0, one01, zero01, oneNe0, xupE, xupA, xupK, xI_I, xS_I, xF_I, xJ_I, xI_R, xS_R, xF_R, xJ_R, xI_L, xS_L, xF_L, xJ_L, xcat_s, le46, ge16, or_true, true_or, false_or, or_false, eq_self, Option.toList_some, Option.toList_none, List.cons_append, List.nil_append, true_and, and_true, not_false_eq_true, not_true_eq_false, if_true, if_false, Nat.le_refl]
        exact ih (M2, x2, y2, _, _) ⟨k2, e2⟩
      · rintro o ⟨M2, x2, y2, z3⟩ ho ⟨hlo, k2, e2⟩ ih2
        dsimp only at k2 e2 ⊢
        rw [iter_s, ← e2, chg1] at ih2
        rw [B_241_37]
        simp (disch := omega) only [k2.1.d, k2.1.tx.f, k2.1.tx.n, k2.1.tx.r, k2.1.of.f, k2.1.of.v, lAdd, addL, lMul, mulL, nMul, nI_add, subL, lSub, nSub, nDec, nCl, lCl, nVp, lVp, nLe, nLt, nEq, lLe, leL, lLt, ltL, eqL, lEq, nM1, nM2, litLt0, one01, zero01, oneNe0, xupE, xupA, xupK, xI_I, xS_I, xF_I, xJ_I, xI_R, xS_R, xF_R, xJ_R, xI_L, xS_L, xF_L, xJ_L, xcat_s, le46, ge16, or_true, true_or, false_or, or_false, eq_self, Option.toList_some, Option.toList_none, List.cons_append, List.nil_append, true_and, and_true, not_false_eq_true, not_true_eq_false, if_true, if_false, if_neg, c_isWith k2.1, B_241_55, B_241_64, isAt_nI hl n7, isAt_nI ho n7]
        · by_cases wl : oW (zF S) l = 2
          · rw [if_pos wl, if_neg (by decide)]
            by_cases wo : oW (zF S) o = 2
            · rw [if_pos wo, if_neg (by decide)]
              refine c_gain k2 hi hl ho wl wo ?_
              intro M3 k3
              simp (disch := omega) only [lAdd, addL, lMul, mulL, nMul, nI_add, subL, lSub, nSub, nDec, nCl, lCl, nVp, lVp, nLe, nLt, nEq, lLe, leL, lLt, ltL, eqL, lEq, nM1, nM2, litLt0, one01, zero01, oneNe0, xupE, xupA, xupK, xI_I, xS_I, xF_I, xJ_I, xI_R, xS_R, xF_R, xJ_R, xI_L, xS_L, xF_L, xJ_L, xcat_s, le46, ge16, or_true, true_or, false_or, or_false, eq_self, Option.toList_some, Option.toList_none, List.cons_append, List.nil_append, true_and, and_true, not_false_eq_true, not_true_eq_false, if_true, if_false, B_241_75]
              by_cases hc : gainF (zT S) (zF S) l o ≤ y2
              · rw [if_pos hc]
                rw [if_neg (fun q => q.2.2.2 hc)] at ih2
                exact ih2 (M3, x2, y2, _) ⟨by omega, k3, rfl⟩
              · rw [if_neg hc]
                rw [if_pos ⟨hlo, wl, wo, hc⟩] at ih2
                exact ih2 (M3, _, _, _) ⟨by omega, k3, rfl⟩
            · rw [if_neg wo, if_pos rfl]
              rw [if_neg (fun q => wo q.2.2.1)] at ih2
              exact ih2 (M2, x2, y2, _) ⟨by omega, k2, rfl⟩
          · rw [if_neg wl, if_pos rfl]
            rw [if_neg (fun q => wl q.2.1)] at ih2
            exact ih2 (M2, x2, y2, _) ⟨by omega, k2, rfl⟩
  rw [B_241_0]
  by_cases w0 : w = 0
  · rw [if_pos w0]; exact go (Or.inl w0)
  rw [if_neg w0]
  by_cases w1 : w = 1
  · rw [if_pos w1]; exact go (Or.inr w1)
  rw [if_neg w1]
  rw [if_neg (fun q => q.elim w0 w1)] at hQ
  exact hQ M h
theorem chg_or (T : XT) (F : XO) : ∀ s : Int32 × Int32, (s.1 = -2 ∨ ∃ j, j < 100 ∧ s.1 = nI j) → ∀ l, l < 7 → ∀ n, n ≤ 7 → ((iter (chg1 T F l) n s).1 = -2 ∨ ∃ j, j < 100 ∧ (iter (chg1 T F l) n s).1 = nI j) := by
  intro s hs l hl n hn
  refine iter_inv (fun _ (s : Int32 × Int32) => s.1 = -2 ∨ ∃ j, j < 100 ∧ s.1 = nI j) (chg1 T F l) s n hs ?_
  intro i s hi h
  unfold chg1
  split
  · exact Or.inr ⟨10 * l + i, by omega, rfl⟩
  · exact h
theorem r_changeBest {M0 M : XM} {lv B : Nat} {S : XS} {w : Int32} {Q : Option Value → XM → Prop} (h : RK M0 lv S M) (hi : SInv B S) (hB : B ≤ 99999)
    (hQ : ∀ M' : XM, RK M0 lv S M' → Q (some (.int (A_changeBest S w))) M') :
    RG xprog 242 0 [some (.ref 439), some (.int w), none, none, none, none] [] M Q := by
  have n7 := h.1.1.n7
  have l2 := h.1.1.lv2
  unfold A_changeBest at hQ
  rw [B_242_0]
  simp (disch := omega) only [h.1.1.1.s, r_in, B_242_6, lAdd, addL, lMul, mulL, nMul, nI_add, subL, lSub, nSub, nDec, nCl, lCl, nVp, lVp, nLe, nLt, nEq, lLe, leL, lLt, ltL, eqL, lEq, nM1, nM2, litLt0, one01, zero01, oneNe0, xupE, xupA, xupK, xI_I, xS_I, xF_I, xJ_I, xI_R, xS_R, xF_R, xJ_R, xI_L, xS_L, xF_L, xJ_L, xcat_s, le46, ge16, or_true, true_or, false_or, or_false, eq_self, Option.toList_some, Option.toList_none, List.cons_append, List.nil_append, true_and, and_true, not_false_eq_true, not_true_eq_false, if_true, if_false]
  by_cases hw : is01 w
  · rw [if_pos ((in01 w).mpr hw), if_pos (by decide)]
    rw [if_pos hw] at hQ
    refine r_copies h hi hB ?_
    intro M1 h1
    simp (disch := omega) only [lAdd, addL, lMul, mulL, nMul, nI_add, subL, lSub, nSub, nDec, nCl, lCl, nVp, lVp, nLe, nLt, nEq, lLe, leL, lLt, ltL, eqL, lEq, nM1, nM2, litLt0, one01, zero01, oneNe0, xupE, xupA, xupK, xI_I, xS_I, xF_I, xJ_I, xI_R, xS_R, xF_R, xJ_R, xI_L, xS_L, xF_L, xJ_L, xcat_s, le46, ge16, or_true, true_or, false_or, or_false, eq_self, Option.toList_some, Option.toList_none, List.cons_append, List.nil_append, true_and, and_true, not_false_eq_true, not_true_eq_false, if_true, if_false, B_242_15]
    refine x_for (tN (zT S)) (fun i (s : XM × Int32 × Int32 × Option Value) => RQ M0 lv S (zF S) (tS (zT S) 2) 0 s.1 ∧ (s.2.1, s.2.2.1) = iter (fun l s => iter (chg1 (zT S) (zF S) l) (tN (zT S)) s) i (-2, 0) ∧ (s.2.1 = -2 ∨ ∃ j, j < 100 ∧ s.2.1 = nI j)) (fun i s => RG xprog 242 23 [some (.ref 439), some (.int w), some (.int s.2.1), some (.int s.2.2.1), some (.int (nI i)), s.2.2.2] [] s.1 Q) ?_ ?_ 0 (M1, -2, 0, none) (by omega) ⟨h1, rfl, Or.inl rfl⟩
    · rintro ⟨M1, x, y, z⟩ ⟨k1, e1, o1⟩
      dsimp only at k1 e1 o1 ⊢
      have q := hQ M1 k1.1
      unfold chgF at q
      rw [← e1] at q
      rw [B_242_23]
      simp (disch := omega) only [k1.2.1.s.s, k1.2.1.s.f, k1.2.1.v, k1.2.1.n, k1.2.1.r, lAdd, addL, lMul, mulL, nMul, nI_add, subL, lSub, nSub, nDec, nCl, lCl, nVp, lVp, nLe, nLt, nEq, lLe, leL, lLt, ltL, eqL, lEq, nM1, nM2, litLt0, one01, zero01, oneNe0, xupE, xupA, xupK, xI_I, xS_I, xF_I, xJ_I, xI_R, xS_R, xF_R, xJ_R, xI_L, xS_L, xF_L, xJ_L, xcat_s, le46, ge16, or_true, true_or, false_or, or_false, eq_self, Option.toList_some, Option.toList_none, List.cons_append, List.nil_append, true_and, and_true, not_false_eq_true, not_true_eq_false, if_true, if_false, Nat.le_refl, ite_i]
      rcases o1 with rfl | ⟨j, hj, rfl⟩
      · rw [if_pos (by decide)]
        dsimp only at q
        rw [if_neg (c := ¬ (-2 : Int32) = -2) (fun z => z rfl), ite_self] at q
        exact q
      · rw [if_neg (by rw [ltL (by omega) (by omega)]; omega)]
        dsimp only at q
        rw [if_pos (c := ¬ nI j = -2) (by rw [nM2 (by omega)]; exact fun z => z)] at q
        by_cases w0 : w = 0
        · rw [if_neg (fun z => z w0)]
          rw [if_pos w0] at q
          exact q
        · rw [if_pos w0]
          rw [if_neg w0] at q
          exact q
    · rintro l ⟨M1, x, y, z⟩ hl ⟨k1, e1, o1⟩ ih
      dsimp only at k1 e1 o1 ⊢
      rw [iter_s, ← e1] at ih
      have o2 := chg_or (zT S) (zF S) (x, y) o1 l (by omega) (tN (zT S)) n7
      rw [B_242_23]
      simp (disch := omega) only [k1.2.1.s.s, k1.2.1.s.f, k1.2.1.v, k1.2.1.n, k1.2.1.r, lAdd, addL, lMul, mulL, nMul, nI_add, subL, lSub, nSub, nDec, nCl, lCl, nVp, lVp, nLe, nLt, nEq, lLe, leL, lLt, ltL, eqL, lEq, nM1, nM2, litLt0, one01, zero01, oneNe0, xupE, xupA, xupK, xI_I, xS_I, xF_I, xJ_I, xI_R, xS_R, xF_R, xJ_R, xI_L, xS_L, xF_L, xJ_L, xcat_s, le46, ge16, or_true, true_or, false_or, or_false, eq_self, Option.toList_some, Option.toList_none, List.cons_append, List.nil_append, true_and, and_true, not_false_eq_true, not_true_eq_false, if_true, if_false, if_neg]
      refine x_for (tN (zT S)) (fun i (s : XM × Int32 × Int32) => l < i ∧ RQ M0 lv S (zF S) (tS (zT S) 2) 0 s.1 ∧ (s.2.1, s.2.2) = iter (chg1 (zT S) (zF S) l) i (x, y)) (fun i s => RG xprog 242 43 [some (.ref 439), some (.int w), some (.int s.2.1), some (.int s.2.2), some (.int (nI l)), some (.int (nI i))] [] s.1 Q) ?_ ?_ (l + 1) (M1, x, y) (by omega) ⟨by omega, k1, by rw [chg_low _ _ _ _ _ (by omega)]⟩
      · rintro ⟨M2, x2, y2⟩ ⟨_, k2, e2⟩
        dsimp only at k2 e2 ⊢
        rw [B_242_43]
        simp (disch := omega) only [k2.2.1.s.s, k2.2.1.s.f, k2.2.1.v, k2.2.1.n, k2.2.1.r, lAdd, addL, lMul, mulL, nMul, nI_add, subL, lSub, nSub, nDec, nCl, lCl, nVp, lVp, nLe, nLt, nEq, lLe, leL, lLt, ltL, eqL, lEq, nM1, nM2, litLt0, one01, zero01, oneNe0, xupE, xupA, xupK, xI_I, xS_I, xF_I, xJ_I, xI_R, xS_R, xF_R, xJ_R, xI_L, xS_L, xF_L, xJ_L, xcat_s, le46, ge16, or_true, true_or, false_or, or_false, eq_self, Option.toList_some, Option.toList_none, List.cons_append, List.nil_append, true_and, and_true, not_false_eq_true, not_true_eq_false, if_true, if_false, Nat.le_refl]
        rw [← e2] at o2
        exact ih (M2, x2, y2, _) ⟨k2, e2, o2⟩
      · rintro o ⟨M2, x2, y2⟩ ho ⟨hlo, k2, e2⟩ ih2
        dsimp only at k2 e2 ⊢
        rw [iter_s, ← e2, chg1] at ih2
        rw [B_242_43]
        simp (disch := omega) only [k2.2.1.s.s, k2.2.1.s.f, k2.2.1.v, k2.2.1.n, k2.2.1.r, lAdd, addL, lMul, mulL, nMul, nI_add, subL, lSub, nSub, nDec, nCl, lCl, nVp, lVp, nLe, nLt, nEq, lLe, leL, lLt, ltL, eqL, lEq, nM1, nM2, litLt0, one01, zero01, oneNe0, xupE, xupA, xupK, xI_I, xS_I, xF_I, xJ_I, xI_R, xS_R, xF_R, xJ_R, xI_L, xS_L, xF_L, xJ_L, xcat_s, le46, ge16, or_true, true_or, false_or, or_false, eq_self, Option.toList_some, Option.toList_none, List.cons_append, List.nil_append, true_and, and_true, not_false_eq_true, not_true_eq_false, if_true, if_false, if_neg, r_isRead k2.1.1, B_242_63, B_242_72, isAt_nI hl n7, isAt_nI ho n7]
        by_cases wl : oW (zF S) l = 2
        · rw [if_pos wl, if_neg (by decide)]
          by_cases wo : oW (zF S) o = 2
          · rw [if_pos wo, if_neg (by decide)]
            refine r_moreBy k2 hl ho wl wo ?_
            intro M3 k3
            simp (disch := omega) only [lAdd, addL, lMul, mulL, nMul, nI_add, subL, lSub, nSub, nDec, nCl, lCl, nVp, lVp, nLe, nLt, nEq, lLe, leL, lLt, ltL, eqL, lEq, nM1, nM2, litLt0, one01, zero01, oneNe0, xupE, xupA, xupK, xI_I, xS_I, xF_I, xJ_I, xI_R, xS_R, xF_R, xJ_R, xI_L, xS_L, xF_L, xJ_L, xcat_s, le46, ge16, or_true, true_or, false_or, or_false, eq_self, Option.toList_some, Option.toList_none, List.cons_append, List.nil_append, true_and, and_true, not_false_eq_true, not_true_eq_false, if_true, if_false, B_242_83, k3.2.1.s.s, k3.2.1.s.f, k3.2.1.v, k3.2.1.n, k3.2.1.r]
            by_cases hc : gainF (zT S) (zF S) l o ≤ y2
            · rw [if_neg (by rw [← le_nlt]; exact hc)]
              rw [if_neg (fun q => q.2.2.2 hc)] at ih2
              exact ih2 (M3, x2, y2) ⟨by omega, k3, rfl⟩
            · rw [if_pos (Classical.not_not.mp (by rw [← le_nlt]; exact hc))]
              rw [if_pos ⟨hlo, wl, wo, hc⟩] at ih2
              refine r_moreBy k3 hl ho wl wo ?_
              intro M4 k4
              simp (disch := omega) only [lAdd, addL, lMul, mulL, nMul, nI_add, subL, lSub, nSub, nDec, nCl, lCl, nVp, lVp, nLe, nLt, nEq, lLe, leL, lLt, ltL, eqL, lEq, nM1, nM2, litLt0, one01, zero01, oneNe0, xupE, xupA, xupK, xI_I, xS_I, xF_I, xJ_I, xI_R, xS_R, xF_R, xJ_R, xI_L, xS_L, xF_L, xJ_L, xcat_s, le46, ge16, or_true, true_or, false_or, or_false, eq_self, Option.toList_some, Option.toList_none, List.cons_append, List.nil_append, true_and, and_true, not_false_eq_true, not_true_eq_false, if_true, if_false, B_242_107]
              exact ih2 (M4, _, _) ⟨by omega, k4, rfl⟩
          · rw [if_neg wo, if_pos rfl]
            rw [if_neg (fun q => wo q.2.2.1)] at ih2
            exact ih2 (M2, x2, y2) ⟨by omega, k2, rfl⟩
        · rw [if_neg wl, if_pos rfl]
          rw [if_neg (fun q => wl q.2.1)] at ih2
          exact ih2 (M2, x2, y2) ⟨by omega, k2, rfl⟩
  · rw [if_neg (fun q => hw ((in01 w).mp q)), if_neg (by decide)]
    rw [if_neg hw] at hQ
    exact hQ M h
