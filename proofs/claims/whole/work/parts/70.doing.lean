/-! send, takeBack, burn, days -/
theorem r_send {M0 M : XM} {lv B : Nat} {S : XS} {x y : Int32} {Q : Option Value → XM → Prop} (h : RK M0 lv S M) (hi : SInv B S) (hB : B ≤ 99999)
    (hQ : ∀ M' : XM, Ex rR M0 M' → RWd M' lv (if okSd S x y then S_send S x y else S) → Q (some (.int (if okSd S x y then 1 else 0))) M') :
    RG xprog 154 0 [some (.ref 439), some (.int x), some (.int y)] [] M Q := by
  have n7 := h.1.1.n7
  have r6 := h.1.1.r6
  rw [B_154_0]
  simp (disch := omega) only [h.1.1.1.s, r_isLetter h.1.1, r_isReader h.1.1, B_154_5, B_154_13, lAdd, addL, lMul, mulL, nMul, nI_add, subL, lSub, nSub, nDec, nCl, lCl, nVp, lVp, nLe, nLt, nEq, lLe, leL, lLt, ltL, eqL, lEq, nM1, nM2, litLt0, one01, zero01, oneNe0, xupE, xupA, xupK, xI_I, xS_I, xF_I, xJ_I, xI_R, xS_R, xF_R, xJ_R, xI_L, xS_L, xF_L, xJ_L, xcat_s, le46, ge16, or_true, true_or, false_or, or_false, eq_self, Option.toList_some, Option.toList_none, List.cons_append, List.nil_append, true_and, and_true, not_false_eq_true, not_true_eq_false, if_true, if_false]
  by_cases hx : isLb (tN (zT S)) x
  · rw [if_pos hx, if_neg (by decide)]
    by_cases hy : isLb (tR (zT S)) y
    · rw [if_pos hy, if_neg (by decide)]
      obtain ⟨l, hl, rfl⟩ := isLb_get hx (by omega)
      obtain ⟨a, ha, rfl⟩ := isLb_get hy (by omega)
      have el : cN (nI l) = l := cN_n (by omega)
      have ea : cN (nI a) = a := cN_n (by omega)
      simp (disch := omega) only [h.1.1.1.s, h.1.1.1.f, (h.1.2.1.1 l (by omega)).1, lAdd, addL, lMul, mulL, nMul, nI_add, subL, lSub, nSub, nDec, nCl, lCl, nVp, lVp, nLe, nLt, nEq, lLe, leL, lLt, ltL, eqL, lEq, nM1, nM2, litLt0, one01, zero01, oneNe0, xupE, xupA, xupK, xI_I, xS_I, xF_I, xJ_I, xI_R, xS_R, xF_R, xJ_R, xI_L, xS_L, xF_L, xJ_L, xcat_s, le46, ge16, or_true, true_or, false_or, or_false, eq_self, Option.toList_some, Option.toList_none, List.cons_append, List.nil_append, true_and, and_true, not_false_eq_true, not_true_eq_false, if_true, if_false]
      by_cases hw : oW (zF S) l = 1
      · rw [if_pos hw]
        refine r_copies h hi hB ?_
        intro M1 h1
        simp (disch := omega) only [lAdd, addL, lMul, mulL, nMul, nI_add, subL, lSub, nSub, nDec, nCl, lCl, nVp, lVp, nLe, nLt, nEq, lLe, leL, lLt, ltL, eqL, lEq, nM1, nM2, litLt0, one01, zero01, oneNe0, xupE, xupA, xupK, xI_I, xS_I, xF_I, xJ_I, xI_R, xS_R, xF_R, xJ_R, xI_L, xS_L, xF_L, xJ_L, xcat_s, le46, ge16, or_true, true_or, false_or, or_false, eq_self, Option.toList_some, Option.toList_none, List.cons_append, List.nil_append, true_and, and_true, not_false_eq_true, not_true_eq_false, if_true, if_false, B_154_32, h1.2.1.s.s, h1.2.1.s.f, h1.2.1.v, h1.2.1.n, h1.2.1.r, r_letterOf h1.2.1 (show a < 6 by omega), B_154_37]
        by_cases hs : oS (zF S) a = -2
        · have ok : okSd S (nI l) (nI a) := ⟨⟨hx, by rw [el]; exact hw⟩, hy, by rw [ea]; exact hs⟩
          rw [if_pos ok, if_pos ok] at hQ
          unfold S_send at hQ
          rw [el, ea] at hQ
          rw [hs, if_pos (by decide)]
          refine r_sends h1.2.1 (by omega) ha ?_
          intro M2 e2 f2
          have h2 : RQ M0 lv S (giveF (zF S) l a) (tS (zT S) 2) 0 M2 := by
            refine ⟨h1.1.step e2 (fun a k q => by unfold rS; omega), ⟨h1.2.1.1.ex e2 (fun a k q => by unfold rNT; omega), f2, h1.2.1.2.2.1, hi.2.1.give r6 n7 hl ha hw hs⟩, ?_, ?_⟩
            · rw [e2.I (by omega)]; exact h1.2.2.1
            · rw [e2.I (by omega)]; exact h1.2.2.2
          simp (disch := omega) only [lAdd, addL, lMul, mulL, nMul, nI_add, subL, lSub, nSub, nDec, nCl, lCl, nVp, lVp, nLe, nLt, nEq, lLe, leL, lLt, ltL, eqL, lEq, nM1, nM2, litLt0, one01, zero01, oneNe0, xupE, xupA, xupK, xI_I, xS_I, xF_I, xJ_I, xI_R, xS_R, xF_R, xJ_R, xI_L, xS_L, xF_L, xJ_L, xcat_s, le46, ge16, or_true, true_or, false_or, or_false, eq_self, Option.toList_some, Option.toList_none, List.cons_append, List.nil_append, true_and, and_true, not_false_eq_true, not_true_eq_false, if_true, if_false, B_154_48, h2.2.1.s.s, h2.2.1.s.f, h2.2.1.v, h2.2.1.n, h2.2.1.r]
          refine q_records h2 hi ?_
          intro M3 e3 w3
          simp (disch := omega) only [lAdd, addL, lMul, mulL, nMul, nI_add, subL, lSub, nSub, nDec, nCl, lCl, nVp, lVp, nLe, nLt, nEq, lLe, leL, lLt, ltL, eqL, lEq, nM1, nM2, litLt0, one01, zero01, oneNe0, xupE, xupA, xupK, xI_I, xS_I, xF_I, xJ_I, xI_R, xS_R, xF_R, xJ_R, xI_L, xS_L, xF_L, xJ_L, xcat_s, le46, ge16, or_true, true_or, false_or, or_false, eq_self, Option.toList_some, Option.toList_none, List.cons_append, List.nil_append, true_and, and_true, not_false_eq_true, not_true_eq_false, if_true, if_false, B_154_52]
          exact hQ M3 e3 w3
        · have nok : ¬ okSd S (nI l) (nI a) := fun q => hs (by have := q.2.2; rw [ea] at this; exact this)
          rw [if_neg nok, if_neg nok] at hQ
          obtain ⟨j, j1, j2⟩ := hi.2.1.s2 (show a < 6 by omega) hs
          rw [j2, if_neg (by rw [ltL (by omega) (by omega)]; omega)]
          exact hQ M1 h1.1.2 h1.1.1
      · rw [if_neg hw]
        have nok : ¬ okSd S (nI l) (nI a) := fun q => hw (by have := q.1.2; rw [el] at this; exact this)
        rw [if_neg nok, if_neg nok] at hQ
        exact hQ M h.2 h.1
    · rw [if_neg hy, if_pos rfl]
      have nok : ¬ okSd S x y := fun q => hy q.2.1
      rw [if_neg nok, if_neg nok] at hQ
      exact hQ M h.2 h.1
  · rw [if_neg hx, if_pos rfl]
    have nok : ¬ okSd S x y := fun q => hx q.1.1
    rw [if_neg nok, if_neg nok] at hQ
    exact hQ M h.2 h.1
theorem i_send {B : Nat} {S : XS} {x y : Int32} (hi : SInv B S) : SInv B (if okSd S x y then S_send S x y else S) := by
  split
  · rename_i ok
    have n7 := hi.1.1
    have r6 := hi.1.2.1
    unfold S_send
    obtain ⟨l, hl, rfl⟩ := isLb_get ok.1.1 (by omega)
    obtain ⟨a, ha, rfl⟩ := isLb_get ok.2.1 (by omega)
    have w1 := ok.1.2
    have s1 := ok.2.2
    rw [cN_n (by omega)] at w1 s1 ⊢
    rw [cN_n (by omega)]
    exact i_do hi (Nat.le_refl _) (hi.2.1.give r6 n7 hl ha w1 s1) hi.2.2.1
  · exact hi
theorem OInv.take {T : XT} {F : XO} (h : OInv T F) (r6 : tR T ≤ 6) (n7 : tN T ≤ 7) {l : Nat} (hl : l < tN T) (hw : oW F l = 2) : OInv T (takeF F l 1) := by
  obtain ⟨a, ha, hh, hsa⟩ := h.w2 (by omega) hw
  have uq := fun (j : Nat) (hj : j < 7) => h.hs n7 r6 hj (show a < 6 by omega)
  obtain ⟨h1, h2, h3, h4, h5, h6, h7⟩ := h
  have E : takeF F l 1 = sW (sH (sS F a (-2)) l (-2)) l 1 := by
    unfold takeF
    rw [hh, if_neg (by rw [nM2 (by omega)]; exact fun q => q), nI_clamp (by omega)]
  rw [E]
  have eW : oW (sW (sH (sS F a (-2)) l (-2)) l 1) = xone (oW F) l 1 := rfl
  have eH : oH (sW (sH (sS F a (-2)) l (-2)) l 1) = xone (oH F) l (-2) := rfl
  have eB : oB (sW (sH (sS F a (-2)) l (-2)) l 1) = oB F := rfl
  have eS : oS (sW (sH (sS F a (-2)) l (-2)) l 1) = xone (oS F) a (-2) := rfl
  refine ⟨?_, ?_, ?_, ?_, h5, ?_, ?_⟩
  · intro j hj
    rw [eW, eH, eS]
    simp only [xo_at]
    by_cases hjl : j = l
    · rw [if_pos hjl, if_pos hjl]
      exact Or.inl ⟨rfl, by decide⟩
    · rw [if_neg hjl, if_neg hjl]
      rcases h1 j hj with q | ⟨q1, q2, b, q3, q4, q5⟩
      · exact Or.inl q
      · right
        refine ⟨q1, q2, b, q3, q4, ?_⟩
        rw [if_neg (fun z => ?_)]
        · exact q5
        · subst z
          rw [hsa, nI_eq (by omega) (by omega)] at q5
          exact hjl q5.symm
  · intro b hb
    rw [eW, eH, eS]
    simp only [xo_at]
    by_cases hba : b = a
    · rw [if_pos hba]; exact Or.inl rfl
    · rw [if_neg hba]
      rcases h2 b hb with q | ⟨q1, j, q2, q3, q4, q5⟩
      · exact Or.inl q
      · have hjl : ¬ j = l := fun z => by
          subst z
          rw [hh, nI_eq (by omega) (by omega)] at q4
          exact hba q4.symm
        right
        refine ⟨q1, j, q2, q3, ?_, ?_⟩
        · rw [if_neg hjl]; exact q4
        · rw [if_neg hjl]; exact q5
  · intro j hj
    rw [eW, eB]
    simp only [xo_at]
    obtain ⟨q1, q2⟩ := h3 j hj
    by_cases hjl : j = l
    · rw [if_pos hjl]
      subst hjl
      refine ⟨Or.inr (Or.inl rfl), ?_⟩
      rcases q2 with q | q | q
      · exact Or.inl q
      · exact Or.inr (Or.inl q)
      · rw [hw] at q; exact absurd q.2 (by decide)
    · rw [if_neg hjl]; exact ⟨q1, q2⟩
  · intro j hj hj7
    rw [eW, eB, xo_at, if_neg (by omega)]
    exact h4 j hj hj7
  · intro k hk
    rw [eW, eH, eB, xo_at, xo_at, if_neg (by omega), if_neg (by omega)]
    exact h6 k hk
  · intro k hk
    rw [eS, xo_at, if_neg (by omega)]
    exact h7 k hk
abbrev okTb (S : XS) (x : Int32) : Prop := isAt S 2 x
def S_takeBack (S : XS) (x : Int32) : XS := S_do S (takeF (zF S) (cN x) 1)
theorem take_D (F : XO) (l : Nat) (p : Int32) : oD (takeF F l p) = oD F := by
  unfold takeF
  split <;> rfl
theorem i_takeBack {B : Nat} {S : XS} {x : Int32} (hi : SInv B S) : SInv B (if isAt S 2 x then S_takeBack S x else S) := by
  split
  · rename_i ok
    have n7 := hi.1.1
    have r6 := hi.1.2.1
    unfold S_takeBack
    obtain ⟨l, hl, rfl⟩ := isLb_get ok.1 (by omega)
    have w1 := ok.2
    rw [cN_n (by omega)] at w1 ⊢
    refine i_do hi (Nat.le_refl _) (hi.2.1.take r6 n7 hl w1) ?_
    obtain ⟨d, q1, q2⟩ := hi.2.2.1
    exact ⟨d, q1, by rw [take_D]; exact q2⟩
  · exact hi
theorem c_takeBack {M : XM} {t B : Nat} {S : XS} {x : Int32} {Q : Option Value → XM → Prop} (h : CW M t S) (hi : SInv B S)
    (hQ : ∀ M' : XM, Ex cR M M' → CW M' t (if isAt S 2 x then S_takeBack S x else S) → Q (some (.int (if isAt S 2 x then 1 else 0))) M') :
    RG xprog 157 0 [some (.ref 16), some (.int x)] [] M Q := by
  have n7 := h.tx.n7
  have r6 := h.tx.r6
  rw [B_157_0]
  simp (disch := omega) only [h.d, c_isWith h, B_157_5, lAdd, addL, lMul, mulL, nMul, nI_add, subL, lSub, nSub, nDec, nCl, lCl, nVp, lVp, nLe, nLt, nEq, lLe, leL, lLt, ltL, eqL, lEq, nM1, nM2, litLt0, one01, zero01, oneNe0, xupE, xupA, xupK, xI_I, xS_I, xF_I, xJ_I, xI_R, xS_R, xF_R, xJ_R, xI_L, xS_L, xF_L, xJ_L, xcat_s, le46, ge16, or_true, true_or, false_or, or_false, eq_self, Option.toList_some, Option.toList_none, List.cons_append, List.nil_append, true_and, and_true, not_false_eq_true, not_true_eq_false, if_true, if_false]
  by_cases hx : isAt S 2 x
  · rw [if_pos hx, if_pos (by decide)]
    rw [if_pos hx, if_pos hx] at hQ
    obtain ⟨l, hl, rfl⟩ := isLb_get hx.1 (by omega)
    unfold S_takeBack at hQ
    rw [cN_n (by omega)] at hQ
    simp (disch := omega) only [h.d, h.hs, lAdd, addL, lMul, mulL, nMul, nI_add, subL, lSub, nSub, nDec, nCl, lCl, nVp, lVp, nLe, nLt, nEq, lLe, leL, lLt, ltL, eqL, lEq, nM1, nM2, litLt0, one01, zero01, oneNe0, xupE, xupA, xupK, xI_I, xS_I, xF_I, xJ_I, xI_R, xS_R, xF_R, xJ_R, xI_L, xS_L, xF_L, xJ_L, xcat_s, le46, ge16, or_true, true_or, false_or, or_false, eq_self, Option.toList_some, Option.toList_none, List.cons_append, List.nil_append, true_and, and_true, not_false_eq_true, not_true_eq_false, if_true, if_false]
    refine c_remember h hi ?_
    intro M1 e1 h1
    simp (disch := omega) only [lAdd, addL, lMul, mulL, nMul, nI_add, subL, lSub, nSub, nDec, nCl, lCl, nVp, lVp, nLe, nLt, nEq, lLe, leL, lLt, ltL, eqL, lEq, nM1, nM2, litLt0, one01, zero01, oneNe0, xupE, xupA, xupK, xI_I, xS_I, xF_I, xJ_I, xI_R, xS_R, xF_R, xJ_R, xI_L, xS_L, xF_L, xJ_L, xcat_s, le46, ge16, or_true, true_or, false_or, or_false, eq_self, Option.toList_some, Option.toList_none, List.cons_append, List.nil_append, true_and, and_true, not_false_eq_true, not_true_eq_false, if_true, if_false, B_157_21, h1.d, h1.of.f]
    refine c_takeFrom h1.of (by omega) (hi.2.1.hok r6 l (by omega)) ?_
    intro M2 e2 f2
    simp (disch := omega) only [lAdd, addL, lMul, mulL, nMul, nI_add, subL, lSub, nSub, nDec, nCl, lCl, nVp, lVp, nLe, nLt, nEq, lLe, leL, lLt, ltL, eqL, lEq, nM1, nM2, litLt0, one01, zero01, oneNe0, xupE, xupA, xupK, xI_I, xS_I, xF_I, xJ_I, xI_R, xS_R, xF_R, xJ_R, xI_L, xS_L, xF_L, xJ_L, xcat_s, le46, ge16, or_true, true_or, false_or, or_false, eq_self, Option.toList_some, Option.toList_none, List.cons_append, List.nil_append, true_and, and_true, not_false_eq_true, not_true_eq_false, if_true, if_false, B_157_30]
    have e2' : Ex (oX 84 t) M1 M2 := e2.mono fun a k q => Or.inl q
    exact hQ M2 (e1.trans (e2'.mono (oX_cR h.t2))) (h1.setOf e2' f2)
  · rw [if_neg hx, if_neg (by decide)]
    rw [if_neg hx, if_neg hx] at hQ
    exact hQ M (Ex.refl _ _) h
theorem r_takeBack {M0 M : XM} {lv B : Nat} {S : XS} {x : Int32} {Q : Option Value → XM → Prop} (h : RK M0 lv S M) (hi : SInv B S) (hB : B ≤ 99999)
    (hQ : ∀ M' : XM, Ex rR M0 M' → RWd M' lv (if isAt S 2 x then S_takeBack S x else S) → Q (some (.int (if isAt S 2 x then 1 else 0))) M') :
    RG xprog 158 0 [some (.ref 439), some (.int x)] [] M Q := by
  have n7 := h.1.1.n7
  have r6 := h.1.1.r6
  rw [B_158_0]
  simp (disch := omega) only [h.1.1.1.s, r_isLetter h.1.1, B_158_5, lAdd, addL, lMul, mulL, nMul, nI_add, subL, lSub, nSub, nDec, nCl, lCl, nVp, lVp, nLe, nLt, nEq, lLe, leL, lLt, ltL, eqL, lEq, nM1, nM2, litLt0, one01, zero01, oneNe0, xupE, xupA, xupK, xI_I, xS_I, xF_I, xJ_I, xI_R, xS_R, xF_R, xJ_R, xI_L, xS_L, xF_L, xJ_L, xcat_s, le46, ge16, or_true, true_or, false_or, or_false, eq_self, Option.toList_some, Option.toList_none, List.cons_append, List.nil_append, true_and, and_true, not_false_eq_true, not_true_eq_false, if_true, if_false]
  by_cases hx : isLb (tN (zT S)) x
  · rw [if_pos hx, if_neg (by decide)]
    obtain ⟨l, hl, rfl⟩ := isLb_get hx (by omega)
    have el : cN (nI l) = l := cN_n (by omega)
    simp (disch := omega) only [h.1.1.1.s, h.1.1.1.f, (h.1.2.1.1 l (by omega)).1, lAdd, addL, lMul, mulL, nMul, nI_add, subL, lSub, nSub, nDec, nCl, lCl, nVp, lVp, nLe, nLt, nEq, lLe, leL, lLt, ltL, eqL, lEq, nM1, nM2, litLt0, one01, zero01, oneNe0, xupE, xupA, xupK, xI_I, xS_I, xF_I, xJ_I, xI_R, xS_R, xF_R, xJ_R, xI_L, xS_L, xF_L, xJ_L, xcat_s, le46, ge16, or_true, true_or, false_or, or_false, eq_self, Option.toList_some, Option.toList_none, List.cons_append, List.nil_append, true_and, and_true, not_false_eq_true, not_true_eq_false, if_true, if_false]
    by_cases hw : oW (zF S) l = 2
    · rw [if_pos hw]
      have ok : isAt S 2 (nI l) := ⟨hx, by rw [el]; exact hw⟩
      rw [if_pos ok, if_pos ok] at hQ
      unfold S_takeBack at hQ
      rw [el] at hQ
      refine r_copies h hi hB ?_
      intro M1 h1
      simp (disch := omega) only [lAdd, addL, lMul, mulL, nMul, nI_add, subL, lSub, nSub, nDec, nCl, lCl, nVp, lVp, nLe, nLt, nEq, lLe, leL, lLt, ltL, eqL, lEq, nM1, nM2, litLt0, one01, zero01, oneNe0, xupE, xupA, xupK, xI_I, xS_I, xF_I, xJ_I, xI_R, xS_R, xF_R, xJ_R, xI_L, xS_L, xF_L, xJ_L, xcat_s, le46, ge16, or_true, true_or, false_or, or_false, eq_self, Option.toList_some, Option.toList_none, List.cons_append, List.nil_append, true_and, and_true, not_false_eq_true, not_true_eq_false, if_true, if_false, B_158_24, h1.2.1.s.s, h1.2.1.s.f, h1.2.1.v, h1.2.1.n, h1.2.1.r]
      have e2 : Ex (fun a _ => a = 473) M1 (xmI (xmI M1 473 l 1) 473 (7 + l) (-2)) := Ex.wr (Ex.wr (Ex.refl (fun a _ => a = 473) M1) _ rfl) _ rfl
      have f2 : RowIs (zT S) (xI (xmI (xmI M1 473 l 1) 473 (7 + l) (-2)) 473) (takeF (zF S) l 1) := by
        simp only [xI_I, xup_s]
        have := (h1.2.1.2.1.w r6 (show l < 7 by omega) 1).h r6 (show l < 7 by omega) (-2)
        have e : ∀ (g : Nat → Int32), RowIs (zT S) g (sH (sW (zF S) l 1) l (-2)) → RowIs (zT S) g (takeF (zF S) l 1) := by
          intro g hg
          unfold takeF
          split <;> exact hg
        exact e _ this
      have h2 : RQ M0 lv S (takeF (zF S) l 1) (tS (zT S) 2) 0 (xmI (xmI M1 473 l 1) 473 (7 + l) (-2)) := by
        refine ⟨h1.1.step e2 (fun a k q => by unfold rS; omega), ⟨h1.2.1.1.ex e2 (fun a k q => by unfold rNT; omega), f2, ?_, hi.2.1.take r6 n7 hl hw⟩, ?_, ?_⟩
        · obtain ⟨d, q1, q2⟩ := h1.2.1.2.2.1
          exact ⟨d, q1, by rw [take_D]; exact q2⟩
        · rw [e2.I (by omega)]; exact h1.2.2.1
        · rw [e2.I (by omega)]; exact h1.2.2.2
      refine q_records h2 hi ?_
      intro M3 e3 w3
      simp (disch := omega) only [lAdd, addL, lMul, mulL, nMul, nI_add, subL, lSub, nSub, nDec, nCl, lCl, nVp, lVp, nLe, nLt, nEq, lLe, leL, lLt, ltL, eqL, lEq, nM1, nM2, litLt0, one01, zero01, oneNe0, xupE, xupA, xupK, xI_I, xS_I, xF_I, xJ_I, xI_R, xS_R, xF_R, xJ_R, xI_L, xS_L, xF_L, xJ_L, xcat_s, le46, ge16, or_true, true_or, false_or, or_false, eq_self, Option.toList_some, Option.toList_none, List.cons_append, List.nil_append, true_and, and_true, not_false_eq_true, not_true_eq_false, if_true, if_false, B_158_46]
      exact hQ M3 e3 w3
    · rw [if_neg hw]
      have nok : ¬ isAt S 2 (nI l) := fun q => hw (by have := q.2; rw [el] at this; exact this)
      rw [if_neg nok, if_neg nok] at hQ
      exact hQ M h.2 h.1
  · rw [if_neg hx, if_pos rfl]
    have nok : ¬ isAt S 2 x := fun q => hx q.1
    rw [if_neg nok, if_neg nok] at hQ
    exact hQ M h.2 h.1
theorem OInv.burn {T : XT} {F : XO} (h : OInv T F) {l : Nat} (hl : l < tN T) (n7 : tN T ≤ 7) (hw : oW F l = 1) : OInv T (sW F l 3) := by
  obtain ⟨h1, h2, h3, h4, h5, h6, h7⟩ := h
  have eW : oW (sW F l 3) = xone (oW F) l 3 := rfl
  have eH : oH (sW F l 3) = oH F := rfl
  have eB : oB (sW F l 3) = oB F := rfl
  refine ⟨?_, ?_, ?_, ?_, h5, ?_, h7⟩
  · intro j hj
    rw [eW, xo_at]
    by_cases hjl : j = l
    · rw [if_pos hjl]
      rcases h1 j hj with q | ⟨q1, q2, _⟩
      · exact Or.inl ⟨q.1, by decide⟩
      · rw [hjl, hw] at q2; exact absurd q2 (by decide)
    · rw [if_neg hjl]; exact h1 j hj
  · intro b hb
    rcases h2 b hb with q | ⟨q1, j, q2, q3, q4, q5⟩
    · exact Or.inl q
    · refine Or.inr ⟨q1, j, q2, q3, q4, ?_⟩
      rw [eW, xo_at, if_neg (fun z => by rw [z, hw] at q5; exact absurd q5 (by decide))]
      exact q5
  · intro j hj
    rw [eW, eB, xo_at]
    obtain ⟨q1, q2⟩ := h3 j hj
    by_cases hjl : j = l
    · rw [if_pos hjl]
      refine ⟨Or.inr (Or.inr (Or.inr rfl)), ?_⟩
      rcases q2 with q | q | q
      · exact Or.inl q
      · exact Or.inr (Or.inl q)
      · exact Or.inr (Or.inr ⟨q.1, rfl⟩)
    · rw [if_neg hjl]; exact ⟨q1, q2⟩
  · intro j hj hj7
    rw [eW, eB, xo_at, if_neg (by omega)]
    exact h4 j hj hj7
  · intro k hk
    rw [eW, eH, eB, xo_at, if_neg (by omega)]
    exact h6 k hk
def S_burn (S : XS) (x : Int32) : XS := S_do S (sW (zF S) (cN x) 3)
theorem i_burn {B : Nat} {S : XS} {x : Int32} (hi : SInv B S) : SInv B (if isAt S 1 x then S_burn S x else S) := by
  split
  · rename_i ok
    have n7 := hi.1.1
    unfold S_burn
    obtain ⟨l, hl, rfl⟩ := isLb_get ok.1 (by omega)
    have w1 := ok.2
    rw [cN_n (by omega)] at w1 ⊢
    exact i_do hi (Nat.le_refl _) (hi.2.1.burn hl n7 w1) hi.2.2.1
  · exact hi
theorem c_burn {M : XM} {t B : Nat} {S : XS} {x : Int32} {Q : Option Value → XM → Prop} (h : CW M t S) (hi : SInv B S)
    (hQ : ∀ M' : XM, Ex cR M M' → CW M' t (if isAt S 1 x then S_burn S x else S) → Q (some (.int (if isAt S 1 x then 1 else 0))) M') :
    RG xprog 159 0 [some (.ref 16), some (.int x)] [] M Q := by
  have n7 := h.tx.n7
  rw [B_159_0]
  simp (disch := omega) only [h.d, c_isOnShelf h, B_159_5, lAdd, addL, lMul, mulL, nMul, nI_add, subL, lSub, nSub, nDec, nCl, lCl, nVp, lVp, nLe, nLt, nEq, lLe, leL, lLt, ltL, eqL, lEq, nM1, nM2, litLt0, one01, zero01, oneNe0, xupE, xupA, xupK, xI_I, xS_I, xF_I, xJ_I, xI_R, xS_R, xF_R, xJ_R, xI_L, xS_L, xF_L, xJ_L, xcat_s, le46, ge16, or_true, true_or, false_or, or_false, eq_self, Option.toList_some, Option.toList_none, List.cons_append, List.nil_append, true_and, and_true, not_false_eq_true, not_true_eq_false, if_true, if_false]
  by_cases hx : isAt S 1 x
  · rw [if_pos hx, if_pos (by decide)]
    rw [if_pos hx, if_pos hx] at hQ
    obtain ⟨l, hl, rfl⟩ := isLb_get hx.1 (by omega)
    unfold S_burn at hQ
    rw [cN_n (by omega)] at hQ
    simp (disch := omega) only [h.d, h.hs, lAdd, addL, lMul, mulL, nMul, nI_add, subL, lSub, nSub, nDec, nCl, lCl, nVp, lVp, nLe, nLt, nEq, lLe, leL, lLt, ltL, eqL, lEq, nM1, nM2, litLt0, one01, zero01, oneNe0, xupE, xupA, xupK, xI_I, xS_I, xF_I, xJ_I, xI_R, xS_R, xF_R, xJ_R, xI_L, xS_L, xF_L, xJ_L, xcat_s, le46, ge16, or_true, true_or, false_or, or_false, eq_self, Option.toList_some, Option.toList_none, List.cons_append, List.nil_append, true_and, and_true, not_false_eq_true, not_true_eq_false, if_true, if_false]
    refine c_remember h hi ?_
    intro M1 e1 h1
    simp (disch := omega) only [lAdd, addL, lMul, mulL, nMul, nI_add, subL, lSub, nSub, nDec, nCl, lCl, nVp, lVp, nLe, nLt, nEq, lLe, leL, lLt, ltL, eqL, lEq, nM1, nM2, litLt0, one01, zero01, oneNe0, xupE, xupA, xupK, xI_I, xS_I, xF_I, xJ_I, xI_R, xS_R, xF_R, xJ_R, xI_L, xS_L, xF_L, xJ_L, xcat_s, le46, ge16, or_true, true_or, false_or, or_false, eq_self, Option.toList_some, Option.toList_none, List.cons_append, List.nil_append, true_and, and_true, not_false_eq_true, not_true_eq_false, if_true, if_false, B_159_21, h1.d, h1.of.f]
    have e2' : Ex (oX 84 t) M1 (xmI M1 85 l 3) := (Ex.refl _ _).wr _ (by unfold oX; omega)
    exact hQ _ (e1.trans (e2'.mono (oX_cR h.t2))) (h1.setOf e2' (h1.of.w1 l 3))
  · rw [if_neg hx, if_neg (by decide)]
    rw [if_neg hx, if_neg hx] at hQ
    exact hQ M (Ex.refl _ _) h
theorem r_burn {M0 M : XM} {lv B : Nat} {S : XS} {x : Int32} {Q : Option Value → XM → Prop} (h : RK M0 lv S M) (hi : SInv B S) (hB : B ≤ 99999)
    (hQ : ∀ M' : XM, Ex rR M0 M' → RWd M' lv (if isAt S 1 x then S_burn S x else S) → Q (some (.int (if isAt S 1 x then 1 else 0))) M') :
    RG xprog 160 0 [some (.ref 439), some (.int x)] [] M Q := by
  have n7 := h.1.1.n7
  have r6 := h.1.1.r6
  rw [B_160_0]
  simp (disch := omega) only [h.1.1.1.s, r_isLetter h.1.1, B_160_5, lAdd, addL, lMul, mulL, nMul, nI_add, subL, lSub, nSub, nDec, nCl, lCl, nVp, lVp, nLe, nLt, nEq, lLe, leL, lLt, ltL, eqL, lEq, nM1, nM2, litLt0, one01, zero01, oneNe0, xupE, xupA, xupK, xI_I, xS_I, xF_I, xJ_I, xI_R, xS_R, xF_R, xJ_R, xI_L, xS_L, xF_L, xJ_L, xcat_s, le46, ge16, or_true, true_or, false_or, or_false, eq_self, Option.toList_some, Option.toList_none, List.cons_append, List.nil_append, true_and, and_true, not_false_eq_true, not_true_eq_false, if_true, if_false]
  by_cases hx : isLb (tN (zT S)) x
  · rw [if_pos hx, if_neg (by decide)]
    obtain ⟨l, hl, rfl⟩ := isLb_get hx (by omega)
    have el : cN (nI l) = l := cN_n (by omega)
    simp (disch := omega) only [h.1.1.1.s, h.1.1.1.f, (h.1.2.1.1 l (by omega)).1, lAdd, addL, lMul, mulL, nMul, nI_add, subL, lSub, nSub, nDec, nCl, lCl, nVp, lVp, nLe, nLt, nEq, lLe, leL, lLt, ltL, eqL, lEq, nM1, nM2, litLt0, one01, zero01, oneNe0, xupE, xupA, xupK, xI_I, xS_I, xF_I, xJ_I, xI_R, xS_R, xF_R, xJ_R, xI_L, xS_L, xF_L, xJ_L, xcat_s, le46, ge16, or_true, true_or, false_or, or_false, eq_self, Option.toList_some, Option.toList_none, List.cons_append, List.nil_append, true_and, and_true, not_false_eq_true, not_true_eq_false, if_true, if_false]
    by_cases hw : oW (zF S) l = 1
    · rw [if_pos hw]
      have ok : isAt S 1 (nI l) := ⟨hx, by rw [el]; exact hw⟩
      rw [if_pos ok, if_pos ok] at hQ
      unfold S_burn at hQ
      rw [el] at hQ
      refine r_copies h hi hB ?_
      intro M1 h1
      simp (disch := omega) only [lAdd, addL, lMul, mulL, nMul, nI_add, subL, lSub, nSub, nDec, nCl, lCl, nVp, lVp, nLe, nLt, nEq, lLe, leL, lLt, ltL, eqL, lEq, nM1, nM2, litLt0, one01, zero01, oneNe0, xupE, xupA, xupK, xI_I, xS_I, xF_I, xJ_I, xI_R, xS_R, xF_R, xJ_R, xI_L, xS_L, xF_L, xJ_L, xcat_s, le46, ge16, or_true, true_or, false_or, or_false, eq_self, Option.toList_some, Option.toList_none, List.cons_append, List.nil_append, true_and, and_true, not_false_eq_true, not_true_eq_false, if_true, if_false, B_160_24, h1.2.1.s.s, h1.2.1.s.f, h1.2.1.v, h1.2.1.n, h1.2.1.r]
      have e2 : Ex (fun a _ => a = 473) M1 (xmI M1 473 l 3) := (Ex.refl _ _).wr _ rfl
      have f2 : RowIs (zT S) (xI (xmI M1 473 l 3) 473) (sW (zF S) l 3) := by
        simp only [xI_I, xup_s]
        exact h1.2.1.2.1.w r6 (show l < 7 by omega) 3
      have h2 : RQ M0 lv S (sW (zF S) l 3) (tS (zT S) 2) 0 (xmI M1 473 l 3) := by
        refine ⟨h1.1.step e2 (fun a k q => by unfold rS; omega), ⟨h1.2.1.1.ex e2 (fun a k q => by unfold rNT; omega), f2, h1.2.1.2.2.1, hi.2.1.burn hl n7 hw⟩, ?_, ?_⟩
        · rw [e2.I (by omega)]; exact h1.2.2.1
        · rw [e2.I (by omega)]; exact h1.2.2.2
      refine q_records h2 hi ?_
      intro M3 e3 w3
      simp (disch := omega) only [lAdd, addL, lMul, mulL, nMul, nI_add, subL, lSub, nSub, nDec, nCl, lCl, nVp, lVp, nLe, nLt, nEq, lLe, leL, lLt, ltL, eqL, lEq, nM1, nM2, litLt0, one01, zero01, oneNe0, xupE, xupA, xupK, xI_I, xS_I, xF_I, xJ_I, xI_R, xS_R, xF_R, xJ_R, xI_L, xS_L, xF_L, xJ_L, xcat_s, le46, ge16, or_true, true_or, false_or, or_false, eq_self, Option.toList_some, Option.toList_none, List.cons_append, List.nil_append, true_and, and_true, not_false_eq_true, not_true_eq_false, if_true, if_false, B_160_35]
      exact hQ M3 e3 w3
    · rw [if_neg hw]
      have nok : ¬ isAt S 1 (nI l) := fun q => hw (by have := q.2; rw [el] at this; exact this)
      rw [if_neg nok, if_neg nok] at hQ
      exact hQ M h.2 h.1
  · rw [if_neg hx, if_pos rfl]
    have nok : ¬ isAt S 1 x := fun q => hx q.1
    rw [if_neg nok, if_neg nok] at hQ
    exact hQ M h.2 h.1
def S_days (S : XS) (x : Int32) : XS := if x = 0 then S else S_do S (daysF (zT S) (tS (zT S) 2) (tS (zT S) 1) (cN x) (zF S))
theorem i_days {B : Nat} {S : XS} {x : Int32} (hi : SInv B S) : SInv (B + 60) (if inb x 0 60 then S_days S x else S) := by
  have up : SInv (B + 60) S := by
    have db : ∀ F, DB B F → DB (B + 60) F := fun F ⟨d, q1, q2⟩ => ⟨d, by omega, q2⟩
    obtain ⟨a1, a2, a3, a4, a5, a6, a7, a8, a9⟩ := hi
    exact ⟨a1, a2, db _ a3, a4, a5, fun i hi => ⟨(a6 i hi).1, db _ (a6 i hi).2⟩, fun i hi G hG => ⟨(a7 i hi G hG).1, db _ (a7 i hi G hG).2⟩, a8, a9⟩
  split
  · rename_i ok
    unfold S_days
    split
    · exact up
    · obtain ⟨n, hn, rfl⟩ := inb60 ok
      rw [cN_n (by omega)]
      obtain ⟨q1, d, q2, q3⟩ := days_inv hi.2.1 hi.1.2.1 hi.1.1 (tS (zT S) 2) (tS (zT S) 1) hi.2.2.1 n
      exact i_do hi (by omega) q1 ⟨d, by omega, q3⟩
  · exact up
theorem c_days {M : XM} {t B : Nat} {S : XS} {x : Int32} {Q : Option Value → XM → Prop} (h : CW M t S) (hi : SInv B S)
    (hQ : ∀ M' : XM, Ex cR M M' → CW M' t (if inb x 0 60 then S_days S x else S) → Q (some (.int (if inb x 0 60 then oD (zF (S_days S x)) else -1))) M') :
    RG xprog 174 0 [some (.ref 16), some (.int x), none] [] M Q := by
  have n7 := h.tx.n7
  have r6 := h.tx.r6
  rw [B_174_0]
  simp (disch := omega) only [c_isSpan, B_174_4, lAdd, addL, lMul, mulL, nMul, nI_add, subL, lSub, nSub, nDec, nCl, lCl, nVp, lVp, nLe, nLt, nEq, lLe, leL, lLt, ltL, eqL, lEq, nM1, nM2, litLt0, one01, zero01, oneNe0, xupE, xupA, xupK, xI_I, xS_I, xF_I, xJ_I, xI_R, xS_R, xF_R, xJ_R, xI_L, xS_L, xF_L, xJ_L, xcat_s, le46, ge16, or_true, true_or, false_or, or_false, eq_self, Option.toList_some, Option.toList_none, List.cons_append, List.nil_append, true_and, and_true, not_false_eq_true, not_true_eq_false, if_true, if_false]
  by_cases hx : inb x 0 60
  · rw [if_pos hx, if_pos (by decide)]
    rw [if_pos hx, if_pos hx] at hQ
    obtain ⟨n, hn, rfl⟩ := inb60 hx
    unfold S_days at hQ
    rw [cN_n (by omega)] at hQ
    by_cases h0 : n = 0
    · subst h0
      rw [if_pos (c := nI 0 = 0) rfl] at hQ
      rw [if_pos (by decide), B_174_24, B_174_26]
      simp (disch := omega) only [h.d, h.of.f, h.of.v, lAdd, addL, lMul, mulL, nMul, nI_add, subL, lSub, nSub, nDec, nCl, lCl, nVp, lVp, nLe, nLt, nEq, lLe, leL, lLt, ltL, eqL, lEq, nM1, nM2, litLt0, one01, zero01, oneNe0, xupE, xupA, xupK, xI_I, xS_I, xF_I, xJ_I, xI_R, xS_R, xF_R, xJ_R, xI_L, xS_L, xF_L, xJ_L, xcat_s, le46, ge16, or_true, true_or, false_or, or_false, eq_self, Option.toList_some, Option.toList_none, List.cons_append, List.nil_append, true_and, and_true, not_false_eq_true, not_true_eq_false, if_true, if_false, Nat.le_refl]
      exact hQ M (Ex.refl _ _) h
    · rw [if_neg (c := nI n = 0) (by rw [eqL (by omega) (by omega)]; exact h0)] at hQ
      simp (disch := omega) only [lAdd, addL, lMul, mulL, nMul, nI_add, subL, lSub, nSub, nDec, nCl, lCl, nVp, lVp, nLe, nLt, nEq, lLe, leL, lLt, ltL, eqL, lEq, nM1, nM2, litLt0, one01, zero01, oneNe0, xupE, xupA, xupK, xI_I, xS_I, xF_I, xJ_I, xI_R, xS_R, xF_R, xJ_R, xI_L, xS_L, xF_L, xJ_L, xcat_s, le46, ge16, or_true, true_or, false_or, or_false, eq_self, Option.toList_some, Option.toList_none, List.cons_append, List.nil_append, true_and, and_true, not_false_eq_true, not_true_eq_false, if_true, if_false, if_neg, h.d, h.hs]
      refine c_remember h hi ?_
      intro M1 e1 h1
      simp (disch := omega) only [lAdd, addL, lMul, mulL, nMul, nI_add, subL, lSub, nSub, nDec, nCl, lCl, nVp, lVp, nLe, nLt, nEq, lLe, leL, lLt, ltL, eqL, lEq, nM1, nM2, litLt0, one01, zero01, oneNe0, xupE, xupA, xupK, xI_I, xS_I, xF_I, xJ_I, xI_R, xS_R, xF_R, xJ_R, xI_L, xS_L, xF_L, xJ_L, xcat_s, le46, ge16, or_true, true_or, false_or, or_false, eq_self, Option.toList_some, Option.toList_none, List.cons_append, List.nil_append, true_and, and_true, not_false_eq_true, not_true_eq_false, if_true, if_false, B_174_24]
      have dv := fun i => days_inv hi.2.1 r6 n7 (tS (zT S) 2) (tS (zT S) 1) hi.2.2.1 i
      refine x_for n (fun i M2 => Ex cR M M2 ∧ CW M2 t (setF (setH S (pushH S)) (daysF (zT S) (tS (zT S) 2) (tS (zT S) 1) i (zF S)))) (fun i M2 => RG xprog 174 26 [some (.ref 16), some (.int (nI n)), some (.int (nI i))] [] M2 Q) ?_ ?_ 0 M1 (by omega) ⟨e1, h1⟩
      · intro M2 ⟨e2, h2⟩
        rw [B_174_26]
        simp (disch := omega) only [lAdd, addL, lMul, mulL, nMul, nI_add, subL, lSub, nSub, nDec, nCl, lCl, nVp, lVp, nLe, nLt, nEq, lLe, leL, lLt, ltL, eqL, lEq, nM1, nM2, litLt0, one01, zero01, oneNe0, xupE, xupA, xupK, xI_I, xS_I, xF_I, xJ_I, xI_R, xS_R, xF_R, xJ_R, xI_L, xS_L, xF_L, xJ_L, xcat_s, le46, ge16, or_true, true_or, false_or, or_false, eq_self, Option.toList_some, Option.toList_none, List.cons_append, List.nil_append, true_and, and_true, not_false_eq_true, not_true_eq_false, if_true, if_false, Nat.le_refl, h2.d, h2.of.f, h2.of.v]
        exact hQ M2 e2 h2
      · intro i M2 hi' ⟨e2, h2⟩ ih
        rw [B_174_26]
        simp (disch := omega) only [lAdd, addL, lMul, mulL, nMul, nI_add, subL, lSub, nSub, nDec, nCl, lCl, nVp, lVp, nLe, nLt, nEq, lLe, leL, lLt, ltL, eqL, lEq, nM1, nM2, litLt0, one01, zero01, oneNe0, xupE, xupA, xupK, xI_I, xS_I, xF_I, xJ_I, xI_R, xS_R, xF_R, xJ_R, xI_L, xS_L, xF_L, xJ_L, xcat_s, le46, ge16, or_true, true_or, false_or, or_false, eq_self, Option.toList_some, Option.toList_none, List.cons_append, List.nil_append, true_and, and_true, not_false_eq_true, not_true_eq_false, if_true, if_false, if_neg, h2.d, h2.tx.f, h2.of.f, c_seed h2.tx, B_174_46, c_wet h2.tx, B_174_53]
        refine c_passDay h2.tx h2.of (dv i).1 h2.sep ?_
        intro M3 e3 f3
        simp (disch := omega) only [lAdd, addL, lMul, mulL, nMul, nI_add, subL, lSub, nSub, nDec, nCl, lCl, nVp, lVp, nLe, nLt, nEq, lLe, leL, lLt, ltL, eqL, lEq, nM1, nM2, litLt0, one01, zero01, oneNe0, xupE, xupA, xupK, xI_I, xS_I, xF_I, xJ_I, xI_R, xS_R, xF_R, xJ_R, xI_L, xS_L, xF_L, xJ_L, xcat_s, le46, ge16, or_true, true_or, false_or, or_false, eq_self, Option.toList_some, Option.toList_none, List.cons_append, List.nil_append, true_and, and_true, not_false_eq_true, not_true_eq_false, if_true, if_false, B_174_56]
        exact ih M3 ⟨e2.trans (e3.mono (oX_cR h.t2)), h2.setOf e3 f3⟩
  · rw [if_neg hx, if_neg (by decide)]
    rw [if_neg hx, if_neg hx] at hQ
    exact hQ M (Ex.refl _ _) h
theorem r_days {M0 M : XM} {lv B : Nat} {S : XS} {x : Int32} {Q : Option Value → XM → Prop} (h : RK M0 lv S M) (hi : SInv B S) (hB : B ≤ 99000)
    (hQ : ∀ M' : XM, Ex rR M0 M' → RWd M' lv (if inb x 0 60 then S_days S x else S) → Q (some (.int (if inb x 0 60 then oD (zF (S_days S x)) else -1))) M') :
    RG xprog 182 0 [some (.ref 439), some (.int x)] [] M Q := by
  have n7 := h.1.1.n7
  have r6 := h.1.1.r6
  rw [B_182_0]
  simp (disch := omega) only [r_isLong, B_182_4, lAdd, addL, lMul, mulL, nMul, nI_add, subL, lSub, nSub, nDec, nCl, lCl, nVp, lVp, nLe, nLt, nEq, lLe, leL, lLt, ltL, eqL, lEq, nM1, nM2, litLt0, one01, zero01, oneNe0, xupE, xupA, xupK, xI_I, xS_I, xF_I, xJ_I, xI_R, xS_R, xF_R, xJ_R, xI_L, xS_L, xF_L, xJ_L, xcat_s, le46, ge16, or_true, true_or, false_or, or_false, eq_self, Option.toList_some, Option.toList_none, List.cons_append, List.nil_append, true_and, and_true, not_false_eq_true, not_true_eq_false, if_true, if_false]
  by_cases hx : inb x 0 60
  · rw [if_pos hx, if_pos (by decide)]
    rw [if_pos hx, if_pos hx] at hQ
    obtain ⟨n, hn, rfl⟩ := inb60 hx
    unfold S_days at hQ
    rw [cN_n (by omega)] at hQ
    by_cases h0 : n = 0
    · subst h0
      rw [if_pos (c := nI 0 = 0) rfl] at hQ
      rw [if_neg (fun z => z rfl)]
      simp (disch := omega) only [h.1.1.1.s, h.1.1.1.f, h.1.2.1.2.2.2, lAdd, addL, lMul, mulL, nMul, nI_add, subL, lSub, nSub, nDec, nCl, lCl, nVp, lVp, nLe, nLt, nEq, lLe, leL, lLt, ltL, eqL, lEq, nM1, nM2, litLt0, one01, zero01, oneNe0, xupE, xupA, xupK, xI_I, xS_I, xF_I, xJ_I, xI_R, xS_R, xF_R, xJ_R, xI_L, xS_L, xF_L, xJ_L, xcat_s, le46, ge16, or_true, true_or, false_or, or_false, eq_self, Option.toList_some, Option.toList_none, List.cons_append, List.nil_append, true_and, and_true, not_false_eq_true, not_true_eq_false, if_true, if_false]
      exact hQ M h.2 h.1
    · rw [if_neg (c := nI n = 0) (by rw [eqL (by omega) (by omega)]; exact h0)] at hQ
      simp (disch := omega) only [lAdd, addL, lMul, mulL, nMul, nI_add, subL, lSub, nSub, nDec, nCl, lCl, nVp, lVp, nLe, nLt, nEq, lLe, leL, lLt, ltL, eqL, lEq, nM1, nM2, litLt0, one01, zero01, oneNe0, xupE, xupA, xupK, xI_I, xS_I, xF_I, xJ_I, xI_R, xS_R, xF_R, xJ_R, xI_L, xS_L, xF_L, xJ_L, xcat_s, le46, ge16, or_true, true_or, false_or, or_false, eq_self, Option.toList_some, Option.toList_none, List.cons_append, List.nil_append, true_and, and_true, not_false_eq_true, not_true_eq_false, if_true, if_false, if_pos, h.1.1.1.s]
      refine r_copies h hi (by omega) ?_
      intro M1 h1
      simp (disch := omega) only [lAdd, addL, lMul, mulL, nMul, nI_add, subL, lSub, nSub, nDec, nCl, lCl, nVp, lVp, nLe, nLt, nEq, lLe, leL, lLt, ltL, eqL, lEq, nM1, nM2, litLt0, one01, zero01, oneNe0, xupE, xupA, xupK, xI_I, xS_I, xF_I, xJ_I, xI_R, xS_R, xF_R, xJ_R, xI_L, xS_L, xF_L, xJ_L, xcat_s, le46, ge16, or_true, true_or, false_or, or_false, eq_self, Option.toList_some, Option.toList_none, List.cons_append, List.nil_append, true_and, and_true, not_false_eq_true, not_true_eq_false, if_true, if_false, B_182_25, h1.2.1.s.s, h1.2.1.s.f, h1.2.1.v, h1.2.1.n, h1.2.1.r]
      refine q_goes (wet := tS (zT S) 1) h1 (Or.inr ⟨rfl, rfl⟩) hi.2.2.1 (by omega) ?_
      intro M2 h2
      simp (disch := omega) only [lAdd, addL, lMul, mulL, nMul, nI_add, subL, lSub, nSub, nDec, nCl, lCl, nVp, lVp, nLe, nLt, nEq, lLe, leL, lLt, ltL, eqL, lEq, nM1, nM2, litLt0, one01, zero01, oneNe0, xupE, xupA, xupK, xI_I, xS_I, xF_I, xJ_I, xI_R, xS_R, xF_R, xJ_R, xI_L, xS_L, xF_L, xJ_L, xcat_s, le46, ge16, or_true, true_or, false_or, or_false, eq_self, Option.toList_some, Option.toList_none, List.cons_append, List.nil_append, true_and, and_true, not_false_eq_true, not_true_eq_false, if_true, if_false, B_182_30, h2.2.1.s.s, h2.2.1.s.f, h2.2.1.v, h2.2.1.n, h2.2.1.r]
      refine q_records h2 hi ?_
      intro M3 e3 w3
      simp (disch := omega) only [lAdd, addL, lMul, mulL, nMul, nI_add, subL, lSub, nSub, nDec, nCl, lCl, nVp, lVp, nLe, nLt, nEq, lLe, leL, lLt, ltL, eqL, lEq, nM1, nM2, litLt0, one01, zero01, oneNe0, xupE, xupA, xupK, xI_I, xS_I, xF_I, xJ_I, xI_R, xS_R, xF_R, xJ_R, xI_L, xS_L, xF_L, xJ_L, xcat_s, le46, ge16, or_true, true_or, false_or, or_false, eq_self, Option.toList_some, Option.toList_none, List.cons_append, List.nil_append, true_and, and_true, not_false_eq_true, not_true_eq_false, if_true, if_false, B_182_34, w3.1.1.s, w3.1.1.f, w3.2.1.2.2.2]
      exact hQ M3 e3 w3
  · rw [if_neg hx, if_neg (by decide)]
    rw [if_neg hx, if_neg hx] at hQ
    exact hQ M h.2 h.1
