/-! dealt -/
section XDL
variable {M : XM} {t : Nat} {S : XS}
theorem CW.dl (h : CW M t S) : xS M 406 = (1, 0) ∧ xF M 406 0 = 407 ∧ xF M 406 1 = 415 ∧ xF M 406 2 = 424 ∧ xF M 406 3 = 432 ∧ xF M 406 4 = 433 ∧ xF M 406 5 = 434 ∧ xS M 407 = (44, 7) ∧ xS M 415 = (44, 8) ∧ xS M 424 = (44, 7) ∧ xS M 432 = (40, 7) ∧ xS M 433 = (40, 6) ∧ xS M 434 = (40, 7) := h.1.2.2.2.2.2.2.1.1
theorem CW.dl1 (h : CW M t S) {i : Nat} (hi : i < 7) : xF M 407 i = 408 + i ∧ xS M (408 + i) = (40, 6) := h.1.2.2.2.2.2.2.1.2.1 i hi
theorem CW.dl2 (h : CW M t S) {i : Nat} (hi : i < 8) : xF M 415 i = 416 + i ∧ xS M (416 + i) = (40, 64) := h.1.2.2.2.2.2.2.1.2.2.1 i hi
theorem CW.dl3 (h : CW M t S) {i : Nat} (hi : i < 7) : xF M 424 i = 425 + i ∧ xS M (425 + i) = (40, 6) := h.1.2.2.2.2.2.2.1.2.2.2 i hi
end XDL
def tab (T : XT) (F : XO) (l a : Nat) : Int32 := if oW F l = 1 ∧ oS F a = -2 then lkv T F l a else 0
/-- what a dealing step may write -/
def dP : Nat → Nat → Prop := fun a k => (a = 406 ∧ k = 6) ∨ (408 ≤ a ∧ a ≤ 434)
theorem CK.stepD {M0 M M' : XM} {t : Nat} {S : XS} (h : CK M0 t S M) (e : Ex dP M M') : CK M0 t S M' := h.step e fun a k q => by unfold dP at q; unfold cS; omega
theorem CK.wD {M0 M : XM} {t a k : Nat} {S : XS} (h : CK M0 t S M) (x : Int32) (hp : dP a k) : CK M0 t S (xmI M a k x) := h.stepD ((Ex.refl _ _).wr x hp)
theorem c_weigh {M0 M : XM} {t : Nat} {S : XS} {Q : Option Value → XM → Prop} (h : CK M0 t S M)
    (hQ : ∀ M' : XM, CK M0 t S M' → (∀ l a, l < tN (zT S) → a < tR (zT S) → xI M' (408 + l) a = tab (zT S) (zF S) l a) → (∀ l, l < tN (zT S) → xI M' 434 l = -2) → Q none M') :
    RG xprog 186 0 [some (.ref 406), some (.ref t), some (.ref 84), none, none, none] [] M Q := by
  have n7 := h.1.tx.n7
  have r6 := h.1.tx.r6
  have t2 := h.1.t2
  rw [B_186_0]
  refine x_for (tN (zT S)) (fun i (s : XM × Option Value × Option Value) => CK M0 t S s.1 ∧ (∀ l a, l < i → a < tR (zT S) → xI s.1 (408 + l) a = tab (zT S) (zF S) l a) ∧ ∀ l, l < i → xI s.1 434 l = -2) (fun i s => RG xprog 186 2 [some (.ref 406), some (.ref t), some (.ref 84), some (.int (nI i)), s.2.1, s.2.2] [] s.1 Q) ?_ ?_ 0 (M, none, none) (by omega) ⟨h, fun l a hl => by omega, fun l hl => by omega⟩
  · rintro ⟨M1, z1, z2⟩ ⟨k1, f1, g1⟩
    dsimp only at k1 f1 g1 ⊢
    rw [B_186_2]
    simp (disch := omega) only [k1.1.d, k1.1.tx.f, k1.1.tx.n, k1.1.tx.r, k1.1.of.f, k1.1.of.v, lAdd, addL, lMul, mulL, nMul, nI_add, subL, lSub, nSub, nDec, nCl, lCl, nVp, lVp, nLe, nLt, nEq, lLe, leL, lLt, ltL, eqL, lEq, nM1, nM2, litLt0, one01, zero01, oneNe0, xupE, xupA, xupK, xI_I, xS_I, xF_I, xJ_I, xI_R, xS_R, xF_R, xJ_R, xI_L, xS_L, xF_L, xJ_L, xcat_s, le46, ge16, or_true, true_or, false_or, or_false, eq_self, Option.toList_some, Option.toList_none, List.cons_append, List.nil_append, true_and, and_true, not_false_eq_true, not_true_eq_false, if_true, if_false, Nat.le_refl]
    exact hQ M1 k1 f1 g1
  · rintro l ⟨M1, z1, z2⟩ hl ⟨k1, f1, g1⟩ ih
    dsimp only at k1 f1 g1 ⊢
    rw [B_186_2]
    simp (disch := omega) only [k1.1.d, k1.1.tx.f, k1.1.tx.n, k1.1.tx.r, k1.1.of.f, k1.1.of.v, k1.1.dl, lAdd, addL, lMul, mulL, nMul, nI_add, subL, lSub, nSub, nDec, nCl, lCl, nVp, lVp, nLe, nLt, nEq, lLe, leL, lLt, ltL, eqL, lEq, nM1, nM2, litLt0, one01, zero01, oneNe0, xupE, xupA, xupK, xI_I, xS_I, xF_I, xJ_I, xI_R, xS_R, xF_R, xJ_R, xI_L, xS_L, xF_L, xJ_L, xcat_s, le46, ge16, or_true, true_or, false_or, or_false, eq_self, Option.toList_some, Option.toList_none, List.cons_append, List.nil_append, true_and, and_true, not_false_eq_true, not_true_eq_false, if_true, if_false, if_neg]
    refine x_for (tR (zT S)) (fun i (s : XM × Option Value) => CK M0 t S s.1 ∧ (∀ j a, j < l → a < tR (zT S) → xI s.1 (408 + j) a = tab (zT S) (zF S) j a) ∧ (∀ a, a < i → xI s.1 (408 + l) a = tab (zT S) (zF S) l a) ∧ ∀ j, j < l + 1 → xI s.1 434 j = -2) (fun i s => RG xprog 186 21 [some (.ref 406), some (.ref t), some (.ref 84), some (.int (nI l)), some (.int (nI i)), s.2] [] s.1 Q) ?_ ?_ 0 (xmI M1 434 l (-2), z2) (by omega) ⟨k1.wD _ (by unfold dP; omega), fun j a hj ha => by show xI (xmI M1 434 l (-2)) (408 + j) a = _; rw [xI_I, xupA _ _ _ _ (by omega)]; exact f1 j a hj ha, fun a ha => by omega, ?_⟩
    · rintro ⟨M2, z3⟩ ⟨k2, f2, f3, g2⟩
      dsimp only at k2 f2 f3 g2 ⊢
      rw [B_186_21]
      simp (disch := omega) only [k2.1.d, k2.1.tx.f, k2.1.tx.n, k2.1.tx.r, k2.1.of.f, k2.1.of.v, lAdd, addL, lMul, mulL, nMul, nI_add, subL, lSub, nSub, nDec, nCl, lCl, nVp, lVp, nLe, nLt, nEq, lLe, leL, lLt, ltL, eqL, lEq, nM1, nM2, litLt0, one01, zero01, oneNe0, xupE, xupA, xupK, xI_I, xS_I, xF_I, xJ_I, xI_R, xS_R, xF_R, xJ_R, xI_L, xS_L, xF_L, xJ_L, xcat_s, le46, ge16, or_true, true_or, false_or, or_false, eq_self, Option.toList_some, Option.toList_none, List.cons_append, List.nil_append, true_and, and_true, not_false_eq_true, not_true_eq_false, if_true, if_false, Nat.le_refl]
      refine ih (M2, _, _) ⟨k2, ?_, g2⟩
      intro j a hj ha
      by_cases q : j = l
      · rw [q]; exact f3 a ha
      · exact f2 j a (by omega) ha
    · rintro a ⟨M2, z3⟩ ha ⟨k2, f2, f3, g2⟩ ih2
      dsimp only at k2 f2 f3 g2 ⊢
      have put : ∀ (M3 : XM) (x5 : Int32), CK M0 t S M3 → Ex (tX t) M2 M3 → RG xprog 186 84 [some (.ref 406), some (.ref t), some (.ref 84), some (.int (nI l)), some (.int (nI a)), some (.int x5)] [.int (tab (zT S) (zF S) l a), .int (nI a), .ref (408 + l)] M3 Q := by
        intro M3 x5 k3 e3
        rw [B_186_84]
        simp (disch := omega) only [k3.1.dl1 (show l < 7 by omega), lAdd, addL, lMul, mulL, nMul, nI_add, subL, lSub, nSub, nDec, nCl, lCl, nVp, lVp, nLe, nLt, nEq, lLe, leL, lLt, ltL, eqL, lEq, nM1, nM2, litLt0, one01, zero01, oneNe0, xupE, xupA, xupK, xI_I, xS_I, xF_I, xJ_I, xI_R, xS_R, xF_R, xJ_R, xI_L, xS_L, xF_L, xJ_L, xcat_s, le46, ge16, or_true, true_or, false_or, or_false, eq_self, Option.toList_some, Option.toList_none, List.cons_append, List.nil_append, true_and, and_true, not_false_eq_true, not_true_eq_false, if_true, if_false]
        refine ih2 (xmI M3 (408 + l) a (tab (zT S) (zF S) l a), _) ⟨k3.wD _ (by unfold dP; omega), ?_, ?_, ?_⟩
        all_goals dsimp only
        · intro j b hj hb
          rw [xI_I, xupA _ _ _ _ (by omega), e3.I (by unfold tX; omega)]
          exact f2 j b hj hb
        · intro b hb
          rw [xI_I]
          by_cases q : b = a
          · rw [q, xupE]
          · rw [xupK _ _ q, e3.I (by unfold tX; omega)]
            exact f3 b (by omega)
        · intro j hj
          rw [xI_I, xupA _ _ _ _ (by omega), e3.I (by unfold tX; omega)]
          exact g2 j hj
      have zero : ¬ (oW (zF S) l = 1 ∧ oS (zF S) a = -2) → RG xprog 186 57 [some (.ref 406), some (.ref t), some (.ref 84), some (.int (nI l)), some (.int (nI a)), z3] [.int 0] M2 Q := by
        intro hz
        rw [B_186_57]
        simp (disch := omega) only [k2.1.dl, k2.1.dl1 (show l < 7 by omega), lAdd, addL, lMul, mulL, nMul, nI_add, subL, lSub, nSub, nDec, nCl, lCl, nVp, lVp, nLe, nLt, nEq, lLe, leL, lLt, ltL, eqL, lEq, nM1, nM2, litLt0, one01, zero01, oneNe0, xupE, xupA, xupK, xI_I, xS_I, xF_I, xJ_I, xI_R, xS_R, xF_R, xJ_R, xI_L, xS_L, xF_L, xJ_L, xcat_s, le46, ge16, or_true, true_or, false_or, or_false, eq_self, Option.toList_some, Option.toList_none, List.cons_append, List.nil_append, true_and, and_true, not_false_eq_true, not_true_eq_false, if_true, if_false]
        have := put M2 0 k2 (Ex.refl _ _)
        unfold tab at this
        rw [if_neg hz] at this
        exact this
      rw [B_186_21]
      simp (disch := omega) only [k2.1.d, k2.1.tx.f, k2.1.tx.n, k2.1.tx.r, k2.1.of.f, k2.1.of.v, lAdd, addL, lMul, mulL, nMul, nI_add, subL, lSub, nSub, nDec, nCl, lCl, nVp, lVp, nLe, nLt, nEq, lLe, leL, lLt, ltL, eqL, lEq, nM1, nM2, litLt0, one01, zero01, oneNe0, xupE, xupA, xupK, xI_I, xS_I, xF_I, xJ_I, xI_R, xS_R, xF_R, xJ_R, xI_L, xS_L, xF_L, xJ_L, xcat_s, le46, ge16, or_true, true_or, false_or, or_false, eq_self, Option.toList_some, Option.toList_none, List.cons_append, List.nil_append, true_and, and_true, not_false_eq_true, not_true_eq_false, if_true, if_false, if_neg]
      by_cases hw : oW (zF S) l = 1
      · rw [if_neg (fun q => q hw)]
        by_cases hs : oS (zF S) a = -2
        · rw [if_neg (fun q => q hs), B_186_57]
          simp (disch := omega) only [k2.1.dl, k2.1.dl1 (show l < 7 by omega), k2.1.d, k2.1.tx.f, k2.1.tx.n, k2.1.tx.r, k2.1.of.f, k2.1.of.v, lAdd, addL, lMul, mulL, nMul, nI_add, subL, lSub, nSub, nDec, nCl, lCl, nVp, lVp, nLe, nLt, nEq, lLe, leL, lLt, ltL, eqL, lEq, nM1, nM2, litLt0, one01, zero01, oneNe0, xupE, xupA, xupK, xI_I, xS_I, xF_I, xJ_I, xI_R, xS_R, xF_R, xJ_R, xI_L, xS_L, xF_L, xJ_L, xcat_s, le46, ge16, or_true, true_or, false_or, or_false, eq_self, Option.toList_some, Option.toList_none, List.cons_append, List.nil_append, true_and, and_true, not_false_eq_true, not_true_eq_false, if_true, if_false]
          refine c_likesOf k2.1.tx k2.1.of (by omega) (by omega) k2.1.sep ?_
          intro M3 e3
          simp (disch := omega) only [lAdd, addL, lMul, mulL, nMul, nI_add, subL, lSub, nSub, nDec, nCl, lCl, nVp, lVp, nLe, nLt, nEq, lLe, leL, lLt, ltL, eqL, lEq, nM1, nM2, litLt0, one01, zero01, oneNe0, xupE, xupA, xupK, xI_I, xS_I, xF_I, xJ_I, xI_R, xS_R, xF_R, xJ_R, xI_L, xS_L, xF_L, xJ_L, xcat_s, le46, ge16, or_true, true_or, false_or, or_false, eq_self, Option.toList_some, Option.toList_none, List.cons_append, List.nil_append, true_and, and_true, not_false_eq_true, not_true_eq_false, if_true, if_false, B_186_80]
          have := put M3 1 (k2.stepX e3) e3
          unfold tab at this
          rw [if_pos ⟨hw, hs⟩] at this
          exact this
        · rw [if_pos hs]
          exact zero fun q => hs q.2
      · rw [if_pos hw]
        exact zero fun q => hw q.1
    · intro j hj
      show xI (xmI M1 434 l (-2)) 434 j = -2
      rw [xI_I]
      by_cases q : j = l
      · rw [q, xupE]
      · rw [xupK _ _ q]; exact g1 j (by omega)
theorem r_fillsTable {M0 M : XM} {lv B : Nat} {S : XS} {Q : Option Value → XM → Prop} (h : RK M0 lv S M) (hi : SInv B S) (hB : B ≤ 99999)
    (hQ : ∀ M' : XM, RQ M0 lv S (zF S) (tS (zT S) 2) 0 M' → (∀ l a, l < tN (zT S) → a < tR (zT S) → xI M' 477 (6 * l + a) = tab (zT S) (zF S) l a) → Q none M') :
    RG xprog 195 0 [some (.ref 439), none, none] [] M Q := by
  have n7 := h.1.1.n7
  have r6 := h.1.1.r6
  have l2 := h.1.1.lv2
  rw [B_195_0]
  simp (disch := omega) only [h.1.1.1.s, lAdd, addL, lMul, mulL, nMul, nI_add, subL, lSub, nSub, nDec, nCl, lCl, nVp, lVp, nLe, nLt, nEq, lLe, leL, lLt, ltL, eqL, lEq, nM1, nM2, litLt0, one01, zero01, oneNe0, xupE, xupA, xupK, xI_I, xS_I, xF_I, xJ_I, xI_R, xS_R, xF_R, xJ_R, xI_L, xS_L, xF_L, xJ_L, xcat_s, le46, ge16, or_true, true_or, false_or, or_false, eq_self, Option.toList_some, Option.toList_none, List.cons_append, List.nil_append, true_and, and_true, not_false_eq_true, not_true_eq_false, if_true, if_false]
  refine r_copies h hi hB ?_
  intro M1 h1
  simp (disch := omega) only [lAdd, addL, lMul, mulL, nMul, nI_add, subL, lSub, nSub, nDec, nCl, lCl, nVp, lVp, nLe, nLt, nEq, lLe, leL, lLt, ltL, eqL, lEq, nM1, nM2, litLt0, one01, zero01, oneNe0, xupE, xupA, xupK, xI_I, xS_I, xF_I, xJ_I, xI_R, xS_R, xF_R, xJ_R, xI_L, xS_L, xF_L, xJ_L, xcat_s, le46, ge16, or_true, true_or, false_or, or_false, eq_self, Option.toList_some, Option.toList_none, List.cons_append, List.nil_append, true_and, and_true, not_false_eq_true, not_true_eq_false, if_true, if_false, B_195_4]
  have wT : ∀ (M2 : XM) (k : Nat) (x : Int32), RQ M0 lv S (zF S) (tS (zT S) 2) 0 M2 → RQ M0 lv S (zF S) (tS (zT S) 2) 0 (xmI M2 477 k x) := by
    intro M2 k x h2
    have e : Ex (fun a k => a = 477) M2 (xmI M2 477 k x) := (Ex.refl _ _).wr _ rfl
    refine ⟨h2.1.step e (fun a k q => by unfold rS; omega), h2.2.1.ex e (fun a k q => by unfold rNT; omega), ?_, ?_⟩
    · rw [e.I (by omega)]; exact h2.2.2.1
    · rw [e.I (by omega)]; exact h2.2.2.2
  refine x_for (tN (zT S)) (fun i (s : XM × Option Value) => RQ M0 lv S (zF S) (tS (zT S) 2) 0 s.1 ∧ ∀ l a, l < i → a < tR (zT S) → xI s.1 477 (6 * l + a) = tab (zT S) (zF S) l a) (fun i s => RG xprog 195 6 [some (.ref 439), some (.int (nI i)), s.2] [] s.1 Q) ?_ ?_ 0 (M1, none) (by omega) ⟨h1, fun l a hl => by omega⟩
  · rintro ⟨M2, z⟩ ⟨k1, f1⟩
    dsimp only at k1 f1 ⊢
    rw [B_195_6]
    simp (disch := omega) only [k1.2.1.s.s, k1.2.1.s.f, k1.2.1.v, k1.2.1.n, k1.2.1.r, lAdd, addL, lMul, mulL, nMul, nI_add, subL, lSub, nSub, nDec, nCl, lCl, nVp, lVp, nLe, nLt, nEq, lLe, leL, lLt, ltL, eqL, lEq, nM1, nM2, litLt0, one01, zero01, oneNe0, xupE, xupA, xupK, xI_I, xS_I, xF_I, xJ_I, xI_R, xS_R, xF_R, xJ_R, xI_L, xS_L, xF_L, xJ_L, xcat_s, le46, ge16, or_true, true_or, false_or, or_false, eq_self, Option.toList_some, Option.toList_none, List.cons_append, List.nil_append, true_and, and_true, not_false_eq_true, not_true_eq_false, if_true, if_false, Nat.le_refl]
    exact hQ M2 k1 f1
  · rintro l ⟨M2, z⟩ hl ⟨k1, f1⟩ ih
    dsimp only at k1 f1 ⊢
    rw [B_195_6]
    simp (disch := omega) only [k1.2.1.s.s, k1.2.1.s.f, k1.2.1.v, k1.2.1.n, k1.2.1.r, lAdd, addL, lMul, mulL, nMul, nI_add, subL, lSub, nSub, nDec, nCl, lCl, nVp, lVp, nLe, nLt, nEq, lLe, leL, lLt, ltL, eqL, lEq, nM1, nM2, litLt0, one01, zero01, oneNe0, xupE, xupA, xupK, xI_I, xS_I, xF_I, xJ_I, xI_R, xS_R, xF_R, xJ_R, xI_L, xS_L, xF_L, xJ_L, xcat_s, le46, ge16, or_true, true_or, false_or, or_false, eq_self, Option.toList_some, Option.toList_none, List.cons_append, List.nil_append, true_and, and_true, not_false_eq_true, not_true_eq_false, if_true, if_false, if_neg]
    refine x_for (tR (zT S)) (fun i M3 => RQ M0 lv S (zF S) (tS (zT S) 2) 0 M3 ∧ (∀ j a, j < l → a < tR (zT S) → xI M3 477 (6 * j + a) = tab (zT S) (zF S) j a) ∧ ∀ a, a < i → xI M3 477 (6 * l + a) = tab (zT S) (zF S) l a) (fun i M3 => RG xprog 195 21 [some (.ref 439), some (.int (nI l)), some (.int (nI i))] [] M3 Q) ?_ ?_ 0 M2 (by omega) ⟨k1, f1, fun a ha => by omega⟩
    · intro M3 ⟨k2, f2, f3⟩
      rw [B_195_21]
      simp (disch := omega) only [k2.2.1.s.s, k2.2.1.s.f, k2.2.1.v, k2.2.1.n, k2.2.1.r, lAdd, addL, lMul, mulL, nMul, nI_add, subL, lSub, nSub, nDec, nCl, lCl, nVp, lVp, nLe, nLt, nEq, lLe, leL, lLt, ltL, eqL, lEq, nM1, nM2, litLt0, one01, zero01, oneNe0, xupE, xupA, xupK, xI_I, xS_I, xF_I, xJ_I, xI_R, xS_R, xF_R, xJ_R, xI_L, xS_L, xF_L, xJ_L, xcat_s, le46, ge16, or_true, true_or, false_or, or_false, eq_self, Option.toList_some, Option.toList_none, List.cons_append, List.nil_append, true_and, and_true, not_false_eq_true, not_true_eq_false, if_true, if_false, Nat.le_refl]
      refine ih (M3, _) ⟨k2, ?_⟩
      intro j a hj ha
      by_cases q : j = l
      · rw [q]; exact f3 a ha
      · exact f2 j a (by omega) ha
    · intro a M3 ha ⟨k2, f2, f3⟩ ih2
      have put : ∀ M4 : XM, RQ M0 lv S (zF S) (tS (zT S) 2) 0 M4 → Ex rL M3 M4 → RG xprog 195 72 [some (.ref 439), some (.int (nI l)), some (.int (nI a))] [.int (tab (zT S) (zF S) l a), .int (nI (6 * l + a)), .ref 477] M4 Q := by
        intro M4 k4 e4
        rw [B_195_72]
        simp (disch := omega) only [k4.2.1.s.s, k4.2.1.s.f, k4.2.1.v, k4.2.1.n, k4.2.1.r, lAdd, addL, lMul, mulL, nMul, nI_add, subL, lSub, nSub, nDec, nCl, lCl, nVp, lVp, nLe, nLt, nEq, lLe, leL, lLt, ltL, eqL, lEq, nM1, nM2, litLt0, one01, zero01, oneNe0, xupE, xupA, xupK, xI_I, xS_I, xF_I, xJ_I, xI_R, xS_R, xF_R, xJ_R, xI_L, xS_L, xF_L, xJ_L, xcat_s, le46, ge16, or_true, true_or, false_or, or_false, eq_self, Option.toList_some, Option.toList_none, List.cons_append, List.nil_append, true_and, and_true, not_false_eq_true, not_true_eq_false, if_true, if_false]
        refine ih2 _ ⟨wT _ _ _ k4, ?_, ?_⟩
        · intro j b hj hb
          rw [xI_I, xupK _ _ (by omega), e4.I (by unfold rL; omega)]
          exact f2 j b hj hb
        · intro b hb
          rw [xI_I]
          by_cases q : b = a
          · rw [q, xupE]
          · rw [xupK _ _ (by omega), e4.I (by unfold rL; omega)]
            exact f3 b (by omega)
      rw [B_195_21]
      simp (disch := omega) only [k2.2.1.s.s, k2.2.1.s.f, k2.2.1.v, k2.2.1.n, k2.2.1.r, lAdd, addL, lMul, mulL, nMul, nI_add, subL, lSub, nSub, nDec, nCl, lCl, nVp, lVp, nLe, nLt, nEq, lLe, leL, lLt, ltL, eqL, lEq, nM1, nM2, litLt0, one01, zero01, oneNe0, xupE, xupA, xupK, xI_I, xS_I, xF_I, xJ_I, xI_R, xS_R, xF_R, xJ_R, xI_L, xS_L, xF_L, xJ_L, xcat_s, le46, ge16, or_true, true_or, false_or, or_false, eq_self, Option.toList_some, Option.toList_none, List.cons_append, List.nil_append, true_and, and_true, not_false_eq_true, not_true_eq_false, if_true, if_false, if_neg, k2.2.1.l (show l < 7 by omega), r_isFree k2.2.1 (show a < 6 by omega), B_195_59]
      by_cases hw : oW (zF S) l = 1
      · rw [if_neg (fun q => q hw)]
        by_cases hs : oS (zF S) a = -2
        · rw [if_pos hs, if_neg (by decide)]
          refine r_likesOf k2.2.1 hl ha ?_
          intro M4 e4
          simp (disch := omega) only [lAdd, addL, lMul, mulL, nMul, nI_add, subL, lSub, nSub, nDec, nCl, lCl, nVp, lVp, nLe, nLt, nEq, lLe, leL, lLt, ltL, eqL, lEq, nM1, nM2, litLt0, one01, zero01, oneNe0, xupE, xupA, xupK, xI_I, xS_I, xF_I, xJ_I, xI_R, xS_R, xF_R, xJ_R, xI_L, xS_L, xF_L, xJ_L, xcat_s, le46, ge16, or_true, true_or, false_or, or_false, eq_self, Option.toList_some, Option.toList_none, List.cons_append, List.nil_append, true_and, and_true, not_false_eq_true, not_true_eq_false, if_true, if_false, B_195_68]
          have := put M4 (k2.stepL e4) e4
          unfold tab at this
          rw [if_pos ⟨hw, hs⟩] at this
          exact this
        · rw [if_neg hs, if_pos rfl]
          have := put M3 k2 (Ex.refl _ _)
          unfold tab at this
          rw [if_neg (fun q => hs q.2)] at this
          exact this
      · rw [if_pos hw]
        have := put M3 k2 (Ex.refl _ _)
        unfold tab at this
        rw [if_neg (fun q => hw q.1)] at this
        exact this
