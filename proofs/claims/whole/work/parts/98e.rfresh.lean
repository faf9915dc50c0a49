/-! the reference that is just made -/
theorem r_begins {M : XM} {lv : Nat} {T : XT} {Q : Option Value → XM → Prop} (h : RW M lv T)
    (hQ : ∀ M' : XM, Ex (fun a k => a = 473 ∨ (a = 439 ∧ (k = 52 ∨ k = 53))) M M' → RowIs T (xI M' 473) (openF T) → Q none M') :
    RG xprog 28 0 [some (.ref 439), none] [] M Q := by
  have l2 := h.lv2
  have r6 := h.r6
  rw [B_28_0]
  refine x_for 34 (fun i (M1 : XM) => Ex (fun a _ => a = 473) M M1 ∧ ∀ k, k < i → xI M1 473 k = 0) (fun i M1 => RG xprog 28 2 [some (.ref 439), some (.int (nI i))] [] M1 Q) ?_ ?_ 0 M (by omega) ⟨Ex.refl _ _, fun k hk => by omega⟩
  · intro M1 ⟨e1, f1⟩
    rw [B_28_2]
    simp (disch := omega) only [lAdd, addL, lMul, mulL, nMul, nI_add, subL, lSub, nSub, nDec, nCl, lCl, nVp, lVp, nLe, nLt, nEq, lLe, leL, lLt, ltL, eqL, lEq, nM1, nM2, litLt0, one01, zero01, oneNe0, xupE, xupA, xupK, xI_I, xS_I, xF_I, xJ_I, xI_R, xS_R, xF_R, xJ_R, xI_L, xS_L, xF_L, xJ_L, xcat_s, le46, ge16, or_true, true_or, false_or, or_false, eq_self, Option.toList_some, Option.toList_none, List.cons_append, List.nil_append, true_and, and_true, not_false_eq_true, not_true_eq_false, if_true, if_false, if_pos]
    refine x_for 7 (fun i (M2 : XM) => Ex (fun a _ => a = 473) M M2 ∧ (∀ k, k < 34 → ¬ (7 ≤ k ∧ k < 7 + i) → xI M2 473 k = 0) ∧ ∀ k, k < i → xI M2 473 (7 + k) = -2) (fun i M2 => RG xprog 28 23 [some (.ref 439), some (.int (nI i))] [] M2 Q) ?_ ?_ 0 M1 (by omega) ⟨e1, fun k hk _ => f1 k hk, fun k hk => by omega⟩
    · intro M2 ⟨e2, f2, g2⟩
      rw [B_28_23]
      simp (disch := omega) only [lAdd, addL, lMul, mulL, nMul, nI_add, subL, lSub, nSub, nDec, nCl, lCl, nVp, lVp, nLe, nLt, nEq, lLe, leL, lLt, ltL, eqL, lEq, nM1, nM2, litLt0, one01, zero01, oneNe0, xupE, xupA, xupK, xI_I, xS_I, xF_I, xJ_I, xI_R, xS_R, xF_R, xJ_R, xI_L, xS_L, xF_L, xJ_L, xcat_s, le46, ge16, or_true, true_or, false_or, or_false, eq_self, Option.toList_some, Option.toList_none, List.cons_append, List.nil_append, true_and, and_true, not_false_eq_true, not_true_eq_false, if_true, if_false, if_pos]
      refine x_for (tR T) (fun i (M3 : XM) => Ex (fun a _ => a = 473) M M3 ∧ (∀ k, k < 34 → ¬ (7 ≤ k ∧ k < 14) → ¬ (21 ≤ k ∧ k < 21 + i) → xI M3 473 k = 0) ∧ (∀ k, k < 7 → xI M3 473 (7 + k) = -2) ∧ ∀ k, k < i → xI M3 473 (21 + k) = tM T k 0) (fun i M3 => RG xprog 28 48 [some (.ref 439), some (.int (nI i))] [] M3 Q) ?_ ?_ 0 M2 (by omega) ⟨e2, fun k hk q _ => f2 k hk q, g2, fun k hk => by omega⟩
      · intro M3 ⟨e3, f3, g3, m3⟩
        have h3 := h.ex e3 (by intro a k q; unfold rNT; omega)
        rw [B_28_48]
        simp (disch := omega) only [h3.1.s, h3.1.f, h3.v, h3.r, lAdd, addL, lMul, mulL, nMul, nI_add, subL, lSub, nSub, nDec, nCl, lCl, nVp, lVp, nLe, nLt, nEq, lLe, leL, lLt, ltL, eqL, lEq, nM1, nM2, litLt0, one01, zero01, oneNe0, xupE, xupA, xupK, xI_I, xS_I, xF_I, xJ_I, xI_R, xS_R, xF_R, xJ_R, xI_L, xS_L, xF_L, xJ_L, xcat_s, le46, ge16, or_true, true_or, false_or, or_false, eq_self, Option.toList_some, Option.toList_none, List.cons_append, List.nil_append, true_and, and_true, not_false_eq_true, not_true_eq_false, if_true, if_false, Nat.le_refl]
        refine hQ _ (((e3.mono fun a k q => Or.inl q).wr _ (Or.inr ⟨rfl, Or.inl rfl⟩)).wr _ (Or.inr ⟨rfl, Or.inr rfl⟩)) ?_
        rw [xI_I, xupR _ _ _ (by omega), xI_I, xupR _ _ _ (by omega)]
        refine ⟨fun l hl => ⟨f3 l (by omega) (by omega) (by omega), ?_, f3 (14 + l) (by omega) (by omega) (by omega)⟩, fun a ha => ?_, fun a ha => f3 (27 + a) (by omega) (by omega) (by omega), f3 33 (by omega) (by omega) (by omega)⟩
        · rw [g3 l hl]
          exact (if_pos hl : oH (openF T) l = -2).symm
        · rw [m3 a ha]
          exact (if_pos (by omega) : oA (openF T) a = tM T a 0).symm
      · intro i M3 hi ⟨e3, f3, g3, m3⟩ ih
        have h3 := h.ex e3 (by intro a k q; unfold rNT; omega)
        have hm := (h3.2.1.2.2.2.2.2.1 i hi).1
        rw [B_28_48]
        simp (disch := omega) only [h3.1.s, h3.1.f, h3.v, h3.r, hm, lAdd, addL, lMul, mulL, nMul, nI_add, subL, lSub, nSub, nDec, nCl, lCl, nVp, lVp, nLe, nLt, nEq, lLe, leL, lLt, ltL, eqL, lEq, nM1, nM2, litLt0, one01, zero01, oneNe0, xupE, xupA, xupK, xI_I, xS_I, xF_I, xJ_I, xI_R, xS_R, xF_R, xJ_R, xI_L, xS_L, xF_L, xJ_L, xcat_s, le46, ge16, or_true, true_or, false_or, or_false, eq_self, Option.toList_some, Option.toList_none, List.cons_append, List.nil_append, true_and, and_true, not_false_eq_true, not_true_eq_false, if_true, if_false, if_neg]
        refine ih _ ⟨e3.wr _ rfl, ?_, ?_, ?_⟩
        · intro k hk q1 q2
          rw [xI_I, xupK _ _ (by omega)]
          exact f3 k hk q1 (by omega)
        · intro k hk
          rw [xI_I, xupK _ _ (by omega)]
          exact g3 k hk
        · intro k hk
          rw [xI_I]
          by_cases q : k = i
          · rw [q, xupE]
          · rw [xupK _ _ (by omega)]; exact m3 k (by omega)
    · intro i M2 hi ⟨e2, f2, g2⟩ ih
      have h2 := h.ex e2 (by intro a k q; unfold rNT; omega)
      rw [B_28_23]
      simp (disch := omega) only [h2.1.s, h2.1.f, lAdd, addL, lMul, mulL, nMul, nI_add, subL, lSub, nSub, nDec, nCl, lCl, nVp, lVp, nLe, nLt, nEq, lLe, leL, lLt, ltL, eqL, lEq, nM1, nM2, litLt0, one01, zero01, oneNe0, xupE, xupA, xupK, xI_I, xS_I, xF_I, xJ_I, xI_R, xS_R, xF_R, xJ_R, xI_L, xS_L, xF_L, xJ_L, xcat_s, le46, ge16, or_true, true_or, false_or, or_false, eq_self, Option.toList_some, Option.toList_none, List.cons_append, List.nil_append, true_and, and_true, not_false_eq_true, not_true_eq_false, if_true, if_false, if_neg]
      refine ih _ ⟨e2.wr _ rfl, ?_, ?_⟩
      · intro k hk q
        rw [xI_I, xupK _ _ (by omega)]
        exact f2 k hk (by omega)
      · intro k hk
        rw [xI_I]
        by_cases q : k = i
        · rw [q, xupE]
        · rw [xupK _ _ (by omega)]; exact g2 k (by omega)
  · intro i M1 hi ⟨e1, f1⟩ ih
    have h1 := h.ex e1 (by intro a k q; unfold rNT; omega)
    rw [B_28_2]
    simp (disch := omega) only [h1.1.s, h1.1.f, lAdd, addL, lMul, mulL, nMul, nI_add, subL, lSub, nSub, nDec, nCl, lCl, nVp, lVp, nLe, nLt, nEq, lLe, leL, lLt, ltL, eqL, lEq, nM1, nM2, litLt0, one01, zero01, oneNe0, xupE, xupA, xupK, xI_I, xS_I, xF_I, xJ_I, xI_R, xS_R, xF_R, xJ_R, xI_L, xS_L, xF_L, xJ_L, xcat_s, le46, ge16, or_true, true_or, false_or, or_false, eq_self, Option.toList_some, Option.toList_none, List.cons_append, List.nil_append, true_and, and_true, not_false_eq_true, not_true_eq_false, if_true, if_false, if_neg]
    refine ih _ ⟨e1.wr _ rfl, ?_⟩
    intro k hk
    rw [xI_I]
    by_cases q : k = i
    · rw [q, xupE]
    · rw [xupK _ _ q]; exact f1 k (by omega)
