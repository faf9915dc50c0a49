/-! the reference's reading: one tell -/
section XRN
variable {n : Nat} {c : Nat → Nat} {m : Nat} {O : Nat × Int32 × YS} {M : XM} {t : Nat} {Q : Option Value → XM → Prop} {sd : Nat}
theorem r_tellOne (hm : MT n c m) (hs : sd < 2) (h : TL n c m O M sd t) (k0 : ¬ tkK n c (tpos n c t) = 0) (hQ : ∀ (M' : XM) (t' : Nat), E3 (gT sd) gJ noF M M' → TL n c m O M' sd t' → t < t' → Q none M') (hF : ∀ M' : XM, E3 (gT sd) gJ noF M M' → FA O M' → Q none M') : RG xprog 106 0 [some (.ref 439), none, none] [] M Q := by
  by_cases k13 : tkK n c (tpos n c t) = 13
  · exact t_letter hm hs h k13 hQ hF
  by_cases k14 : tkK n c (tpos n c t) = 14
  · exact t_reader hm hs h k14 hQ hF
  by_cases k19 : tkK n c (tpos n c t) = 19 ∨ tkK n c (tpos n c t) = 20 ∨ tkK n c (tpos n c t) = 21
  · exact t_sets hm hs h k19 hQ hF
  have k33 := tkK_le (n := n) (c := c) (j := tpos n c t)
  by_cases k15 : 15 ≤ tkK n c (tpos n c t) ∧ tkK n c (tpos n c t) ≤ 18
  · have tl := t_law hm hs h k15 hQ hF
    obtain ⟨tk, fd, ifs, ne, pe, X, W, l, z, sk, ra, rd, wm, lt⟩ := h
    have t4 : t ≤ 400 := by have := ra.2.2.1; have := hm.1; omega
    have kd := ra.kind hm
    have go : ∀ j, j < 4 → xI M 442 t = nI (22 + j) → RG xprog 106 393 [some (.ref 439), some (.int (nI j)), none] [] M Q → RG xprog 106 0 [some (.ref 439), none, none] [] M Q := by
      intro j hj kj hg
      have e357 : RG xprog 106 357 [some (.ref 439), none, none] [] M Q := by
        rw [B_106_357]
        simp (disch := omega) only [lAdd, addL, lMul, mulL, nMul, nI_add, subL, lSub, nSub, nDec, nCl, lCl, nVp, lVp, nLe, nLt, nEq, lLe, leL, lLt, ltL, eqL, lEq, nM1, nM2, litLt0, one01, zero01, oneNe0, xupE, xupA, xupK, xI_I, xS_I, xF_I, xJ_I, xI_R, xS_R, xF_R, xJ_R, xI_L, xS_L, xF_L, xJ_L, xcat_s, le46, ge16, or_true, true_or, false_or, or_false, eq_self, Option.toList_some, Option.toList_none, List.cons_append, List.nil_append, true_and, and_true, not_false_eq_true, not_true_eq_false, if_true, if_false, ra.1.s, ra.1.f, ra.2.2.2.1, kj, if_neg, if_pos]
        rw [show 22 + j - 22 = j by omega]
        exact hg
      rw [B_106_0]
      have : j = 0 ∨ j = 1 ∨ j = 2 ∨ j = 3 := by omega
      rcases this with q | q | q | q
      · subst q; simp (disch := omega) only [lAdd, addL, lMul, mulL, nMul, nI_add, subL, lSub, nSub, nDec, nCl, lCl, nVp, lVp, nLe, nLt, nEq, lLe, leL, lLt, ltL, eqL, lEq, nM1, nM2, litLt0, one01, zero01, oneNe0, xupE, xupA, xupK, xI_I, xS_I, xF_I, xJ_I, xI_R, xS_R, xF_R, xJ_R, xI_L, xS_L, xF_L, xJ_L, xcat_s, le46, ge16, or_true, true_or, false_or, or_false, eq_self, Option.toList_some, Option.toList_none, List.cons_append, List.nil_append, true_and, and_true, not_false_eq_true, not_true_eq_false, if_true, if_false, ra.1.s, ra.1.f, ra.2.2.2.1, kj, if_pos, if_neg]; exact e357
      · subst q; simp (disch := omega) only [lAdd, addL, lMul, mulL, nMul, nI_add, subL, lSub, nSub, nDec, nCl, lCl, nVp, lVp, nLe, nLt, nEq, lLe, leL, lLt, ltL, eqL, lEq, nM1, nM2, litLt0, one01, zero01, oneNe0, xupE, xupA, xupK, xI_I, xS_I, xF_I, xJ_I, xI_R, xS_R, xF_R, xJ_R, xI_L, xS_L, xF_L, xJ_L, xcat_s, le46, ge16, or_true, true_or, false_or, or_false, eq_self, Option.toList_some, Option.toList_none, List.cons_append, List.nil_append, true_and, and_true, not_false_eq_true, not_true_eq_false, if_true, if_false, ra.1.s, ra.1.f, ra.2.2.2.1, kj, if_pos, if_neg]; exact e357
      · subst q; simp (disch := omega) only [lAdd, addL, lMul, mulL, nMul, nI_add, subL, lSub, nSub, nDec, nCl, lCl, nVp, lVp, nLe, nLt, nEq, lLe, leL, lLt, ltL, eqL, lEq, nM1, nM2, litLt0, one01, zero01, oneNe0, xupE, xupA, xupK, xI_I, xS_I, xF_I, xJ_I, xI_R, xS_R, xF_R, xJ_R, xI_L, xS_L, xF_L, xJ_L, xcat_s, le46, ge16, or_true, true_or, false_or, or_false, eq_self, Option.toList_some, Option.toList_none, List.cons_append, List.nil_append, true_and, and_true, not_false_eq_true, not_true_eq_false, if_true, if_false, ra.1.s, ra.1.f, ra.2.2.2.1, kj, if_pos, if_neg]; exact e357
      · subst q; simp (disch := omega) only [lAdd, addL, lMul, mulL, nMul, nI_add, subL, lSub, nSub, nDec, nCl, lCl, nVp, lVp, nLe, nLt, nEq, lLe, leL, lLt, ltL, eqL, lEq, nM1, nM2, litLt0, one01, zero01, oneNe0, xupE, xupA, xupK, xI_I, xS_I, xF_I, xJ_I, xI_R, xS_R, xF_R, xJ_R, xI_L, xS_L, xF_L, xJ_L, xcat_s, le46, ge16, or_true, true_or, false_or, or_false, eq_self, Option.toList_some, Option.toList_none, List.cons_append, List.nil_append, true_and, and_true, not_false_eq_true, not_true_eq_false, if_true, if_false, ra.1.s, ra.1.f, ra.2.2.2.1, kj, if_pos, if_neg]; exact e357
    refine go (tkK n c (tpos n c t) - 15) (by omega) ?_ tl
    rw [kd]
    unfold k2r
    rw [if_neg (by omega)]
    congr 1; omega
  obtain ⟨tk, fd, ifs, ne, pe, ⟨mm, a, r, nm, L, R, S⟩, W, l, z, sk, ra, rd, wm, lt⟩ := h
  have t4 : t ≤ 400 := by have := ra.2.2.1; have := hm.1; omega
  have kd := ra.kind hm
  have kl := k2r_le k33
  have kb : k2r (tkK n c (tpos n c t)) < 20 ∨ 29 ≤ k2r (tkK n c (tpos n c t)) := by
    have : ∀ k : Fin 34, (k.val < 13 ∨ 21 < k.val) → (k2r k.val < 20 ∨ 29 ≤ k2r k.val) := by decide
    exact this ⟨tkK n c (tpos n c t), by omega⟩ (by show tkK n c (tpos n c t) < 13 ∨ 21 < tkK n c (tpos n c t); omega)
  have ys : (yst n c t ((0, tk, fd, ifs, ne, pe), (mm, a, r, nm, L, R, S), (W, 4, l, z, sk))).1 = 0 := by
    rw [yst_0]
    unfold ytell
    dsimp only
    rw [if_neg k0, if_neg k13, if_neg k14, if_neg k15, if_neg (by omega)]
  have f393 : ∀ (x : Int32) (M1 : XM), FA O M1 → Q none M1 → RG xprog 106 393 [some (.ref 439), some (.int x), none] [] M1 Q := by
    intro x M1 f1 q1
    obtain ⟨s1, f', g2', g3', g4', g5'⟩ := f1
    rw [B_106_393]
    simp (disch := omega) only [lAdd, addL, lMul, mulL, nMul, nI_add, subL, lSub, nSub, nDec, nCl, lCl, nVp, lVp, nLe, nLt, nEq, lLe, leL, lLt, ltL, eqL, lEq, nM1, nM2, litLt0, one01, zero01, oneNe0, xupE, xupA, xupK, xI_I, xS_I, xF_I, xJ_I, xI_R, xS_R, xF_R, xJ_R, xI_L, xS_L, xF_L, xJ_L, xcat_s, le46, ge16, or_true, true_or, false_or, or_false, eq_self, Option.toList_some, Option.toList_none, List.cons_append, List.nil_append, true_and, and_true, not_false_eq_true, not_true_eq_false, if_true, if_false, s1.s, g3', if_neg]
    exact q1
  have f388 : ∀ (x : Int32), RG xprog 106 388 [some (.ref 439), some (.int x), none] [] M Q := by
    intro x
    rw [B_106_388, ra.1.s.1]
    refine ⟨rfl, ?_⟩
    refine r_fail0 hm ra rfl ys ?_
    intro M1 e1 f1
    simp (disch := omega) only [lAdd, addL, lMul, mulL, nMul, nI_add, subL, lSub, nSub, nDec, nCl, lCl, nVp, lVp, nLe, nLt, nEq, lLe, leL, lLt, ltL, eqL, lEq, nM1, nM2, litLt0, one01, zero01, oneNe0, xupE, xupA, xupK, xI_I, xS_I, xF_I, xJ_I, xI_R, xS_R, xF_R, xJ_R, xI_L, xS_L, xF_L, xJ_L, xcat_s, le46, ge16, or_true, true_or, false_or, or_false, eq_self, Option.toList_some, Option.toList_none, List.cons_append, List.nil_append, true_and, and_true, not_false_eq_true, not_true_eq_false, if_true, if_false]
    exact f393 x M1 f1 (hF M1 (g1_T e1) f1)
  generalize k2r (tkK n c (tpos n c t)) = kk at *
  have e357 : RG xprog 106 357 [some (.ref 439), none, none] [] M Q := by
    rw [B_106_357]
    simp (disch := omega) only [lAdd, addL, lMul, mulL, nMul, nI_add, subL, lSub, nSub, nDec, nCl, lCl, nVp, lVp, nLe, nLt, nEq, lLe, leL, lLt, ltL, eqL, lEq, nM1, nM2, litLt0, one01, zero01, oneNe0, xupE, xupA, xupK, xI_I, xS_I, xF_I, xJ_I, xI_R, xS_R, xF_R, xJ_R, xI_L, xS_L, xF_L, xJ_L, xcat_s, le46, ge16, or_true, true_or, false_or, or_false, eq_self, Option.toList_some, Option.toList_none, List.cons_append, List.nil_append, true_and, and_true, not_false_eq_true, not_true_eq_false, if_true, if_false, ra.1.s, ra.1.f, ra.2.2.2.1, kd]
    rcases kb with q | q
    · have lt0 : nI kk - 22 < 0 := by
        have : ∀ k : Fin 20, nI k.val - 22 < 0 := by decide
        exact this ⟨kk, q⟩
      rw [if_pos lt0]
      exact f388 _
    · simp (disch := omega) only [lAdd, addL, lMul, mulL, nMul, nI_add, subL, lSub, nSub, nDec, nCl, lCl, nVp, lVp, nLe, nLt, nEq, lLe, leL, lLt, ltL, eqL, lEq, nM1, nM2, litLt0, one01, zero01, oneNe0, xupE, xupA, xupK, xI_I, xS_I, xF_I, xJ_I, xI_R, xS_R, xF_R, xJ_R, xI_L, xS_L, xF_L, xJ_L, xcat_s, le46, ge16, or_true, true_or, false_or, or_false, eq_self, Option.toList_some, Option.toList_none, List.cons_append, List.nil_append, true_and, and_true, not_false_eq_true, not_true_eq_false, if_true, if_false, if_neg]
      exact f388 _
  rw [B_106_0]
  simp (disch := omega) only [lAdd, addL, lMul, mulL, nMul, nI_add, subL, lSub, nSub, nDec, nCl, lCl, nVp, lVp, nLe, nLt, nEq, lLe, leL, lLt, ltL, eqL, lEq, nM1, nM2, litLt0, one01, zero01, oneNe0, xupE, xupA, xupK, xI_I, xS_I, xF_I, xJ_I, xI_R, xS_R, xF_R, xJ_R, xI_L, xS_L, xF_L, xJ_L, xcat_s, le46, ge16, or_true, true_or, false_or, or_false, eq_self, Option.toList_some, Option.toList_none, List.cons_append, List.nil_append, true_and, and_true, not_false_eq_true, not_true_eq_false, if_true, if_false, ra.1.s, ra.1.f, ra.2.2.2.1, kd, if_neg]
  exact e357
end XRN
