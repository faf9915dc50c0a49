/-! a text that is cleared -/
theorem c_addStep {M : XM} {w n : Nat} {x : Int32} {Q : Option Value → XM → Prop} (h : LawSh M w) (hs : xI M w 1 = nI n) (hn : n < 400) :
    RG xprog 21 0 [some (.ref w), some (.int x)] [] M Q = Q none (xmI (xmI M (w + 1) n x) w 1 (nI (n + 1))) := by
  obtain ⟨h1, h2, h3, h4⟩ := h
  rw [B_21_0]
  simp (disch := omega) only [h1, h2, h3, hs, lAdd, addL, lMul, mulL, nMul, nI_add, subL, lSub, nSub, nDec, nCl, lCl, nVp, lVp, nLe, nLt, nEq, lLe, leL, lLt, ltL, eqL, lEq, nM1, nM2, litLt0, one01, zero01, oneNe0, xupE, xupA, xupK, xI_I, xS_I, xF_I, xJ_I, xI_R, xS_R, xF_R, xJ_R, xI_L, xS_L, xF_L, xJ_L, xcat_s, le46, ge16, or_true, true_or, false_or, or_false, eq_self, Option.toList_some, Option.toList_none, List.cons_append, List.nil_append, true_and, and_true, not_false_eq_true, not_true_eq_false, if_true, if_false, if_neg, B_21_30]
def tC (t : Nat) : Nat → Nat → Prop := fun a k => (a = t ∧ (k = 0 ∨ k = 1 ∨ k = 7)) ∨ a = t + 16 ∨ (t + 21 ≤ a ∧ a ≤ t + 28)
/-- what a cleared text holds -/
def TClr (M : XM) (t : Nat) : Prop := (xI M t 0 = 0 ∧ xI M t 1 = 0 ∧ xI M t 7 = 0 ∧ ∀ i, i < 3 → xI M (t + 16) i = 0) ∧ (xI M (t + 21) 1 = nI 3 ∧ xI M (t + 22) 0 = 10 ∧ xI M (t + 22) 1 = -1 ∧ xI M (t + 22) 2 = -11) ∧ (xI M (t + 23) 1 = nI 1 ∧ xI M (t + 24) 0 = -5) ∧ (xI M (t + 25) 1 = nI 1 ∧ xI M (t + 26) 0 = 0) ∧ xI M (t + 27) 1 = nI 1 ∧ xI M (t + 28) 0 = 0
theorem c_clear {M : XM} {t : Nat} {Q : Option Value → XM → Prop} (h : TxtSh M t) (hQ : ∀ M' : XM, Ex (tC t) M M' → TClr M' t → Q none M') :
    RG xprog 22 0 [some (.ref t), none] [] M Q := by
  obtain ⟨hf, hl, hm, hw⟩ := h
  rw [B_22_0]
  simp (disch := omega) only [hf, lAdd, addL, lMul, mulL, nMul, nI_add, subL, lSub, nSub, nDec, nCl, lCl, nVp, lVp, nLe, nLt, nEq, lLe, leL, lLt, ltL, eqL, lEq, nM1, nM2, litLt0, one01, zero01, oneNe0, xupE, xupA, xupK, xI_I, xS_I, xF_I, xJ_I, xI_R, xS_R, xF_R, xJ_R, xI_L, xS_L, xF_L, xJ_L, xcat_s, le46, ge16, or_true, true_or, false_or, or_false, eq_self, Option.toList_some, Option.toList_none, List.cons_append, List.nil_append, true_and, and_true, not_false_eq_true, not_true_eq_false, if_true, if_false]
  refine x_for 3 (fun i (M1 : XM) => Ex (tC t) M M1 ∧ xI M1 t 0 = 0 ∧ xI M1 t 1 = 0 ∧ xI M1 t 7 = 0 ∧ ∀ j, j < i → xI M1 (t + 16) j = 0) (fun i M1 => RG xprog 22 17 [some (.ref t), some (.int (nI i))] [] M1 Q) ?_ ?_ 0 (xmI (xmI (xmI M t 0 0) t 1 0) t 7 0) (by omega) ⟨(((Ex.refl _ _).wr _ (Or.inl ⟨rfl, Or.inl rfl⟩)).wr _ (Or.inl ⟨rfl, Or.inr (Or.inl rfl)⟩)).wr _ (Or.inl ⟨rfl, Or.inr (Or.inr rfl)⟩), ?_, ?_, ?_, fun j hj => by omega⟩
  rotate_left 2
  · rw [xI_I, xupK _ _ (by omega), xI_I, xupK _ _ (by omega), xI_I, xupE]
  · rw [xI_I, xupK _ _ (by omega), xI_I, xupE]
  · rw [xI_I, xupE]
  · intro M1 ⟨e1, f0, f1, f7, f16⟩
    rw [B_22_17, e1.S, e1.F]
    simp (disch := omega) only [hf, lAdd, addL, lMul, mulL, nMul, nI_add, subL, lSub, nSub, nDec, nCl, lCl, nVp, lVp, nLe, nLt, nEq, lLe, leL, lLt, ltL, eqL, lEq, nM1, nM2, litLt0, one01, zero01, oneNe0, xupE, xupA, xupK, xI_I, xS_I, xF_I, xJ_I, xI_R, xS_R, xF_R, xJ_R, xI_L, xS_L, xF_L, xJ_L, xcat_s, le46, ge16, or_true, true_or, false_or, or_false, eq_self, Option.toList_some, Option.toList_none, List.cons_append, List.nil_append, true_and, and_true, not_false_eq_true, not_true_eq_false, if_true, if_false, if_pos]
    refine ⟨by omega, ?_⟩
    refine x_for 4 (fun i (M2 : XM) => Ex (tC t) M M2 ∧ xI M2 t 0 = 0 ∧ xI M2 t 1 = 0 ∧ xI M2 t 7 = 0 ∧ (∀ j, j < 3 → xI M2 (t + 16) j = 0) ∧ ∀ k, k < i → xI M2 (t + 21 + 2 * k) 1 = 0) (fun i M2 => RG xprog 22 41 [some (.ref t), some (.int (nI i))] [] M2 Q) ?_ ?_ 0 M1 (by omega) ⟨e1, f0, f1, f7, f16, fun k hk => by omega⟩
    · intro M2 ⟨e2, g0, g1, g7, g16, gl⟩
      have w0 : xF M (t + 17) 0 = t + 21 := (hw 0 (by omega)).1
      have w1 : xF M (t + 17) 1 = t + 23 := (hw 1 (by omega)).1
      have w2 : xF M (t + 17) 2 = t + 25 := (hw 2 (by omega)).1
      have w3 : xF M (t + 17) 3 = t + 27 := (hw 3 (by omega)).1
      have L : ∀ w, LawSh M w → ∀ N : XM, xS N = xS M → xF N = xF M → LawSh N w := by
        intro w hk N q1 q2
        unfold LawSh
        rw [q1, q2]
        exact hk
      have s0 : LawSh M (t + 21) := (hw 0 (by omega)).2
      have s1 : LawSh M (t + 23) := (hw 1 (by omega)).2
      have s2 : LawSh M (t + 25) := (hw 2 (by omega)).2
      have s3 : LawSh M (t + 27) := (hw 3 (by omega)).2
      have l0 : xI M2 (t + 21) 1 = nI 0 := gl 0 (by omega)
      have l1 : xI M2 (t + 23) 1 = nI 0 := gl 1 (by omega)
      have l2 : xI M2 (t + 25) 1 = nI 0 := gl 2 (by omega)
      have l3 : xI M2 (t + 27) 1 = nI 0 := gl 3 (by omega)
      have eS := e2.S
      have eF := e2.F
      have a3 : ∀ x, t + 21 ≤ x → x ≤ t + 28 → ∀ k, tC t x k := fun x q1 q2 k => Or.inr (Or.inr ⟨q1, q2⟩)
      rw [B_22_41]
      simp (disch := omega) only [eS, eF, hf, w0, s0.1, lAdd, addL, lMul, mulL, nMul, nI_add, subL, lSub, nSub, nDec, nCl, lCl, nVp, lVp, nLe, nLt, nEq, lLe, leL, lLt, ltL, eqL, lEq, nM1, nM2, litLt0, one01, zero01, oneNe0, xupE, xupA, xupK, xI_I, xS_I, xF_I, xJ_I, xI_R, xS_R, xF_R, xJ_R, xI_L, xS_L, xF_L, xJ_L, xcat_s, le46, ge16, or_true, true_or, false_or, or_false, eq_self, Option.toList_some, Option.toList_none, List.cons_append, List.nil_append, true_and, and_true, not_false_eq_true, not_true_eq_false, if_true, if_false, if_pos]
      rw [c_addStep (L _ s0 M2 eS eF) l0 (by omega), show t + 21 + 1 = t + 22 from rfl]
      have e3 : Ex (tC t) M (xmI (xmI M2 (t + 22) 0 10) (t + 21) 1 (nI (0 + 1))) := (e2.wr _ (a3 _ (by omega) (by omega) _)).wr _ (a3 _ (by omega) (by omega) _)
      have g3 : xI (xmI (xmI M2 (t + 22) 0 10) (t + 21) 1 (nI (0 + 1))) (t + 21) 1 = nI 1 := by rw [xI_I, xupE]
      have p3 : xI (xmI (xmI M2 (t + 22) 0 10) (t + 21) 1 (nI (0 + 1))) (t + 22) 0 = 10 := by rw [xI_I, xupA _ _ _ _ (by omega), xI_I, xupE]
      have r3 : ∀ a k, (a < t + 21 ∨ t + 22 < a) → xI (xmI (xmI M2 (t + 22) 0 10) (t + 21) 1 (nI (0 + 1))) a k = xI M2 a k := fun a k q => by rw [xI_I, xupA _ _ _ _ (by omega), xI_I, xupA _ _ _ _ (by omega)]
      generalize xmI (xmI M2 (t + 22) 0 10) (t + 21) 1 (nI (0 + 1)) = M3 at e3 g3 p3 r3 ⊢
      simp (disch := omega) only [Option.toList_none, List.nil_append]
      rw [B_22_73]
      simp (disch := omega) only [e3.S, e3.F, hf, w0, s0.1, lAdd, addL, lMul, mulL, nMul, nI_add, subL, lSub, nSub, nDec, nCl, lCl, nVp, lVp, nLe, nLt, nEq, lLe, leL, lLt, ltL, eqL, lEq, nM1, nM2, litLt0, one01, zero01, oneNe0, xupE, xupA, xupK, xI_I, xS_I, xF_I, xJ_I, xI_R, xS_R, xF_R, xJ_R, xI_L, xS_L, xF_L, xJ_L, xcat_s, le46, ge16, or_true, true_or, false_or, or_false, eq_self, Option.toList_some, Option.toList_none, List.cons_append, List.nil_append, true_and, and_true, not_false_eq_true, not_true_eq_false, if_true, if_false]
      rw [c_addStep (L _ s0 M3 e3.S e3.F) g3 (by omega), show t + 21 + 1 = t + 22 from rfl]
      have e4 : Ex (tC t) M (xmI (xmI M3 (t + 22) 1 (-1)) (t + 21) 1 (nI (1 + 1))) := (e3.wr _ (a3 _ (by omega) (by omega) _)).wr _ (a3 _ (by omega) (by omega) _)
      have g4 : xI (xmI (xmI M3 (t + 22) 1 (-1)) (t + 21) 1 (nI (1 + 1))) (t + 21) 1 = nI 2 := by rw [xI_I, xupE]
      have p4 : xI (xmI (xmI M3 (t + 22) 1 (-1)) (t + 21) 1 (nI (1 + 1))) (t + 22) 0 = 10 := by rw [xI_I, xupA _ _ _ _ (by omega), xI_I, xupK _ _ (by omega)]; exact p3
      have q4 : xI (xmI (xmI M3 (t + 22) 1 (-1)) (t + 21) 1 (nI (1 + 1))) (t + 22) 1 = -1 := by rw [xI_I, xupA _ _ _ _ (by omega), xI_I, xupE]
      have r4 : ∀ a k, (a < t + 21 ∨ t + 22 < a) → xI (xmI (xmI M3 (t + 22) 1 (-1)) (t + 21) 1 (nI (1 + 1))) a k = xI M2 a k := fun a k q => by rw [xI_I, xupA _ _ _ _ (by omega), xI_I, xupA _ _ _ _ (by omega)]; exact r3 a k q
      generalize xmI (xmI M3 (t + 22) 1 (-1)) (t + 21) 1 (nI (1 + 1)) = M4 at e4 g4 p4 q4 r4 ⊢
      simp (disch := omega) only [Option.toList_none, List.nil_append]
      rw [B_22_83]
      simp (disch := omega) only [e4.S, e4.F, hf, w0, s0.1, lAdd, addL, lMul, mulL, nMul, nI_add, subL, lSub, nSub, nDec, nCl, lCl, nVp, lVp, nLe, nLt, nEq, lLe, leL, lLt, ltL, eqL, lEq, nM1, nM2, litLt0, one01, zero01, oneNe0, xupE, xupA, xupK, xI_I, xS_I, xF_I, xJ_I, xI_R, xS_R, xF_R, xJ_R, xI_L, xS_L, xF_L, xJ_L, xcat_s, le46, ge16, or_true, true_or, false_or, or_false, eq_self, Option.toList_some, Option.toList_none, List.cons_append, List.nil_append, true_and, and_true, not_false_eq_true, not_true_eq_false, if_true, if_false]
      rw [c_addStep (L _ s0 M4 e4.S e4.F) g4 (by omega), show t + 21 + 1 = t + 22 from rfl]
      have e5 : Ex (tC t) M (xmI (xmI M4 (t + 22) 2 (-11)) (t + 21) 1 (nI (2 + 1))) := (e4.wr _ (a3 _ (by omega) (by omega) _)).wr _ (a3 _ (by omega) (by omega) _)
      have g5 : xI (xmI (xmI M4 (t + 22) 2 (-11)) (t + 21) 1 (nI (2 + 1))) (t + 21) 1 = nI 3 := by rw [xI_I, xupE]
      have p5 : xI (xmI (xmI M4 (t + 22) 2 (-11)) (t + 21) 1 (nI (2 + 1))) (t + 22) 0 = 10 := by rw [xI_I, xupA _ _ _ _ (by omega), xI_I, xupK _ _ (by omega)]; exact p4
      have q5 : xI (xmI (xmI M4 (t + 22) 2 (-11)) (t + 21) 1 (nI (2 + 1))) (t + 22) 1 = -1 := by rw [xI_I, xupA _ _ _ _ (by omega), xI_I, xupK _ _ (by omega)]; exact q4
      have o5 : xI (xmI (xmI M4 (t + 22) 2 (-11)) (t + 21) 1 (nI (2 + 1))) (t + 22) 2 = -11 := by rw [xI_I, xupA _ _ _ _ (by omega), xI_I, xupE]
      have r5 : ∀ a k, (a < t + 21 ∨ t + 22 < a) → xI (xmI (xmI M4 (t + 22) 2 (-11)) (t + 21) 1 (nI (2 + 1))) a k = xI M2 a k := fun a k q => by rw [xI_I, xupA _ _ _ _ (by omega), xI_I, xupA _ _ _ _ (by omega)]; exact r4 a k q
      generalize xmI (xmI M4 (t + 22) 2 (-11)) (t + 21) 1 (nI (2 + 1)) = M5 at e5 g5 p5 q5 o5 r5 ⊢
      simp (disch := omega) only [Option.toList_none, List.nil_append]
      rw [B_22_94]
      simp (disch := omega) only [e5.S, e5.F, hf, w1, s1.1, lAdd, addL, lMul, mulL, nMul, nI_add, subL, lSub, nSub, nDec, nCl, lCl, nVp, lVp, nLe, nLt, nEq, lLe, leL, lLt, ltL, eqL, lEq, nM1, nM2, litLt0, one01, zero01, oneNe0, xupE, xupA, xupK, xI_I, xS_I, xF_I, xJ_I, xI_R, xS_R, xF_R, xJ_R, xI_L, xS_L, xF_L, xJ_L, xcat_s, le46, ge16, or_true, true_or, false_or, or_false, eq_self, Option.toList_some, Option.toList_none, List.cons_append, List.nil_append, true_and, and_true, not_false_eq_true, not_true_eq_false, if_true, if_false]
      rw [c_addStep (L _ s1 M5 e5.S e5.F) (by rw [r5 _ _ (by omega)]; exact l1) (by omega), show t + 23 + 1 = t + 24 from rfl]
      have e6 : Ex (tC t) M (xmI (xmI M5 (t + 24) 0 (-5)) (t + 23) 1 (nI (0 + 1))) := (e5.wr _ (a3 _ (by omega) (by omega) _)).wr _ (a3 _ (by omega) (by omega) _)
      have g6 : xI (xmI (xmI M5 (t + 24) 0 (-5)) (t + 23) 1 (nI (0 + 1))) (t + 23) 1 = nI 1 ∧ xI (xmI (xmI M5 (t + 24) 0 (-5)) (t + 23) 1 (nI (0 + 1))) (t + 24) 0 = -5 := ⟨by rw [xI_I, xupE], by rw [xI_I, xupA _ _ _ _ (by omega), xI_I, xupE]⟩
      have r6 : ∀ a k, (a < t + 23 ∨ t + 24 < a) → xI (xmI (xmI M5 (t + 24) 0 (-5)) (t + 23) 1 (nI (0 + 1))) a k = xI M5 a k := fun a k q => by rw [xI_I, xupA _ _ _ _ (by omega), xI_I, xupA _ _ _ _ (by omega)]
      generalize xmI (xmI M5 (t + 24) 0 (-5)) (t + 23) 1 (nI (0 + 1)) = M6 at e6 g6 r6 ⊢
      simp (disch := omega) only [Option.toList_none, List.nil_append]
      rw [B_22_105]
      simp (disch := omega) only [e6.S, e6.F, hf, w2, s2.1, lAdd, addL, lMul, mulL, nMul, nI_add, subL, lSub, nSub, nDec, nCl, lCl, nVp, lVp, nLe, nLt, nEq, lLe, leL, lLt, ltL, eqL, lEq, nM1, nM2, litLt0, one01, zero01, oneNe0, xupE, xupA, xupK, xI_I, xS_I, xF_I, xJ_I, xI_R, xS_R, xF_R, xJ_R, xI_L, xS_L, xF_L, xJ_L, xcat_s, le46, ge16, or_true, true_or, false_or, or_false, eq_self, Option.toList_some, Option.toList_none, List.cons_append, List.nil_append, true_and, and_true, not_false_eq_true, not_true_eq_false, if_true, if_false]
      rw [c_addStep (L _ s2 M6 e6.S e6.F) (by rw [r6 _ _ (by omega), r5 _ _ (by omega)]; exact l2) (by omega), show t + 25 + 1 = t + 26 from rfl]
      have e7 : Ex (tC t) M (xmI (xmI M6 (t + 26) 0 0) (t + 25) 1 (nI (0 + 1))) := (e6.wr _ (a3 _ (by omega) (by omega) _)).wr _ (a3 _ (by omega) (by omega) _)
      have g7' : xI (xmI (xmI M6 (t + 26) 0 0) (t + 25) 1 (nI (0 + 1))) (t + 25) 1 = nI 1 ∧ xI (xmI (xmI M6 (t + 26) 0 0) (t + 25) 1 (nI (0 + 1))) (t + 26) 0 = 0 := ⟨by rw [xI_I, xupE], by rw [xI_I, xupA _ _ _ _ (by omega), xI_I, xupE]⟩
      have r7 : ∀ a k, (a < t + 25 ∨ t + 26 < a) → xI (xmI (xmI M6 (t + 26) 0 0) (t + 25) 1 (nI (0 + 1))) a k = xI M6 a k := fun a k q => by rw [xI_I, xupA _ _ _ _ (by omega), xI_I, xupA _ _ _ _ (by omega)]
      generalize xmI (xmI M6 (t + 26) 0 0) (t + 25) 1 (nI (0 + 1)) = M7 at e7 g7' r7 ⊢
      simp (disch := omega) only [Option.toList_none, List.nil_append]
      rw [B_22_115]
      simp (disch := omega) only [e7.S, e7.F, hf, w3, s3.1, lAdd, addL, lMul, mulL, nMul, nI_add, subL, lSub, nSub, nDec, nCl, lCl, nVp, lVp, nLe, nLt, nEq, lLe, leL, lLt, ltL, eqL, lEq, nM1, nM2, litLt0, one01, zero01, oneNe0, xupE, xupA, xupK, xI_I, xS_I, xF_I, xJ_I, xI_R, xS_R, xF_R, xJ_R, xI_L, xS_L, xF_L, xJ_L, xcat_s, le46, ge16, or_true, true_or, false_or, or_false, eq_self, Option.toList_some, Option.toList_none, List.cons_append, List.nil_append, true_and, and_true, not_false_eq_true, not_true_eq_false, if_true, if_false]
      rw [c_addStep (L _ s3 M7 e7.S e7.F) (by rw [r7 _ _ (by omega), r6 _ _ (by omega), r5 _ _ (by omega)]; exact l3) (by omega), show t + 27 + 1 = t + 28 from rfl]
      have e8 : Ex (tC t) M (xmI (xmI M7 (t + 28) 0 0) (t + 27) 1 (nI (0 + 1))) := (e7.wr _ (a3 _ (by omega) (by omega) _)).wr _ (a3 _ (by omega) (by omega) _)
      have g8 : xI (xmI (xmI M7 (t + 28) 0 0) (t + 27) 1 (nI (0 + 1))) (t + 27) 1 = nI 1 ∧ xI (xmI (xmI M7 (t + 28) 0 0) (t + 27) 1 (nI (0 + 1))) (t + 28) 0 = 0 := ⟨by rw [xI_I, xupE], by rw [xI_I, xupA _ _ _ _ (by omega), xI_I, xupE]⟩
      have r8 : ∀ a k, (a < t + 27 ∨ t + 28 < a) → xI (xmI (xmI M7 (t + 28) 0 0) (t + 27) 1 (nI (0 + 1))) a k = xI M7 a k := fun a k q => by rw [xI_I, xupA _ _ _ _ (by omega), xI_I, xupA _ _ _ _ (by omega)]
      generalize xmI (xmI M7 (t + 28) 0 0) (t + 27) 1 (nI (0 + 1)) = M8 at e8 g8 r8 ⊢
      simp (disch := omega) only [Option.toList_none, List.nil_append]
      rw [B_22_125]
      have b2 : ∀ a k, a < t + 21 → xI M8 a k = xI M2 a k := fun a k q => by rw [r8 _ _ (by omega), r7 _ _ (by omega), r6 _ _ (by omega), r5 _ _ (by omega)]
      have b5 : ∀ a k, a < t + 23 → xI M8 a k = xI M5 a k := fun a k q => by rw [r8 _ _ (by omega), r7 _ _ (by omega), r6 _ _ (by omega)]
      refine hQ M8 e8 ⟨⟨by rw [b2 _ _ (by omega)]; exact g0, by rw [b2 _ _ (by omega)]; exact g1, by rw [b2 _ _ (by omega)]; exact g7, fun i hi => by rw [b2 _ _ (by omega)]; exact g16 i hi⟩, ⟨by rw [b5 _ _ (by omega)]; exact g5, by rw [b5 _ _ (by omega)]; exact p5, by rw [b5 _ _ (by omega)]; exact q5, by rw [b5 _ _ (by omega)]; exact o5⟩, ⟨?_, ?_⟩, ⟨?_, ?_⟩, g8⟩
      · rw [r8 _ _ (by omega), r7 _ _ (by omega)]; exact g6.1
      · rw [r8 _ _ (by omega), r7 _ _ (by omega)]; exact g6.2
      · rw [r8 _ _ (by omega)]; exact g7'.1
      · rw [r8 _ _ (by omega)]; exact g7'.2
    · intro i M2 hi ⟨e2, g0, g1, g7, g16, gl⟩ ih
      obtain ⟨v1, v2⟩ := hw i hi
      rw [B_22_41, e2.S, e2.F]
      simp (disch := omega) only [hf, v1, v2.1, v2.2.2.2, lAdd, addL, lMul, mulL, nMul, nI_add, subL, lSub, nSub, nDec, nCl, lCl, nVp, lVp, nLe, nLt, nEq, lLe, leL, lLt, ltL, eqL, lEq, nM1, nM2, litLt0, one01, zero01, oneNe0, xupE, xupA, xupK, xI_I, xS_I, xF_I, xJ_I, xI_R, xS_R, xF_R, xJ_R, xI_L, xS_L, xF_L, xJ_L, xcat_s, le46, ge16, or_true, true_or, false_or, or_false, eq_self, Option.toList_some, Option.toList_none, List.cons_append, List.nil_append, true_and, and_true, not_false_eq_true, not_true_eq_false, if_true, if_false, if_neg]
      refine ih _ ⟨e2.wr _ (Or.inr (Or.inr ⟨by omega, by omega⟩)), ?_, ?_, ?_, ?_, ?_⟩
      · rw [xI_I, xupA _ _ _ _ (by omega)]; exact g0
      · rw [xI_I, xupA _ _ _ _ (by omega)]; exact g1
      · rw [xI_I, xupA _ _ _ _ (by omega)]; exact g7
      · intro j hj
        rw [xI_I, xupA _ _ _ _ (by omega)]; exact g16 j hj
      · intro k hk
        rw [xI_I]
        by_cases q : k = i
        · rw [q, xupE]
        · rw [xupA _ _ _ _ (by omega)]; exact gl k (by omega)
  · intro i M1 hi ⟨e1, f0, f1, f7, f16⟩ ih
    rw [B_22_17, e1.S, e1.F]
    simp (disch := omega) only [hf, lAdd, addL, lMul, mulL, nMul, nI_add, subL, lSub, nSub, nDec, nCl, lCl, nVp, lVp, nLe, nLt, nEq, lLe, leL, lLt, ltL, eqL, lEq, nM1, nM2, litLt0, one01, zero01, oneNe0, xupE, xupA, xupK, xI_I, xS_I, xF_I, xJ_I, xI_R, xS_R, xF_R, xJ_R, xI_L, xS_L, xF_L, xJ_L, xcat_s, le46, ge16, or_true, true_or, false_or, or_false, eq_self, Option.toList_some, Option.toList_none, List.cons_append, List.nil_append, true_and, and_true, not_false_eq_true, not_true_eq_false, if_true, if_false, if_neg]
    refine ⟨by omega, ?_⟩
    refine ih _ ⟨e1.wr _ (Or.inr (Or.inl rfl)), ?_, ?_, ?_, ?_⟩
    · rw [xI_I, xupA _ _ _ _ (by omega)]; exact f0
    · rw [xI_I, xupA _ _ _ _ (by omega)]; exact f1
    · rw [xI_I, xupA _ _ _ _ (by omega)]; exact f7
    · intro j hj
      rw [xI_I]
      by_cases q : j = i
      · rw [q, xupE]
      · rw [xupK _ _ q]; exact f16 j (by omega)
