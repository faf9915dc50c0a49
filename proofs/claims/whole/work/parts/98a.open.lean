/-! an office that is opened -/
def openF (T : XT) : XO := (0, fun _ => 0, fun k => if k < 7 then -2 else 0, fun _ => 0, fun k => if k < 6 then tM T k 0 else 0, fun k => if k < 6 then -2 else 0, fun _ => 0)
theorem c_open {M : XM} {t o : Nat} {T : XT} {Q : Option Value → XM → Prop} (hT : TxtAt M t T) (hO : OffC M o) (sep : o + 7 ≤ t ∨ t + 29 ≤ o)
    (hQ : ∀ M' : XM, Ex (fun a _ => o ≤ a ∧ a < o + 7) M M' → OffIs M' o (openF T) → Q none M') :
    RG xprog 23 0 [some (.ref o), some (.ref t), none] [] M Q := by
  obtain ⟨hA, hc1, hc2⟩ := hO
  have h16 := hA.ge
  rw [B_23_0]
  simp (disch := omega) only [hA.s, lAdd, addL, lMul, mulL, nMul, nI_add, subL, lSub, nSub, nDec, nCl, lCl, nVp, lVp, nLe, nLt, nEq, lLe, leL, lLt, ltL, eqL, lEq, nM1, nM2, litLt0, one01, zero01, oneNe0, xupE, xupA, xupK, xI_I, xS_I, xF_I, xJ_I, xI_R, xS_R, xF_R, xJ_R, xI_L, xS_L, xF_L, xJ_L, xcat_s, le46, ge16, or_true, true_or, false_or, or_false, eq_self, Option.toList_some, Option.toList_none, List.cons_append, List.nil_append, true_and, and_true, not_false_eq_true, not_true_eq_false, if_true, if_false]
  have Z : ∀ k, 7 ≤ k → xI M (o + 1) k = 0 ∧ xI M (o + 2) k = 0 ∧ xI M (o + 3) k = 0 := hc1
  have Y : ∀ k, 6 ≤ k → xI M (o + 4) k = 0 ∧ xI M (o + 5) k = 0 ∧ xI M (o + 6) k = 0 := hc2
  refine x_for 7 (fun i (M1 : XM) => Ex (fun a _ => o ≤ a ∧ a < o + 7) M M1 ∧ xI M1 o 0 = 0 ∧ (∀ k, 4 ≤ k → k < 7 → xI M1 (o + k) = xI M (o + k)) ∧ (∀ k, 7 ≤ k → xI M1 (o + 1) k = 0 ∧ xI M1 (o + 2) k = 0 ∧ xI M1 (o + 3) k = 0) ∧ ∀ k, k < i → xI M1 (o + 1) k = 0 ∧ xI M1 (o + 2) k = -2 ∧ xI M1 (o + 3) k = 0) (fun i M1 => RG xprog 23 7 [some (.ref o), some (.ref t), some (.int (nI i))] [] M1 Q) ?_ ?_ 0 (xmI M o 0 0) (by omega) ⟨(Ex.refl _ _).wr _ ⟨by omega, by omega⟩, by rw [xI_I, xupE], fun k q1 q2 => by rw [xI_I]; exact xup_n _ _ _ (by omega), fun k hk => by rw [xI_I, xupA _ _ _ _ (by omega), xupA _ _ _ _ (by omega), xupA _ _ _ _ (by omega)]; exact Z k hk, fun k hk => by omega⟩
  · intro M1 ⟨e1, d1, u1, z1, f1⟩
    have A1 := hA.ex e1
    rw [B_23_7]
    simp (disch := omega) only [lAdd, addL, lMul, mulL, nMul, nI_add, subL, lSub, nSub, nDec, nCl, lCl, nVp, lVp, nLe, nLt, nEq, lLe, leL, lLt, ltL, eqL, lEq, nM1, nM2, litLt0, one01, zero01, oneNe0, xupE, xupA, xupK, xI_I, xS_I, xF_I, xJ_I, xI_R, xS_R, xF_R, xJ_R, xI_L, xS_L, xF_L, xJ_L, xcat_s, le46, ge16, or_true, true_or, false_or, or_false, eq_self, Option.toList_some, Option.toList_none, List.cons_append, List.nil_append, true_and, and_true, not_false_eq_true, not_true_eq_false, if_true, if_false, if_pos]
    refine x_for 6 (fun i (M2 : XM) => Ex (fun a _ => o ≤ a ∧ a < o + 7) M M2 ∧ xI M2 o 0 = 0 ∧ (∀ k, 1 ≤ k → k < 4 → xI M2 (o + k) = xI M1 (o + k)) ∧ (∀ k, 6 ≤ k → xI M2 (o + 4) k = 0 ∧ xI M2 (o + 5) k = 0 ∧ xI M2 (o + 6) k = 0) ∧ ∀ k, k < i → xI M2 (o + 4) k = tM T k 0 ∧ xI M2 (o + 5) k = -2 ∧ xI M2 (o + 6) k = 0) (fun i M2 => RG xprog 23 43 [some (.ref o), some (.ref t), some (.int (nI i))] [] M2 Q) ?_ ?_ 0 M1 (by omega) ⟨e1, d1, fun k _ _ => rfl, fun k hk => by rw [u1 4 (by omega) (by omega), u1 5 (by omega) (by omega), u1 6 (by omega) (by omega)]; exact Y k hk, fun k hk => by omega⟩
    · intro M2 ⟨e2, d2, u2, z2, f2⟩
      rw [B_23_43]
      simp (disch := omega) only [lAdd, addL, lMul, mulL, nMul, nI_add, subL, lSub, nSub, nDec, nCl, lCl, nVp, lVp, nLe, nLt, nEq, lLe, leL, lLt, ltL, eqL, lEq, nM1, nM2, litLt0, one01, zero01, oneNe0, xupE, xupA, xupK, xI_I, xS_I, xF_I, xJ_I, xI_R, xS_R, xF_R, xJ_R, xI_L, xS_L, xF_L, xJ_L, xcat_s, le46, ge16, or_true, true_or, false_or, or_false, eq_self, Option.toList_some, Option.toList_none, List.cons_append, List.nil_append, true_and, and_true, not_false_eq_true, not_true_eq_false, if_true, if_false, if_pos]
      refine hQ M2 e2 ⟨hA.ex e2, ?_⟩
      have r1 : xI M2 (o + 1) = fun _ => 0 := by
        rw [u2 1 (by omega) (by omega)]
        funext k
        by_cases q : k < 7
        · exact (f1 k q).1
        · exact (z1 k (by omega)).1
      have r2 : xI M2 (o + 2) = fun k => if k < 7 then -2 else 0 := by
        rw [u2 2 (by omega) (by omega)]
        funext k
        by_cases q : k < 7
        · rw [if_pos q]; exact (f1 k q).2.1
        · rw [if_neg q]; exact (z1 k (by omega)).2.1
      have r3 : xI M2 (o + 3) = fun _ => 0 := by
        rw [u2 3 (by omega) (by omega)]
        funext k
        by_cases q : k < 7
        · exact (f1 k q).2.2
        · exact (z1 k (by omega)).2.2
      have r4 : xI M2 (o + 4) = fun k => if k < 6 then tM T k 0 else 0 := by
        funext k
        by_cases q : k < 6
        · rw [if_pos q]; exact (f2 k q).1
        · rw [if_neg q]; exact (z2 k (by omega)).1
      have r5 : xI M2 (o + 5) = fun k => if k < 6 then -2 else 0 := by
        funext k
        by_cases q : k < 6
        · rw [if_pos q]; exact (f2 k q).2.1
        · rw [if_neg q]; exact (z2 k (by omega)).2.1
      have r6 : xI M2 (o + 6) = fun _ => 0 := by
        funext k
        by_cases q : k < 6
        · exact (f2 k q).2.2
        · exact (z2 k (by omega)).2.2
      unfold offOf openF
      rw [d2, r1, r2, r3, r4, r5, r6]
    · intro i M2 hi ⟨e2, d2, u2, z2, f2⟩ ih
      have A2 := hA.ex e2
      have T2 : TxtAt M2 t T := hT.ex e2 (by intro a k q; omega)
      rw [B_23_43]
      simp (disch := omega) only [T2.f, T2.a hi, T2.rm hi, A2.s, A2.f4, A2.s4, lAdd, addL, lMul, mulL, nMul, nI_add, subL, lSub, nSub, nDec, nCl, lCl, nVp, lVp, nLe, nLt, nEq, lLe, leL, lLt, ltL, eqL, lEq, nM1, nM2, litLt0, one01, zero01, oneNe0, xupE, xupA, xupK, xI_I, xS_I, xF_I, xJ_I, xI_R, xS_R, xF_R, xJ_R, xI_L, xS_L, xF_L, xJ_L, xcat_s, le46, ge16, or_true, true_or, false_or, or_false, eq_self, Option.toList_some, Option.toList_none, List.cons_append, List.nil_append, true_and, and_true, not_false_eq_true, not_true_eq_false, if_true, if_false, if_neg, B_23_63, A2.f5, A2.s5, A2.f6, A2.s6]
      refine ih _ ⟨((e2.wr _ ⟨by omega, by omega⟩).wr _ ⟨by omega, by omega⟩).wr _ ⟨by omega, by omega⟩, ?_, ?_, ?_, ?_⟩
      · simp (disch := omega) only [lAdd, addL, lMul, mulL, nMul, nI_add, subL, lSub, nSub, nDec, nCl, lCl, nVp, lVp, nLe, nLt, nEq, lLe, leL, lLt, ltL, eqL, lEq, nM1, nM2, litLt0, one01, zero01, oneNe0, xupE, xupA, xupK, xI_I, xS_I, xF_I, xJ_I, xI_R, xS_R, xF_R, xJ_R, xI_L, xS_L, xF_L, xJ_L, xcat_s, le46, ge16, or_true, true_or, false_or, or_false, eq_self, Option.toList_some, Option.toList_none, List.cons_append, List.nil_append, true_and, and_true, not_false_eq_true, not_true_eq_false, if_true, if_false]; exact d2
      · intro k q1 q2
        rw [xI_I, xup_n _ _ _ (by omega), xI_I, xup_n _ _ _ (by omega), xI_I, xup_n _ _ _ (by omega)]
        exact u2 k q1 q2
      · intro k hk
        simp (disch := omega) only [lAdd, addL, lMul, mulL, nMul, nI_add, subL, lSub, nSub, nDec, nCl, lCl, nVp, lVp, nLe, nLt, nEq, lLe, leL, lLt, ltL, eqL, lEq, nM1, nM2, litLt0, one01, zero01, oneNe0, xupE, xupA, xupK, xI_I, xS_I, xF_I, xJ_I, xI_R, xS_R, xF_R, xJ_R, xI_L, xS_L, xF_L, xJ_L, xcat_s, le46, ge16, or_true, true_or, false_or, or_false, eq_self, Option.toList_some, Option.toList_none, List.cons_append, List.nil_append, true_and, and_true, not_false_eq_true, not_true_eq_false, if_true, if_false]; exact z2 k hk
      · intro k hk
        by_cases q : k = i
        · subst q
          simp (disch := omega) only [lAdd, addL, lMul, mulL, nMul, nI_add, subL, lSub, nSub, nDec, nCl, lCl, nVp, lVp, nLe, nLt, nEq, lLe, leL, lLt, ltL, eqL, lEq, nM1, nM2, litLt0, one01, zero01, oneNe0, xupE, xupA, xupK, xI_I, xS_I, xF_I, xJ_I, xI_R, xS_R, xF_R, xJ_R, xI_L, xS_L, xF_L, xJ_L, xcat_s, le46, ge16, or_true, true_or, false_or, or_false, eq_self, Option.toList_some, Option.toList_none, List.cons_append, List.nil_append, true_and, and_true, not_false_eq_true, not_true_eq_false, if_true, if_false]
        · simp (disch := omega) only [lAdd, addL, lMul, mulL, nMul, nI_add, subL, lSub, nSub, nDec, nCl, lCl, nVp, lVp, nLe, nLt, nEq, lLe, leL, lLt, ltL, eqL, lEq, nM1, nM2, litLt0, one01, zero01, oneNe0, xupE, xupA, xupK, xI_I, xS_I, xF_I, xJ_I, xI_R, xS_R, xF_R, xJ_R, xI_L, xS_L, xF_L, xJ_L, xcat_s, le46, ge16, or_true, true_or, false_or, or_false, eq_self, Option.toList_some, Option.toList_none, List.cons_append, List.nil_append, true_and, and_true, not_false_eq_true, not_true_eq_false, if_true, if_false]; exact f2 k (by omega)
  · intro i M1 hi ⟨e1, d1, u1, z1, f1⟩ ih
    have A1 := hA.ex e1
    rw [B_23_7]
    simp (disch := omega) only [A1.s, A1.f1, A1.f2, A1.f3, A1.s1, A1.s2, A1.s3, lAdd, addL, lMul, mulL, nMul, nI_add, subL, lSub, nSub, nDec, nCl, lCl, nVp, lVp, nLe, nLt, nEq, lLe, leL, lLt, ltL, eqL, lEq, nM1, nM2, litLt0, one01, zero01, oneNe0, xupE, xupA, xupK, xI_I, xS_I, xF_I, xJ_I, xI_R, xS_R, xF_R, xJ_R, xI_L, xS_L, xF_L, xJ_L, xcat_s, le46, ge16, or_true, true_or, false_or, or_false, eq_self, Option.toList_some, Option.toList_none, List.cons_append, List.nil_append, true_and, and_true, not_false_eq_true, not_true_eq_false, if_true, if_false, if_neg, B_23_35]
    refine ih _ ⟨((e1.wr _ ⟨by omega, by omega⟩).wr _ ⟨by omega, by omega⟩).wr _ ⟨by omega, by omega⟩, ?_, ?_, ?_, ?_⟩
    · simp (disch := omega) only [lAdd, addL, lMul, mulL, nMul, nI_add, subL, lSub, nSub, nDec, nCl, lCl, nVp, lVp, nLe, nLt, nEq, lLe, leL, lLt, ltL, eqL, lEq, nM1, nM2, litLt0, one01, zero01, oneNe0, xupE, xupA, xupK, xI_I, xS_I, xF_I, xJ_I, xI_R, xS_R, xF_R, xJ_R, xI_L, xS_L, xF_L, xJ_L, xcat_s, le46, ge16, or_true, true_or, false_or, or_false, eq_self, Option.toList_some, Option.toList_none, List.cons_append, List.nil_append, true_and, and_true, not_false_eq_true, not_true_eq_false, if_true, if_false]; exact d1
    · intro k q1 q2
      rw [xI_I, xup_n _ _ _ (by omega), xI_I, xup_n _ _ _ (by omega), xI_I, xup_n _ _ _ (by omega)]
      exact u1 k q1 q2
    · intro k hk
      simp (disch := omega) only [lAdd, addL, lMul, mulL, nMul, nI_add, subL, lSub, nSub, nDec, nCl, lCl, nVp, lVp, nLe, nLt, nEq, lLe, leL, lLt, ltL, eqL, lEq, nM1, nM2, litLt0, one01, zero01, oneNe0, xupE, xupA, xupK, xI_I, xS_I, xF_I, xJ_I, xI_R, xS_R, xF_R, xJ_R, xI_L, xS_L, xF_L, xJ_L, xcat_s, le46, ge16, or_true, true_or, false_or, or_false, eq_self, Option.toList_some, Option.toList_none, List.cons_append, List.nil_append, true_and, and_true, not_false_eq_true, not_true_eq_false, if_true, if_false]; exact z1 k hk
    · intro k hk
      by_cases q : k = i
      · subst q
        simp (disch := omega) only [lAdd, addL, lMul, mulL, nMul, nI_add, subL, lSub, nSub, nDec, nCl, lCl, nVp, lVp, nLe, nLt, nEq, lLe, leL, lLt, ltL, eqL, lEq, nM1, nM2, litLt0, one01, zero01, oneNe0, xupE, xupA, xupK, xI_I, xS_I, xF_I, xJ_I, xI_R, xS_R, xF_R, xJ_R, xI_L, xS_L, xF_L, xJ_L, xcat_s, le46, ge16, or_true, true_or, false_or, or_false, eq_self, Option.toList_some, Option.toList_none, List.cons_append, List.nil_append, true_and, and_true, not_false_eq_true, not_true_eq_false, if_true, if_false]
      · simp (disch := omega) only [lAdd, addL, lMul, mulL, nMul, nI_add, subL, lSub, nSub, nDec, nCl, lCl, nVp, lVp, nLe, nLt, nEq, lLe, leL, lLt, ltL, eqL, lEq, nM1, nM2, litLt0, one01, zero01, oneNe0, xupE, xupA, xupK, xI_I, xS_I, xF_I, xJ_I, xI_R, xS_R, xF_R, xJ_R, xI_L, xS_L, xF_L, xJ_L, xcat_s, le46, ge16, or_true, true_or, false_or, or_false, eq_self, Option.toList_some, Option.toList_none, List.cons_append, List.nil_append, true_and, and_true, not_false_eq_true, not_true_eq_false, if_true, if_false]; exact f1 k (by omega)
theorem openF_c (T : XT) : Ocl (openF T) := by
  refine ⟨fun k hk => ⟨rfl, ?_, rfl⟩, fun k hk => ⟨?_, ?_, rfl⟩⟩
  · exact if_neg (by omega)
  · exact if_neg (by omega)
  · exact if_neg (by omega)
theorem openF_d (T : XT) (B : Nat) : DB B (openF T) := ⟨0, Nat.zero_le _, rfl⟩
