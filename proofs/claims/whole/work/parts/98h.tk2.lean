/-! tokens: numbers -/
def dgv (c : Nat → Nat) (j : Nat) : Nat → Nat
  | 0 => 0
  | k + 1 => if k < 4 then dgv c j k * 10 + (c (j + k) - 48) else dgv c j k
theorem dgv_s (c : Nat → Nat) (j k : Nat) : dgv c j (k + 1) = if k < 4 then dgv c j k * 10 + (c (j + k) - 48) else dgv c j k := rfl
theorem dgv_le (c : Nat → Nat) (j : Nat) (hc : ∀ k, c (j + k) < 256) : ∀ k, dgv c j k ≤ 3000000
  | 0 => Nat.zero_le _
  | 1 => by have := hc 0; rw [dgv_s, if_pos (by omega)]; show 0 * 10 + _ ≤ _; omega
  | 2 => by have := hc 0; have := hc 1; rw [dgv_s, if_pos (by omega), dgv_s, if_pos (by omega)]; show (0 * 10 + _) * 10 + _ ≤ _; omega
  | 3 => by have := hc 0; have := hc 1; have := hc 2; rw [dgv_s, if_pos (by omega), dgv_s, if_pos (by omega), dgv_s, if_pos (by omega)]; show ((0 * 10 + _) * 10 + _) * 10 + _ ≤ _; omega
  | 4 => by have := hc 0; have := hc 1; have := hc 2; have := hc 3; rw [dgv_s, if_pos (by omega), dgv_s, if_pos (by omega), dgv_s, if_pos (by omega), dgv_s, if_pos (by omega)]; show (((0 * 10 + _) * 10 + _) * 10 + _) * 10 + _ ≤ _; omega
  | k + 5 => by
    have := dgv_le c j hc (k + 4)
    rw [dgv_s, if_neg (by omega)]
    exact this
theorem c_scanInt {M : XM} {n j : Nat} {c : Nat → Nat} {Q : Option Value → XM → Prop} (h : TK M n c) (ha : xI M 20 2 = nI j) (hs : xI M 20 4 = nI j) (hj : j ≤ 2000) (hc : ∀ k, c k < 256)
    (hQ : ∀ M' : XM, E3 tkP tkJ noF M M' → xI M' 20 2 = nI (rn (isDg c) n 2000 j) → xI M' 20 4 = nI j → xI M' 20 5 = nI (dgv c j (rn (isDg c) n 2000 j - j)) → xI M' 20 3 = (if rn (isDg c) n 2000 j - j ≤ 4 then 3 else 1) → Q none M') :
    RG xprog 48 0 [some (.ref 20), none] [] M Q := by
  have hn := h.2.2.1
  rw [B_48_0]
  simp (disch := omega) only [h.1, lAdd, addL, lMul, mulL, nMul, nI_add, subL, lSub, nSub, nDec, nCl, lCl, nVp, lVp, nLe, nLt, nEq, lLe, leL, lLt, ltL, eqL, lEq, nM1, nM2, litLt0, one01, zero01, oneNe0, xupE, xupA, xupK, xI_I, xS_I, xF_I, xJ_I, xI_R, xS_R, xF_R, xJ_R, xI_L, xS_L, xF_L, xJ_L, xcat_s, le46, ge16, or_true, true_or, false_or, or_false, eq_self, Option.toList_some, Option.toList_none, List.cons_append, List.nil_append, true_and, and_true, not_false_eq_true, not_true_eq_false, if_true, if_false]
  have loop : ∀ f k (M1 : XM), k + f = 2000 → E3 tkP tkJ noF M M1 → xI M1 20 2 = nI (j + k) → xI M1 20 4 = nI j → xI M1 20 5 = nI (dgv c j k) → (∀ (M' : XM) (x : Int32), E3 tkP tkJ noF M M' → xI M' 20 2 = nI (rn (isDg c) n f (j + k)) → xI M' 20 4 = nI j → xI M' 20 5 = nI (dgv c j (rn (isDg c) n f (j + k) - j)) → RG xprog 48 71 [some (.ref 20), some (.int x)] [] M' Q) → RG xprog 48 7 [some (.ref 20), some (.int (nI k))] [] M1 Q := by
    intro f
    induction f with
    | zero =>
      intro k M1 hk e1 a1 s1 n1 q1
      rw [B_48_7]
      simp (disch := omega) only [lAdd, addL, lMul, mulL, nMul, nI_add, subL, lSub, nSub, nDec, nCl, lCl, nVp, lVp, nLe, nLt, nEq, lLe, leL, lLt, ltL, eqL, lEq, nM1, nM2, litLt0, one01, zero01, oneNe0, xupE, xupA, xupK, xI_I, xS_I, xF_I, xJ_I, xI_R, xS_R, xF_R, xJ_R, xI_L, xS_L, xF_L, xJ_L, xcat_s, le46, ge16, or_true, true_or, false_or, or_false, eq_self, Option.toList_some, Option.toList_none, List.cons_append, List.nil_append, true_and, and_true, not_false_eq_true, not_true_eq_false, if_true, if_false, if_pos]
      refine q1 M1 _ e1 a1 s1 ?_
      rw [n1]
      congr 2
      show k = j + k - j
      omega
    | succ f ih =>
      intro k M1 hk e1 a1 s1 n1 q1
      have h1 := h.tk e1
      have dl := dgv_le c j (fun k => hc (j + k)) k
      rw [B_48_7]
      simp (disch := omega) only [lAdd, addL, lMul, mulL, nMul, nI_add, subL, lSub, nSub, nDec, nCl, lCl, nVp, lVp, nLe, nLt, nEq, lLe, leL, lLt, ltL, eqL, lEq, nM1, nM2, litLt0, one01, zero01, oneNe0, xupE, xupA, xupK, xI_I, xS_I, xF_I, xJ_I, xI_R, xS_R, xF_R, xJ_R, xI_L, xS_L, xF_L, xJ_L, xcat_s, le46, ge16, or_true, true_or, false_or, or_false, eq_self, Option.toList_some, Option.toList_none, List.cons_append, List.nil_append, true_and, and_true, not_false_eq_true, not_true_eq_false, if_true, if_false, if_neg, h1.1, c_signHere h1 a1 (show j + k ≤ 5000 by omega), B_48_18, c_isDigit (n := n) (i := j + k) (c := c) (fun _ => hc _), B_48_21]
      rw [rn_s] at q1
      by_cases q : j + k < n ∧ isDg c (j + k) = true
      · rw [if_pos q, if_neg (by decide)]
        rw [if_pos q] at q1
        have dg := (isDg_i c (j + k)).mp q.2
        have put : ∀ x : Nat, x = dgv c j (k + 1) → RG xprog 48 52 [some (.ref 20), some (.int (nI k))] [.int (nI x), .ref 20] M1 Q := by
          intro x hx
          rw [B_48_52]
          simp (disch := omega) only [h1.1, a1, lAdd, addL, lMul, mulL, nMul, nI_add, subL, lSub, nSub, nDec, nCl, lCl, nVp, lVp, nLe, nLt, nEq, lLe, leL, lLt, ltL, eqL, lEq, nM1, nM2, litLt0, one01, zero01, oneNe0, xupE, xupA, xupK, xI_I, xS_I, xF_I, xJ_I, xI_R, xS_R, xF_R, xJ_R, xI_L, xS_L, xF_L, xJ_L, xcat_s, le46, ge16, or_true, true_or, false_or, or_false, eq_self, Option.toList_some, Option.toList_none, List.cons_append, List.nil_append, true_and, and_true, not_false_eq_true, not_true_eq_false, if_true, if_false]
          refine ih (k + 1) _ (by omega) ((e1.wI _ (by unfold tkP; omega)).wI _ (by unfold tkP; omega)) ?_ ?_ ?_ ?_
          · simp (disch := omega) only [lAdd, addL, lMul, mulL, nMul, nI_add, subL, lSub, nSub, nDec, nCl, lCl, nVp, lVp, nLe, nLt, nEq, lLe, leL, lLt, ltL, eqL, lEq, nM1, nM2, litLt0, one01, zero01, oneNe0, xupE, xupA, xupK, xI_I, xS_I, xF_I, xJ_I, xI_R, xS_R, xF_R, xJ_R, xI_L, xS_L, xF_L, xJ_L, xcat_s, le46, ge16, or_true, true_or, false_or, or_false, eq_self, Option.toList_some, Option.toList_none, List.cons_append, List.nil_append, true_and, and_true, not_false_eq_true, not_true_eq_false, if_true, if_false]; rfl
          · simp (disch := omega) only [lAdd, addL, lMul, mulL, nMul, nI_add, subL, lSub, nSub, nDec, nCl, lCl, nVp, lVp, nLe, nLt, nEq, lLe, leL, lLt, ltL, eqL, lEq, nM1, nM2, litLt0, one01, zero01, oneNe0, xupE, xupA, xupK, xI_I, xS_I, xF_I, xJ_I, xI_R, xS_R, xF_R, xJ_R, xI_L, xS_L, xF_L, xJ_L, xcat_s, le46, ge16, or_true, true_or, false_or, or_false, eq_self, Option.toList_some, Option.toList_none, List.cons_append, List.nil_append, true_and, and_true, not_false_eq_true, not_true_eq_false, if_true, if_false]; exact s1
          · simp (disch := omega) only [lAdd, addL, lMul, mulL, nMul, nI_add, subL, lSub, nSub, nDec, nCl, lCl, nVp, lVp, nLe, nLt, nEq, lLe, leL, lLt, ltL, eqL, lEq, nM1, nM2, litLt0, one01, zero01, oneNe0, xupE, xupA, xupK, xI_I, xS_I, xF_I, xJ_I, xI_R, xS_R, xF_R, xJ_R, xI_L, xS_L, xF_L, xJ_L, xcat_s, le46, ge16, or_true, true_or, false_or, or_false, eq_self, Option.toList_some, Option.toList_none, List.cons_append, List.nil_append, true_and, and_true, not_false_eq_true, not_true_eq_false, if_true, if_false]; rw [hx]
          · exact q1
        by_cases q4 : 4 ≤ k
        · simp (disch := omega) only [lAdd, addL, lMul, mulL, nMul, nI_add, subL, lSub, nSub, nDec, nCl, lCl, nVp, lVp, nLe, nLt, nEq, lLe, leL, lLt, ltL, eqL, lEq, nM1, nM2, litLt0, one01, zero01, oneNe0, xupE, xupA, xupK, xI_I, xS_I, xF_I, xJ_I, xI_R, xS_R, xF_R, xJ_R, xI_L, xS_L, xF_L, xJ_L, xcat_s, le46, ge16, or_true, true_or, false_or, or_false, eq_self, Option.toList_some, Option.toList_none, List.cons_append, List.nil_append, true_and, and_true, not_false_eq_true, not_true_eq_false, if_true, if_false, if_pos, n1, h1.1]
          exact put (dgv c j k) (by rw [dgv_s, if_neg (by omega)])
        · simp (disch := omega) only [lAdd, addL, lMul, mulL, nMul, nI_add, subL, lSub, nSub, nDec, nCl, lCl, nVp, lVp, nLe, nLt, nEq, lLe, leL, lLt, ltL, eqL, lEq, nM1, nM2, litLt0, one01, zero01, oneNe0, xupE, xupA, xupK, xI_I, xS_I, xF_I, xJ_I, xI_R, xS_R, xF_R, xJ_R, xI_L, xS_L, xF_L, xJ_L, xcat_s, le46, ge16, or_true, true_or, false_or, or_false, eq_self, Option.toList_some, Option.toList_none, List.cons_append, List.nil_append, true_and, and_true, not_false_eq_true, not_true_eq_false, if_true, if_false, if_neg, n1, h1.1, c_signHere h1 a1 (show j + k ≤ 5000 by omega), B_48_41, sgn_in q.1]
          exact put (dgv c j k * 10 + (c (j + k) - 48)) (by rw [dgv_s, if_pos (by omega)])
      · rw [if_neg q, if_pos rfl]
        rw [if_neg q] at q1
        refine q1 M1 _ e1 a1 s1 ?_
        rw [n1]
        congr 2
        omega
  have e0 : E3 tkP tkJ noF M (xmI M 20 5 0) := (E3.refl _ _ _ _).wI _ (by unfold tkP; omega)
  refine loop 2000 0 _ (by omega) e0 (by simp (disch := omega) only [lAdd, addL, lMul, mulL, nMul, nI_add, subL, lSub, nSub, nDec, nCl, lCl, nVp, lVp, nLe, nLt, nEq, lLe, leL, lLt, ltL, eqL, lEq, nM1, nM2, litLt0, one01, zero01, oneNe0, xupE, xupA, xupK, xI_I, xS_I, xF_I, xJ_I, xI_R, xS_R, xF_R, xJ_R, xI_L, xS_L, xF_L, xJ_L, xcat_s, le46, ge16, or_true, true_or, false_or, or_false, eq_self, Option.toList_some, Option.toList_none, List.cons_append, List.nil_append, true_and, and_true, not_false_eq_true, not_true_eq_false, if_true, if_false]; exact ha) (by simp (disch := omega) only [lAdd, addL, lMul, mulL, nMul, nI_add, subL, lSub, nSub, nDec, nCl, lCl, nVp, lVp, nLe, nLt, nEq, lLe, leL, lLt, ltL, eqL, lEq, nM1, nM2, litLt0, one01, zero01, oneNe0, xupE, xupA, xupK, xI_I, xS_I, xF_I, xJ_I, xI_R, xS_R, xF_R, xJ_R, xI_L, xS_L, xF_L, xJ_L, xcat_s, le46, ge16, or_true, true_or, false_or, or_false, eq_self, Option.toList_some, Option.toList_none, List.cons_append, List.nil_append, true_and, and_true, not_false_eq_true, not_true_eq_false, if_true, if_false]; exact hs) (by simp (disch := omega) only [lAdd, addL, lMul, mulL, nMul, nI_add, subL, lSub, nSub, nDec, nCl, lCl, nVp, lVp, nLe, nLt, nEq, lLe, leL, lLt, ltL, eqL, lEq, nM1, nM2, litLt0, one01, zero01, oneNe0, xupE, xupA, xupK, xI_I, xS_I, xF_I, xJ_I, xI_R, xS_R, xF_R, xJ_R, xI_L, xS_L, xF_L, xJ_L, xcat_s, le46, ge16, or_true, true_or, false_or, or_false, eq_self, Option.toList_some, Option.toList_none, List.cons_append, List.nil_append, true_and, and_true, not_false_eq_true, not_true_eq_false, if_true, if_false]; rfl) ?_
  intro M2 x e2 a2 s2 n2
  have h2 := h.tk e2
  have g1 := rn_ge (isDg c) n 2000 (j + 0)
  have g2 : rn (isDg c) n 2000 (j + 0) ≤ j + 2000 := by
    have : ∀ f i, rn (isDg c) n f i ≤ i + f := by
      intro f
      induction f with
      | zero => intro i; exact Nat.le_refl _
      | succ f ih =>
        intro i
        rw [rn_s]
        split
        · have := ih (i + 1); omega
        · omega
    have := this 2000 (j + 0)
    omega
  rw [B_48_71]
  simp (disch := omega) only [h2.1, a2, s2, lAdd, addL, lMul, mulL, nMul, nI_add, subL, lSub, nSub, nDec, nCl, lCl, nVp, lVp, nLe, nLt, nEq, lLe, leL, lLt, ltL, eqL, lEq, nM1, nM2, litLt0, one01, zero01, oneNe0, xupE, xupA, xupK, xI_I, xS_I, xF_I, xJ_I, xI_R, xS_R, xF_R, xJ_R, xI_L, xS_L, xF_L, xJ_L, xcat_s, le46, ge16, or_true, true_or, false_or, or_false, eq_self, Option.toList_some, Option.toList_none, List.cons_append, List.nil_append, true_and, and_true, not_false_eq_true, not_true_eq_false, if_true, if_false]
  have fin : ∀ y : Int32, y = (if rn (isDg c) n 2000 j - j ≤ 4 then 3 else 1) → RG xprog 48 90 [some (.ref 20), some (.int x)] [.int y, .ref 20] M2 Q := by
    intro y hy
    rw [B_48_90]
    simp (disch := omega) only [h2.1, lAdd, addL, lMul, mulL, nMul, nI_add, subL, lSub, nSub, nDec, nCl, lCl, nVp, lVp, nLe, nLt, nEq, lLe, leL, lLt, ltL, eqL, lEq, nM1, nM2, litLt0, one01, zero01, oneNe0, xupE, xupA, xupK, xI_I, xS_I, xF_I, xJ_I, xI_R, xS_R, xF_R, xJ_R, xI_L, xS_L, xF_L, xJ_L, xcat_s, le46, ge16, or_true, true_or, false_or, or_false, eq_self, Option.toList_some, Option.toList_none, List.cons_append, List.nil_append, true_and, and_true, not_false_eq_true, not_true_eq_false, if_true, if_false]
    refine hQ _ (e2.wI _ (by unfold tkP; omega)) ?_ ?_ ?_ ?_
    · simp (disch := omega) only [lAdd, addL, lMul, mulL, nMul, nI_add, subL, lSub, nSub, nDec, nCl, lCl, nVp, lVp, nLe, nLt, nEq, lLe, leL, lLt, ltL, eqL, lEq, nM1, nM2, litLt0, one01, zero01, oneNe0, xupE, xupA, xupK, xI_I, xS_I, xF_I, xJ_I, xI_R, xS_R, xF_R, xJ_R, xI_L, xS_L, xF_L, xJ_L, xcat_s, le46, ge16, or_true, true_or, false_or, or_false, eq_self, Option.toList_some, Option.toList_none, List.cons_append, List.nil_append, true_and, and_true, not_false_eq_true, not_true_eq_false, if_true, if_false]; exact a2
    · simp (disch := omega) only [lAdd, addL, lMul, mulL, nMul, nI_add, subL, lSub, nSub, nDec, nCl, lCl, nVp, lVp, nLe, nLt, nEq, lLe, leL, lLt, ltL, eqL, lEq, nM1, nM2, litLt0, one01, zero01, oneNe0, xupE, xupA, xupK, xI_I, xS_I, xF_I, xJ_I, xI_R, xS_R, xF_R, xJ_R, xI_L, xS_L, xF_L, xJ_L, xcat_s, le46, ge16, or_true, true_or, false_or, or_false, eq_self, Option.toList_some, Option.toList_none, List.cons_append, List.nil_append, true_and, and_true, not_false_eq_true, not_true_eq_false, if_true, if_false]; exact s2
    · simp (disch := omega) only [lAdd, addL, lMul, mulL, nMul, nI_add, subL, lSub, nSub, nDec, nCl, lCl, nVp, lVp, nLe, nLt, nEq, lLe, leL, lLt, ltL, eqL, lEq, nM1, nM2, litLt0, one01, zero01, oneNe0, xupE, xupA, xupK, xI_I, xS_I, xF_I, xJ_I, xI_R, xS_R, xF_R, xJ_R, xI_L, xS_L, xF_L, xJ_L, xcat_s, le46, ge16, or_true, true_or, false_or, or_false, eq_self, Option.toList_some, Option.toList_none, List.cons_append, List.nil_append, true_and, and_true, not_false_eq_true, not_true_eq_false, if_true, if_false]; exact n2
    · simp (disch := omega) only [lAdd, addL, lMul, mulL, nMul, nI_add, subL, lSub, nSub, nDec, nCl, lCl, nVp, lVp, nLe, nLt, nEq, lLe, leL, lLt, ltL, eqL, lEq, nM1, nM2, litLt0, one01, zero01, oneNe0, xupE, xupA, xupK, xI_I, xS_I, xF_I, xJ_I, xI_R, xS_R, xF_R, xJ_R, xI_L, xS_L, xF_L, xJ_L, xcat_s, le46, ge16, or_true, true_or, false_or, or_false, eq_self, Option.toList_some, Option.toList_none, List.cons_append, List.nil_append, true_and, and_true, not_false_eq_true, not_true_eq_false, if_true, if_false]; exact hy
  by_cases q : rn (isDg c) n 2000 j - j ≤ 4
  · rw [if_pos (show rn (isDg c) n 2000 (j + 0) - j ≤ 4 from q)]
    exact fin 3 (by rw [if_pos q])
  · rw [if_neg (show ¬ rn (isDg c) n 2000 (j + 0) - j ≤ 4 from q)]
    exact fin 1 (by rw [if_neg q])
