/-! tokens: the reference's words and numbers -/
theorem nm_step27 {a ch : Nat} (h1 : 97 ≤ ch) (h2 : ch ≤ 122) : apd (Int64.ofNat a) (nI ch) = Int64.ofNat (a * 27 + (ch - 96)) := by
  unfold apd
  rw [if_pos (by rw [eqL (n := 0) (by omega) (by decide)]; show ¬ ch = 0; omega), subL (n := 97) h1, addL (n := 1)]
  have e : (ch - (OfNat.ofNat 97 : Nat) + (OfNat.ofNat 1 : Nat)) = ch - 96 := by show ch - 97 + 1 = ch - 96; omega
  rw [e, to64 (by omega), Int64.ofNat_add, Int64.ofNat_mul, Int64.mul_comm]
  rfl
/-- the reference reads a word's letters -/
theorem r_letters {M : XM} {n j : Nat} {c : Nat → Nat} {y : Int32} {z6 z7 : Option Value} {Q : Option Value → XM → Prop} (h : RB M n c) (hj : j ≤ 2000)
    (hQ : ∀ m : Nat, m = rn (isWd c) n 2000 j - j → RG xprog 89 95 [some (.ref 439), some (.int (nI j)), some (.int y), some (.int (nI m)), some (.long (Int64.ofNat (nmv 27 c j m))), none, z6, z7] [.int 0] M Q) :
    RG xprog 89 85 [some (.ref 439), some (.int (nI j)), some (.int y), some (.int 0), some (.long 0), none, z6, z7] [] M Q := by
  have hn := h.2.2.1
  have hc := h.2.2.2.2.1
  have loop : ∀ f k, k + f = 2001 → k ≤ 2000 → (∀ m : Nat, m = rn (isWd c) n f (j + k) - j → RG xprog 89 95 [some (.ref 439), some (.int (nI j)), some (.int y), some (.int (nI m)), some (.long (Int64.ofNat (nmv 27 c j m))), none, z6, z7] [.int 0] M Q) → RG xprog 89 85 [some (.ref 439), some (.int (nI j)), some (.int y), some (.int (nI k)), some (.long (Int64.ofNat (nmv 27 c j k))), none, z6, z7] [] M Q := by
    intro f
    induction f with
    | zero => intro k hk hk2; omega
    | succ f ih =>
      intro k hk hk2 q1
      rw [B_89_85]
      simp (disch := omega) only [h.1.s, lAdd, addL, lMul, mulL, nMul, nI_add, subL, lSub, nSub, nDec, nCl, lCl, nVp, lVp, nLe, nLt, nEq, lLe, leL, lLt, ltL, eqL, lEq, nM1, nM2, litLt0, one01, zero01, oneNe0, xupE, xupA, xupK, xI_I, xS_I, xF_I, xJ_I, xI_R, xS_R, xF_R, xJ_R, xI_L, xS_L, xF_L, xJ_L, xcat_s, le46, ge16, or_true, true_or, false_or, or_false, eq_self, Option.toList_some, Option.toList_none, List.cons_append, List.nil_append, true_and, and_true, not_false_eq_true, not_true_eq_false, if_true, if_false, r_byteAt h (show j + k ≤ 5000 by omega), B_89_92, r_isLetter' (n := n) (i := j + k) hc]
      rw [rn_s] at q1
      by_cases q : j + k < n ∧ isWd c (j + k) = true
      · rw [if_pos q] at q1
        have dg := (isWd_i c (j + k)).mp q.2
        rw [if_pos (c := j + k < n ∧ isWd c (j + k) = true) q, B_89_95, if_neg (by decide)]
        have nx : RG xprog 89 85 [some (.ref 439), some (.int (nI j)), some (.int y), some (.int (nI (k + 1))), some (.long (Int64.ofNat (nmv 27 c j (k + 1)))), none, z6, z7] [] M Q := by
          refine ih (k + 1) (by omega) (by omega) ?_
          exact q1
        rw [nmv_s] at nx
        by_cases q8 : 8 ≤ k
        · rw [if_neg (by omega)] at nx
          simp (disch := omega) only [lAdd, addL, lMul, mulL, nMul, nI_add, subL, lSub, nSub, nDec, nCl, lCl, nVp, lVp, nLe, nLt, nEq, lLe, leL, lLt, ltL, eqL, lEq, nM1, nM2, litLt0, one01, zero01, oneNe0, xupE, xupA, xupK, xI_I, xS_I, xF_I, xJ_I, xI_R, xS_R, xF_R, xJ_R, xI_L, xS_L, xF_L, xJ_L, xcat_s, le46, ge16, or_true, true_or, false_or, or_false, eq_self, Option.toList_some, Option.toList_none, List.cons_append, List.nil_append, true_and, and_true, not_false_eq_true, not_true_eq_false, if_true, if_false, if_pos]
          exact nx
        · rw [if_pos (by omega)] at nx
          simp (disch := omega) only [lAdd, addL, lMul, mulL, nMul, nI_add, subL, lSub, nSub, nDec, nCl, lCl, nVp, lVp, nLe, nLt, nEq, lLe, leL, lLt, ltL, eqL, lEq, nM1, nM2, litLt0, one01, zero01, oneNe0, xupE, xupA, xupK, xI_I, xS_I, xF_I, xJ_I, xI_R, xS_R, xF_R, xJ_R, xI_L, xS_L, xF_L, xJ_L, xcat_s, le46, ge16, or_true, true_or, false_or, or_false, eq_self, Option.toList_some, Option.toList_none, List.cons_append, List.nil_append, true_and, and_true, not_false_eq_true, not_true_eq_false, if_true, if_false, if_neg, h.1.s, r_byteAt h (show j + k ≤ 5000 by omega), B_89_113, r_appends, B_89_116]
          have eb : bya n c (j + k) = c (j + k) := if_pos q.1
          rw [eb, nm_step27 dg.1 dg.2]
          exact nx
      · rw [if_neg q] at q1
        rw [if_neg (c := j + k < n ∧ isWd c (j + k) = true) q]
        exact q1 k (by omega)
  refine loop 2001 0 (by omega) (by omega) ?_
  intro m hm
  refine hQ m ?_
  rw [hm, rn_fuel (isWd c) n 2001 2000 (j + 0) (by omega) (by omega)]
  rfl
/-- .. and a number's digits -/
theorem r_digits {M : XM} {n j : Nat} {c : Nat → Nat} {y : Int32} {z6 z7 : Option Value} {Q : Option Value → XM → Prop} (h : RB M n c) (hj : j ≤ 2000)
    (hQ : ∀ m : Nat, m = rn (isDg c) n 2000 j - j → RG xprog 89 218 [some (.ref 439), some (.int (nI j)), some (.int y), some (.int (nI m)), some (.int (nI (dgv c j m))), none, z6, z7] [.int 0] M Q) :
    RG xprog 89 208 [some (.ref 439), some (.int (nI j)), some (.int y), some (.int 0), some (.int 0), none, z6, z7] [] M Q := by
  have hn := h.2.2.1
  have hc := h.2.2.2.2.1
  have loop : ∀ f k, k + f = 2001 → k ≤ 2000 → (∀ m : Nat, m = rn (isDg c) n f (j + k) - j → RG xprog 89 218 [some (.ref 439), some (.int (nI j)), some (.int y), some (.int (nI m)), some (.int (nI (dgv c j m))), none, z6, z7] [.int 0] M Q) → RG xprog 89 208 [some (.ref 439), some (.int (nI j)), some (.int y), some (.int (nI k)), some (.int (nI (dgv c j k))), none, z6, z7] [] M Q := by
    intro f
    induction f with
    | zero => intro k hk hk2; omega
    | succ f ih =>
      intro k hk hk2 q1
      rw [B_89_208]
      simp (disch := omega) only [h.1.s, lAdd, addL, lMul, mulL, nMul, nI_add, subL, lSub, nSub, nDec, nCl, lCl, nVp, lVp, nLe, nLt, nEq, lLe, leL, lLt, ltL, eqL, lEq, nM1, nM2, litLt0, one01, zero01, oneNe0, xupE, xupA, xupK, xI_I, xS_I, xF_I, xJ_I, xI_R, xS_R, xF_R, xJ_R, xI_L, xS_L, xF_L, xJ_L, xcat_s, le46, ge16, or_true, true_or, false_or, or_false, eq_self, Option.toList_some, Option.toList_none, List.cons_append, List.nil_append, true_and, and_true, not_false_eq_true, not_true_eq_false, if_true, if_false, r_byteAt h (show j + k ≤ 5000 by omega), B_89_215, r_isDigit' (n := n) (i := j + k) hc]
      rw [rn_s] at q1
      by_cases q : j + k < n ∧ isDg c (j + k) = true
      · rw [if_pos q] at q1
        have dg := (isDg_i c (j + k)).mp q.2
        rw [if_pos (c := j + k < n ∧ isDg c (j + k) = true) q, B_89_218, if_neg (by decide)]
        have nx : RG xprog 89 208 [some (.ref 439), some (.int (nI j)), some (.int y), some (.int (nI (k + 1))), some (.int (nI (dgv c j (k + 1)))), none, z6, z7] [] M Q := by
          refine ih (k + 1) (by omega) (by omega) ?_
          exact q1
        rw [dgv_s] at nx
        by_cases q8 : 4 ≤ k
        · rw [if_neg (by omega)] at nx
          simp (disch := omega) only [lAdd, addL, lMul, mulL, nMul, nI_add, subL, lSub, nSub, nDec, nCl, lCl, nVp, lVp, nLe, nLt, nEq, lLe, leL, lLt, ltL, eqL, lEq, nM1, nM2, litLt0, one01, zero01, oneNe0, xupE, xupA, xupK, xI_I, xS_I, xF_I, xJ_I, xI_R, xS_R, xF_R, xJ_R, xI_L, xS_L, xF_L, xJ_L, xcat_s, le46, ge16, or_true, true_or, false_or, or_false, eq_self, Option.toList_some, Option.toList_none, List.cons_append, List.nil_append, true_and, and_true, not_false_eq_true, not_true_eq_false, if_true, if_false, if_pos]
          exact nx
        · rw [if_pos (by omega)] at nx
          simp (disch := omega) only [lAdd, addL, lMul, mulL, nMul, nI_add, subL, lSub, nSub, nDec, nCl, lCl, nVp, lVp, nLe, nLt, nEq, lLe, leL, lLt, ltL, eqL, lEq, nM1, nM2, litLt0, one01, zero01, oneNe0, xupE, xupA, xupK, xI_I, xS_I, xF_I, xJ_I, xI_R, xS_R, xF_R, xJ_R, xI_L, xS_L, xF_L, xJ_L, xcat_s, le46, ge16, or_true, true_or, false_or, or_false, eq_self, Option.toList_some, Option.toList_none, List.cons_append, List.nil_append, true_and, and_true, not_false_eq_true, not_true_eq_false, if_true, if_false, if_neg, h.1.s, r_byteAt h (show j + k ≤ 5000 by omega), B_89_238]
          have eb : bya n c (j + k) = c (j + k) := if_pos q.1
          rw [eb, subL (n := 48) (by show 48 ≤ 10 * dgv c j k + c (j + k); omega)]
          have ev : 10 * dgv c j k + c (j + k) - (OfNat.ofNat 48 : Nat) = dgv c j k * 10 + (c (j + k) - 48) := by show 10 * dgv c j k + c (j + k) - 48 = _; omega
          rw [ev]
          exact nx
      · rw [if_neg q] at q1
        rw [if_neg (c := j + k < n ∧ isDg c (j + k) = true) q]
        exact q1 k (by omega)
  refine loop 2001 0 (by omega) (by omega) ?_
  intro m hm
  refine hQ m ?_
  rw [hm, rn_fuel (isDg c) n 2001 2000 (j + 0) (by omega) (by omega)]
  rfl
