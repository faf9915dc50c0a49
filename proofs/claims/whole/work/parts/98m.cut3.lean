/-! tokens: the reference's keys and signs -/
def lsK (x : Int64) : Nat → Nat
  | 0 => 1
  | k + 1 => if kL.getD k 0 = x then 20 + k else lsK x k
theorem lsK_s (x : Int64) (k : Nat) : lsK x (k + 1) = if kL.getD k 0 = x then 20 + k else lsK x k := rfl
theorem r_keys {M : XM} {n : Nat} {c : Nat → Nat} {j y m : Int32} {x : Int64} {Q : Option Value → XM → Prop} (h : RB M n c)
    (hQ : ∀ z7 : Option Value, RG xprog 89 179 [some (.ref 439), some (.int j), some (.int y), some (.int m), some (.long x), none, some (.int (nI (lsK x 21))), z7] [] M Q) :
    RG xprog 89 146 [some (.ref 439), some (.int j), some (.int y), some (.int m), some (.long x), none, some (.int 1), some (.int 0)] [] M Q := by
  have loop : ∀ f k, k + f = 21 → RG xprog 89 146 [some (.ref 439), some (.int j), some (.int y), some (.int m), some (.long x), none, some (.int (nI (lsK x k))), some (.int (nI k))] [] M Q := by
    intro f
    induction f with
    | zero =>
      intro k hk
      have : k = 21 := by omega
      subst this
      rw [B_89_146]
      simp (disch := omega) only [lAdd, addL, lMul, mulL, nMul, nI_add, subL, lSub, nSub, nDec, nCl, lCl, nVp, lVp, nLe, nLt, nEq, lLe, leL, lLt, ltL, eqL, lEq, nM1, nM2, litLt0, one01, zero01, oneNe0, xupE, xupA, xupK, xI_I, xS_I, xF_I, xJ_I, xI_R, xS_R, xF_R, xJ_R, xI_L, xS_L, xF_L, xJ_L, xcat_s, le46, ge16, or_true, true_or, false_or, or_false, eq_self, Option.toList_some, Option.toList_none, List.cons_append, List.nil_append, true_and, and_true, not_false_eq_true, not_true_eq_false, if_true, if_false, if_pos]
      exact hQ _
    | succ f ih =>
      intro k hk
      have e := ih (k + 1) (by omega)
      rw [lsK_s] at e
      rw [B_89_146]
      simp (disch := omega) only [lAdd, addL, lMul, mulL, nMul, nI_add, subL, lSub, nSub, nDec, nCl, lCl, nVp, lVp, nLe, nLt, nEq, lLe, leL, lLt, ltL, eqL, lEq, nM1, nM2, litLt0, one01, zero01, oneNe0, xupE, xupA, xupK, xI_I, xS_I, xF_I, xJ_I, xI_R, xS_R, xF_R, xJ_R, xI_L, xS_L, xF_L, xJ_L, xcat_s, le46, ge16, or_true, true_or, false_or, or_false, eq_self, Option.toList_some, Option.toList_none, List.cons_append, List.nil_append, true_and, and_true, not_false_eq_true, not_true_eq_false, if_true, if_false, if_neg, h.1.s, h.1.f, h.2.2.2.2.2 k (show k < 21 by omega), lgc]
      by_cases q : kL.getD k 0 = x
      · rw [if_neg (fun z => z q)]
        rw [if_pos q] at e
        exact e
      · rw [if_pos q]
        rw [if_neg q] at e
        exact e
  exact loop 21 0 (by omega)
/-- the reference's kind of a sign -/
def rsg (ch : Nat) : Nat := if ch = 60 then 13 else if ch = 47 then 15 else if ch = 42 then 10 else if ch = 45 then 9 else if ch = 43 then 8 else if ch = 59 then 4 else if ch = 61 then 5 else if ch = 40 then 6 else if ch = 41 then 7 else 3
