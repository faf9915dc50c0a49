/-! tokens: the reference's keys and signs -/
def lsK (x : Int64) : Nat → Nat
  | 0 => 1
  | k + 1 => if kL.getD k 0 = x then 20 + k else lsK x k
theorem lsK_s (x : Int64) (k : Nat) : lsK x (k + 1) = if kL.getD k 0 = x then 20 + k else lsK x k := rfl
theorem r_keys {M : XM} {n : Nat} {c : Nat → Nat} {j y m : Int32} {x : Int64} {Q : Option Value → XM → Prop} (h : RB M n c)
    (hQ : ∀ z7 : Option Value, RG xprog 89 179 [some (.ref 439), some (.int j), some (.int y), some (.int m), some (.long x), none, some (.int (nI (lsK x 21))), z7] [] M Q) :
    RG xprog 89 146 [some (.ref 439), some (.int j), some (.int y), some (.int m), some (.long x), none, some (.int 1), some (.int 0)] [] M Q := by
  have loop : ∀ f k, k + f = 21 → RG xprog 89 146 [some (.ref 439), some (.int j), some (.int y), some (.int m), some (.long x), none, some (.int (nI (lsK x k))), some (.int (nI k))] [] M Q := by
    intro f
    induction f with
    | zero =>
      intro k hk
      have : k = 21 := by omega
      subst this
      rw [B_89_146]
      simp (disch := omega) only [lAdd, addL, lMul, mulL, nMul, nI_add, subL, lSub, nSub, nDec, nCl, lCl, nVp, lVp, nLe, nLt, nEq, lLe, leL, lLt, ltL, eqL, lEq, nM1, nM2, litLt0, one01, zero01, oneNe0, xupE, xupA, xupK, xI_I, xS_I, xF_I, xJ_I, xI_R, xS_R, xF_R, xJ_R, xI_L, xS_L, xF_L, xJ_L, xcat_s, le46, ge16, or_true, true_or, false_or, or_false, eq_self, Option.toList_some, Option.toList_none, List.cons_append, List.nil_append, true_and, and_true, not_false_eq_true, not_true_eq_false, if_true, if_false, if_pos]
      exact hQ _
    | succ f ih =>
      intro k hk
      have e := ih (k + 1) (by omega)
      rw [lsK_s] at e
      rw [B_89_146]
      simp (disch := omega) only [lAdd, addL, lMul, mulL, nMul, nI_add, subL, lSub, nSub, nDec, nCl, lCl, nVp, lVp, nLe, nLt, nEq, lLe, leL, lLt, ltL, eqL, lEq, nM1, nM2, litLt0, one01, zero01, oneNe0, xupE, xupA, xupK, xI_I, xS_I, xF_I, xJ_I, xI_R, xS_R, xF_R, xJ_R, xI_L, xS_L, xF_L, xJ_L, xcat_s, le46, ge16, or_true, true_or, false_or, or_false, eq_self, Option.toList_some, Option.toList_none, List.cons_append, List.nil_append, true_and, and_true, not_false_eq_true, not_true_eq_false, if_true, if_false, if_neg, h.1.s, h.1.f, h.2.2.2.2.2 k (show k < 21 by omega), lgc]
      by_cases q : kL.getD k 0 = x
      · rw [if_neg (fun z => z q)]
        rw [if_pos q] at e
        exact e
      · rw [if_pos q]
        rw [if_neg q] at e
        exact e
  exact loop 21 0 (by omega)
/-- the reference's kind of a sign -/
def rsg (ch : Nat) : Nat := if ch = 60 then 13 else if ch = 47 then 15 else if ch = 42 then 10 else if ch = 45 then 9 else if ch = 43 then 8 else if ch = 59 then 4 else if ch = 61 then 5 else if ch = 40 then 6 else if ch = 41 then 7 else 3
theorem r_sign {M : XM} {m ch : Nat} {p d : Int32} {K P V : Nat → Int32} {N : Nat → Int64} {Q : Option Value → XM → Prop} (h : RSh M) (ht : TkR M m K P V N) (hm : m < 403) (hc : ch < 256)
    (hQ : ∀ M' : XM, E3 ctP ctJ noF M M' → TkR M' (m + 1) (upI K m (nI (rsg ch))) (upI P m p) (upI V m 0) (upJ N m 0) → Q (some (.int 1)) M') :
    RG xprog 88 0 [some (.ref 439), some (.int p), some (.int (nI ch)), some (.int d), none] [] M Q := by
  have fin : ∀ k : Int32, k = nI (rsg ch) → RG xprog 88 95 [some (.ref 439), some (.int p), some (.int (nI ch)), some (.int d), some (.int k)] [] M Q := by
    intro k hk
    rw [B_88_95]
    simp (disch := omega) only [h.s, lAdd, addL, lMul, mulL, nMul, nI_add, subL, lSub, nSub, nDec, nCl, lCl, nVp, lVp, nLe, nLt, nEq, lLe, leL, lLt, ltL, eqL, lEq, nM1, nM2, litLt0, one01, zero01, oneNe0, xupE, xupA, xupK, xI_I, xS_I, xF_I, xJ_I, xI_R, xS_R, xF_R, xJ_R, xI_L, xS_L, xF_L, xJ_L, xcat_s, le46, ge16, or_true, true_or, false_or, or_false, eq_self, Option.toList_some, Option.toList_none, List.cons_append, List.nil_append, true_and, and_true, not_false_eq_true, not_true_eq_false, if_true, if_false]
    refine r_token h ht hm ?_
    intro M1 e1 t1
    simp (disch := omega) only [lAdd, addL, lMul, mulL, nMul, nI_add, subL, lSub, nSub, nDec, nCl, lCl, nVp, lVp, nLe, nLt, nEq, lLe, leL, lLt, ltL, eqL, lEq, nM1, nM2, litLt0, one01, zero01, oneNe0, xupE, xupA, xupK, xI_I, xS_I, xF_I, xJ_I, xI_R, xS_R, xF_R, xJ_R, xI_L, xS_L, xF_L, xJ_L, xcat_s, le46, ge16, or_true, true_or, false_or, or_false, eq_self, Option.toList_some, Option.toList_none, List.cons_append, List.nil_append, true_and, and_true, not_false_eq_true, not_true_eq_false, if_true, if_false, B_88_104]
    rw [hk] at t1
    exact hQ M1 e1 t1
  have g85 : ∀ k : Int32, (if ch = 60 then (13 : Int32) else k) = nI (rsg ch) → RG xprog 88 85 [some (.ref 439), some (.int p), some (.int (nI ch)), some (.int d), some (.int k)] [] M Q := by
    intro k hk
    rw [B_88_85]
    simp (disch := omega) only [lAdd, addL, lMul, mulL, nMul, nI_add, subL, lSub, nSub, nDec, nCl, lCl, nVp, lVp, nLe, nLt, nEq, lLe, leL, lLt, ltL, eqL, lEq, nM1, nM2, litLt0, one01, zero01, oneNe0, xupE, xupA, xupK, xI_I, xS_I, xF_I, xJ_I, xI_R, xS_R, xF_R, xJ_R, xI_L, xS_L, xF_L, xJ_L, xcat_s, le46, ge16, or_true, true_or, false_or, or_false, eq_self, Option.toList_some, Option.toList_none, List.cons_append, List.nil_append, true_and, and_true, not_false_eq_true, not_true_eq_false, if_true, if_false]
    by_cases q : ch = 60
    · rw [if_neg (fun z => z q)]
      refine fin _ ?_
      rw [← hk]
      subst q
      rfl
    · rw [if_pos q]
      refine fin _ ?_
      rw [← hk]
      rw [if_neg q]
  have g75 : ∀ k : Int32, (if ch = 60 then (13 : Int32) else (if ch = 47 then (15 : Int32) else k)) = nI (rsg ch) → RG xprog 88 75 [some (.ref 439), some (.int p), some (.int (nI ch)), some (.int d), some (.int k)] [] M Q := by
    intro k hk
    rw [B_88_75]
    simp (disch := omega) only [lAdd, addL, lMul, mulL, nMul, nI_add, subL, lSub, nSub, nDec, nCl, lCl, nVp, lVp, nLe, nLt, nEq, lLe, leL, lLt, ltL, eqL, lEq, nM1, nM2, litLt0, one01, zero01, oneNe0, xupE, xupA, xupK, xI_I, xS_I, xF_I, xJ_I, xI_R, xS_R, xF_R, xJ_R, xI_L, xS_L, xF_L, xJ_L, xcat_s, le46, ge16, or_true, true_or, false_or, or_false, eq_self, Option.toList_some, Option.toList_none, List.cons_append, List.nil_append, true_and, and_true, not_false_eq_true, not_true_eq_false, if_true, if_false]
    by_cases q : ch = 47
    · rw [if_neg (fun z => z q)]
      refine g85 _ ?_
      rw [← hk]
      subst q
      rfl
    · rw [if_pos q]
      refine g85 _ ?_
      rw [← hk]
      rw [if_neg q]
  have g65 : ∀ k : Int32, (if ch = 60 then (13 : Int32) else (if ch = 47 then (15 : Int32) else (if ch = 42 then (10 : Int32) else k))) = nI (rsg ch) → RG xprog 88 65 [some (.ref 439), some (.int p), some (.int (nI ch)), some (.int d), some (.int k)] [] M Q := by
    intro k hk
    rw [B_88_65]
    simp (disch := omega) only [lAdd, addL, lMul, mulL, nMul, nI_add, subL, lSub, nSub, nDec, nCl, lCl, nVp, lVp, nLe, nLt, nEq, lLe, leL, lLt, ltL, eqL, lEq, nM1, nM2, litLt0, one01, zero01, oneNe0, xupE, xupA, xupK, xI_I, xS_I, xF_I, xJ_I, xI_R, xS_R, xF_R, xJ_R, xI_L, xS_L, xF_L, xJ_L, xcat_s, le46, ge16, or_true, true_or, false_or, or_false, eq_self, Option.toList_some, Option.toList_none, List.cons_append, List.nil_append, true_and, and_true, not_false_eq_true, not_true_eq_false, if_true, if_false]
    by_cases q : ch = 42
    · rw [if_neg (fun z => z q)]
      refine g75 _ ?_
      rw [← hk]
      subst q
      rfl
    · rw [if_pos q]
      refine g75 _ ?_
      rw [← hk]
      rw [if_neg q]
  have g55 : ∀ k : Int32, (if ch = 60 then (13 : Int32) else (if ch = 47 then (15 : Int32) else (if ch = 42 then (10 : Int32) else (if ch = 45 then (9 : Int32) else k)))) = nI (rsg ch) → RG xprog 88 55 [some (.ref 439), some (.int p), some (.int (nI ch)), some (.int d), some (.int k)] [] M Q := by
    intro k hk
    rw [B_88_55]
    simp (disch := omega) only [lAdd, addL, lMul, mulL, nMul, nI_add, subL, lSub, nSub, nDec, nCl, lCl, nVp, lVp, nLe, nLt, nEq, lLe, leL, lLt, ltL, eqL, lEq, nM1, nM2, litLt0, one01, zero01, oneNe0, xupE, xupA, xupK, xI_I, xS_I, xF_I, xJ_I, xI_R, xS_R, xF_R, xJ_R, xI_L, xS_L, xF_L, xJ_L, xcat_s, le46, ge16, or_true, true_or, false_or, or_false, eq_self, Option.toList_some, Option.toList_none, List.cons_append, List.nil_append, true_and, and_true, not_false_eq_true, not_true_eq_false, if_true, if_false]
    by_cases q : ch = 45
    · rw [if_neg (fun z => z q)]
      refine g65 _ ?_
      rw [← hk]
      subst q
      rfl
    · rw [if_pos q]
      refine g65 _ ?_
      rw [← hk]
      rw [if_neg q]
  have g43 : ∀ k : Int32, (if ch = 60 then (13 : Int32) else (if ch = 47 then (15 : Int32) else (if ch = 42 then (10 : Int32) else (if ch = 45 then (9 : Int32) else (if ch = 43 then (8 : Int32) else k))))) = nI (rsg ch) → RG xprog 88 43 [some (.ref 439), some (.int p), some (.int (nI ch)), some (.int d), none] [.int k] M Q := by
    intro k hk
    rw [B_88_43]
    simp (disch := omega) only [lAdd, addL, lMul, mulL, nMul, nI_add, subL, lSub, nSub, nDec, nCl, lCl, nVp, lVp, nLe, nLt, nEq, lLe, leL, lLt, ltL, eqL, lEq, nM1, nM2, litLt0, one01, zero01, oneNe0, xupE, xupA, xupK, xI_I, xS_I, xF_I, xJ_I, xI_R, xS_R, xF_R, xJ_R, xI_L, xS_L, xF_L, xJ_L, xcat_s, le46, ge16, or_true, true_or, false_or, or_false, eq_self, Option.toList_some, Option.toList_none, List.cons_append, List.nil_append, true_and, and_true, not_false_eq_true, not_true_eq_false, if_true, if_false]
    by_cases q : ch = 43
    · rw [if_neg (fun z => z q)]
      refine g55 _ ?_
      rw [← hk]
      subst q
      rfl
    · rw [if_pos q]
      refine g55 _ ?_
      rw [← hk]
      rw [if_neg q]
  rw [B_88_0]
  simp (disch := omega) only [lAdd, addL, lMul, mulL, nMul, nI_add, subL, lSub, nSub, nDec, nCl, lCl, nVp, lVp, nLe, nLt, nEq, lLe, leL, lLt, ltL, eqL, lEq, nM1, nM2, litLt0, one01, zero01, oneNe0, xupE, xupA, xupK, xI_I, xS_I, xF_I, xJ_I, xI_R, xS_R, xF_R, xJ_R, xI_L, xS_L, xF_L, xJ_L, xcat_s, le46, ge16, or_true, true_or, false_or, or_false, eq_self, Option.toList_some, Option.toList_none, List.cons_append, List.nil_append, true_and, and_true, not_false_eq_true, not_true_eq_false, if_true, if_false]
  by_cases q1 : ch = 59
  · rw [if_neg (fun z => z q1)]; subst q1; exact g43 _ rfl
  rw [if_pos q1]
  by_cases q2 : ch = 61
  · rw [if_neg (fun z => z q2)]; subst q2; exact g43 _ rfl
  rw [if_pos q2]
  by_cases q3 : ch = 40
  · rw [if_neg (fun z => z q3)]; subst q3; exact g43 _ rfl
  rw [if_pos q3]
  by_cases q4 : ch = 41
  · rw [if_neg (fun z => z q4)]; subst q4; exact g43 _ rfl
  rw [if_pos q4]
  refine g43 _ ?_
  unfold rsg
  rw [if_neg q1, if_neg q2, if_neg q3, if_neg q4]
  split
  · rfl
  split
  · rfl
  split
  · rfl
  split
  · rfl
  split
  · rfl
  rfl
