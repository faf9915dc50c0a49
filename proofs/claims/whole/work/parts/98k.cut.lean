/-! tokens: how the reference cuts -/
/-- the reference's text: n bytes c -/
def RB (M : XM) (n : Nat) (c : Nat → Nat) : Prop := RSh M ∧ xI M 439 4 = nI n ∧ n ≤ 2000 ∧ (∀ i, i < n → xI M 441 i &&& 255 = nI (c i)) ∧ (∀ i, c i < 256) ∧ ∀ i, i < 21 → xJ M 446 i = kL.getD i 0
/-- the byte at i; 0 behind the end -/
def bya (n : Nat) (c : Nat → Nat) (i : Nat) : Nat := if i < n then c i else 0
theorem r_byteAt {M : XM} {n i : Nat} {c : Nat → Nat} {Q : Option Value → XM → Prop} (h : RB M n c) (hi : i ≤ 5000) : RG xprog 84 0 [some (.ref 439), some (.int (nI i))] [] M Q = Q (some (.int (nI (bya n c i)))) M := by
  obtain ⟨h1, h2, h3, h4, _⟩ := h
  unfold bya
  rw [B_84_0]
  simp (disch := omega) only [h1.s, h1.f, h2, lAdd, addL, lMul, mulL, nMul, nI_add, subL, lSub, nSub, nDec, nCl, lCl, nVp, lVp, nLe, nLt, nEq, lLe, leL, lLt, ltL, eqL, lEq, nM1, nM2, litLt0, one01, zero01, oneNe0, xupE, xupA, xupK, xI_I, xS_I, xF_I, xJ_I, xI_R, xS_R, xF_R, xJ_R, xI_L, xS_L, xF_L, xJ_L, xcat_s, le46, ge16, or_true, true_or, false_or, or_false, eq_self, Option.toList_some, Option.toList_none, List.cons_append, List.nil_append, true_and, and_true, not_false_eq_true, not_true_eq_false, if_true, if_false]
  by_cases q : i < n
  · rw [if_neg (by omega), if_pos q, h4 i q]
  · rw [if_pos (by omega), if_neg q]
    rfl
theorem bya_lt {n i : Nat} {c : Nat → Nat} (hc : ∀ i, c i < 256) : bya n c i < 256 := by
  unfold bya
  have := hc i
  split <;> omega
theorem r_isLetter' {M : XM} {n i : Nat} {c : Nat → Nat} {Q : Option Value → XM → Prop} (hc : ∀ i, c i < 256) : RG xprog 86 0 [some (.int (nI (bya n c i)))] [] M Q = Q (some (.int (if i < n ∧ isWd c i = true then 1 else 0))) M := by
  have b := bya_lt (n := n) (i := i) hc
  have ii := isWd_i c i
  rw [B_86_0]
  simp (disch := omega) only [lAdd, addL, lMul, mulL, nMul, nI_add, subL, lSub, nSub, nDec, nCl, lCl, nVp, lVp, nLe, nLt, nEq, lLe, leL, lLt, ltL, eqL, lEq, nM1, nM2, litLt0, one01, zero01, oneNe0, xupE, xupA, xupK, xI_I, xS_I, xF_I, xJ_I, xI_R, xS_R, xF_R, xJ_R, xI_L, xS_L, xF_L, xJ_L, xcat_s, le46, ge16, or_true, true_or, false_or, or_false, eq_self, Option.toList_some, Option.toList_none, List.cons_append, List.nil_append, true_and, and_true, not_false_eq_true, not_true_eq_false, if_true, if_false, ite_i]
  congr 3
  unfold bya at b ⊢
  by_cases h : i < n
  · rw [if_pos h] at b ⊢
    by_cases q1 : c i < 97
    · rw [if_pos q1, if_neg (fun z => by have := ii.mp z.2; omega)]
    by_cases q2 : 122 < c i
    · rw [if_neg q1, if_pos q2, if_neg (fun z => by have := ii.mp z.2; omega)]
    · rw [if_neg q1, if_neg q2, if_pos ⟨h, ii.mpr (by omega)⟩]
  · rw [if_neg h]
    rw [if_pos (by omega), if_neg (fun z => h z.1)]
theorem r_isDigit' {M : XM} {n i : Nat} {c : Nat → Nat} {Q : Option Value → XM → Prop} (hc : ∀ i, c i < 256) : RG xprog 87 0 [some (.int (nI (bya n c i)))] [] M Q = Q (some (.int (if i < n ∧ isDg c i = true then 1 else 0))) M := by
  have b := bya_lt (n := n) (i := i) hc
  have ii := isDg_i c i
  rw [B_87_0]
  simp (disch := omega) only [lAdd, addL, lMul, mulL, nMul, nI_add, subL, lSub, nSub, nDec, nCl, lCl, nVp, lVp, nLe, nLt, nEq, lLe, leL, lLt, ltL, eqL, lEq, nM1, nM2, litLt0, one01, zero01, oneNe0, xupE, xupA, xupK, xI_I, xS_I, xF_I, xJ_I, xI_R, xS_R, xF_R, xJ_R, xI_L, xS_L, xF_L, xJ_L, xcat_s, le46, ge16, or_true, true_or, false_or, or_false, eq_self, Option.toList_some, Option.toList_none, List.cons_append, List.nil_append, true_and, and_true, not_false_eq_true, not_true_eq_false, if_true, if_false, ite_i]
  congr 3
  unfold bya at b ⊢
  by_cases h : i < n
  · rw [if_pos h] at b ⊢
    by_cases q1 : c i < 48
    · rw [if_pos q1, if_neg (fun z => by have := ii.mp z.2; omega)]
    by_cases q2 : 57 < c i
    · rw [if_neg q1, if_pos q2, if_neg (fun z => by have := ii.mp z.2; omega)]
    · rw [if_neg q1, if_neg q2, if_pos ⟨h, ii.mpr (by omega)⟩]
  · rw [if_neg h]
    rw [if_pos (by omega), if_neg (fun z => h z.1)]
/-- what cutting may change -/
def ctP : Nat → Nat → Prop := fun a k => (a = 439 ∧ k = 10) ∨ (442 ≤ a ∧ a ≤ 444)
def ctJ : Nat → Nat → Prop := fun a _ => a = 445
/-- the first m tokens stand as told -/
def TkR (M : XM) (m : Nat) (K P V : Nat → Int32) (N : Nat → Int64) : Prop := xI M 439 10 = nI m ∧ ∀ i, i < m → xI M 442 i = K i ∧ xI M 443 i = P i ∧ xI M 444 i = V i ∧ xJ M 445 i = N i
def upI (f : Nat → Int32) (m : Nat) (x : Int32) : Nat → Int32 := fun i => if i = m then x else f i
def upJ (f : Nat → Int64) (m : Nat) (x : Int64) : Nat → Int64 := fun i => if i = m then x else f i
theorem r_token {M : XM} {m : Nat} {k p v : Int32} {w : Int64} {K P V : Nat → Int32} {N : Nat → Int64} {Q : Option Value → XM → Prop} (h : RSh M) (ht : TkR M m K P V N) (hm : m < 403)
    (hQ : ∀ M' : XM, E3 ctP ctJ noF M M' → TkR M' (m + 1) (upI K m k) (upI P m p) (upI V m v) (upJ N m w) → Q none M') :
    RG xprog 85 0 [some (.ref 439), some (.int k), some (.int p), some (.int v), some (.long w), none] [] M Q := by
  obtain ⟨t1, t2⟩ := ht
  rw [B_85_0]
  simp (disch := omega) only [h.s, h.f, t1, lAdd, addL, lMul, mulL, nMul, nI_add, subL, lSub, nSub, nDec, nCl, lCl, nVp, lVp, nLe, nLt, nEq, lLe, leL, lLt, ltL, eqL, lEq, nM1, nM2, litLt0, one01, zero01, oneNe0, xupE, xupA, xupK, xI_I, xS_I, xF_I, xJ_I, xI_R, xS_R, xF_R, xJ_R, xI_L, xS_L, xF_L, xJ_L, xcat_s, le46, ge16, or_true, true_or, false_or, or_false, eq_self, Option.toList_some, Option.toList_none, List.cons_append, List.nil_append, true_and, and_true, not_false_eq_true, not_true_eq_false, if_true, if_false]
  rw [B_85_20]
  simp (disch := omega) only [h.s, h.f, t1, lAdd, addL, lMul, mulL, nMul, nI_add, subL, lSub, nSub, nDec, nCl, lCl, nVp, lVp, nLe, nLt, nEq, lLe, leL, lLt, ltL, eqL, lEq, nM1, nM2, litLt0, one01, zero01, oneNe0, xupE, xupA, xupK, xI_I, xS_I, xF_I, xJ_I, xI_R, xS_R, xF_R, xJ_R, xI_L, xS_L, xF_L, xJ_L, xcat_s, le46, ge16, or_true, true_or, false_or, or_false, eq_self, Option.toList_some, Option.toList_none, List.cons_append, List.nil_append, true_and, and_true, not_false_eq_true, not_true_eq_false, if_true, if_false]
  rw [B_85_41]
  simp (disch := omega) only [h.s, h.f, t1, lAdd, addL, lMul, mulL, nMul, nI_add, subL, lSub, nSub, nDec, nCl, lCl, nVp, lVp, nLe, nLt, nEq, lLe, leL, lLt, ltL, eqL, lEq, nM1, nM2, litLt0, one01, zero01, oneNe0, xupE, xupA, xupK, xI_I, xS_I, xF_I, xJ_I, xI_R, xS_R, xF_R, xJ_R, xI_L, xS_L, xF_L, xJ_L, xcat_s, le46, ge16, or_true, true_or, false_or, or_false, eq_self, Option.toList_some, Option.toList_none, List.cons_append, List.nil_append, true_and, and_true, not_false_eq_true, not_true_eq_false, if_true, if_false]
  refine hQ _ (((((((E3.refl _ _ _ _).wI _ (by unfold ctP; omega)).wI _ (by unfold ctP; omega)).wI _ (by unfold ctP; omega)).wJ _ (by unfold ctJ; omega)).wI _ (by unfold ctP; omega))) ⟨by simp (disch := omega) only [lAdd, addL, lMul, mulL, nMul, nI_add, subL, lSub, nSub, nDec, nCl, lCl, nVp, lVp, nLe, nLt, nEq, lLe, leL, lLt, ltL, eqL, lEq, nM1, nM2, litLt0, one01, zero01, oneNe0, xupE, xupA, xupK, xI_I, xS_I, xF_I, xJ_I, xI_R, xS_R, xF_R, xJ_R, xI_L, xS_L, xF_L, xJ_L, xcat_s, le46, ge16, or_true, true_or, false_or, or_false, eq_self, Option.toList_some, Option.toList_none, List.cons_append, List.nil_append, true_and, and_true, not_false_eq_true, not_true_eq_false, if_true, if_false], fun i hi => ?_⟩
  unfold upI upJ
  by_cases q : i = m
  · subst q
    simp (disch := omega) only [lAdd, addL, lMul, mulL, nMul, nI_add, subL, lSub, nSub, nDec, nCl, lCl, nVp, lVp, nLe, nLt, nEq, lLe, leL, lLt, ltL, eqL, lEq, nM1, nM2, litLt0, one01, zero01, oneNe0, xupE, xupA, xupK, xI_I, xS_I, xF_I, xJ_I, xI_R, xS_R, xF_R, xJ_R, xI_L, xS_L, xF_L, xJ_L, xcat_s, le46, ge16, or_true, true_or, false_or, or_false, eq_self, Option.toList_some, Option.toList_none, List.cons_append, List.nil_append, true_and, and_true, not_false_eq_true, not_true_eq_false, if_true, if_false]
  · rw [if_neg q, if_neg q, if_neg q, if_neg q]
    simp (disch := omega) only [lAdd, addL, lMul, mulL, nMul, nI_add, subL, lSub, nSub, nDec, nCl, lCl, nVp, lVp, nLe, nLt, nEq, lLe, leL, lLt, ltL, eqL, lEq, nM1, nM2, litLt0, one01, zero01, oneNe0, xupE, xupA, xupK, xI_I, xS_I, xF_I, xJ_I, xI_R, xS_R, xF_R, xJ_R, xI_L, xS_L, xF_L, xJ_L, xcat_s, le46, ge16, or_true, true_or, false_or, or_false, eq_self, Option.toList_some, Option.toList_none, List.cons_append, List.nil_append, true_and, and_true, not_false_eq_true, not_true_eq_false, if_true, if_false]
    exact t2 i (by omega)
