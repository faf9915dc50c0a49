/-! steps that keep S: the class's (CK) and the reference's (RK, RQ: with a row) -/
def cR : Nat → Nat → Prop := fun a _ => 16 ≤ a ∧ a < 439
def rR : Nat → Nat → Prop := fun a _ => 439 ≤ a
def CK (M0 : XM) (t : Nat) (S : XS) (M : XM) : Prop := CW M t S ∧ Ex cR M0 M
def RK (M0 : XM) (lv : Nat) (S : XS) (M : XM) : Prop := RWd M lv S ∧ Ex rR M0 M
def RQ (M0 : XM) (lv : Nat) (S : XS) (F : XO) (sd st : Int32) (M : XM) : Prop := RK M0 lv S M ∧ RR M lv (zT S) F ∧ xI M 439 52 = sd ∧ xI M 439 53 = st
theorem CK.step {M0 M M' : XM} {t : Nat} {S : XS} {P : Nat → Nat → Prop} (h : CK M0 t S M) (e : Ex P M M') (hp : ∀ a k, P a k → cS t a k ∧ 16 ≤ a ∧ a < 439) : CK M0 t S M' := ⟨h.1.ex e fun a k q => (hp a k q).1, h.2.trans (e.mono fun a k q => (hp a k q).2)⟩
theorem CK.stepX {M0 M M' : XM} {t : Nat} {S : XS} (h : CK M0 t S M) (e : Ex (tX t) M M') : CK M0 t S M' := h.step e fun a k q => by
  have := h.1.t2
  unfold tX at q
  unfold cS
  omega
theorem RK.step {M0 M M' : XM} {lv : Nat} {S : XS} {P : Nat → Nat → Prop} (h : RK M0 lv S M) (e : Ex P M M') (hp : ∀ a k, P a k → rS a k ∧ 439 ≤ a) : RK M0 lv S M' := ⟨h.1.ex e fun a k q => (hp a k q).1, h.2.trans (e.mono fun a k q => (hp a k q).2)⟩
theorem RQ.stepL {M0 M M' : XM} {lv : Nat} {S : XS} {F : XO} {sd st : Int32} (h : RQ M0 lv S F sd st M) (e : Ex rL M M') : RQ M0 lv S F sd st M' := by
  refine ⟨h.1.step e fun a k q => ?_, h.2.1.exL e, ?_, ?_⟩
  · unfold rL at q
    unfold rS rL
    omega
  · rw [e.I (by unfold rL; omega)]; exact h.2.2.1
  · rw [e.I (by unfold rL; omega)]; exact h.2.2.2
abbrev isLb (n : Nat) (x : Int32) : Prop := ¬ x < 0 ∧ ¬ nI n ≤ x
theorem isLb_get {n : Nat} {x : Int32} (h : isLb n x) (hn : n < 2 ^ 31) : ∃ l, l < n ∧ x = nI l := nOf h.1 h.2 hn
theorem isLb_nI {n l : Nat} (h : l < n) (hn : n < 2 ^ 31) : isLb n (nI l) := ⟨by rw [ltL (by omega) (by omega)]; omega, by rw [nLe (by omega) (by omega)]; omega⟩
theorem c_isLetter {M : XM} {t : Nat} {S : XS} {x : Int32} {Q : Option Value → XM → Prop} (h : CW M t S) : RG xprog 110 0 [some (.ref 16), some (.int x)] [] M Q = Q (some (.int (if isLb (tN (zT S)) x then 1 else 0))) M := by
  rw [B_110_0]
  simp (disch := omega) only [h.d, h.tx.f, h.tx.n, lAdd, addL, lMul, mulL, nMul, nI_add, subL, lSub, nSub, nDec, nCl, lCl, nVp, lVp, nLe, nLt, nEq, lLe, leL, lLt, ltL, eqL, lEq, nM1, nM2, litLt0, one01, zero01, oneNe0, xupE, xupA, xupK, xI_I, xS_I, xF_I, xJ_I, xI_R, xS_R, xF_R, xJ_R, xI_L, xS_L, xF_L, xJ_L, xcat_s, le46, ge16, or_true, true_or, false_or, or_false, eq_self, Option.toList_some, Option.toList_none, List.cons_append, List.nil_append, true_and, and_true, not_false_eq_true, not_true_eq_false, if_true, if_false, ite_i]
  congr 3
  by_cases h1 : x < 0
  · rw [if_pos h1, if_neg (fun q => q.1 h1)]
  · rw [if_neg h1]
    by_cases h2 : nI (tN (zT S)) ≤ x
    · rw [if_pos h2, if_neg (fun q => q.2 h2)]
    · rw [if_neg h2, if_pos ⟨h1, h2⟩]
theorem c_isReader {M : XM} {t : Nat} {S : XS} {x : Int32} {Q : Option Value → XM → Prop} (h : CW M t S) : RG xprog 119 0 [some (.ref 16), some (.int x)] [] M Q = Q (some (.int (if isLb (tR (zT S)) x then 1 else 0))) M := by
  rw [B_119_0]
  simp (disch := omega) only [h.d, h.tx.f, h.tx.r, lAdd, addL, lMul, mulL, nMul, nI_add, subL, lSub, nSub, nDec, nCl, lCl, nVp, lVp, nLe, nLt, nEq, lLe, leL, lLt, ltL, eqL, lEq, nM1, nM2, litLt0, one01, zero01, oneNe0, xupE, xupA, xupK, xI_I, xS_I, xF_I, xJ_I, xI_R, xS_R, xF_R, xJ_R, xI_L, xS_L, xF_L, xJ_L, xcat_s, le46, ge16, or_true, true_or, false_or, or_false, eq_self, Option.toList_some, Option.toList_none, List.cons_append, List.nil_append, true_and, and_true, not_false_eq_true, not_true_eq_false, if_true, if_false, ite_i]
  congr 3
  by_cases h1 : x < 0
  · rw [if_pos h1, if_neg (fun q => q.1 h1)]
  · rw [if_neg h1]
    by_cases h2 : nI (tR (zT S)) ≤ x
    · rw [if_pos h2, if_neg (fun q => q.2 h2)]
    · rw [if_neg h2, if_pos ⟨h1, h2⟩]
theorem n_le_lt {n : Nat} (hn : n ≤ 100) (x : Int32) : (nI n - 1 < x) = (nI n ≤ x) := by
  rw [i32_lt, i32_le, Int32.toInt_sub, nI_tI (by omega), show (1 : Int32).toInt = 1 from rfl, Int.bmod_eq_of_le (by omega) (by omega)]
  exact propext ⟨fun h => by omega, fun h => by omega⟩
theorem in_lb {n : Nat} (hn : n ≤ 100) (x : Int32) : (if x < 0 then (0 : Int32) else if nI n - 1 < x then 0 else 1) = if isLb n x then 1 else 0 := by
  simp only [n_le_lt hn]
  by_cases h1 : x < 0
  · rw [if_pos h1, if_neg (fun q => q.1 h1)]
  · rw [if_neg h1]
    by_cases h2 : nI n ≤ x
    · rw [if_pos h2, if_neg (fun q => q.2 h2)]
    · rw [if_neg h2, if_pos ⟨h1, h2⟩]
theorem r_isLetter {M : XM} {lv : Nat} {T : XT} {x : Int32} {Q : Option Value → XM → Prop} (h : RW M lv T) : RG xprog 114 0 [some (.ref 439), some (.int x)] [] M Q = Q (some (.int (if isLb (tN T) x then 1 else 0))) M := by
  have l2 := h.lv2
  have n7 := h.n7
  rw [B_114_0]
  simp (disch := omega) only [h.1.s, h.1.f, h.v, h.n, lAdd, addL, lMul, mulL, nMul, nI_add, subL, lSub, nSub, nDec, nCl, lCl, nVp, lVp, nLe, nLt, nEq, lLe, leL, lLt, ltL, eqL, lEq, nM1, nM2, litLt0, one01, zero01, oneNe0, xupE, xupA, xupK, xI_I, xS_I, xF_I, xJ_I, xI_R, xS_R, xF_R, xJ_R, xI_L, xS_L, xF_L, xJ_L, xcat_s, le46, ge16, or_true, true_or, false_or, or_false, eq_self, Option.toList_some, Option.toList_none, List.cons_append, List.nil_append, true_and, and_true, not_false_eq_true, not_true_eq_false, if_true, if_false, B_113_0, ite_i, B_114_16]
  rw [in_lb (by omega)]
theorem r_isReader {M : XM} {lv : Nat} {T : XT} {x : Int32} {Q : Option Value → XM → Prop} (h : RW M lv T) : RG xprog 121 0 [some (.ref 439), some (.int x)] [] M Q = Q (some (.int (if isLb (tR T) x then 1 else 0))) M := by
  have l2 := h.lv2
  have n7 := h.r6
  rw [B_121_0]
  simp (disch := omega) only [h.1.s, h.1.f, h.v, h.r, lAdd, addL, lMul, mulL, nMul, nI_add, subL, lSub, nSub, nDec, nCl, lCl, nVp, lVp, nLe, nLt, nEq, lLe, leL, lLt, ltL, eqL, lEq, nM1, nM2, litLt0, one01, zero01, oneNe0, xupE, xupA, xupK, xI_I, xS_I, xF_I, xJ_I, xI_R, xS_R, xF_R, xJ_R, xI_L, xS_L, xF_L, xJ_L, xcat_s, le46, ge16, or_true, true_or, false_or, or_false, eq_self, Option.toList_some, Option.toList_none, List.cons_append, List.nil_append, true_and, and_true, not_false_eq_true, not_true_eq_false, if_true, if_false, B_113_0, ite_i, B_121_16]
  rw [in_lb (by omega)]
/-- in(x, a, b) -/
abbrev inb (x a b : Int32) : Prop := ¬ x < a ∧ ¬ b < x
theorem r_in {x a b : Int32} {M : XM} {Q : Option Value → XM → Prop} : RG xprog 113 0 [some (.int x), some (.int a), some (.int b)] [] M Q = Q (some (.int (if inb x a b then 1 else 0))) M := by
  rw [B_113_0]
  simp (disch := omega) only [lAdd, addL, lMul, mulL, nMul, nI_add, subL, lSub, nSub, nDec, nCl, lCl, nVp, lVp, nLe, nLt, nEq, lLe, leL, lLt, ltL, eqL, lEq, nM1, nM2, litLt0, one01, zero01, oneNe0, xupE, xupA, xupK, xI_I, xS_I, xF_I, xJ_I, xI_R, xS_R, xF_R, xJ_R, xI_L, xS_L, xF_L, xJ_L, xcat_s, le46, ge16, or_true, true_or, false_or, or_false, eq_self, Option.toList_some, Option.toList_none, List.cons_append, List.nil_append, true_and, and_true, not_false_eq_true, not_true_eq_false, if_true, if_false, ite_i]
  congr 3
  by_cases h1 : x < a
  · rw [if_pos h1, if_neg (fun q => q.1 h1)]
  · rw [if_neg h1]
    by_cases h2 : b < x
    · rw [if_pos h2, if_neg (fun q => q.2 h2)]
    · rw [if_neg h2, if_pos ⟨h1, h2⟩]
theorem r_isLong {x : Int32} {M : XM} {Q : Option Value → XM → Prop} : RG xprog 175 0 [some (.int x)] [] M Q = Q (some (.int (if inb x 0 60 then 1 else 0))) M := by
  rw [B_175_0, r_in]
  simp (disch := omega) only [lAdd, addL, lMul, mulL, nMul, nI_add, subL, lSub, nSub, nDec, nCl, lCl, nVp, lVp, nLe, nLt, nEq, lLe, leL, lLt, ltL, eqL, lEq, nM1, nM2, litLt0, one01, zero01, oneNe0, xupE, xupA, xupK, xI_I, xS_I, xF_I, xJ_I, xI_R, xS_R, xF_R, xJ_R, xI_L, xS_L, xF_L, xJ_L, xcat_s, le46, ge16, or_true, true_or, false_or, or_false, eq_self, Option.toList_some, Option.toList_none, List.cons_append, List.nil_append, true_and, and_true, not_false_eq_true, not_true_eq_false, if_true, if_false, B_175_7]
  by_cases hx : inb x 0 60
  · rw [if_pos hx]; simp only [or_true, true_and]
  · rw [if_neg hx]; simp only [true_or, true_and]
theorem c_isSpan {x : Int32} {M : XM} {Q : Option Value → XM → Prop} : RG xprog 161 0 [some (.int x)] [] M Q = Q (some (.int (if inb x 0 60 then 1 else 0))) M := by
  rw [B_161_0]
  simp (disch := omega) only [lAdd, addL, lMul, mulL, nMul, nI_add, subL, lSub, nSub, nDec, nCl, lCl, nVp, lVp, nLe, nLt, nEq, lLe, leL, lLt, ltL, eqL, lEq, nM1, nM2, litLt0, one01, zero01, oneNe0, xupE, xupA, xupK, xI_I, xS_I, xF_I, xJ_I, xI_R, xS_R, xF_R, xJ_R, xI_L, xS_L, xF_L, xJ_L, xcat_s, le46, ge16, or_true, true_or, false_or, or_false, eq_self, Option.toList_some, Option.toList_none, List.cons_append, List.nil_append, true_and, and_true, not_false_eq_true, not_true_eq_false, if_true, if_false, ite_i]
  congr 3
  by_cases h1 : x < 0
  · rw [if_pos h1, if_neg (fun q => q.1 h1)]
  · rw [if_neg h1]
    by_cases h2 : 60 < x
    · rw [if_pos h2, if_neg (fun q => q.2 h2)]
    · rw [if_neg h2, if_pos ⟨h1, h2⟩]
theorem inb_get {x : Int32} {n : Nat} (h : inb x 0 (nI n)) (hn : n < 2 ^ 31) : ∃ j, j ≤ n ∧ x = nI j := by
  obtain ⟨j, h1, h2⟩ := nI_of h.1
  subst h2
  refine ⟨j, ?_, rfl⟩
  have := h.2
  rw [nLt hn h1] at this
  omega
theorem c_likesNow {M0 M : XM} {t l a : Nat} {S : XS} {Q : Option Value → XM → Prop} (h : CK M0 t S M) (hl : l < 7) (ha : a < 6)
    (hQ : ∀ M' : XM, CK M0 t S M' → Q (some (.int (lkv (zT S) (zF S) l a))) M') :
    RG xprog 129 0 [some (.ref 16), some (.int (nI l)), some (.int (nI a))] [] M Q := by
  rw [B_129_0]
  simp (disch := omega) only [h.1.d, h.1.tx.f, lAdd, addL, lMul, mulL, nMul, nI_add, subL, lSub, nSub, nDec, nCl, lCl, nVp, lVp, nLe, nLt, nEq, lLe, leL, lLt, ltL, eqL, lEq, nM1, nM2, litLt0, one01, zero01, oneNe0, xupE, xupA, xupK, xI_I, xS_I, xF_I, xJ_I, xI_R, xS_R, xF_R, xJ_R, xI_L, xS_L, xF_L, xJ_L, xcat_s, le46, ge16, or_true, true_or, false_or, or_false, eq_self, Option.toList_some, Option.toList_none, List.cons_append, List.nil_append, true_and, and_true, not_false_eq_true, not_true_eq_false, if_true, if_false]
  refine c_likesOf h.1.tx h.1.of hl ha h.1.sep ?_
  intro M1 e1
  simp (disch := omega) only [lAdd, addL, lMul, mulL, nMul, nI_add, subL, lSub, nSub, nDec, nCl, lCl, nVp, lVp, nLe, nLt, nEq, lLe, leL, lLt, ltL, eqL, lEq, nM1, nM2, litLt0, one01, zero01, oneNe0, xupE, xupA, xupK, xI_I, xS_I, xF_I, xJ_I, xI_R, xS_R, xF_R, xJ_R, xI_L, xS_L, xF_L, xJ_L, xcat_s, le46, ge16, or_true, true_or, false_or, or_false, eq_self, Option.toList_some, Option.toList_none, List.cons_append, List.nil_append, true_and, and_true, not_false_eq_true, not_true_eq_false, if_true, if_false, B_129_13]
  exact hQ M1 (h.stepX e1)
theorem r_copies {M0 M : XM} {lv B : Nat} {S : XS} {Q : Option Value → XM → Prop} (h : RK M0 lv S M) (hi : SInv B S) (hB : B ≤ 99999)
    (hQ : ∀ M' : XM, RQ M0 lv S (zF S) (tS (zT S) 2) 0 M' → Q none M') :
    RG xprog 115 0 [some (.ref 439), none] [] M Q := by
  have hw := h.1.1
  have l2 := hw.lv2
  rw [B_115_0]
  refine x_for 34 (fun i M1 => Ex (fun a _ => a = 473) M M1 ∧ ∀ k, k < i → xI M1 473 k = xI M 472 k) (fun i M1 => RG xprog 115 2 [some (.ref 439), some (.int (nI i))] [] M1 Q) ?_ ?_ 0 M (by omega) ⟨Ex.refl _ _, fun k hk => by omega⟩
  · intro M1 ⟨e1, f1⟩
    have w1 := hw.ex e1 (by intro a k q; unfold rNT; omega)
    rw [B_115_2]
    simp (disch := omega) only [w1.1.s, w1.1.f, w1.v, w1.st, lAdd, addL, lMul, mulL, nMul, nI_add, subL, lSub, nSub, nDec, nCl, lCl, nVp, lVp, nLe, nLt, nEq, lLe, leL, lLt, ltL, eqL, lEq, nM1, nM2, litLt0, one01, zero01, oneNe0, xupE, xupA, xupK, xI_I, xS_I, xF_I, xJ_I, xI_R, xS_R, xF_R, xJ_R, xI_L, xS_L, xF_L, xJ_L, xcat_s, le46, ge16, or_true, true_or, false_or, or_false, eq_self, Option.toList_some, Option.toList_none, List.cons_append, List.nil_append, true_and, and_true, not_false_eq_true, not_true_eq_false, if_true, if_false, if_pos]
    apply hQ
    have e2 : Ex (fun a k => a = 473 ∨ (a = 439 ∧ (k = 52 ∨ k = 53))) M (xmI (xmI M1 439 52 (tS (zT S) 2)) 439 53 0) := ((e1.mono fun a k q => Or.inl q).wr _ (by omega)).wr _ (by omega)
    refine ⟨h.step e2 fun a k q => ?_, ⟨hw.ex e2 ?_, ?_, ?_, hi.2.1⟩, ?_, ?_⟩
    · unfold rS
      omega
    · intro a k q
      unfold rNT
      omega
    · have hr := h.1.2.1
      simp (disch := omega) only [lAdd, addL, lMul, mulL, nMul, nI_add, subL, lSub, nSub, nDec, nCl, lCl, nVp, lVp, nLe, nLt, nEq, lLe, leL, lLt, ltL, eqL, lEq, nM1, nM2, litLt0, one01, zero01, oneNe0, xupE, xupA, xupK, xI_I, xS_I, xF_I, xJ_I, xI_R, xS_R, xF_R, xJ_R, xI_L, xS_L, xF_L, xJ_L, xcat_s, le46, ge16, or_true, true_or, false_or, or_false, eq_self, Option.toList_some, Option.toList_none, List.cons_append, List.nil_append, true_and, and_true, not_false_eq_true, not_true_eq_false, if_true, if_false, xupR]
      obtain ⟨q1, q2, q3, q4⟩ := hr
      refine ⟨fun l hl => ?_, fun a ha => ?_, fun a ha => ?_, ?_⟩
      · rw [f1 l (by omega), f1 (7 + l) (by omega), f1 (14 + l) (by omega)]; exact q1 l hl
      · rw [f1 (21 + a) (by have := hw.r6; omega)]; exact q2 a ha
      · rw [f1 (27 + a) (by omega)]; exact q3 a ha
      · rw [f1 33 (by omega)]; exact q4
    · obtain ⟨d, q1, q2⟩ := hi.2.2.1
      exact ⟨d, by omega, q2⟩
    · simp (disch := omega) only [lAdd, addL, lMul, mulL, nMul, nI_add, subL, lSub, nSub, nDec, nCl, lCl, nVp, lVp, nLe, nLt, nEq, lLe, leL, lLt, ltL, eqL, lEq, nM1, nM2, litLt0, one01, zero01, oneNe0, xupE, xupA, xupK, xI_I, xS_I, xF_I, xJ_I, xI_R, xS_R, xF_R, xJ_R, xI_L, xS_L, xF_L, xJ_L, xcat_s, le46, ge16, or_true, true_or, false_or, or_false, eq_self, Option.toList_some, Option.toList_none, List.cons_append, List.nil_append, true_and, and_true, not_false_eq_true, not_true_eq_false, if_true, if_false]
    · simp (disch := omega) only [lAdd, addL, lMul, mulL, nMul, nI_add, subL, lSub, nSub, nDec, nCl, lCl, nVp, lVp, nLe, nLt, nEq, lLe, leL, lLt, ltL, eqL, lEq, nM1, nM2, litLt0, one01, zero01, oneNe0, xupE, xupA, xupK, xI_I, xS_I, xF_I, xJ_I, xI_R, xS_R, xF_R, xJ_R, xI_L, xS_L, xF_L, xJ_L, xcat_s, le46, ge16, or_true, true_or, false_or, or_false, eq_self, Option.toList_some, Option.toList_none, List.cons_append, List.nil_append, true_and, and_true, not_false_eq_true, not_true_eq_false, if_true, if_false]
  · intro i M1 hi ⟨e1, f1⟩ ih
    have w1 := hw.ex e1 (by intro a k q; unfold rNT; omega)
    rw [B_115_2]
    simp (disch := omega) only [w1.1.s, w1.1.f, lAdd, addL, lMul, mulL, nMul, nI_add, subL, lSub, nSub, nDec, nCl, lCl, nVp, lVp, nLe, nLt, nEq, lLe, leL, lLt, ltL, eqL, lEq, nM1, nM2, litLt0, one01, zero01, oneNe0, xupE, xupA, xupK, xI_I, xS_I, xF_I, xJ_I, xI_R, xS_R, xF_R, xJ_R, xI_L, xS_L, xF_L, xJ_L, xcat_s, le46, ge16, or_true, true_or, false_or, or_false, eq_self, Option.toList_some, Option.toList_none, List.cons_append, List.nil_append, true_and, and_true, not_false_eq_true, not_true_eq_false, if_true, if_false, if_neg]
    refine ih _ ⟨e1.wr _ rfl, ?_⟩
    intro k hk
    rw [xI_I]
    by_cases q : k = i
    · rw [q, xupE, e1.I (by omega)]
    · rw [xupK _ _ q]; exact f1 k (by omega)
theorem q_likesOf {M0 M : XM} {lv l a : Nat} {S : XS} {F : XO} {sd st : Int32} {Q : Option Value → XM → Prop} (h : RQ M0 lv S F sd st M) (hl : l < tN (zT S)) (ha : a < tR (zT S))
    (hQ : ∀ M' : XM, RQ M0 lv S F sd st M' → Q (some (.int (lkv (zT S) F l a))) M') :
    RG xprog 137 0 [some (.ref 439), some (.int (nI l)), some (.int (nI a))] [] M Q := r_likesOf h.2.1 hl ha fun M' e => hQ M' (h.stepL e)
theorem q_rathersOf {M0 M : XM} {lv l a : Nat} {S : XS} {F : XO} {sd st : Int32} {Q : Option Value → XM → Prop} (h : RQ M0 lv S F sd st M) (hl : l < tN (zT S)) (ha : a < tR (zT S))
    (hQ : ∀ M' : XM, RQ M0 lv S F sd st M' → Q (some (.int (rav (zT S) F l a))) M') :
    RG xprog 138 0 [some (.ref 439), some (.int (nI l)), some (.int (nI a))] [] M Q := r_rathersOf h.2.1 hl ha fun M' e => hQ M' (h.stepL e)
theorem q_doesReturn {M0 M : XM} {lv l a : Nat} {S : XS} {F : XO} {sd st : Int32} {Q : Option Value → XM → Prop} (h : RQ M0 lv S F sd st M) (hl : l < tN (zT S)) (ha : a < tR (zT S))
    (hQ : ∀ M' : XM, RQ M0 lv S F sd st M' → Q (some (.int (if tW (zT S) 2 (vvar (zT S) F l a) ≤ 0 then 0 else 1))) M') :
    RG xprog 139 0 [some (.ref 439), some (.int (nI l)), some (.int (nI a))] [] M Q := r_doesReturn h.2.1 hl ha fun M' e => hQ M' (h.stepL e)
def daysF (T : XT) (sd wet : Int32) (n : Nat) (F : XO) : XO := iter (fun _ G => dayF T sd wet G) n F
theorem days_inv {T : XT} {F : XO} (h : OInv T F) (r6 : tR T ≤ 6) (n7 : tN T ≤ 7) (sd wet : Int32) {B : Nat} (hd : DB B F) : ∀ n, OInv T (daysF T sd wet n F) ∧ DB (B + n) (daysF T sd wet n F)
  | 0 => ⟨h, hd⟩
  | n + 1 => by
    obtain ⟨h1, d, h2, h3⟩ := days_inv h r6 n7 sd wet hd n
    refine ⟨h1.day r6 n7 sd wet, d + 1, by omega, ?_⟩
    show oD (dayF T sd wet (daysF T sd wet n F)) = _
    rw [day_D h1 r6 n7, h3, nI_1]
theorem q_dayGoes {M0 M : XM} {lv : Nat} {S : XS} {F : XO} {sd st wet : Int32} {Q : Option Value → XM → Prop} (h : RQ M0 lv S F sd st M) (hst : (¬ st = 0 ∧ wet = 0) ∨ (st = 0 ∧ wet = tS (zT S) 1)) (hd : DB 99998 F)
    (hQ : ∀ M' : XM, RQ M0 lv S (dayF (zT S) sd wet F) sd st M' → Q none M') :
    RG xprog 180 0 [some (.ref 439), none, none, none] [] M Q := by
  obtain ⟨h1, h2, h3, h4⟩ := h
  refine r_dayGoes (wet := wet) h2 (by rw [h4]; exact hst) ?_
  intro M' e f
  rw [h3] at f
  apply hQ
  have n7 := h2.n7
  have r6 := h2.r6
  refine ⟨h1.step e fun a k q => ?_, ⟨h2.1.ex e rD_N, f, ?_, h2.i.day r6 n7 sd wet⟩, ?_, ?_⟩
  · unfold rD rL at q
    unfold rS rL
    omega
  · obtain ⟨d, q1, q2⟩ := hd
    exact ⟨d + 1, by omega, by rw [day_D h2.i r6 n7, q2, nI_1]⟩
  · rw [e.I (by unfold rD rL; omega)]; exact h3
  · rw [e.I (by unfold rD rL; omega)]; exact h4
theorem q_goes {M0 M : XM} {lv n B : Nat} {S : XS} {F : XO} {sd st wet : Int32} {Q : Option Value → XM → Prop} (h : RQ M0 lv S F sd st M) (hst : (¬ st = 0 ∧ wet = 0) ∨ (st = 0 ∧ wet = tS (zT S) 1)) (hd : DB B F) (hB : B + n ≤ 99998)
    (hQ : ∀ M' : XM, RQ M0 lv S (daysF (zT S) sd wet n F) sd st M' → Q none M') :
    RG xprog 181 0 [some (.ref 439), some (.int (nI n)), none] [] M Q := by
  rw [B_181_0]
  have n7 := h.2.1.n7
  have r6 := h.2.1.r6
  refine x_for n (fun i M1 => RQ M0 lv S (daysF (zT S) sd wet i F) sd st M1) (fun i M1 => RG xprog 181 2 [some (.ref 439), some (.int (nI n)), some (.int (nI i))] [] M1 Q) ?_ ?_ 0 M (by omega) h
  · intro M1 h1
    rw [B_181_2]
    simp (disch := omega) only [lAdd, addL, lMul, mulL, nMul, nI_add, subL, lSub, nSub, nDec, nCl, lCl, nVp, lVp, nLe, nLt, nEq, lLe, leL, lLt, ltL, eqL, lEq, nM1, nM2, litLt0, one01, zero01, oneNe0, xupE, xupA, xupK, xI_I, xS_I, xF_I, xJ_I, xI_R, xS_R, xF_R, xJ_R, xI_L, xS_L, xF_L, xJ_L, xcat_s, le46, ge16, or_true, true_or, false_or, or_false, eq_self, Option.toList_some, Option.toList_none, List.cons_append, List.nil_append, true_and, and_true, not_false_eq_true, not_true_eq_false, if_true, if_false, Nat.le_refl]
    exact hQ M1 h1
  · intro i M1 hi h1 ih
    rw [B_181_2]
    simp (disch := omega) only [lAdd, addL, lMul, mulL, nMul, nI_add, subL, lSub, nSub, nDec, nCl, lCl, nVp, lVp, nLe, nLt, nEq, lLe, leL, lLt, ltL, eqL, lEq, nM1, nM2, litLt0, one01, zero01, oneNe0, xupE, xupA, xupK, xI_I, xS_I, xF_I, xJ_I, xI_R, xS_R, xF_R, xJ_R, xI_L, xS_L, xF_L, xJ_L, xcat_s, le46, ge16, or_true, true_or, false_or, or_false, eq_self, Option.toList_some, Option.toList_none, List.cons_append, List.nil_append, true_and, and_true, not_false_eq_true, not_true_eq_false, if_true, if_false, if_neg, h1.2.1.s.s]
    have hd1 := (days_inv h.2.1.i r6 n7 sd wet hd i).2
    refine q_dayGoes (wet := wet) h1 hst ?_ ?_
    · obtain ⟨d, q1, q2⟩ := hd1
      exact ⟨d, by omega, q2⟩
    · intro M2 h2
      simp (disch := omega) only [lAdd, addL, lMul, mulL, nMul, nI_add, subL, lSub, nSub, nDec, nCl, lCl, nVp, lVp, nLe, nLt, nEq, lLe, leL, lLt, ltL, eqL, lEq, nM1, nM2, litLt0, one01, zero01, oneNe0, xupE, xupA, xupK, xI_I, xS_I, xF_I, xJ_I, xI_R, xS_R, xF_R, xJ_R, xI_L, xS_L, xF_L, xJ_L, xcat_s, le46, ge16, or_true, true_or, false_or, or_false, eq_self, Option.toList_some, Option.toList_none, List.cons_append, List.nil_append, true_and, and_true, not_false_eq_true, not_true_eq_false, if_true, if_false, B_181_11]
      exact ih M2 h2
theorem c_goAhead {M0 M : XM} {t n B : Nat} {S : XS} {sd wet : Int32} {Q : Option Value → XM → Prop} (h : CK M0 t S M) (hi : SInv B S) (hn : n ≤ 60)
    (hQ : ∀ M' : XM, CK M0 t S M' → OffIs M' 91 (daysF (zT S) sd wet n (zF S)) → Q none M') :
    RG xprog 243 0 [some (.ref 16), some (.int (nI n)), some (.int sd), some (.int wet), none] [] M Q := by
  have n7 := h.1.tx.n7
  have r6 := h.1.tx.r6
  have t2 := h.1.t2
  obtain ⟨A, hA, cA'⟩ := h.1.ah.is
  rw [B_243_0]
  simp (disch := omega) only [h.1.d, lAdd, addL, lMul, mulL, nMul, nI_add, subL, lSub, nSub, nDec, nCl, lCl, nVp, lVp, nLe, nLt, nEq, lLe, leL, lLt, ltL, eqL, lEq, nM1, nM2, litLt0, one01, zero01, oneNe0, xupE, xupA, xupK, xI_I, xS_I, xF_I, xJ_I, xI_R, xS_R, xF_R, xJ_R, xI_L, xS_L, xF_L, xJ_L, xcat_s, le46, ge16, or_true, true_or, false_or, or_false, eq_self, Option.toList_some, Option.toList_none, List.cons_append, List.nil_append, true_and, and_true, not_false_eq_true, not_true_eq_false, if_true, if_false, hA.f]
  have hO := hi.2.1
  have dv := fun i => days_inv hO r6 n7 sd wet hi.2.2.1 i
  refine c_copyFrom hA h.1.of cA' hO.2.2.2.2.2 (by omega) ?_
  intro M1 e1 f1
  have big : ∀ (M2 : XM) (i : Nat), Ex (oX 91 t) M M2 → OffIs M2 91 (daysF (zT S) sd wet i (zF S)) → CK M0 t S M2 := by
    intro M2 i e2 f2
    refine ⟨h.1.exA e2 (fun a k q => ?_) (f2.c (dv i).1.2.2.2.2.2), h.2.trans (e2.mono fun a k q => ?_)⟩
    · unfold oX at q
      unfold cA cS
      omega
    · unfold oX at q
      unfold cR
      omega
  simp (disch := omega) only [lAdd, addL, lMul, mulL, nMul, nI_add, subL, lSub, nSub, nDec, nCl, lCl, nVp, lVp, nLe, nLt, nEq, lLe, leL, lLt, ltL, eqL, lEq, nM1, nM2, litLt0, one01, zero01, oneNe0, xupE, xupA, xupK, xI_I, xS_I, xF_I, xJ_I, xI_R, xS_R, xF_R, xJ_R, xI_L, xS_L, xF_L, xJ_L, xcat_s, le46, ge16, or_true, true_or, false_or, or_false, eq_self, Option.toList_some, Option.toList_none, List.cons_append, List.nil_append, true_and, and_true, not_false_eq_true, not_true_eq_false, if_true, if_false, B_243_11]
  refine x_for n (fun i M2 => Ex (oX 91 t) M M2 ∧ OffIs M2 91 (daysF (zT S) sd wet i (zF S))) (fun i M2 => RG xprog 243 14 [some (.ref 16), some (.int (nI n)), some (.int sd), some (.int wet), some (.int (nI i))] [] M2 Q) ?_ ?_ 0 M1 (by omega) ⟨e1.mono fun a k q => Or.inl q, f1⟩
  · intro M2 ⟨e2, f2⟩
    rw [B_243_14]
    simp (disch := omega) only [lAdd, addL, lMul, mulL, nMul, nI_add, subL, lSub, nSub, nDec, nCl, lCl, nVp, lVp, nLe, nLt, nEq, lLe, leL, lLt, ltL, eqL, lEq, nM1, nM2, litLt0, one01, zero01, oneNe0, xupE, xupA, xupK, xI_I, xS_I, xF_I, xJ_I, xI_R, xS_R, xF_R, xJ_R, xI_L, xS_L, xF_L, xJ_L, xcat_s, le46, ge16, or_true, true_or, false_or, or_false, eq_self, Option.toList_some, Option.toList_none, List.cons_append, List.nil_append, true_and, and_true, not_false_eq_true, not_true_eq_false, if_true, if_false, Nat.le_refl]
    exact hQ M2 (big M2 n e2 f2) f2
  · intro i M2 hi' ⟨e2, f2⟩ ih
    have h2 := big M2 i e2 f2
    rw [B_243_14]
    simp (disch := omega) only [lAdd, addL, lMul, mulL, nMul, nI_add, subL, lSub, nSub, nDec, nCl, lCl, nVp, lVp, nLe, nLt, nEq, lLe, leL, lLt, ltL, eqL, lEq, nM1, nM2, litLt0, one01, zero01, oneNe0, xupE, xupA, xupK, xI_I, xS_I, xF_I, xJ_I, xI_R, xS_R, xF_R, xJ_R, xI_L, xS_L, xF_L, xJ_L, xcat_s, le46, ge16, or_true, true_or, false_or, or_false, eq_self, Option.toList_some, Option.toList_none, List.cons_append, List.nil_append, true_and, and_true, not_false_eq_true, not_true_eq_false, if_true, if_false, if_neg, h2.1.d, f2.f]
    refine c_passDay h2.1.tx f2 (dv i).1 h2.1.sepA ?_
    intro M3 e3 f3
    simp (disch := omega) only [lAdd, addL, lMul, mulL, nMul, nI_add, subL, lSub, nSub, nDec, nCl, lCl, nVp, lVp, nLe, nLt, nEq, lLe, leL, lLt, ltL, eqL, lEq, nM1, nM2, litLt0, one01, zero01, oneNe0, xupE, xupA, xupK, xI_I, xS_I, xF_I, xJ_I, xI_R, xS_R, xF_R, xJ_R, xI_L, xS_L, xF_L, xJ_L, xcat_s, le46, ge16, or_true, true_or, false_or, or_false, eq_self, Option.toList_some, Option.toList_none, List.cons_append, List.nil_append, true_and, and_true, not_false_eq_true, not_true_eq_false, if_true, if_false, B_243_33]
    exact ih M3 ⟨e2.trans e3, f3⟩
