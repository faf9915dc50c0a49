/-! the reference: a text, a row, what laws say -/
/-- numbers as told -/
def TOk (T : XT) : Prop := tN T ≤ 7 ∧ tR T ≤ 6 ∧ (∀ l, l < tN T → (∀ k, k < 3 → ∃ w, w < 10 ∧ tL T l k = nI w) ∧ ∃ c, c < 100 ∧ tL T l 3 = nI c) ∧ (∀ a, a < tR T → ∀ k, k < 3 → ∃ w, w < 10 ∧ tM T a k = nI w) ∧ (∃ x, x < 100 ∧ tS T 0 = nI x) ∧ (∃ x, x ≤ 100 ∧ tS T 1 = nI x) ∧ ∃ x, x < 10000 ∧ tS T 2 = nI x
def RTx (I : Nat → Nat → Int32) (lv : Nat) (T : XT) : Prop := lv < 2 ∧ I 439 18 = nI lv ∧ I 448 lv = nI (tN T) ∧ I 453 lv = nI (tR T) ∧ (∀ l, l < tN T → I 449 (7 * lv + l) = tL T l 0 ∧ I 450 (7 * lv + l) = tL T l 1 ∧ I 451 (7 * lv + l) = tL T l 2 ∧ I 452 (7 * lv + l) = tL T l 3) ∧ (∀ a, a < tR T → I 454 (6 * lv + a) = tM T a 0 ∧ I 455 (6 * lv + a) = tM T a 1 ∧ I 456 (6 * lv + a) = tM T a 2) ∧ (I 457 lv = tS T 0 ∧ I 458 lv = tS T 1 ∧ I 459 lv = tS T 2) ∧ ∀ k, k < 4 → RLaw I lv k (tW T k)
/-- the reference over a text -/
def RW (M : XM) (lv : Nat) (T : XT) : Prop := RSh M ∧ RTx (xI M) lv T ∧ TOk T
theorem RTx.ex {I J : Nat → Nat → Int32} {lv : Nat} {T : XT} (h : ∀ a, 448 ≤ a → a ≤ 468 → I a = J a) (h18 : I 439 18 = J 439 18) (q : RTx I lv T) : RTx J lv T := by
  obtain ⟨h1, h2, h3, h4, h5, h6, h7, h8⟩ := q
  refine ⟨h1, by rw [← h18]; exact h2, ?_, ?_, ?_, ?_, ?_, fun k hk => (h8 k hk).ex fun a q1 q2 => h a (by omega) q2⟩
  · rw [← h 448 (by omega) (by omega)]; exact h3
  · rw [← h 453 (by omega) (by omega)]; exact h4
  · rw [← h 449 (by omega) (by omega), ← h 450 (by omega) (by omega), ← h 451 (by omega) (by omega), ← h 452 (by omega) (by omega)]; exact h5
  · rw [← h 454 (by omega) (by omega), ← h 455 (by omega) (by omega), ← h 456 (by omega) (by omega)]; exact h6
  · rw [← h 457 (by omega) (by omega), ← h 458 (by omega) (by omega), ← h 459 (by omega) (by omega)]; exact h7
/-- what the reference may write without changing a text -/
def rNT : Nat → Nat → Prop := fun a k => a < 439 ∨ (a = 439 ∧ k ≠ 18) ∨ (440 ≤ a ∧ a < 448) ∨ 469 ≤ a
theorem RW.ex {M M' : XM} {lv : Nat} {T : XT} {P : Nat → Nat → Prop} (h : RW M lv T) (e : Ex P M M') (hp : ∀ a k, P a k → rNT a k) : RW M' lv T := by
  refine ⟨h.1.ex e, h.2.1.ex (fun a h1 h2 => (e.row fun k q => ?_).symm) (e.I fun q => ?_).symm, h.2.2⟩
  · have := hp a k q; unfold rNT at this; omega
  · have := hp 439 18 q; unfold rNT at this; omega
section XRW
variable {M : XM} {lv : Nat} {T : XT}
theorem RW.s (h : RW M lv T) : xS M 439 = (12, 0) := h.1.s.1
theorem RW.lv2 (h : RW M lv T) : lv < 2 := h.2.1.1
theorem RW.v (h : RW M lv T) : xI M 439 18 = nI lv := h.2.1.2.1
theorem RW.n (h : RW M lv T) : xI M 448 lv = nI (tN T) := h.2.1.2.2.1
theorem RW.r (h : RW M lv T) : xI M 453 lv = nI (tR T) := h.2.1.2.2.2.1
theorem RW.n7 (h : RW M lv T) : tN T ≤ 7 := h.2.2.1
theorem RW.r6 (h : RW M lv T) : tR T ≤ 6 := h.2.2.2.1
theorem RW.l (h : RW M lv T) {l : Nat} (hl : l < tN T) : xI M 449 (7 * lv + l) = tL T l 0 ∧ xI M 450 (7 * lv + l) = tL T l 1 ∧ xI M 451 (7 * lv + l) = tL T l 2 ∧ xI M 452 (7 * lv + l) = tL T l 3 := h.2.1.2.2.2.2.1 l hl
theorem RW.a (h : RW M lv T) {a : Nat} (ha : a < tR T) : xI M 454 (6 * lv + a) = tM T a 0 ∧ xI M 455 (6 * lv + a) = tM T a 1 ∧ xI M 456 (6 * lv + a) = tM T a 2 := h.2.1.2.2.2.2.2.1 a ha
theorem RW.st (h : RW M lv T) : xI M 457 lv = tS T 0 ∧ xI M 458 lv = tS T 1 ∧ xI M 459 lv = tS T 2 := h.2.1.2.2.2.2.2.2.1
theorem RW.lw (h : RW M lv T) {k : Nat} (hk : k < 4) : RLaw (xI M) lv k (tW T k) := h.2.1.2.2.2.2.2.2.2 k hk
end XRW
/-- a row of the reference and an office -/
def RowIs (T : XT) (f : Nat → Int32) (F : XO) : Prop := (∀ l, l < 7 → f l = oW F l ∧ f (7 + l) = oH F l ∧ f (14 + l) = oB F l) ∧ (∀ a, a < tR T → f (21 + a) = oA F a) ∧ (∀ a, a < 6 → f (27 + a) = oU F a) ∧ f 33 = oD F
/-- a day that can be -/
def DOk (F : XO) : Prop := ∃ d, d ≤ 99999 ∧ oD F = nI d
theorem absq : ∀ (x y : Fin 10), (if nI y.val ≤ nI x.val then nI x.val - nI y.val else nI y.val - nI x.val) = iabs (nI x.val - nI y.val) := by decide
theorem r_off {x y : Nat} {M : XM} {Q : Option Value → XM → Prop} (hx : x < 10) (hy : y < 10) : RG xprog 133 0 [some (.int (nI x)), some (.int (nI y))] [] M Q = Q (some (.int (iabs (nI x - nI y)))) M := by
  rw [B_133_0, ← absq ⟨x, hx⟩ ⟨y, hy⟩]
  split <;> rfl
theorem r_ageOf {M : XM} {lv l : Nat} {T : XT} {F : XO} {Q : Option Value → XM → Prop} (h : RW M lv T) (hr : RowIs T (xI M 473) F) (hd : DOk F) (hl : l < tN T) : RG xprog 117 0 [some (.ref 439), some (.int (nI l))] [] M Q = Q (some (.int (ipos (oD F - tL T l 3)))) M := by
  have n7 := h.n7
  have l2 := h.lv2
  obtain ⟨d, hd1, hd2⟩ := hd
  obtain ⟨c, hc1, hc2⟩ := (h.2.2.2.2.1 l hl).2
  rw [B_117_0]
  simp (disch := omega) only [h.1.s, h.1.f, h.v, lAdd, addL, lMul, mulL, nMul, nI_add, subL, lSub, nSub, nDec, nCl, lCl, nVp, lVp, nLe, nLt, nEq, lLe, leL, lLt, ltL, eqL, lEq, nM1, nM2, litLt0, one01, zero01, oneNe0, xupE, xupA, xupK, xI_I, xS_I, xF_I, xJ_I, xI_R, xS_R, xF_R, xJ_R, xI_L, xS_L, xF_L, xJ_L, xcat_s, le46, ge16, or_true, true_or, false_or, or_false, eq_self, Option.toList_some, Option.toList_none, List.cons_append, List.nil_append, true_and, and_true, not_false_eq_true, not_true_eq_false, if_true, if_false, h.l hl, hr.2.2.2, B_116_0, B_117_29]
  rw [hd2, hc2]
  unfold ipos
  by_cases q : c ≤ d
  · rw [nI_sub q]
    simp (disch := omega) only [lAdd, addL, lMul, mulL, nMul, nI_add, subL, lSub, nSub, nDec, nCl, lCl, nVp, lVp, nLe, nLt, nEq, lLe, leL, lLt, ltL, eqL, lEq, nM1, nM2, litLt0, one01, zero01, oneNe0, xupE, xupA, xupK, xI_I, xS_I, xF_I, xJ_I, xI_R, xS_R, xF_R, xJ_R, xI_L, xS_L, xF_L, xJ_L, xcat_s, le46, ge16, or_true, true_or, false_or, or_false, eq_self, Option.toList_some, Option.toList_none, List.cons_append, List.nil_append, true_and, and_true, not_false_eq_true, not_true_eq_false, if_true, if_false]
    rw [if_pos (show 0 ≤ d - c by omega), if_pos (show d - c ≤ 9999999 by omega)]
    by_cases q2 : d - c = 0
    · rw [q2]; rfl
    · rw [if_pos (show 0 < d - c by omega)]
  · have e : (nI d - nI c).toInt < 0 := by
      rw [Int32.toInt_sub, nI_tI (by omega), nI_tI (by omega), Int.bmod_eq_of_le (by omega) (by omega)]
      omega
    have e0 : (0 : Int32).toInt = 0 := rfl
    rw [if_neg (by rw [i32_le, e0]; omega), if_neg (by rw [i32_lt, e0]; omega)]
def rL : Nat → Nat → Prop := fun a k => a = 470 ∨ a = 471 ∨ (a = 439 ∧ k = 49)
theorem r_looks {M : XM} {lv l a : Nat} {T : XT} {F : XO} {Q : Option Value → XM → Prop} (h : RW M lv T) (hr : RowIs T (xI M 473) F) (hd : DOk F) (hi : OInv T F) (hl : l < tN T) (ha : a < tR T)
    (hQ : ∀ M' : XM, Ex (fun b _ => b = 470) M M' → (∀ k, k < 9 → xI M' 470 k = vvar T F l a k) → Q none M') :
    RG xprog 134 0 [some (.ref 439), some (.int (nI l)), some (.int (nI a))] [] M Q := by
  have n7 := h.n7
  have r6 := h.r6
  have l2 := h.lv2
  obtain ⟨w, hw1, hw2⟩ := (h.2.2.2.2.1 l hl).1 1 (by omega)
  obtain ⟨w', hw3, hw4⟩ := hi.2.2.2.2.1 a ha
  rw [B_134_0]
  simp (disch := omega) only [h.1.s, h.1.f, h.v, lAdd, addL, lMul, mulL, nMul, nI_add, subL, lSub, nSub, nDec, nCl, lCl, nVp, lVp, nLe, nLt, nEq, lLe, leL, lLt, ltL, eqL, lEq, nM1, nM2, litLt0, one01, zero01, oneNe0, xupE, xupA, xupK, xI_I, xS_I, xF_I, xJ_I, xI_R, xS_R, xF_R, xJ_R, xI_L, xS_L, xF_L, xJ_L, xcat_s, le46, ge16, or_true, true_or, false_or, or_false, eq_self, Option.toList_some, Option.toList_none, List.cons_append, List.nil_append, true_and, and_true, not_false_eq_true, not_true_eq_false, if_true, if_false, h.l hl, h.a ha, hr.2.1 a ha, hw2, hw4, r_off hw1 hw3, B_134_31, B_134_52, B_134_92]
  rw [r_ageOf (T := T) (F := F) (lv := lv) (l := l)]
  · simp (disch := omega) only [B_134_122, B_134_137, B_134_161, h.1.s, h.1.f, lAdd, addL, lMul, mulL, nMul, nI_add, subL, lSub, nSub, nDec, nCl, lCl, nVp, lVp, nLe, nLt, nEq, lLe, leL, lLt, ltL, eqL, lEq, nM1, nM2, litLt0, one01, zero01, oneNe0, xupE, xupA, xupK, xI_I, xS_I, xF_I, xJ_I, xI_R, xS_R, xF_R, xJ_R, xI_L, xS_L, xF_L, xJ_L, xcat_s, le46, ge16, or_true, true_or, false_or, or_false, eq_self, Option.toList_some, Option.toList_none, List.cons_append, List.nil_append, true_and, and_true, not_false_eq_true, not_true_eq_false, if_true, if_false, hr.2.2.2, hr.2.2.1 a (by omega)]
    apply hQ
    · iterate 9 refine Ex.wr ?_ _ rfl
      exact Ex.refl _ _
    · intro k hk
      simp only [xI_I, xup_at, true_and]
      match k, hk with
      | 0, _ => simp only [vvar, hw2, hw4]; rfl
      | 1, _ => rfl
      | 2, _ => rfl
      | 3, _ => rfl
      | 4, _ => rfl
      | 5, _ => rfl
      | 6, _ => rfl
      | 7, _ => rfl
      | 8, _ => rfl
  · refine h.ex (P := fun b _ => b = 470) ?_ (by intro a k q; unfold rNT; omega)
    iterate 5 refine Ex.wr ?_ _ rfl
    exact Ex.refl _ _
  · simp (disch := omega) only [lAdd, addL, lMul, mulL, nMul, nI_add, subL, lSub, nSub, nDec, nCl, lCl, nVp, lVp, nLe, nLt, nEq, lLe, leL, lLt, ltL, eqL, lEq, nM1, nM2, litLt0, one01, zero01, oneNe0, xupE, xupA, xupK, xI_I, xS_I, xF_I, xJ_I, xI_R, xS_R, xF_R, xJ_R, xI_L, xS_L, xF_L, xJ_L, xcat_s, le46, ge16, or_true, true_or, false_or, or_false, eq_self, Option.toList_some, Option.toList_none, List.cons_append, List.nil_append, true_and, and_true, not_false_eq_true, not_true_eq_false, if_true, if_false, xupR]
    exact hr
  · exact hd
  · exact hl
