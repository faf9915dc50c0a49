/-! the reference: a day -/
def DB (n : Nat) (F : XO) : Prop := ∃ d, d ≤ n ∧ oD F = nI d
/-- the reference over a text, with a row that is an office -/
def RR (M : XM) (lv : Nat) (T : XT) (F : XO) : Prop := RW M lv T ∧ RowIs T (xI M 473) F ∧ DOk F ∧ OInv T F
theorem RR.ex {M M' : XM} {lv : Nat} {T : XT} {F : XO} {P : Nat → Nat → Prop} (h : RR M lv T F) (e : Ex P M M') (hp : ∀ a k, P a k → rNT a k ∧ a ≠ 473) : RR M' lv T F := by
  refine ⟨h.1.ex e fun a k q => (hp a k q).1, ?_, h.2.2⟩
  rw [e.row (fun k q => (hp 473 k q).2 rfl)]
  exact h.2.1
section XRR
variable {M : XM} {lv : Nat} {T : XT} {F : XO}
theorem RR.s (h : RR M lv T F) : RSh M := h.1.1
theorem RR.v (h : RR M lv T F) : xI M 439 18 = nI lv := h.1.v
theorem RR.n (h : RR M lv T F) : xI M 448 lv = nI (tN T) := h.1.n
theorem RR.r (h : RR M lv T F) : xI M 453 lv = nI (tR T) := h.1.r
theorem RR.n7 (h : RR M lv T F) : tN T ≤ 7 := h.1.n7
theorem RR.r6 (h : RR M lv T F) : tR T ≤ 6 := h.1.r6
theorem RR.lv2 (h : RR M lv T F) : lv < 2 := h.1.lv2
theorem RR.l (h : RR M lv T F) {l : Nat} (hl : l < 7) : xI M 473 l = oW F l ∧ xI M 473 (7 + l) = oH F l ∧ xI M 473 (14 + l) = oB F l := h.2.1.1 l hl
theorem RR.a (h : RR M lv T F) {a : Nat} (ha : a < tR T) : xI M 473 (21 + a) = oA F a ∧ xI M 473 (27 + a) = oU F a := ⟨h.2.1.2.1 a ha, h.2.1.2.2.1 a (by have := h.r6; omega)⟩
theorem RR.d (h : RR M lv T F) : xI M 473 33 = oD F := h.2.1.2.2.2
theorem RR.i (h : RR M lv T F) : OInv T F := h.2.2.2
end XRR
section XROW
theorem RowIs.w {T : XT} {f : Nat → Int32} {F : XO} (h : RowIs T f F) {l : Nat} (hr : tR T ≤ 6) (hl : l < 7) (x : Int32) : RowIs T (xone f l x) (sW F l x) := by
  refine ⟨fun j hj => ⟨?_, ?_, ?_⟩, fun a ha => ?_, fun a ha => ?_, ?_⟩
  · show _ = xone (oW F) l x j
    rw [xo_at, xo_at, (h.1 j hj).1]
  · rw [xo_at, if_neg (by omega)]; exact (h.1 j hj).2.1
  · rw [xo_at, if_neg (by omega)]; exact (h.1 j hj).2.2
  · rw [xo_at, if_neg (by omega)]; exact h.2.1 a ha
  · rw [xo_at, if_neg (by omega)]; exact h.2.2.1 a ha
  · rw [xo_at, if_neg (by omega)]; exact h.2.2.2
theorem RowIs.h {T : XT} {f : Nat → Int32} {F : XO} (h : RowIs T f F) {l : Nat} (hr : tR T ≤ 6) (hl : l < 7) (x : Int32) : RowIs T (xone f (7 + l) x) (sH F l x) := by
  refine ⟨fun j hj => ⟨?_, ?_, ?_⟩, fun a ha => ?_, fun a ha => ?_, ?_⟩
  · rw [xo_at, if_neg (by omega)]; exact (h.1 j hj).1
  · show _ = xone (oH F) l x j
    rw [xo_at, xo_at, (h.1 j hj).2.1]
    by_cases q : j = l
    · rw [if_pos q, if_pos (by omega)]
    · rw [if_neg q, if_neg (by omega)]
  · rw [xo_at, if_neg (by omega)]; exact (h.1 j hj).2.2
  · rw [xo_at, if_neg (by omega)]; exact h.2.1 a ha
  · rw [xo_at, if_neg (by omega)]; exact h.2.2.1 a ha
  · rw [xo_at, if_neg (by omega)]; exact h.2.2.2
theorem RowIs.b {T : XT} {f : Nat → Int32} {F : XO} (h : RowIs T f F) {l : Nat} (hr : tR T ≤ 6) (hl : l < 7) (x : Int32) : RowIs T (xone f (14 + l) x) (sB F l x) := by
  refine ⟨fun j hj => ⟨?_, ?_, ?_⟩, fun a ha => ?_, fun a ha => ?_, ?_⟩
  · rw [xo_at, if_neg (by omega)]; exact (h.1 j hj).1
  · rw [xo_at, if_neg (by omega)]; exact (h.1 j hj).2.1
  · show _ = xone (oB F) l x j
    rw [xo_at, xo_at, (h.1 j hj).2.2]
    by_cases q : j = l
    · rw [if_pos q, if_pos (by omega)]
    · rw [if_neg q, if_neg (by omega)]
  · rw [xo_at, if_neg (by omega)]; exact h.2.1 a ha
  · rw [xo_at, if_neg (by omega)]; exact h.2.2.1 a ha
  · rw [xo_at, if_neg (by omega)]; exact h.2.2.2
theorem RowIs.a {T : XT} {f : Nat → Int32} {F : XO} (h : RowIs T f F) {a : Nat} (hr : tR T ≤ 6) (ha : a < tR T) (x : Int32) : RowIs T (xone f (21 + a) x) (sA F a x) := by
  refine ⟨fun j hj => ⟨?_, ?_, ?_⟩, fun b hb => ?_, fun b hb => ?_, ?_⟩
  · rw [xo_at, if_neg (by omega)]; exact (h.1 j hj).1
  · rw [xo_at, if_neg (by omega)]; exact (h.1 j hj).2.1
  · rw [xo_at, if_neg (by omega)]; exact (h.1 j hj).2.2
  · show _ = xone (oA F) a x b
    rw [xo_at, xo_at, h.2.1 b hb]
    by_cases q : b = a
    · rw [if_pos q, if_pos (by omega)]
    · rw [if_neg q, if_neg (by omega)]
  · rw [xo_at, if_neg (by omega)]; exact h.2.2.1 b hb
  · rw [xo_at, if_neg (by omega)]; exact h.2.2.2
theorem RowIs.u {T : XT} {f : Nat → Int32} {F : XO} (h : RowIs T f F) {a : Nat} (hr : tR T ≤ 6) (ha : a < 6) (x : Int32) : RowIs T (xone f (27 + a) x) (sU F a x) := by
  refine ⟨fun j hj => ⟨?_, ?_, ?_⟩, fun b hb => ?_, fun b hb => ?_, ?_⟩
  · rw [xo_at, if_neg (by omega)]; exact (h.1 j hj).1
  · rw [xo_at, if_neg (by omega)]; exact (h.1 j hj).2.1
  · rw [xo_at, if_neg (by omega)]; exact (h.1 j hj).2.2
  · rw [xo_at, if_neg (by omega)]; exact h.2.1 b hb
  · show _ = xone (oU F) a x b
    rw [xo_at, xo_at, h.2.2.1 b hb]
    by_cases q : b = a
    · rw [if_pos q, if_pos (by omega)]
    · rw [if_neg q, if_neg (by omega)]
  · rw [xo_at, if_neg (by omega)]; exact h.2.2.2
theorem RowIs.d {T : XT} {f : Nat → Int32} {F : XO} (h : RowIs T f F) (hr : tR T ≤ 6) (x : Int32) : RowIs T (xone f 33 x) (sD F x) := by
  refine ⟨fun j hj => ⟨?_, ?_, ?_⟩, fun b hb => ?_, fun b hb => ?_, ?_⟩
  · rw [xo_at, if_neg (by omega)]; exact (h.1 j hj).1
  · rw [xo_at, if_neg (by omega)]; exact (h.1 j hj).2.1
  · rw [xo_at, if_neg (by omega)]; exact (h.1 j hj).2.2
  · rw [xo_at, if_neg (by omega)]; exact h.2.1 b hb
  · rw [xo_at, if_neg (by omega)]; exact h.2.2.1 b hb
  · rw [xo_at, if_pos rfl]; rfl
end XROW
theorem held_w (x : Int32) : (if (0 : Int32) ≤ x then (if x ≤ 99 then x else 99) else 0) = iheld x := by
  unfold iheld
  have e0 : (0 : Int32).toInt = 0 := rfl
  have e9 : (99 : Int32).toInt = 99 := rfl
  have eq0 : ∀ y : Int32, y.toInt = 0 → y = 0 := fun y h => Int32.toInt_inj.mp (by rw [h]; rfl)
  have eq9 : ∀ y : Int32, y.toInt = 99 → y = 99 := fun y h => Int32.toInt_inj.mp (by rw [h]; rfl)
  simp only [i32_le, i32_lt, e0, e9]
  by_cases h1 : 0 ≤ x.toInt
  · rw [if_pos h1]
    by_cases h2 : x.toInt < 99
    · rw [if_pos (by omega), if_pos h2]
      by_cases h3 : 0 < x.toInt
      · rw [if_pos h3]
      · rw [if_neg h3, eq0 x (by omega)]
    · rw [if_neg h2, if_pos (show 0 < (99 : Int32).toInt by decide)]
      by_cases h3 : x.toInt ≤ 99
      · rw [if_pos h3, eq9 x (by omega)]
      · rw [if_neg h3]
  · rw [if_neg h1, if_pos (show x.toInt < 99 by omega), if_neg (by omega)]
theorem r_within99 {x : Int32} {M : XM} {Q : Option Value → XM → Prop} : RG xprog 116 0 [some (.int x), some (.int 0), some (.int 99)] [] M Q = Q (some (.int (iheld x))) M := by
  rw [B_116_0, ← held_w]
  repeat' split
  all_goals rfl
theorem ite_i {c : Prop} [Decidable c] {Q : Option Value → XM → Prop} (x y : Int32) (M : XM) : (if c then Q (some (.int x)) M else Q (some (.int y)) M) = Q (some (.int (if c then x else y))) M := by split <;> rfl
theorem rT_L : ∀ a k, rT a k → rL a k := fun a k q => by unfold rT at q; unfold rL; omega
theorem r_lawv {M M1 : XM} {lv k l a : Nat} {T : XT} {F : XO} {x : Int32} {Q : Option Value → XM → Prop} (h : RR M lv T F) (hk : k < 4) (e : Ex (fun b _ => b = 470) M M1) (hv : ∀ j, j < 9 → xI M1 470 j = vvar T F l a j) (hx : x = plv k (vvar T F l a))
    (hQ : ∀ M' : XM, Ex rL M M' → Q (some (.int (tW T k (vvar T F l a)))) M') :
    RG xprog 136 0 [some (.ref 439), some (.int (nI k)), some (.int x), none, none, none, none] [] M1 Q := by
  have h1 := h.ex e (by intro a k q; unfold rNT; omega)
  have hL := h1.1.lw hk
  have E : tW T k (xI M1 470) = tW T k (vvar T F l a) := by
    obtain ⟨_, _, _, _, _, _, _, _, h9⟩ := hL
    exact h9 _ _ hv
  refine r_lawTells h1.s h.lv2 h1.v hk hL ?_ ?_
  · rw [hx]
    unfold plv
    rw [hv 0 (by omega), hv 4 (by omega)]
  · intro M2 e2
    rw [E]
    exact hQ M2 ((e.mono (by intro a k q; exact Or.inl q)).trans (e2.mono rT_L))
theorem r_likesOf {M : XM} {lv l a : Nat} {T : XT} {F : XO} {Q : Option Value → XM → Prop} (h : RR M lv T F) (hl : l < tN T) (ha : a < tR T)
    (hQ : ∀ M' : XM, Ex rL M M' → Q (some (.int (lkv T F l a))) M') :
    RG xprog 137 0 [some (.ref 439), some (.int (nI l)), some (.int (nI a))] [] M Q := by
  rw [B_137_0]
  simp (disch := omega) only [h.s.s, lAdd, addL, lMul, mulL, nMul, nI_add, subL, lSub, nSub, nDec, nCl, lCl, nVp, lVp, nLe, nLt, nEq, lLe, leL, lLt, ltL, eqL, lEq, nM1, nM2, litLt0, one01, zero01, oneNe0, xupE, xupA, xupK, xI_I, xS_I, xF_I, xJ_I, xI_R, xS_R, xF_R, xJ_R, xI_L, xS_L, xF_L, xJ_L, xcat_s, le46, ge16, or_true, true_or, false_or, or_false, eq_self, Option.toList_some, Option.toList_none, List.cons_append, List.nil_append, true_and, and_true, not_false_eq_true, not_true_eq_false, if_true, if_false]
  refine r_looks h.1 h.2.1 h.2.2.1 h.i hl ha ?_
  intro M1 e1 v1
  have h1 := h.ex e1 (by intro a k q; unfold rNT; omega)
  simp (disch := omega) only [lAdd, addL, lMul, mulL, nMul, nI_add, subL, lSub, nSub, nDec, nCl, lCl, nVp, lVp, nLe, nLt, nEq, lLe, leL, lLt, ltL, eqL, lEq, nM1, nM2, litLt0, one01, zero01, oneNe0, xupE, xupA, xupK, xI_I, xS_I, xF_I, xJ_I, xI_R, xS_R, xF_R, xJ_R, xI_L, xS_L, xF_L, xJ_L, xcat_s, le46, ge16, or_true, true_or, false_or, or_false, eq_self, Option.toList_some, Option.toList_none, List.cons_append, List.nil_append, true_and, and_true, not_false_eq_true, not_true_eq_false, if_true, if_false, B_137_6, h1.s.s, h1.s.f]
  refine r_lawv (k := 0) h (by omega) e1 v1 (by rw [v1 0 (by omega)]; rfl) ?_
  intro M2 e2
  simp (disch := omega) only [lAdd, addL, lMul, mulL, nMul, nI_add, subL, lSub, nSub, nDec, nCl, lCl, nVp, lVp, nLe, nLt, nEq, lLe, leL, lLt, ltL, eqL, lEq, nM1, nM2, litLt0, one01, zero01, oneNe0, xupE, xupA, xupK, xI_I, xS_I, xF_I, xJ_I, xI_R, xS_R, xF_R, xJ_R, xI_L, xS_L, xF_L, xJ_L, xcat_s, le46, ge16, or_true, true_or, false_or, or_false, eq_self, Option.toList_some, Option.toList_none, List.cons_append, List.nil_append, true_and, and_true, not_false_eq_true, not_true_eq_false, if_true, if_false, B_137_20, r_within99, B_137_26]
  exact hQ M2 e2
theorem r_rathersOf {M : XM} {lv l a : Nat} {T : XT} {F : XO} {Q : Option Value → XM → Prop} (h : RR M lv T F) (hl : l < tN T) (ha : a < tR T)
    (hQ : ∀ M' : XM, Ex rL M M' → Q (some (.int (rav T F l a))) M') :
    RG xprog 138 0 [some (.ref 439), some (.int (nI l)), some (.int (nI a))] [] M Q := by
  rw [B_138_0]
  simp (disch := omega) only [h.s.s, lAdd, addL, lMul, mulL, nMul, nI_add, subL, lSub, nSub, nDec, nCl, lCl, nVp, lVp, nLe, nLt, nEq, lLe, leL, lLt, ltL, eqL, lEq, nM1, nM2, litLt0, one01, zero01, oneNe0, xupE, xupA, xupK, xI_I, xS_I, xF_I, xJ_I, xI_R, xS_R, xF_R, xJ_R, xI_L, xS_L, xF_L, xJ_L, xcat_s, le46, ge16, or_true, true_or, false_or, or_false, eq_self, Option.toList_some, Option.toList_none, List.cons_append, List.nil_append, true_and, and_true, not_false_eq_true, not_true_eq_false, if_true, if_false]
  refine r_looks h.1 h.2.1 h.2.2.1 h.i hl ha ?_
  intro M1 e1 v1
  have h1 := h.ex e1 (by intro a k q; unfold rNT; omega)
  simp (disch := omega) only [lAdd, addL, lMul, mulL, nMul, nI_add, subL, lSub, nSub, nDec, nCl, lCl, nVp, lVp, nLe, nLt, nEq, lLe, leL, lLt, ltL, eqL, lEq, nM1, nM2, litLt0, one01, zero01, oneNe0, xupE, xupA, xupK, xI_I, xS_I, xF_I, xJ_I, xI_R, xS_R, xF_R, xJ_R, xI_L, xS_L, xF_L, xJ_L, xcat_s, le46, ge16, or_true, true_or, false_or, or_false, eq_self, Option.toList_some, Option.toList_none, List.cons_append, List.nil_append, true_and, and_true, not_false_eq_true, not_true_eq_false, if_true, if_false, B_138_6, h1.s.s, h1.s.f]
  refine r_lawv (k := 1) h (by omega) e1 v1 (by rw [v1 4 (by omega)]; rfl) ?_
  intro M2 e2
  simp (disch := omega) only [lAdd, addL, lMul, mulL, nMul, nI_add, subL, lSub, nSub, nDec, nCl, lCl, nVp, lVp, nLe, nLt, nEq, lLe, leL, lLt, ltL, eqL, lEq, nM1, nM2, litLt0, one01, zero01, oneNe0, xupE, xupA, xupK, xI_I, xS_I, xF_I, xJ_I, xI_R, xS_R, xF_R, xJ_R, xI_L, xS_L, xF_L, xJ_L, xcat_s, le46, ge16, or_true, true_or, false_or, or_false, eq_self, Option.toList_some, Option.toList_none, List.cons_append, List.nil_append, true_and, and_true, not_false_eq_true, not_true_eq_false, if_true, if_false, B_138_17, r_within99, B_138_23]
  exact hQ M2 e2
theorem r_doesReturn {M : XM} {lv l a : Nat} {T : XT} {F : XO} {Q : Option Value → XM → Prop} (h : RR M lv T F) (hl : l < tN T) (ha : a < tR T)
    (hQ : ∀ M' : XM, Ex rL M M' → Q (some (.int (if tW T 2 (vvar T F l a) ≤ 0 then 0 else 1))) M') :
    RG xprog 139 0 [some (.ref 439), some (.int (nI l)), some (.int (nI a))] [] M Q := by
  rw [B_139_0]
  simp (disch := omega) only [h.s.s, lAdd, addL, lMul, mulL, nMul, nI_add, subL, lSub, nSub, nDec, nCl, lCl, nVp, lVp, nLe, nLt, nEq, lLe, leL, lLt, ltL, eqL, lEq, nM1, nM2, litLt0, one01, zero01, oneNe0, xupE, xupA, xupK, xI_I, xS_I, xF_I, xJ_I, xI_R, xS_R, xF_R, xJ_R, xI_L, xS_L, xF_L, xJ_L, xcat_s, le46, ge16, or_true, true_or, false_or, or_false, eq_self, Option.toList_some, Option.toList_none, List.cons_append, List.nil_append, true_and, and_true, not_false_eq_true, not_true_eq_false, if_true, if_false]
  refine r_looks h.1 h.2.1 h.2.2.1 h.i hl ha ?_
  intro M1 e1 v1
  have h1 := h.ex e1 (by intro a k q; unfold rNT; omega)
  simp (disch := omega) only [lAdd, addL, lMul, mulL, nMul, nI_add, subL, lSub, nSub, nDec, nCl, lCl, nVp, lVp, nLe, nLt, nEq, lLe, leL, lLt, ltL, eqL, lEq, nM1, nM2, litLt0, one01, zero01, oneNe0, xupE, xupA, xupK, xI_I, xS_I, xF_I, xJ_I, xI_R, xS_R, xF_R, xJ_R, xI_L, xS_L, xF_L, xJ_L, xcat_s, le46, ge16, or_true, true_or, false_or, or_false, eq_self, Option.toList_some, Option.toList_none, List.cons_append, List.nil_append, true_and, and_true, not_false_eq_true, not_true_eq_false, if_true, if_false, B_139_6, h1.s.s, h1.s.f]
  refine r_lawv (k := 2) h (by omega) e1 v1 rfl ?_
  intro M2 e2
  simp (disch := omega) only [lAdd, addL, lMul, mulL, nMul, nI_add, subL, lSub, nSub, nDec, nCl, lCl, nVp, lVp, nLe, nLt, nEq, lLe, leL, lLt, ltL, eqL, lEq, nM1, nM2, litLt0, one01, zero01, oneNe0, xupE, xupA, xupK, xI_I, xS_I, xF_I, xJ_I, xI_R, xS_R, xF_R, xJ_R, xI_L, xS_L, xF_L, xJ_L, xcat_s, le46, ge16, or_true, true_or, false_or, or_false, eq_self, Option.toList_some, Option.toList_none, List.cons_append, List.nil_append, true_and, and_true, not_false_eq_true, not_true_eq_false, if_true, if_false, B_139_12, ite_i]
  exact hQ M2 e2
theorem OInv.hs {T : XT} {F : XO} (h : OInv T F) (n7 : tN T ≤ 7) (r6 : tR T ≤ 6) {l a : Nat} (hl : l < 7) (ha : a < 6) : oH F l = nI a ↔ oS F a = nI l := by
  constructor
  · intro q
    rcases h.1 l hl with z | ⟨z1, z2, b, z3, z4, z5⟩
    · rw [z.1] at q
      exact absurd q.symm (by rw [nM2 (by omega)]; exact fun w => w)
    · rw [q, nI_eq (by omega) (by omega)] at z4
      subst z4
      exact z5
  · intro q
    rcases h.2.1 a ha with z | ⟨z1, j, z2, z3, z4, z5⟩
    · rw [z] at q
      exact absurd q.symm (by rw [nM2 (by omega)]; exact fun w => w)
    · rw [q, nI_eq (by omega) (by omega)] at z3
      subst z3
      exact z4
theorem r_letterOf {M : XM} {lv a : Nat} {T : XT} {F : XO} {Q : Option Value → XM → Prop} (h : RR M lv T F) (ha : a < 6) :
    RG xprog 122 0 [some (.ref 439), some (.int (nI a)), none] [] M Q = Q (some (.int (oS F a))) M := by
  have n7 := h.n7
  have r6 := h.r6
  have l2 := h.lv2
  have hs := fun l (hl : l < 7) => h.i.hs n7 r6 hl ha
  have loop : ∀ k i, i + k = tN T → (∀ l, l < i → ¬ oH F l = nI a) → RG xprog 122 2 [some (.ref 439), some (.int (nI a)), some (.int (nI i))] [] M Q = Q (some (.int (oS F a))) M := by
    intro k
    induction k with
    | zero =>
      intro i hi hn
      rw [B_122_2]
      simp (disch := omega) only [h.s.s, h.s.f, h.v, h.n, lAdd, addL, lMul, mulL, nMul, nI_add, subL, lSub, nSub, nDec, nCl, lCl, nVp, lVp, nLe, nLt, nEq, lLe, leL, lLt, ltL, eqL, lEq, nM1, nM2, litLt0, one01, zero01, oneNe0, xupE, xupA, xupK, xI_I, xS_I, xF_I, xJ_I, xI_R, xS_R, xF_R, xJ_R, xI_L, xS_L, xF_L, xJ_L, xcat_s, le46, ge16, or_true, true_or, false_or, or_false, eq_self, Option.toList_some, Option.toList_none, List.cons_append, List.nil_append, true_and, and_true, not_false_eq_true, not_true_eq_false, if_true, if_false, if_pos]
      rcases h.i.2.1 a ha with z | ⟨z1, j, z2, z3, z4, z5⟩
      · rw [z]
      · exact absurd z4 (hn j (by omega))
    | succ k ih =>
      intro i hi hn
      rw [B_122_2]
      simp (disch := omega) only [h.s.s, h.s.f, h.v, h.n, h.l (show i < 7 by omega), lAdd, addL, lMul, mulL, nMul, nI_add, subL, lSub, nSub, nDec, nCl, lCl, nVp, lVp, nLe, nLt, nEq, lLe, leL, lLt, ltL, eqL, lEq, nM1, nM2, litLt0, one01, zero01, oneNe0, xupE, xupA, xupK, xI_I, xS_I, xF_I, xJ_I, xI_R, xS_R, xF_R, xJ_R, xI_L, xS_L, xF_L, xJ_L, xcat_s, le46, ge16, or_true, true_or, false_or, or_false, eq_self, Option.toList_some, Option.toList_none, List.cons_append, List.nil_append, true_and, and_true, not_false_eq_true, not_true_eq_false, if_true, if_false, if_neg]
      by_cases q : oH F i = nI a
      · rw [if_neg (fun z => z q), (hs i (by omega)).mp q]
      · rw [if_pos q]
        refine ih (i + 1) (by omega) fun l hl => ?_
        rcases Nat.lt_or_ge l i with z | z
        · exact hn l z
        · have : l = i := by omega
          subst this
          exact q
  rw [B_122_0]
  exact loop (tN T) 0 (by omega) (fun l hl => by omega)
