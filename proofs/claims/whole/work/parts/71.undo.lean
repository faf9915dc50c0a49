/-! undo, hold, restore -/
def S_undo (S : XS) : XS := setF (setH S (zHn S - 1, fun i => zH S (i + 1))) (zH S 0)
theorem i_undo {B : Nat} {S : XS} (hi : SInv B S) : SInv B (if zHn S = 0 then S else S_undo S) := by
  split
  · exact hi
  · rename_i h0
    obtain ⟨a1, a2, a3, a4, a5, a6, a7, a8, a9⟩ := hi
    refine ⟨a1, (a6 0 (by omega)).1, (a6 0 (by omega)).2, a4, ?_, ?_, a7, a8, a9⟩
    · show zHn S - 1 ≤ 40
      omega
    · intro i hi
      have : i < zHn S - 1 := hi
      exact a6 (i + 1) (by omega)
theorem c_undo {M : XM} {t B : Nat} {S : XS} {Q : Option Value → XM → Prop} (h : CW M t S) (hi : SInv B S)
    (hQ : ∀ M' : XM, Ex cR M M' → CW M' t (if zHn S = 0 then S else S_undo S) → Q (some (.int (if zHn S = 0 then 0 else 1))) M') :
    RG xprog 184 0 [some (.ref 16)] [] M Q := by
  have n40 := hi.2.2.2.2.1
  obtain ⟨w, w40, hw, hsl⟩ := h.2.2.2.2.2.2.2.1.2.1
  have rf : ∀ i, i < 40 → xF M 121 i = 122 + 7 * i := h.1.2.2.2.2.1.2.2.2
  rw [B_184_0]
  simp (disch := omega) only [h.d, h.hs, lAdd, addL, lMul, mulL, nMul, nI_add, subL, lSub, nSub, nDec, nCl, lCl, nVp, lVp, nLe, nLt, nEq, lLe, leL, lLt, ltL, eqL, lEq, nM1, nM2, litLt0, one01, zero01, oneNe0, xupE, xupA, xupK, xI_I, xS_I, xF_I, xJ_I, xI_R, xS_R, xF_R, xJ_R, xI_L, xS_L, xF_L, xJ_L, xcat_s, le46, ge16, or_true, true_or, false_or, or_false, eq_self, Option.toList_some, Option.toList_none, List.cons_append, List.nil_append, true_and, and_true, not_false_eq_true, not_true_eq_false, if_true, if_false]
  rw [B_183_0]
  simp (disch := omega) only [h.hs, lAdd, addL, lMul, mulL, nMul, nI_add, subL, lSub, nSub, nDec, nCl, lCl, nVp, lVp, nLe, nLt, nEq, lLe, leL, lLt, ltL, eqL, lEq, nM1, nM2, litLt0, one01, zero01, oneNe0, xupE, xupA, xupK, xI_I, xS_I, xF_I, xJ_I, xI_R, xS_R, xF_R, xJ_R, xI_L, xS_L, xF_L, xJ_L, xcat_s, le46, ge16, or_true, true_or, false_or, or_false, eq_self, Option.toList_some, Option.toList_none, List.cons_append, List.nil_append, true_and, and_true, not_false_eq_true, not_true_eq_false, if_true, if_false]
  by_cases h0 : zHn S = 0
  · rw [if_pos h0, if_pos h0] at hQ
    rw [if_neg (fun z => z h0)]
    simp (disch := omega) only [lAdd, addL, lMul, mulL, nMul, nI_add, subL, lSub, nSub, nDec, nCl, lCl, nVp, lVp, nLe, nLt, nEq, lLe, leL, lLt, ltL, eqL, lEq, nM1, nM2, litLt0, one01, zero01, oneNe0, xupE, xupA, xupK, xI_I, xS_I, xF_I, xJ_I, xI_R, xS_R, xF_R, xJ_R, xI_L, xS_L, xF_L, xJ_L, xcat_s, le46, ge16, or_true, true_or, false_or, or_false, eq_self, Option.toList_some, Option.toList_none, List.cons_append, List.nil_append, true_and, and_true, not_false_eq_true, not_true_eq_false, if_true, if_false, B_184_11]
    exact hQ M (Ex.refl _ _) h
  · rw [if_neg h0, if_neg h0] at hQ
    rw [if_pos h0]
    have hp := hsl 0 (by omega)
    rw [show (w + 40 - 0) % 40 = w by omega] at hp
    simp (disch := omega) only [h.hs, hw, lAdd, addL, lMul, mulL, nMul, nI_add, subL, lSub, nSub, nDec, nCl, lCl, nVp, lVp, nLe, nLt, nEq, lLe, leL, lLt, ltL, eqL, lEq, nM1, nM2, litLt0, one01, zero01, oneNe0, xupE, xupA, xupK, xI_I, xS_I, xF_I, xJ_I, xI_R, xS_R, xF_R, xJ_R, xI_L, xS_L, xF_L, xJ_L, xcat_s, le46, ge16, or_true, true_or, false_or, or_false, eq_self, Option.toList_some, Option.toList_none, List.cons_append, List.nil_append, true_and, and_true, not_false_eq_true, not_true_eq_false, if_true, if_false, rf w w40, h.of.f, hp.f]
    have i0 := (hi.2.2.2.2.2.1 0 (by omega)).1
    refine c_copyFrom h.of hp hi.2.1.2.2.2.2.2 i0.2.2.2.2.2 (by omega) ?_
    intro M1 e1 f1
    have e1' : Ex (fun a k => (84 ≤ a ∧ a < 91) ∨ (a = 120 ∧ (k = 1 ∨ k = 2))) M M1 := e1.mono fun a k q => Or.inl q
    have k1 : xI M1 120 1 = nI w := by rw [e1.I (by unfold oP; omega)]; exact hw
    have k2 : xI M1 120 2 = nI (zHn S) := by rw [e1.I (by unfold oP; omega)]; exact h.hs.2.2.2
    have s1 : xS M1 120 = (2, 0) := by rw [e1.S]; exact h.hs.1
    have r40 : nI (w + 40 - 1) - nI (w + 40 - 1) / 40 * 40 = nI ((w + 40 - 1) % 40) := rem40 ⟨w + 40 - 1, by omega⟩
    simp (disch := omega) only [lAdd, addL, lMul, mulL, nMul, nI_add, subL, lSub, nSub, nDec, nCl, lCl, nVp, lVp, nLe, nLt, nEq, lLe, leL, lLt, ltL, eqL, lEq, nM1, nM2, litLt0, one01, zero01, oneNe0, xupE, xupA, xupK, xI_I, xS_I, xF_I, xJ_I, xI_R, xS_R, xF_R, xJ_R, xI_L, xS_L, xF_L, xJ_L, xcat_s, le46, ge16, or_true, true_or, false_or, or_false, eq_self, Option.toList_some, Option.toList_none, List.cons_append, List.nil_append, true_and, and_true, not_false_eq_true, not_true_eq_false, if_true, if_false, B_183_22, s1, k1]
    rw [r40]
    simp (disch := omega) only [lAdd, addL, lMul, mulL, nMul, nI_add, subL, lSub, nSub, nDec, nCl, lCl, nVp, lVp, nLe, nLt, nEq, lLe, leL, lLt, ltL, eqL, lEq, nM1, nM2, litLt0, one01, zero01, oneNe0, xupE, xupA, xupK, xI_I, xS_I, xF_I, xJ_I, xI_R, xS_R, xF_R, xJ_R, xI_L, xS_L, xF_L, xJ_L, xcat_s, le46, ge16, or_true, true_or, false_or, or_false, eq_self, Option.toList_some, Option.toList_none, List.cons_append, List.nil_append, true_and, and_true, not_false_eq_true, not_true_eq_false, if_true, if_false, k2, s1, B_183_48, B_184_11, show ¬ (40 : Int32) = 0 by decide]
    have e3 := (e1'.wr (a := 120) (k := 1) (nI ((w + 40 - 1) % 40)) (by omega)).wr (a := 120) (k := 2) (nI (zHn S - 1)) (by omega)
    have e3w : Ex (fun a k => a = 120) M1 (xmI (xmI M1 120 1 (nI ((w + 40 - 1) % 40))) 120 2 (nI (zHn S - 1))) := Ex.wr (Ex.wr (Ex.refl (fun a k => a = 120) M1) _ rfl) _ rfl
    refine hQ _ (e3.mono fun a k q => by unfold cR; omega) ⟨h.1.ex e3, h.k_tx e3 (by intro a k z1 z2; omega), h.2.2.1.ex e3, f1.exR e3w (by intro a k z1 z2; omega), h.k_ah e3 (by intro a k z1 z2; omega), h.k_tp e3 ⟨by omega, fun k => by omega⟩, h.k_pl e3 (by omega), ?_, h.k_sl e3 ⟨by omega, by intro a k z1 z2; omega⟩, h.k_td e3 ⟨by omega, by intro a k z1 z2; omega⟩⟩
    refine ⟨by simp (disch := omega) only [lAdd, addL, lMul, mulL, nMul, nI_add, subL, lSub, nSub, nDec, nCl, lCl, nVp, lVp, nLe, nLt, nEq, lLe, leL, lLt, ltL, eqL, lEq, nM1, nM2, litLt0, one01, zero01, oneNe0, xupE, xupA, xupK, xI_I, xS_I, xF_I, xJ_I, xI_R, xS_R, xF_R, xJ_R, xI_L, xS_L, xF_L, xJ_L, xcat_s, le46, ge16, or_true, true_or, false_or, or_false, eq_self, Option.toList_some, Option.toList_none, List.cons_append, List.nil_append, true_and, and_true, not_false_eq_true, not_true_eq_false, if_true, if_false]; rfl, ⟨(w + 40 - 1) % 40, by omega, by simp (disch := omega) only [lAdd, addL, lMul, mulL, nMul, nI_add, subL, lSub, nSub, nDec, nCl, lCl, nVp, lVp, nLe, nLt, nEq, lLe, leL, lLt, ltL, eqL, lEq, nM1, nM2, litLt0, one01, zero01, oneNe0, xupE, xupA, xupK, xI_I, xS_I, xF_I, xJ_I, xI_R, xS_R, xF_R, xJ_R, xI_L, xS_L, xF_L, xJ_L, xcat_s, le46, ge16, or_true, true_or, false_or, or_false, eq_self, Option.toList_some, Option.toList_none, List.cons_append, List.nil_append, true_and, and_true, not_false_eq_true, not_true_eq_false, if_true, if_false], ?_⟩, ?_⟩
    · intro i hi'
      have hi2 : i < zHn S - 1 := hi'
      show OffIs _ _ (zH S (i + 1))
      have := hsl (i + 1) (by omega)
      rw [show ((w + 40 - 1) % 40 + 40 - i) % 40 = (w + 40 - (i + 1)) % 40 by omega]
      exact this.exR e3 (by intro a k z1 z2; omega)
    · intro i hi'
      exact (h.2.2.2.2.2.2.2.1.2.2 i hi').exR e3 (by intro a k z1 z2; omega)
theorem r_undo {M : XM} {lv B : Nat} {S : XS} {Q : Option Value → XM → Prop} (h : RWd M lv S) (hi : SInv B S)
    (hQ : ∀ M' : XM, Ex rR M M' → RWd M' lv (if zHn S = 0 then S else S_undo S) → Q (some (.int (if zHn S = 0 then 0 else 1))) M') :
    RG xprog 185 0 [some (.ref 439), none] [] M Q := by
  have n40 := hi.2.2.2.2.1
  have r6 := h.1.r6
  obtain ⟨k55, hh⟩ := h.2.2.2.2.1
  rw [B_185_0]
  simp (disch := omega) only [h.1.1.s, k55, lAdd, addL, lMul, mulL, nMul, nI_add, subL, lSub, nSub, nDec, nCl, lCl, nVp, lVp, nLe, nLt, nEq, lLe, leL, lLt, ltL, eqL, lEq, nM1, nM2, litLt0, one01, zero01, oneNe0, xupE, xupA, xupK, xI_I, xS_I, xF_I, xJ_I, xI_R, xS_R, xF_R, xJ_R, xI_L, xS_L, xF_L, xJ_L, xcat_s, le46, ge16, or_true, true_or, false_or, or_false, eq_self, Option.toList_some, Option.toList_none, List.cons_append, List.nil_append, true_and, and_true, not_false_eq_true, not_true_eq_false, if_true, if_false]
  by_cases h0 : zHn S = 0
  · rw [if_pos h0, if_pos h0] at hQ
    rw [if_neg (fun z => z h0)]
    exact hQ M (Ex.refl _ _) h
  · rw [if_neg h0, if_neg h0] at hQ
    rw [if_pos h0]
    have e0 : Ex (fun a k => a = 472 ∨ (a = 439 ∧ k = 55)) M (xmI M 439 55 (nI (zHn S - 1))) := (Ex.refl _ _).wr _ (by omega)
    refine x_for 34 (fun i M1 => Ex (fun a k => a = 472 ∨ (a = 439 ∧ k = 55)) M M1 ∧ xI M1 439 55 = nI (zHn S - 1) ∧ ∀ j, j < i → xI M1 472 j = xI M 475 (34 * (zHn S - 1) + j)) (fun i M1 => RG xprog 185 21 [some (.ref 439), some (.int (nI i))] [] M1 Q) ?_ ?_ 0 _ (by omega) ⟨e0, by simp (disch := omega) only [lAdd, addL, lMul, mulL, nMul, nI_add, subL, lSub, nSub, nDec, nCl, lCl, nVp, lVp, nLe, nLt, nEq, lLe, leL, lLt, ltL, eqL, lEq, nM1, nM2, litLt0, one01, zero01, oneNe0, xupE, xupA, xupK, xI_I, xS_I, xF_I, xJ_I, xI_R, xS_R, xF_R, xJ_R, xI_L, xS_L, xF_L, xJ_L, xcat_s, le46, ge16, or_true, true_or, false_or, or_false, eq_self, Option.toList_some, Option.toList_none, List.cons_append, List.nil_append, true_and, and_true, not_false_eq_true, not_true_eq_false, if_true, if_false], fun j hj => by omega⟩
    · intro M1 ⟨e1, u1, f1⟩
      rw [B_185_21]
      simp (disch := omega) only [lAdd, addL, lMul, mulL, nMul, nI_add, subL, lSub, nSub, nDec, nCl, lCl, nVp, lVp, nLe, nLt, nEq, lLe, leL, lLt, ltL, eqL, lEq, nM1, nM2, litLt0, one01, zero01, oneNe0, xupE, xupA, xupK, xI_I, xS_I, xF_I, xJ_I, xI_R, xS_R, xF_R, xJ_R, xI_L, xS_L, xF_L, xJ_L, xcat_s, le46, ge16, or_true, true_or, false_or, or_false, eq_self, Option.toList_some, Option.toList_none, List.cons_append, List.nil_append, true_and, and_true, not_false_eq_true, not_true_eq_false, if_true, if_false, if_pos]
      refine hQ M1 (e1.mono fun a k q => by unfold rR; omega) ⟨h.k_w e1 (by intro a k z; unfold rNT; omega), ?_, h.k_tp e1 ⟨by omega, by intro k; omega⟩, h.k_pl e1 (by omega), ?_, h.k_sl e1 (by intro k; omega), h.k_td e1 ⟨by omega, by intro k; omega⟩⟩
      · have := hh 0 (by omega)
        refine this.congr r6 fun k hk => ?_
        rw [f1 k hk]
        rfl
      · refine ⟨u1, ?_⟩
        intro i hi'
        have hi2 : i < zHn S - 1 := hi'
        have := hh (i + 1) (by omega)
        refine this.congr r6 fun k hk => ?_
        show xI M1 475 (34 * (zHn S - 1 - 1 - i) + k) = xI M 475 (34 * (zHn S - 1 - (i + 1)) + k)
        rw [e1.row (by intro k; omega)]
        congr 1
        omega
    · intro i M1 hi' ⟨e1, u1, f1⟩ ih
      have s1 := h.1.1.ex e1
      rw [B_185_21]
      simp (disch := omega) only [s1.s, s1.f, u1, lAdd, addL, lMul, mulL, nMul, nI_add, subL, lSub, nSub, nDec, nCl, lCl, nVp, lVp, nLe, nLt, nEq, lLe, leL, lLt, ltL, eqL, lEq, nM1, nM2, litLt0, one01, zero01, oneNe0, xupE, xupA, xupK, xI_I, xS_I, xF_I, xJ_I, xI_R, xS_R, xF_R, xJ_R, xI_L, xS_L, xF_L, xJ_L, xcat_s, le46, ge16, or_true, true_or, false_or, or_false, eq_self, Option.toList_some, Option.toList_none, List.cons_append, List.nil_append, true_and, and_true, not_false_eq_true, not_true_eq_false, if_true, if_false, if_neg]
      refine ih _ ⟨e1.wr _ (Or.inl rfl), by simp (disch := omega) only [lAdd, addL, lMul, mulL, nMul, nI_add, subL, lSub, nSub, nDec, nCl, lCl, nVp, lVp, nLe, nLt, nEq, lLe, leL, lLt, ltL, eqL, lEq, nM1, nM2, litLt0, one01, zero01, oneNe0, xupE, xupA, xupK, xI_I, xS_I, xF_I, xJ_I, xI_R, xS_R, xF_R, xJ_R, xI_L, xS_L, xF_L, xJ_L, xcat_s, le46, ge16, or_true, true_or, false_or, or_false, eq_self, Option.toList_some, Option.toList_none, List.cons_append, List.nil_append, true_and, and_true, not_false_eq_true, not_true_eq_false, if_true, if_false, u1], ?_⟩
      intro j hj
      rw [xI_I]
      by_cases q : j = i
      · rw [q, xupE, e1.I (by omega)]
      · rw [xupK _ _ q]; exact f1 j (by omega)
def S_hold (S : XS) (x : Int32) : XS := setS S (fun i => if i = cN x then some (zF S) else zS S i)
theorem i_hold {B : Nat} {S : XS} {x : Int32} (hi : SInv B S) : SInv B (if inb x 0 2 then S_hold S x else S) := by
  split
  · obtain ⟨a1, a2, a3, a4, a5, a6, a7, a8, a9⟩ := hi
    refine ⟨a1, a2, a3, a4, a5, a6, ?_, a8, a9⟩
    intro i hi G hG
    have hG' : (if i = cN x then some (zF S) else zS S i) = some G := hG
    by_cases q : i = cN x
    · rw [if_pos q] at hG'
      cases hG'
      exact ⟨a2, a3⟩
    · rw [if_neg q] at hG'
      exact a7 i hi G hG'
  · exact hi
theorem slb_set (S : XS) (j : Nat) (hj : j < 3) : bn (slb (fun i => if i = j then some (zF S) else zS S i)) 3 = bn (slb (zS S)) 3 ||| 2 ^ j := by
  apply Nat.eq_of_testBit_eq
  intro i
  rw [Nat.testBit_or, bn_test, bn_test, Nat.testBit_two_pow]
  unfold slb
  by_cases q : i = j
  · subst q
    simp [hj]
  · dsimp only
    rw [if_neg q]
    simp [show ¬ j = i from fun z => q z.symm]
theorem c_hold {M : XM} {t B : Nat} {S : XS} {x : Int32} {Q : Option Value → XM → Prop} (h : CW M t S) (hi : SInv B S)
    (hQ : ∀ M' : XM, Ex cR M M' → CW M' t (if inb x 0 2 then S_hold S x else S) → Q (some (.int (if inb x 0 2 then 1 else 0))) M') :
    RG xprog 285 0 [some (.ref 16), some (.int x)] [] M Q := by
  have rf : ∀ i, i < 3 → xF M 98 i = 99 + 7 * i := h.1.2.2.2.1.2
  have s98 : xS M 98 = (45, 3) := h.1.2.2.2.1.1
  have l3 : ∀ y : Int32, (y < 3) = ¬ (2 : Int32) < y := by
    intro y
    rw [i32_lt, i32_lt]
    have e2 : (2 : Int32).toInt = 2 := rfl
    have e3 : (3 : Int32).toInt = 3 := rfl
    exact propext ⟨fun q => by omega, fun q => by omega⟩
  rw [B_285_0]
  by_cases ok : inb x 0 2
  · rw [if_pos ok, if_pos ok] at hQ
    rw [if_neg ok.1, if_pos (by rw [l3]; exact ok.2)]
    obtain ⟨j, hj, rfl⟩ := inb02 ok
    obtain ⟨A, hA, cA'⟩ := (h.2.2.2.2.2.2.2.2.1.2.2 j hj).is
    unfold S_hold at hQ
    rw [cN_n (by omega)] at hQ
    simp (disch := omega) only [h.d, s98, rf j hj, hA.f, lAdd, addL, lMul, mulL, nMul, nI_add, subL, lSub, nSub, nDec, nCl, lCl, nVp, lVp, nLe, nLt, nEq, lLe, leL, lLt, ltL, eqL, lEq, nM1, nM2, litLt0, one01, zero01, oneNe0, xupE, xupA, xupK, xI_I, xS_I, xF_I, xJ_I, xI_R, xS_R, xF_R, xJ_R, xI_L, xS_L, xF_L, xJ_L, xcat_s, le46, ge16, or_true, true_or, false_or, or_false, eq_self, Option.toList_some, Option.toList_none, List.cons_append, List.nil_append, true_and, and_true, not_false_eq_true, not_true_eq_false, if_true, if_false]
    refine c_copyFrom hA h.of cA' hi.2.1.2.2.2.2.2 (by omega) ?_
    intro M1 e1 f1
    have k7 : xI M1 16 7 = nI (bn (slb (zS S)) 3) := by rw [e1.I (by unfold oP; omega)]; exact h.sl
    have s16 : xS M1 16 = (11, 0) := by rw [e1.S]; exact h.d.1
    simp (disch := omega) only [lAdd, addL, lMul, mulL, nMul, nI_add, subL, lSub, nSub, nDec, nCl, lCl, nVp, lVp, nLe, nLt, nEq, lLe, leL, lLt, ltL, eqL, lEq, nM1, nM2, litLt0, one01, zero01, oneNe0, xupE, xupA, xupK, xI_I, xS_I, xF_I, xJ_I, xI_R, xS_R, xF_R, xJ_R, xI_L, xS_L, xF_L, xJ_L, xcat_s, le46, ge16, or_true, true_or, false_or, or_false, eq_self, Option.toList_some, Option.toList_none, List.cons_append, List.nil_append, true_and, and_true, not_false_eq_true, not_true_eq_false, if_true, if_false, B_285_24, s16, k7, or_bit (show j < 8 by omega)]
    rw [← slb_set S j hj]
    have e1' : Ex (fun a k => (99 + 7 * j ≤ a ∧ a < 99 + 7 * j + 7) ∨ (a = 16 ∧ k = 7)) M M1 := e1.mono fun a k q => Or.inl q
    have e3 := e1'.wr (a := 16) (k := 7) (nI (bn (slb (fun i => if i = j then some (zF S) else zS S i)) 3)) (by omega)
    have e3w : Ex (fun a k => a = 16 ∧ k = 7) M1 (xmI M1 16 7 (nI (bn (slb (fun i => if i = j then some (zF S) else zS S i)) 3))) := (Ex.refl _ _).wr _ ⟨rfl, rfl⟩
    have f3 := f1.exR e3w (by intro a k z1 z2; omega)
    refine hQ _ (e3.mono fun a k q => by unfold cR; omega) ⟨h.1.ex e3, h.k_tx e3 (by intro a k z1 z2; omega), h.2.2.1.ex e3, h.k_of e3 (by intro a k z1 z2; omega), h.k_ah e3 (by intro a k z1 z2; omega), h.k_tp e3 ⟨by omega, fun k => by omega⟩, h.k_pl e3 (by omega), h.k_hs e3 (by intro a k z; omega), ?_, h.k_td e3 ⟨by omega, by intro a k z1 z2; omega⟩⟩
    refine ⟨by simp (disch := omega) only [lAdd, addL, lMul, mulL, nMul, nI_add, subL, lSub, nSub, nDec, nCl, lCl, nVp, lVp, nLe, nLt, nEq, lLe, leL, lLt, ltL, eqL, lEq, nM1, nM2, litLt0, one01, zero01, oneNe0, xupE, xupA, xupK, xI_I, xS_I, xF_I, xJ_I, xI_R, xS_R, xF_R, xJ_R, xI_L, xS_L, xF_L, xJ_L, xcat_s, le46, ge16, or_true, true_or, false_or, or_false, eq_self, Option.toList_some, Option.toList_none, List.cons_append, List.nil_append, true_and, and_true, not_false_eq_true, not_true_eq_false, if_true, if_false]; rfl, ?_, ?_⟩
    · intro i hi' G hG
      have hG' : (if i = j then some (zF S) else zS S i) = some G := hG
      by_cases q : i = j
      · subst q
        rw [if_pos rfl] at hG'
        cases hG'
        exact f3
      · rw [if_neg q] at hG'
        exact (h.2.2.2.2.2.2.2.2.1.2.1 i hi' G hG').exR e3 (by intro a k z1 z2; omega)
    · intro i hi'
      by_cases q : i = j
      · subst q
        exact f3.c hi.2.1.2.2.2.2.2
      · exact (h.2.2.2.2.2.2.2.2.1.2.2 i hi').exR e3 (by intro a k z1 z2; omega)
  · rw [if_neg ok, if_neg ok] at hQ
    simp (disch := omega) only [lAdd, addL, lMul, mulL, nMul, nI_add, subL, lSub, nSub, nDec, nCl, lCl, nVp, lVp, nLe, nLt, nEq, lLe, leL, lLt, ltL, eqL, lEq, nM1, nM2, litLt0, one01, zero01, oneNe0, xupE, xupA, xupK, xI_I, xS_I, xF_I, xJ_I, xI_R, xS_R, xF_R, xJ_R, xI_L, xS_L, xF_L, xJ_L, xcat_s, le46, ge16, or_true, true_or, false_or, or_false, eq_self, Option.toList_some, Option.toList_none, List.cons_append, List.nil_append, true_and, and_true, not_false_eq_true, not_true_eq_false, if_true, if_false]
    by_cases h0 : x < 0
    · rw [if_pos h0]; exact hQ M (Ex.refl _ _) h
    · rw [if_neg h0, if_neg (fun q => ok ⟨h0, by rw [← l3]; exact q⟩)]
      exact hQ M (Ex.refl _ _) h
theorem r_hold {M : XM} {lv B : Nat} {S : XS} {x : Int32} {Q : Option Value → XM → Prop} (h : RWd M lv S) (hi : SInv B S)
    (hQ : ∀ M' : XM, Ex rR M M' → RWd M' lv (if inb x 0 2 then S_hold S x else S) → Q (some (.int (if inb x 0 2 then 1 else 0))) M') :
    RG xprog 286 0 [some (.ref 439), some (.int x), none] [] M Q := by
  have r6 := h.1.r6
  rw [B_286_0]
  simp (disch := omega) only [r_in, lAdd, addL, lMul, mulL, nMul, nI_add, subL, lSub, nSub, nDec, nCl, lCl, nVp, lVp, nLe, nLt, nEq, lLe, leL, lLt, ltL, eqL, lEq, nM1, nM2, litLt0, one01, zero01, oneNe0, xupE, xupA, xupK, xI_I, xS_I, xF_I, xJ_I, xI_R, xS_R, xF_R, xJ_R, xI_L, xS_L, xF_L, xJ_L, xcat_s, le46, ge16, or_true, true_or, false_or, or_false, eq_self, Option.toList_some, Option.toList_none, List.cons_append, List.nil_append, true_and, and_true, not_false_eq_true, not_true_eq_false, if_true, if_false, B_286_6]
  by_cases ok : inb x 0 2
  · rw [if_pos ok, if_pos ok] at hQ
    rw [if_pos ok, if_pos (by decide)]
    obtain ⟨j, hj, rfl⟩ := inb02 ok
    unfold S_hold at hQ
    rw [cN_n (by omega)] at hQ
    simp (disch := omega) only [h.1.1.s, h.1.1.f, lAdd, addL, lMul, mulL, nMul, nI_add, subL, lSub, nSub, nDec, nCl, lCl, nVp, lVp, nLe, nLt, nEq, lLe, leL, lLt, ltL, eqL, lEq, nM1, nM2, litLt0, one01, zero01, oneNe0, xupE, xupA, xupK, xI_I, xS_I, xF_I, xJ_I, xI_R, xS_R, xF_R, xJ_R, xI_L, xS_L, xF_L, xJ_L, xcat_s, le46, ge16, or_true, true_or, false_or, or_false, eq_self, Option.toList_some, Option.toList_none, List.cons_append, List.nil_append, true_and, and_true, not_false_eq_true, not_true_eq_false, if_true, if_false, n4241, false_and, nar01]
    refine ⟨by omega, ?_⟩
    have e0 : Ex (fun a k => a = 484 ∨ a = 485) M (xmI M 484 j 1) := (Ex.refl _ _).wr _ (by omega)
    refine x_for 34 (fun i M1 => Ex (fun a k => a = 484 ∨ a = 485) M M1 ∧ xI M1 484 = xone (xI M 484) j 1 ∧ (∀ k, k < i → xI M1 485 (34 * j + k) = xI M 472 k) ∧ ∀ b k, b ≠ j → k < 34 → xI M1 485 (34 * b + k) = xI M 485 (34 * b + k)) (fun i M1 => RG xprog 286 20 [some (.ref 439), some (.int (nI j)), some (.int (nI i))] [] M1 Q) ?_ ?_ 0 _ (by omega) ⟨e0, by rw [xI_I, xup_s], fun j hj => by omega, fun b k _ _ => by rw [xI_I, xupA _ _ _ _ (by omega)]⟩
    · intro M1 ⟨e1, u1, f1, g1⟩
      rw [B_286_20]
      simp (disch := omega) only [lAdd, addL, lMul, mulL, nMul, nI_add, subL, lSub, nSub, nDec, nCl, lCl, nVp, lVp, nLe, nLt, nEq, lLe, leL, lLt, ltL, eqL, lEq, nM1, nM2, litLt0, one01, zero01, oneNe0, xupE, xupA, xupK, xI_I, xS_I, xF_I, xJ_I, xI_R, xS_R, xF_R, xJ_R, xI_L, xS_L, xF_L, xJ_L, xcat_s, le46, ge16, or_true, true_or, false_or, or_false, eq_self, Option.toList_some, Option.toList_none, List.cons_append, List.nil_append, true_and, and_true, not_false_eq_true, not_true_eq_false, if_true, if_false, if_pos]
      refine hQ M1 (e1.mono fun a k q => by unfold rR; omega) ⟨h.k_w e1 (by intro a k z; unfold rNT; omega), h.k_of e1 (by intro k; omega), h.k_tp e1 ⟨by omega, by intro k; omega⟩, h.k_pl e1 (by omega), h.k_hs e1 ⟨by omega, by intro k; omega⟩, ?_, h.k_td e1 ⟨by omega, by intro k; omega⟩⟩
      intro i hi'
      show xI M1 484 i = (if slb (fun i => if i = j then some (zF S) else zS S i) i = true then 1 else 0) ∧ ∀ G, (if i = j then some (zF S) else zS S i) = some G → _
      rw [u1, xo_at]
      unfold slb
      dsimp only
      by_cases q : i = j
      · subst q
        simp only [if_true]
        refine ⟨rfl, ?_⟩
        intro G hG
        cases hG
        exact h.2.1.congr r6 fun k hk => f1 k hk
      · simp only [if_neg q]
        refine ⟨(h.2.2.2.2.2.1 i hi').1, ?_⟩
        intro G hG
        exact ((h.2.2.2.2.2.1 i hi').2 G hG).congr r6 fun k hk => g1 i k q hk
    · intro i M1 hi' ⟨e1, u1, f1, g1⟩ ih
      have s1 := h.1.1.ex e1
      rw [B_286_20]
      simp (disch := omega) only [s1.s, s1.f, lAdd, addL, lMul, mulL, nMul, nI_add, subL, lSub, nSub, nDec, nCl, lCl, nVp, lVp, nLe, nLt, nEq, lLe, leL, lLt, ltL, eqL, lEq, nM1, nM2, litLt0, one01, zero01, oneNe0, xupE, xupA, xupK, xI_I, xS_I, xF_I, xJ_I, xI_R, xS_R, xF_R, xJ_R, xI_L, xS_L, xF_L, xJ_L, xcat_s, le46, ge16, or_true, true_or, false_or, or_false, eq_self, Option.toList_some, Option.toList_none, List.cons_append, List.nil_append, true_and, and_true, not_false_eq_true, not_true_eq_false, if_true, if_false, if_neg]
      refine ih _ ⟨e1.wr _ (by omega), by rw [xI_I, xupR _ _ _ (by omega)]; exact u1, ?_, ?_⟩
      · intro k hk
        rw [xI_I]
        by_cases q : k = i
        · rw [q, xupE, e1.I (by omega)]
        · rw [xupK _ _ (by omega)]; exact f1 k (by omega)
      · intro b k hb hk
        rw [xI_I, xupK _ _ (by omega)]
        exact g1 b k hb hk
  · rw [if_neg ok, if_neg ok] at hQ
    rw [if_neg ok, if_neg (by decide)]
    exact hQ M (Ex.refl _ _) h
abbrev okR (S : XS) (x : Int32) : Prop := inb x 0 2 ∧ slb (zS S) (cN x) = true
def S_restore (S : XS) (x : Int32) : XS := match zS S (cN x) with
  | some G => setF (setH S (0, zH S)) G
  | none => S
theorem i_restore {B : Nat} {S : XS} {x : Int32} (hi : SInv B S) : SInv B (if okR S x then S_restore S x else S) := by
  split
  · rename_i ok
    unfold S_restore
    obtain ⟨a1, a2, a3, a4, a5, a6, a7, a8, a9⟩ := hi
    obtain ⟨j, hj, rfl⟩ := inb02 ok.1
    rw [cN_n (by omega)]
    split
    · rename_i G hG
      exact ⟨a1, (a7 j hj G hG).1, (a7 j hj G hG).2, a4, Nat.zero_le _, fun i hi => absurd hi (by show ¬ i < 0; omega), a7, a8, a9⟩
    · exact ⟨a1, a2, a3, a4, a5, a6, a7, a8, a9⟩
  · exact hi
theorem c_restore {M : XM} {t B : Nat} {S : XS} {x : Int32} {Q : Option Value → XM → Prop} (h : CW M t S) (hi : SInv B S)
    (hQ : ∀ M' : XM, Ex cR M M' → CW M' t (if okR S x then S_restore S x else S) → Q (some (.int (if okR S x then 1 else 0))) M') :
    RG xprog 287 0 [some (.ref 16), some (.int x)] [] M Q := by
  have rf : ∀ i, i < 3 → xF M 98 i = 99 + 7 * i := h.1.2.2.2.1.2
  have s98 : xS M 98 = (45, 3) := h.1.2.2.2.1.1
  have l3 : ∀ y : Int32, (3 ≤ y) = ((2 : Int32) < y) := by
    intro y
    rw [i32_lt, i32_le]
    have e2 : (2 : Int32).toInt = 2 := rfl
    have e3 : (3 : Int32).toInt = 3 := rfl
    exact propext ⟨fun q => by omega, fun q => by omega⟩
  have refuse : ¬ okR S x → Q (some (.int 0)) M := by
    intro hn
    have := hQ M (Ex.refl _ _)
    rw [if_neg hn, if_neg hn] at this
    exact this h
  rw [B_287_0]
  simp (disch := omega) only [h.d, h.sl, lAdd, addL, lMul, mulL, nMul, nI_add, subL, lSub, nSub, nDec, nCl, lCl, nVp, lVp, nLe, nLt, nEq, lLe, leL, lLt, ltL, eqL, lEq, nM1, nM2, litLt0, one01, zero01, oneNe0, xupE, xupA, xupK, xI_I, xS_I, xF_I, xJ_I, xI_R, xS_R, xF_R, xJ_R, xI_L, xS_L, xF_L, xJ_L, xcat_s, le46, ge16, or_true, true_or, false_or, or_false, eq_self, Option.toList_some, Option.toList_none, List.cons_append, List.nil_append, true_and, and_true, not_false_eq_true, not_true_eq_false, if_true, if_false]
  by_cases h0 : x < 0
  · rw [if_pos h0]; exact refuse fun q => q.1.1 h0
  rw [if_neg h0]
  by_cases h3 : 3 ≤ x
  · rw [if_pos h3]; exact refuse fun q => q.1.2 (by rw [← l3]; exact h3)
  rw [if_neg h3]
  have in2 : inb x 0 2 := ⟨h0, by rw [← l3]; exact h3⟩
  obtain ⟨j, hj, rfl⟩ := inb02 in2
  have ab := and_bit (m := bn (slb (zS S)) 3) (i := j) (by have := bn128 (slb (zS S)) (show 3 ≤ 7 by omega); omega) (by omega)
  rw [bn_test, decide_eq_true hj, Bool.true_and] at ab
  by_cases hb : slb (zS S) j = true
  · rw [if_pos (by rw [ab, hb]; decide)]
    have ok : okR S (nI j) := ⟨in2, by rw [cN_n (by omega)]; exact hb⟩
    rw [if_pos ok, if_pos ok] at hQ
    unfold S_restore at hQ
    rw [cN_n (by omega)] at hQ
    obtain ⟨G, hG⟩ : ∃ G, zS S j = some G := by
      unfold slb at hb
      exact Option.isSome_iff_exists.mp hb
    rw [hG] at hQ
    have hp := h.2.2.2.2.2.2.2.2.1.2.1 j hj G hG
    have iG := (hi.2.2.2.2.2.2.1 j hj G hG).1
    simp (disch := omega) only [h.d, s98, rf j hj, h.of.f, lAdd, addL, lMul, mulL, nMul, nI_add, subL, lSub, nSub, nDec, nCl, lCl, nVp, lVp, nLe, nLt, nEq, lLe, leL, lLt, ltL, eqL, lEq, nM1, nM2, litLt0, one01, zero01, oneNe0, xupE, xupA, xupK, xI_I, xS_I, xF_I, xJ_I, xI_R, xS_R, xF_R, xJ_R, xI_L, xS_L, xF_L, xJ_L, xcat_s, le46, ge16, or_true, true_or, false_or, or_false, eq_self, Option.toList_some, Option.toList_none, List.cons_append, List.nil_append, true_and, and_true, not_false_eq_true, not_true_eq_false, if_true, if_false]
    refine c_copyFrom h.of hp hi.2.1.2.2.2.2.2 iG.2.2.2.2.2 (by omega) ?_
    intro M1 e1 f1
    have s16 : xS M1 16 = (11, 0) ∧ xF M1 16 8 = 120 ∧ xS M1 120 = (2, 0) := by rw [e1.S, e1.F]; exact ⟨h.d.1, h.d.2.2.2.2.2.2.2.2.1, h.hs.1⟩
    simp (disch := omega) only [lAdd, addL, lMul, mulL, nMul, nI_add, subL, lSub, nSub, nDec, nCl, lCl, nVp, lVp, nLe, nLt, nEq, lLe, leL, lLt, ltL, eqL, lEq, nM1, nM2, litLt0, one01, zero01, oneNe0, xupE, xupA, xupK, xI_I, xS_I, xF_I, xJ_I, xI_R, xS_R, xF_R, xJ_R, xI_L, xS_L, xF_L, xJ_L, xcat_s, le46, ge16, or_true, true_or, false_or, or_false, eq_self, Option.toList_some, Option.toList_none, List.cons_append, List.nil_append, true_and, and_true, not_false_eq_true, not_true_eq_false, if_true, if_false, B_287_35, s16]
    have e1' : Ex (fun a k => (84 ≤ a ∧ a < 91) ∨ (a = 120 ∧ k = 2)) M M1 := e1.mono fun a k q => Or.inl q
    have e3 := e1'.wr (a := 120) (k := 2) 0 (by omega)
    have e3w : Ex (fun a k => a = 120 ∧ k = 2) M1 (xmI M1 120 2 0) := (Ex.refl _ _).wr _ ⟨rfl, rfl⟩
    obtain ⟨w, w40, hw, hsl⟩ := h.2.2.2.2.2.2.2.1.2.1
    refine hQ _ (e3.mono fun a k q => by unfold cR; omega) ⟨h.1.ex e3, h.k_tx e3 (by intro a k z1 z2; omega), h.2.2.1.ex e3, f1.exR e3w (by intro a k z1 z2; omega), h.k_ah e3 (by intro a k z1 z2; omega), h.k_tp e3 ⟨by omega, fun k => by omega⟩, h.k_pl e3 (by omega), ?_, h.k_sl e3 ⟨by omega, by intro a k z1 z2; omega⟩, h.k_td e3 ⟨by omega, by intro a k z1 z2; omega⟩⟩
    refine ⟨by simp (disch := omega) only [lAdd, addL, lMul, mulL, nMul, nI_add, subL, lSub, nSub, nDec, nCl, lCl, nVp, lVp, nLe, nLt, nEq, lLe, leL, lLt, ltL, eqL, lEq, nM1, nM2, litLt0, one01, zero01, oneNe0, xupE, xupA, xupK, xI_I, xS_I, xF_I, xJ_I, xI_R, xS_R, xF_R, xJ_R, xI_L, xS_L, xF_L, xJ_L, xcat_s, le46, ge16, or_true, true_or, false_or, or_false, eq_self, Option.toList_some, Option.toList_none, List.cons_append, List.nil_append, true_and, and_true, not_false_eq_true, not_true_eq_false, if_true, if_false]; rfl, ⟨w, w40, ?_, fun i hi => absurd hi (by show ¬ i < 0; omega)⟩, ?_⟩
    · rw [e3.I (by omega)]; exact hw
    · intro i hi'
      exact (h.2.2.2.2.2.2.2.1.2.2 i hi').exR e3 (by intro a k z1 z2; omega)
  · rw [if_neg (by rw [ab]; simp only [Bool.not_eq_true] at hb; rw [hb]; simp)]
    exact refuse fun q => hb (by have := q.2; rw [cN_n (by omega)] at this; exact this)
theorem r_restore {M : XM} {lv B : Nat} {S : XS} {x : Int32} {Q : Option Value → XM → Prop} (h : RWd M lv S) (hi : SInv B S)
    (hQ : ∀ M' : XM, Ex rR M M' → RWd M' lv (if okR S x then S_restore S x else S) → Q (some (.int (if okR S x then 1 else 0))) M') :
    RG xprog 288 0 [some (.ref 439), some (.int x), none] [] M Q := by
  have r6 := h.1.r6
  have refuse : ¬ okR S x → Q (some (.int 0)) M := by
    intro hn
    have := hQ M (Ex.refl _ _)
    rw [if_neg hn, if_neg hn] at this
    exact this h
  rw [B_288_0]
  simp (disch := omega) only [r_in, lAdd, addL, lMul, mulL, nMul, nI_add, subL, lSub, nSub, nDec, nCl, lCl, nVp, lVp, nLe, nLt, nEq, lLe, leL, lLt, ltL, eqL, lEq, nM1, nM2, litLt0, one01, zero01, oneNe0, xupE, xupA, xupK, xI_I, xS_I, xF_I, xJ_I, xI_R, xS_R, xF_R, xJ_R, xI_L, xS_L, xF_L, xJ_L, xcat_s, le46, ge16, or_true, true_or, false_or, or_false, eq_self, Option.toList_some, Option.toList_none, List.cons_append, List.nil_append, true_and, and_true, not_false_eq_true, not_true_eq_false, if_true, if_false, B_288_6]
  by_cases in2 : inb x 0 2
  · rw [if_pos in2, if_neg (by decide)]
    obtain ⟨j, hj, rfl⟩ := inb02 in2
    have hs := (h.2.2.2.2.2.1 j hj).1
    simp (disch := omega) only [h.1.1.s, h.1.1.f, lAdd, addL, lMul, mulL, nMul, nI_add, subL, lSub, nSub, nDec, nCl, lCl, nVp, lVp, nLe, nLt, nEq, lLe, leL, lLt, ltL, eqL, lEq, nM1, nM2, litLt0, one01, zero01, oneNe0, xupE, xupA, xupK, xI_I, xS_I, xF_I, xJ_I, xI_R, xS_R, xF_R, xJ_R, xI_L, xS_L, xF_L, xJ_L, xcat_s, le46, ge16, or_true, true_or, false_or, or_false, eq_self, Option.toList_some, Option.toList_none, List.cons_append, List.nil_append, true_and, and_true, not_false_eq_true, not_true_eq_false, if_true, if_false, or_true, hs]
    by_cases hb : slb (zS S) j = true
    · have ok : okR S (nI j) := ⟨in2, by rw [cN_n (by omega)]; exact hb⟩
      rw [if_pos ok, if_pos ok] at hQ
      rw [if_pos hb, if_pos (by decide)]
      unfold S_restore at hQ
      rw [cN_n (by omega)] at hQ
      obtain ⟨G, hG⟩ : ∃ G, zS S j = some G := by
        unfold slb at hb
        exact Option.isSome_iff_exists.mp hb
      rw [hG] at hQ
      have hp := (h.2.2.2.2.2.1 j hj).2 G hG
      refine x_for 34 (fun i M1 => Ex (fun a k => a = 472 ∨ (a = 439 ∧ k = 55)) M M1 ∧ ∀ k, k < i → xI M1 472 k = xI M 485 (34 * j + k)) (fun i M1 => RG xprog 288 22 [some (.ref 439), some (.int (nI j)), some (.int (nI i))] [] M1 Q) ?_ ?_ 0 M (by omega) ⟨Ex.refl _ _, fun j hj => by omega⟩
      · intro M1 ⟨e1, f1⟩
        have s1 := h.1.1.ex e1
        rw [B_288_22]
        simp (disch := omega) only [lAdd, addL, lMul, mulL, nMul, nI_add, subL, lSub, nSub, nDec, nCl, lCl, nVp, lVp, nLe, nLt, nEq, lLe, leL, lLt, ltL, eqL, lEq, nM1, nM2, litLt0, one01, zero01, oneNe0, xupE, xupA, xupK, xI_I, xS_I, xF_I, xJ_I, xI_R, xS_R, xF_R, xJ_R, xI_L, xS_L, xF_L, xJ_L, xcat_s, le46, ge16, or_true, true_or, false_or, or_false, eq_self, Option.toList_some, Option.toList_none, List.cons_append, List.nil_append, true_and, and_true, not_false_eq_true, not_true_eq_false, if_true, if_false, if_pos, s1.s]
        have e3 := e1.wr (a := 439) (k := 55) 0 (by omega)
        refine hQ _ (e3.mono fun a k q => by unfold rR; omega) ⟨h.k_w e3 (by intro a k z; unfold rNT; omega), ?_, h.k_tp e3 ⟨by omega, by intro k; omega⟩, h.k_pl e3 (by omega), ⟨by simp (disch := omega) only [lAdd, addL, lMul, mulL, nMul, nI_add, subL, lSub, nSub, nDec, nCl, lCl, nVp, lVp, nLe, nLt, nEq, lLe, leL, lLt, ltL, eqL, lEq, nM1, nM2, litLt0, one01, zero01, oneNe0, xupE, xupA, xupK, xI_I, xS_I, xF_I, xJ_I, xI_R, xS_R, xF_R, xJ_R, xI_L, xS_L, xF_L, xJ_L, xcat_s, le46, ge16, or_true, true_or, false_or, or_false, eq_self, Option.toList_some, Option.toList_none, List.cons_append, List.nil_append, true_and, and_true, not_false_eq_true, not_true_eq_false, if_true, if_false]; rfl, fun i hi => absurd hi (by show ¬ i < 0; omega)⟩, h.k_sl e3 (by intro k; omega), h.k_td e3 ⟨by omega, by intro k; omega⟩⟩
        refine hp.congr r6 fun k hk => ?_
        rw [xI_I, xupA _ _ _ _ (by omega), f1 k hk]
      · intro i M1 hi' ⟨e1, f1⟩ ih
        have s1 := h.1.1.ex e1
        rw [B_288_22]
        simp (disch := omega) only [s1.s, s1.f, lAdd, addL, lMul, mulL, nMul, nI_add, subL, lSub, nSub, nDec, nCl, lCl, nVp, lVp, nLe, nLt, nEq, lLe, leL, lLt, ltL, eqL, lEq, nM1, nM2, litLt0, one01, zero01, oneNe0, xupE, xupA, xupK, xI_I, xS_I, xF_I, xJ_I, xI_R, xS_R, xF_R, xJ_R, xI_L, xS_L, xF_L, xJ_L, xcat_s, le46, ge16, or_true, true_or, false_or, or_false, eq_self, Option.toList_some, Option.toList_none, List.cons_append, List.nil_append, true_and, and_true, not_false_eq_true, not_true_eq_false, if_true, if_false, if_neg]
        refine ih _ ⟨e1.wr _ (by omega), ?_⟩
        intro k hk
        rw [xI_I]
        by_cases q : k = i
        · rw [q, xupE, e1.I (by omega)]
        · rw [xupK _ _ q]; exact f1 k (by omega)
    · rw [if_neg hb, if_neg (fun z => z rfl)]
      exact refuse fun q => hb (by have := q.2; rw [cN_n (by omega)] at this; exact this)
  · rw [if_neg in2, if_pos rfl]
    exact refuse fun q => in2 q.1
