/-! dealt: the reference -/
/-- the table stands -/
def RL (M : XM) (S : XS) : Prop := ∀ l a, l < tN (zT S) → a < tR (zT S) → xI M 477 (6 * l + a) = tab (zT S) (zF S) l a
/-- what dealing writes in the reference -/
def rE : Nat → Nat → Prop := fun a _ => 476 ≤ a ∧ a ≤ 480
theorem RQ.stepE {M0 M M' : XM} {lv : Nat} {S : XS} {F : XO} {sd st : Int32} (h : RQ M0 lv S F sd st M) (e : Ex rE M M') : RQ M0 lv S F sd st M' := by
  refine ⟨h.1.step e (fun a k q => by unfold rE at q; unfold rS; omega), h.2.1.ex e (fun a k q => by unfold rE at q; unfold rNT; omega), ?_, ?_⟩
  · rw [e.I (by unfold rE; omega)]; exact h.2.2.1
  · rw [e.I (by unfold rE; omega)]; exact h.2.2.2
theorem RQ.wE {M0 M : XM} {lv a k : Nat} {S : XS} {F : XO} {sd st : Int32} (h : RQ M0 lv S F sd st M) (x : Int32) (hp : 476 ≤ a ∧ a ≤ 480) : RQ M0 lv S F sd st (xmI M a k x) := h.stepE ((Ex.refl _ _).wr x hp)
theorem r_canDeal {M0 M : XM} {lv l a tk : Nat} {S : XS} {F : XO} {sd st : Int32} {Q : Option Value → XM → Prop} (h : RQ M0 lv S F sd st M) (hd : RL M S) (hl : l < tN (zT S)) (ha : a < tR (zT S)) (hk : tk < 64) :
    RG xprog 196 0 [some (.ref 439), some (.int (nI l)), some (.int (nI a)), some (.int (nI tk))] [] M Q = Q (some (.int (if ncan (zT S) (zF S) l a tk then 0 else 1))) M := by
  have n7 := h.2.1.n7
  have r6 := h.2.1.r6
  rw [B_196_0]
  simp (disch := omega) only [h.2.1.s.s, h.2.1.s.f, h.2.1.v, h.2.1.n, h.2.1.r, hd l a hl ha, shr_bit (show tk < 128 by omega) (show a < 8 by omega), lAdd, addL, lMul, mulL, nMul, nI_add, subL, lSub, nSub, nDec, nCl, lCl, nVp, lVp, nLe, nLt, nEq, lLe, leL, lLt, ltL, eqL, lEq, nM1, nM2, litLt0, one01, zero01, oneNe0, xupE, xupA, xupK, xI_I, xS_I, xF_I, xJ_I, xI_R, xS_R, xF_R, xJ_R, xI_L, xS_L, xF_L, xJ_L, xcat_s, le46, ge16, or_true, true_or, false_or, or_false, eq_self, Option.toList_some, Option.toList_none, List.cons_append, List.nil_append, true_and, and_true, not_false_eq_true, not_true_eq_false, if_true, if_false, ite_i]
  congr 3
  by_cases h2 : tk.testBit a = true
  · rw [if_pos h2, if_pos (by decide), if_pos (Or.inr h2)]
  · rw [if_neg h2, if_neg (fun z => z rfl)]
    by_cases h1 : tab (zT S) (zF S) l a ≤ 0
    · rw [if_pos h1, if_pos (Or.inl h1)]
    · rw [if_neg h1, if_neg (fun q => q.elim h1 h2)]
theorem r_with {M0 M : XM} {lv l a tk : Nat} {S : XS} {F : XO} {sd st : Int32} {Q : Option Value → XM → Prop} (h : RQ M0 lv S F sd st M) (hd : RL M S) (hr : ∀ k, k < 64 → xI M 476 (64 * (l + 1) + k) = bsx (zT S) (zF S) (l + 1) k) (hl : l < tN (zT S)) (ha : a < tR (zT S)) (hk : tk < 64) :
    RG xprog 197 0 [some (.ref 439), some (.int (nI l)), some (.int (nI a)), some (.int (nI tk))] [] M Q = Q (some (.int (wth (zT S) (zF S) l a tk))) M := by
  have n7 := h.2.1.n7
  have r6 := h.2.1.r6
  have o6 := or64 (i := a) hk (by omega)
  have hr' := hr _ o6
  rw [show 64 * (l + 1) + (tk ||| 2 ^ a) = 64 * l + 64 + (tk ||| 2 ^ a) by omega] at hr'
  rw [B_197_0]
  simp (disch := omega) only [h.2.1.s.s, h.2.1.s.f, h.2.1.v, h.2.1.n, h.2.1.r, hd l a hl ha, or_bit (show a < 8 by omega), lAdd, addL, lMul, mulL, nMul, nI_add, subL, lSub, nSub, nDec, nCl, lCl, nVp, lVp, nLe, nLt, nEq, lLe, leL, lLt, ltL, eqL, lEq, nM1, nM2, litLt0, one01, zero01, oneNe0, xupE, xupA, xupK, xI_I, xS_I, xF_I, xJ_I, xI_R, xS_R, xF_R, xJ_R, xI_L, xS_L, xF_L, xJ_L, xcat_s, le46, ge16, or_true, true_or, false_or, or_false, eq_self, Option.toList_some, Option.toList_none, List.cons_append, List.nil_append, true_and, and_true, not_false_eq_true, not_true_eq_false, if_true, if_false, hr']
  rfl
theorem r_fillsDealt {M0 M : XM} {lv B : Nat} {S : XS} {Q : Option Value → XM → Prop} (h : RK M0 lv S M) (hi : SInv B S) (hB : B ≤ 99999)
    (hQ : ∀ M' : XM, RQ M0 lv S (zF S) (tS (zT S) 2) 0 M' → RL M' S → (∀ j k, j ≤ tN (zT S) → k < 64 → xI M' 476 (64 * j + k) = bsx (zT S) (zF S) j k) → Q none M') :
    RG xprog 198 0 [some (.ref 439), none, none, none, none] [] M Q := by
  have n7 := h.1.1.n7
  have r6 := h.1.1.r6
  have l2 := h.1.1.lv2
  rw [B_198_0]
  simp (disch := omega) only [h.1.1.1.s, lAdd, addL, lMul, mulL, nMul, nI_add, subL, lSub, nSub, nDec, nCl, lCl, nVp, lVp, nLe, nLt, nEq, lLe, leL, lLt, ltL, eqL, lEq, nM1, nM2, litLt0, one01, zero01, oneNe0, xupE, xupA, xupK, xI_I, xS_I, xF_I, xJ_I, xI_R, xS_R, xF_R, xJ_R, xI_L, xS_L, xF_L, xJ_L, xcat_s, le46, ge16, or_true, true_or, false_or, or_false, eq_self, Option.toList_some, Option.toList_none, List.cons_append, List.nil_append, true_and, and_true, not_false_eq_true, not_true_eq_false, if_true, if_false]
  refine r_fillsTable h hi hB ?_
  intro M1 h1 d1
  simp (disch := omega) only [lAdd, addL, lMul, mulL, nMul, nI_add, subL, lSub, nSub, nDec, nCl, lCl, nVp, lVp, nLe, nLt, nEq, lLe, leL, lLt, ltL, eqL, lEq, nM1, nM2, litLt0, one01, zero01, oneNe0, xupE, xupA, xupK, xI_I, xS_I, xF_I, xJ_I, xI_R, xS_R, xF_R, xJ_R, xI_L, xS_L, xF_L, xJ_L, xcat_s, le46, ge16, or_true, true_or, false_or, or_false, eq_self, Option.toList_some, Option.toList_none, List.cons_append, List.nil_append, true_and, and_true, not_false_eq_true, not_true_eq_false, if_true, if_false, B_198_4]
  have outer : ∀ l (M3 : XM) (z2 z3 z4 : Option Value), l ≤ tN (zT S) → RQ M0 lv S (zF S) (tS (zT S) 2) 0 M3 → RL M3 S → (∀ j k, l ≤ j → j ≤ tN (zT S) → k < 64 → xI M3 476 (64 * j + k) = bsx (zT S) (zF S) j k) → RG xprog 198 50 [some (.ref 439), some (.int (nI l - 1)), z2, z3, z4] [] M3 Q := by
    intro l
    induction l with
    | zero =>
      intro M3 z2 z3 z4 _ k3 d3 r3
      rw [B_198_50, if_pos (by decide)]
      exact hQ M3 k3 d3 fun j k hj hk => r3 j k (by omega) hj hk
    | succ l ih =>
      intro M3 z2 z3 z4 hl k3 d3 r3
      rw [B_198_50, show nI (l + 1) - 1 = nI l from nI_pred l]
      simp (disch := omega) only [lAdd, addL, lMul, mulL, nMul, nI_add, subL, lSub, nSub, nDec, nCl, lCl, nVp, lVp, nLe, nLt, nEq, lLe, leL, lLt, ltL, eqL, lEq, nM1, nM2, litLt0, one01, zero01, oneNe0, xupE, xupA, xupK, xI_I, xS_I, xF_I, xJ_I, xI_R, xS_R, xF_R, xJ_R, xI_L, xS_L, xF_L, xJ_L, xcat_s, le46, ge16, or_true, true_or, false_or, or_false, eq_self, Option.toList_some, Option.toList_none, List.cons_append, List.nil_append, true_and, and_true, not_false_eq_true, not_true_eq_false, if_true, if_false, if_neg]
      refine x_for 64 (fun i (s : XM × Option Value × Option Value) => RQ M0 lv S (zF S) (tS (zT S) 2) 0 s.1 ∧ RL s.1 S ∧ (∀ j k, l + 1 ≤ j → j ≤ tN (zT S) → k < 64 → xI s.1 476 (64 * j + k) = bsx (zT S) (zF S) j k) ∧ ∀ k, k < i → xI s.1 476 (64 * l + k) = bsx (zT S) (zF S) l k) (fun i s => RG xprog 198 56 [some (.ref 439), some (.int (nI l)), some (.int (nI i)), s.2.1, s.2.2] [] s.1 Q) ?_ ?_ 0 (M3, z3, z4) (by omega) ⟨k3, d3, r3, fun k hk => by omega⟩
      · rintro ⟨M4, z5, z6⟩ ⟨k4, d4, r4, q4⟩
        dsimp only at k4 d4 r4 q4 ⊢
        rw [B_198_56]
        simp (disch := omega) only [lAdd, addL, lMul, mulL, nMul, nI_add, subL, lSub, nSub, nDec, nCl, lCl, nVp, lVp, nLe, nLt, nEq, lLe, leL, lLt, ltL, eqL, lEq, nM1, nM2, litLt0, one01, zero01, oneNe0, xupE, xupA, xupK, xI_I, xS_I, xF_I, xJ_I, xI_R, xS_R, xF_R, xJ_R, xI_L, xS_L, xF_L, xJ_L, xcat_s, le46, ge16, or_true, true_or, false_or, or_false, eq_self, Option.toList_some, Option.toList_none, List.cons_append, List.nil_append, true_and, and_true, not_false_eq_true, not_true_eq_false, if_true, if_false, if_pos]
        have := ih M4 (some (.int (nI 64))) z5 z6 (by omega) k4 d4 (fun j k h1 h2 h3 => by
          by_cases q : j = l
          · rw [q]; exact q4 k h3
          · exact r4 j k (by omega) h2 h3)
        rw [Int32.sub_eq_add_neg] at this
        exact this
      · rintro tk ⟨M4, z5, z6⟩ htk ⟨k4, d4, r4, q4⟩ ih2
        dsimp only at k4 d4 r4 q4 ⊢
        have hll : l < tN (zT S) := by omega
        have r5 : ∀ k, k < 64 → xI M4 476 (64 * (l + 1) + k) = bsx (zT S) (zF S) (l + 1) k := fun k hk => r4 (l + 1) k (by omega) (by omega) hk
        have r6' : xI M4 476 (64 * l + 64 + tk) = bsx (zT S) (zF S) (l + 1) tk := by
          rw [← r5 tk htk]; congr 1
        rw [B_198_56]
        simp (disch := omega) only [lAdd, addL, lMul, mulL, nMul, nI_add, subL, lSub, nSub, nDec, nCl, lCl, nVp, lVp, nLe, nLt, nEq, lLe, leL, lLt, ltL, eqL, lEq, nM1, nM2, litLt0, one01, zero01, oneNe0, xupE, xupA, xupK, xI_I, xS_I, xF_I, xJ_I, xI_R, xS_R, xF_R, xJ_R, xI_L, xS_L, xF_L, xJ_L, xcat_s, le46, ge16, or_true, true_or, false_or, or_false, eq_self, Option.toList_some, Option.toList_none, List.cons_append, List.nil_append, true_and, and_true, not_false_eq_true, not_true_eq_false, if_true, if_false, if_neg, k4.2.1.s.s, k4.2.1.s.f, k4.2.1.v, k4.2.1.n, k4.2.1.r, r6']
        have inner : ∀ j a, a + j = tR (zT S) → RG xprog 198 80 [some (.ref 439), some (.int (nI l)), some (.int (nI tk)), some (.int (iter (bs1 (zT S) (zF S) l tk) a (bsx (zT S) (zF S) (l + 1) tk))), some (.int (nI a))] [] M4 Q := by
          intro j
          induction j with
          | zero =>
            intro a ha
            have : a = tR (zT S) := by omega
            subst this
            rw [B_198_80, ← bsx_l _ _ hll]
            simp (disch := omega) only [k4.2.1.s.s, k4.2.1.s.f, k4.2.1.v, k4.2.1.n, k4.2.1.r, lAdd, addL, lMul, mulL, nMul, nI_add, subL, lSub, nSub, nDec, nCl, lCl, nVp, lVp, nLe, nLt, nEq, lLe, leL, lLt, ltL, eqL, lEq, nM1, nM2, litLt0, one01, zero01, oneNe0, xupE, xupA, xupK, xI_I, xS_I, xF_I, xJ_I, xI_R, xS_R, xF_R, xJ_R, xI_L, xS_L, xF_L, xJ_L, xcat_s, le46, ge16, or_true, true_or, false_or, or_false, eq_self, Option.toList_some, Option.toList_none, List.cons_append, List.nil_append, true_and, and_true, not_false_eq_true, not_true_eq_false, if_true, if_false, Nat.le_refl]
            refine ih2 (xmI M4 476 (64 * l + tk) (bsx (zT S) (zF S) l tk), _, _) ⟨k4.wE _ (by omega), ?_, ?_, ?_⟩
            all_goals dsimp only
            · intro j a hj ha
              rw [xI_I, xupA _ _ _ _ (by omega)]; exact d4 j a hj ha
            · intro j k q1 q2 q3
              rw [xI_I, xupK _ _ (by omega)]; exact r4 j k q1 q2 q3
            · intro k hk
              rw [xI_I]
              by_cases q : k = tk
              · rw [q, xupE]
              · rw [xupK _ _ (by omega)]; exact q4 k (by omega)
          | succ j ih3 =>
            intro a ha
            have hal : a < tR (zT S) := by omega
            have e := ih3 (a + 1) (by omega)
            rw [iter_s, bs1] at e
            rw [B_198_80]
            simp (disch := omega) only [k4.2.1.s.s, k4.2.1.s.f, k4.2.1.v, k4.2.1.n, k4.2.1.r, lAdd, addL, lMul, mulL, nMul, nI_add, subL, lSub, nSub, nDec, nCl, lCl, nVp, lVp, nLe, nLt, nEq, lLe, leL, lLt, ltL, eqL, lEq, nM1, nM2, litLt0, one01, zero01, oneNe0, xupE, xupA, xupK, xI_I, xS_I, xF_I, xJ_I, xI_R, xS_R, xF_R, xJ_R, xI_L, xS_L, xF_L, xJ_L, xcat_s, le46, ge16, or_true, true_or, false_or, or_false, eq_self, Option.toList_some, Option.toList_none, List.cons_append, List.nil_append, true_and, and_true, not_false_eq_true, not_true_eq_false, if_true, if_false, if_neg, r_canDeal k4 d4 hll hal htk, B_198_102, r_with k4 d4 r5 hll hal htk, B_198_113, B_198_125]
            by_cases hc : ncan (zT S) (zF S) l a tk
            · rw [if_pos hc, if_pos rfl]
              rw [if_pos hc] at e
              exact e
            · rw [if_neg hc, if_neg (by decide)]
              rw [if_neg hc] at e
              by_cases hw : wth (zT S) (zF S) l a tk ≤ iter (bs1 (zT S) (zF S) l tk) a (bsx (zT S) (zF S) (l + 1) tk)
              · rw [if_pos hw]
                rw [if_neg (by rw [← le_nlt]; exact hw)] at e
                exact e
              · rw [if_neg hw]
                rw [if_pos (Classical.not_not.mp (by rw [← le_nlt]; exact hw))] at e
                exact e
        exact inner (tR (zT S)) 0 (by omega)
  refine x_for 64 (fun i M2 => RQ M0 lv S (zF S) (tS (zT S) 2) 0 M2 ∧ RL M2 S ∧ ∀ k, k < i → xI M2 476 (64 * tN (zT S) + k) = 0) (fun i M2 => RG xprog 198 6 [some (.ref 439), some (.int (nI i)), none, none, none] [] M2 Q) ?_ ?_ 0 M1 (by omega) ⟨h1, d1, fun k hk => by omega⟩
  · intro M2 ⟨k2, d2, f2⟩
    rw [B_198_6]
    simp (disch := omega) only [k2.2.1.s.s, k2.2.1.s.f, k2.2.1.v, k2.2.1.n, k2.2.1.r, lAdd, addL, lMul, mulL, nMul, nI_add, subL, lSub, nSub, nDec, nCl, lCl, nVp, lVp, nLe, nLt, nEq, lLe, leL, lLt, ltL, eqL, lEq, nM1, nM2, litLt0, one01, zero01, oneNe0, xupE, xupA, xupK, xI_I, xS_I, xF_I, xJ_I, xI_R, xS_R, xF_R, xJ_R, xI_L, xS_L, xF_L, xJ_L, xcat_s, le46, ge16, or_true, true_or, false_or, or_false, eq_self, Option.toList_some, Option.toList_none, List.cons_append, List.nil_append, true_and, and_true, not_false_eq_true, not_true_eq_false, if_true, if_false, if_pos]
    refine outer (tN (zT S)) M2 none none none (Nat.le_refl _) k2 d2 ?_
    intro j k q1 q2 q3
    have : j = tN (zT S) := by omega
    rw [this, bsx_n]
    exact f2 k q3
  · intro i M2 hi' ⟨k2, d2, f2⟩ ih
    rw [B_198_6]
    simp (disch := omega) only [k2.2.1.s.s, k2.2.1.s.f, k2.2.1.v, k2.2.1.n, k2.2.1.r, lAdd, addL, lMul, mulL, nMul, nI_add, subL, lSub, nSub, nDec, nCl, lCl, nVp, lVp, nLe, nLt, nEq, lLe, leL, lLt, ltL, eqL, lEq, nM1, nM2, litLt0, one01, zero01, oneNe0, xupE, xupA, xupK, xI_I, xS_I, xF_I, xJ_I, xI_R, xS_R, xF_R, xJ_R, xI_L, xS_L, xF_L, xJ_L, xcat_s, le46, ge16, or_true, true_or, false_or, or_false, eq_self, Option.toList_some, Option.toList_none, List.cons_append, List.nil_append, true_and, and_true, not_false_eq_true, not_true_eq_false, if_true, if_false, if_neg]
    refine ih _ ⟨k2.wE _ (by omega), ?_, ?_⟩
    · intro j a hj ha
      rw [xI_I, xupA _ _ _ _ (by omega)]; exact d2 j a hj ha
    · intro k hk
      rw [xI_I]
      by_cases q : k = i
      · rw [q, xupE]
      · rw [xupK _ _ (by omega)]; exact f2 k (by omega)
theorem r_lowestFor {M0 M : XM} {lv l tk : Nat} {S : XS} {F : XO} {sd st : Int32} {Q : Option Value → XM → Prop} (h : RQ M0 lv S F sd st M) (hd : RL M S) (hr : ∀ j k, j ≤ tN (zT S) → k < 64 → xI M 476 (64 * j + k) = bsx (zT S) (zF S) j k) (hl : l < tN (zT S)) (hk : tk < 64) :
    RG xprog 199 0 [some (.ref 439), some (.int (nI l)), some (.int (nI tk)), none] [] M Q = Q (some (.int (lowF (zT S) (zF S) l tk))) M := by
  have n7 := h.2.1.n7
  have r6 := h.2.1.r6
  have l2 := h.2.1.lv2
  rw [B_199_0]
  have loop : ∀ j a, a + j = tR (zT S) → RG xprog 199 2 [some (.ref 439), some (.int (nI l)), some (.int (nI tk)), some (.int (nI a))] [] M Q = Q (some (.int (lwF (zT S) (zF S) l tk j a))) M := by
    intro j
    induction j with
    | zero =>
      intro a ha
      rw [B_199_2]
      simp (disch := omega) only [h.2.1.s.s, h.2.1.s.f, h.2.1.v, h.2.1.n, h.2.1.r, lAdd, addL, lMul, mulL, nMul, nI_add, subL, lSub, nSub, nDec, nCl, lCl, nVp, lVp, nLe, nLt, nEq, lLe, leL, lLt, ltL, eqL, lEq, nM1, nM2, litLt0, one01, zero01, oneNe0, xupE, xupA, xupK, xI_I, xS_I, xF_I, xJ_I, xI_R, xS_R, xF_R, xJ_R, xI_L, xS_L, xF_L, xJ_L, xcat_s, le46, ge16, or_true, true_or, false_or, or_false, eq_self, Option.toList_some, Option.toList_none, List.cons_append, List.nil_append, true_and, and_true, not_false_eq_true, not_true_eq_false, if_true, if_false, if_pos]
      rfl
    | succ j ih =>
      intro a ha
      have hal : a < tR (zT S) := by omega
      rw [B_199_2, lwF_s]
      simp (disch := omega) only [h.2.1.s.s, h.2.1.s.f, h.2.1.v, h.2.1.n, h.2.1.r, lAdd, addL, lMul, mulL, nMul, nI_add, subL, lSub, nSub, nDec, nCl, lCl, nVp, lVp, nLe, nLt, nEq, lLe, leL, lLt, ltL, eqL, lEq, nM1, nM2, litLt0, one01, zero01, oneNe0, xupE, xupA, xupK, xI_I, xS_I, xF_I, xJ_I, xI_R, xS_R, xF_R, xJ_R, xI_L, xS_L, xF_L, xJ_L, xcat_s, le46, ge16, or_true, true_or, false_or, or_false, eq_self, Option.toList_some, Option.toList_none, List.cons_append, List.nil_append, true_and, and_true, not_false_eq_true, not_true_eq_false, if_true, if_false, if_neg, r_canDeal h hd hl hal hk, B_199_22, r_with h hd (fun k hk => hr (l + 1) k (by omega) hk) hl hal hk, B_199_32, hr l tk (Nat.le_of_lt hl) hk]
      by_cases hc : ncan (zT S) (zF S) l a tk
      · rw [if_pos hc, if_pos rfl, if_pos hc]
        exact ih (a + 1) (by omega)
      · rw [if_neg hc, if_neg (by decide), if_neg hc]
        by_cases he : wth (zT S) (zF S) l a tk = bsx (zT S) (zF S) l tk
        · rw [if_neg (fun z => z he), if_pos he]
        · rw [if_pos he, if_neg he]
          exact ih (a + 1) (by omega)
  exact loop (tR (zT S)) 0 (by omega)
theorem r_dealt {M0 M : XM} {lv B : Nat} {S : XS} {x : Int32} {Q : Option Value → XM → Prop} (h : RK M0 lv S M) (hi : SInv B S) (hB : B ≤ 99999)
    (hQ : ∀ M' : XM, RK M0 lv S M' → Q (some (.int (A_dealt S x))) M') :
    RG xprog 200 0 [some (.ref 439), some (.int x), none, none, none] [] M Q := by
  have n7 := h.1.1.n7
  have r6 := h.1.1.r6
  unfold A_dealt at hQ
  have go : (x = -1 ∨ isLb (tN (zT S)) x) → RG xprog 200 15 [some (.ref 439), some (.int x), none, none, none] [] M Q := by
    intro hx
    rw [B_200_15]
    simp (disch := omega) only [h.1.1.1.s, lAdd, addL, lMul, mulL, nMul, nI_add, subL, lSub, nSub, nDec, nCl, lCl, nVp, lVp, nLe, nLt, nEq, lLe, leL, lLt, ltL, eqL, lEq, nM1, nM2, litLt0, one01, zero01, oneNe0, xupE, xupA, xupK, xI_I, xS_I, xF_I, xJ_I, xI_R, xS_R, xF_R, xJ_R, xI_L, xS_L, xF_L, xJ_L, xcat_s, le46, ge16, or_true, true_or, false_or, or_false, eq_self, Option.toList_some, Option.toList_none, List.cons_append, List.nil_append, true_and, and_true, not_false_eq_true, not_true_eq_false, if_true, if_false]
    refine r_fillsDealt h hi hB ?_
    intro M1 h1 d1 r1
    have q := hQ M1 h1.1
    have r0 := r1 0 0 (by omega) (by omega)
    simp (disch := omega) only [lAdd, addL, lMul, mulL, nMul, nI_add, subL, lSub, nSub, nDec, nCl, lCl, nVp, lVp, nLe, nLt, nEq, lLe, leL, lLt, ltL, eqL, lEq, nM1, nM2, litLt0, one01, zero01, oneNe0, xupE, xupA, xupK, xI_I, xS_I, xF_I, xJ_I, xI_R, xS_R, xF_R, xJ_R, xI_L, xS_L, xF_L, xJ_L, xcat_s, le46, ge16, or_true, true_or, false_or, or_false, eq_self, Option.toList_some, Option.toList_none, List.cons_append, List.nil_append, true_and, and_true, not_false_eq_true, not_true_eq_false, if_true, if_false, B_200_19, h1.2.1.s.s, h1.2.1.s.f, h1.2.1.v, h1.2.1.n, h1.2.1.r]
    by_cases hx1 : x = -1
    · rw [if_neg (fun z => z hx1)]
      rw [if_pos hx1] at q
      have e : xI M1 476 0 = bsx (zT S) (zF S) 0 0 := r0
      rw [e]
      exact q
    · have hl := hx.resolve_left hx1
      rw [if_pos hx1]
      rw [if_neg hx1, if_pos hl] at q
      obtain ⟨l, hl2, rfl⟩ := isLb_get hl (by omega)
      rw [cN_n (by omega)] at q
      have loop : ∀ j i (z : Option Value), i + j = l → RG xprog 200 35 [some (.ref 439), some (.int (nI l)), some (.int (nI (tkF (zT S) (zF S) i))), some (.int (nI i)), z] [] M1 Q := by
        intro j
        induction j with
        | zero =>
          intro i z hij
          have : i = l := by omega
          subst this
          rw [B_200_35]
          simp (disch := omega) only [lAdd, addL, lMul, mulL, nMul, nI_add, subL, lSub, nSub, nDec, nCl, lCl, nVp, lVp, nLe, nLt, nEq, lLe, leL, lLt, ltL, eqL, lEq, nM1, nM2, litLt0, one01, zero01, oneNe0, xupE, xupA, xupK, xI_I, xS_I, xF_I, xJ_I, xI_R, xS_R, xF_R, xJ_R, xI_L, xS_L, xF_L, xJ_L, xcat_s, le46, ge16, or_true, true_or, false_or, or_false, eq_self, Option.toList_some, Option.toList_none, List.cons_append, List.nil_append, true_and, and_true, not_false_eq_true, not_true_eq_false, if_true, if_false, Nat.le_refl, h1.2.1.s.s, h1.2.1.s.f, h1.2.1.v, h1.2.1.n, h1.2.1.r, r_lowestFor h1 d1 r1 hl2 (tkF_lt (zT S) (zF S) r6 i), B_200_72]
          exact q
        | succ j ih =>
          intro i z hij
          have e := fun z => ih (i + 1) z (by omega)
          have ek : tkF (zT S) (zF S) (i + 1) = tk1 (zT S) (zF S) i (tkF (zT S) (zF S) i) := rfl
          rw [ek] at e
          unfold tk1 at e
          rw [B_200_35]
          simp (disch := omega) only [lAdd, addL, lMul, mulL, nMul, nI_add, subL, lSub, nSub, nDec, nCl, lCl, nVp, lVp, nLe, nLt, nEq, lLe, leL, lLt, ltL, eqL, lEq, nM1, nM2, litLt0, one01, zero01, oneNe0, xupE, xupA, xupK, xI_I, xS_I, xF_I, xJ_I, xI_R, xS_R, xF_R, xJ_R, xI_L, xS_L, xF_L, xJ_L, xcat_s, le46, ge16, or_true, true_or, false_or, or_false, eq_self, Option.toList_some, Option.toList_none, List.cons_append, List.nil_append, true_and, and_true, not_false_eq_true, not_true_eq_false, if_true, if_false, if_neg, h1.2.1.s.s, h1.2.1.s.f, h1.2.1.v, h1.2.1.n, h1.2.1.r, r_lowestFor h1 d1 r1 (show i < tN (zT S) by omega) (tkF_lt (zT S) (zF S) r6 i), B_200_46]
          rcases lowF_or (zT S) (zF S) i (tkF (zT S) (zF S) i) with w | ⟨b, w1, w2⟩
          · rw [w] at e ⊢
            rw [if_pos (by decide)]
            rw [if_pos rfl] at e
            exact e _
          · rw [w2] at e ⊢
            rw [if_neg (by rw [ltL (by omega) (by omega)]; omega), or_bit (by omega)]
            rw [if_neg (by rw [nM2 (by omega)]; exact fun z => z), cN_n (by omega)] at e
            exact e _
      exact loop l 0 none (by omega)
  rw [B_200_0]
  simp (disch := omega) only [h.1.1.1.s, r_isLetter h.1.1, B_200_10, lAdd, addL, lMul, mulL, nMul, nI_add, subL, lSub, nSub, nDec, nCl, lCl, nVp, lVp, nLe, nLt, nEq, lLe, leL, lLt, ltL, eqL, lEq, nM1, nM2, litLt0, one01, zero01, oneNe0, xupE, xupA, xupK, xI_I, xS_I, xF_I, xJ_I, xI_R, xS_R, xF_R, xJ_R, xI_L, xS_L, xF_L, xJ_L, xcat_s, le46, ge16, or_true, true_or, false_or, or_false, eq_self, Option.toList_some, Option.toList_none, List.cons_append, List.nil_append, true_and, and_true, not_false_eq_true, not_true_eq_false, if_true, if_false]
  by_cases h1 : x = -1
  · rw [if_pos h1]; exact go (Or.inl h1)
  rw [if_neg h1]
  by_cases h2 : isLb (tN (zT S)) x
  · rw [if_pos h2, if_pos (by decide)]; exact go (Or.inr h2)
  · rw [if_neg h2, if_neg (by decide)]
    rw [if_neg h1, if_neg h2] at hQ
    exact hQ M h
