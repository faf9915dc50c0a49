/-! stable: the reference -/
def onw : Option Nat → Int32
  | none => -2
  | some o => nI o
def kw (r : Nat) (s : XST) (l : Nat) : Int32 := if kpr r s l < r then nI (kpr r s l) else -2
theorem kw_st {T : XT} {F : XO} {s : XST} {l : Nat} (h1 : GoodF T F s) (h2 : LeastF T F s) (h3 : FinF T F s) : kw (tR T) s l = stV T F l := by
  unfold kw stV kpr
  rw [stS_uni h1 h2 h3]
theorem bn_or (p : Nat → Bool) {a r : Nat} (ha : a < r) : bn p r ||| 2 ^ a = bn (fun i => if i = a then true else p i) r := by
  apply Nat.eq_of_testBit_eq
  intro i
  rw [Nat.testBit_or, bn_test, bn_test, Nat.testBit_two_pow]
  by_cases q : i = a
  · subst q
    rw [decide_eq_true ha]
    simp
  · rw [decide_eq_false (show ¬ a = i from fun z => q z.symm), if_neg q, Bool.or_false]
/-- the memory of the reference's asking -/
def RM (M : XM) (S : XS) (s : XST) : Prop := (∀ l a, l < tN (zT S) → a < tR (zT S) → xI M 477 (6 * l + a) = tab (zT S) (zF S) l a) ∧ (∀ l, l < tN (zT S) → xI M 479 l = nI (bn (s.1 l) (tR (zT S)))) ∧ ∀ a, a < tR (zT S) → xI M 478 a = onw (s.2 a)
theorem RM.ex {M M' : XM} {S : XS} {s : XST} {P : Nat → Nat → Prop} (h : RM M S s) (e : Ex P M M') (hp : ∀ a k, 477 ≤ a → a ≤ 479 → ¬ P a k) : RM M' S s := by
  obtain ⟨h1, h2, h3⟩ := h
  refine ⟨fun l a hl ha => ?_, fun l hl => ?_, fun a ha => ?_⟩
  · rw [e.I (hp _ _ (by omega) (by omega))]; exact h1 l a hl ha
  · rw [e.I (hp _ _ (by omega) (by omega))]; exact h2 l hl
  · rw [e.I (hp _ _ (by omega) (by omega))]; exact h3 a ha
section XRS
variable {M0 M : XM} {lv : Nat} {S : XS}
theorem RQ.wK {F : XO} {sd st : Int32} (h : RQ M0 lv S F sd st M) {b k : Nat} (x : Int32) (hb : 477 ≤ b) (hb2 : b ≤ 479) : RQ M0 lv S F sd st (xmI M b k x) := by
  have e : Ex (fun a _ => 477 ≤ a ∧ a ≤ 479) M (xmI M b k x) := (Ex.refl _ _).wr _ ⟨hb, hb2⟩
  refine ⟨h.1.step e (fun a k q => by unfold rS; omega), h.2.1.ex e (fun a k q => by unfold rNT; omega), ?_, ?_⟩
  · rw [e.I (by omega)]; exact h.2.2.1
  · rw [e.I (by omega)]; exact h.2.2.2
theorem r_keeperOf {F : XO} {sd st : Int32} {s : XST} {l : Nat} {Q : Option Value → XM → Prop} (h : RQ M0 lv S F sd st M) (hm : RM M S s) (hg : GoodF (zT S) (zF S) s) (hl : l < tN (zT S)) :
    RG xprog 208 0 [some (.ref 439), some (.int (nI l)), none] [] M Q = Q (some (.int (kw (tR (zT S)) s l))) M := by
  have n7 := h.1.1.1.n7
  have r6 := h.1.1.1.r6
  have l2 := h.1.1.1.lv2
  rw [B_208_0]
  unfold kw kpr
  have loop : ∀ j a, a + j = tR (zT S) → RG xprog 208 2 [some (.ref 439), some (.int (nI l)), some (.int (nI a))] [] M Q = Q (some (.int (if fstN (fun b => decide (s.2 b = some l)) j a < tR (zT S) then nI (fstN (fun b => decide (s.2 b = some l)) j a) else -2))) M := by
    intro j
    induction j with
    | zero =>
      intro a ha
      have : a = tR (zT S) := by omega
      subst this
      rw [B_208_2]
      simp (disch := omega) only [h.2.1.s.s, h.2.1.s.f, h.2.1.v, h.2.1.n, h.2.1.r, lAdd, addL, lMul, mulL, nMul, nI_add, subL, lSub, nSub, nDec, nCl, lCl, nVp, lVp, nLe, nLt, nEq, lLe, leL, lLt, ltL, eqL, lEq, nM1, nM2, litLt0, one01, zero01, oneNe0, xupE, xupA, xupK, xI_I, xS_I, xF_I, xJ_I, xI_R, xS_R, xF_R, xJ_R, xI_L, xS_L, xF_L, xJ_L, xcat_s, le46, ge16, or_true, true_or, false_or, or_false, eq_self, Option.toList_some, Option.toList_none, List.cons_append, List.nil_append, true_and, and_true, not_false_eq_true, not_true_eq_false, if_true, if_false, Nat.le_refl]
      rw [if_neg (show ¬ fstN (fun b => decide (s.2 b = some l)) 0 (tR (zT S)) < tR (zT S) from Nat.lt_irrefl _)]
    | succ j ih =>
      intro a ha
      rw [B_208_2, fstN_s]
      simp (disch := omega) only [h.2.1.s.s, h.2.1.s.f, h.2.1.v, h.2.1.n, h.2.1.r, lAdd, addL, lMul, mulL, nMul, nI_add, subL, lSub, nSub, nDec, nCl, lCl, nVp, lVp, nLe, nLt, nEq, lLe, leL, lLt, ltL, eqL, lEq, nM1, nM2, litLt0, one01, zero01, oneNe0, xupE, xupA, xupK, xI_I, xS_I, xF_I, xJ_I, xI_R, xS_R, xF_R, xJ_R, xI_L, xS_L, xF_L, xJ_L, xcat_s, le46, ge16, or_true, true_or, false_or, or_false, eq_self, Option.toList_some, Option.toList_none, List.cons_append, List.nil_append, true_and, and_true, not_false_eq_true, not_true_eq_false, if_true, if_false, if_neg, hm.2.2 a (show a < tR (zT S) by omega), ih (a + 1) (by omega)]
      by_cases q : s.2 a = some l
      · rw [if_neg (c := ¬ onw (s.2 a) = nI l) (fun z => z (by rw [q]; rfl))]
        rw [decide_eq_true q, if_pos (show true = true from rfl), if_pos (show a < tR (zT S) by omega)]
      · rw [if_pos (c := ¬ onw (s.2 a) = nI l)]
        · rw [decide_eq_false q, if_neg (show ¬ false = true by decide)]
        · cases hk : s.2 a with
          | none => exact fun z => by have z2 : (-2 : Int32) = nI l := z; rw [eq_comm, nM2 (by omega)] at z2; exact z2
          | some o =>
            have ho := (good_kr hg hk).1
            intro z
            have z2 : nI o = nI l := z
            rw [nEq (by omega) (by omega)] at z2
            exact q (by rw [hk, z2])
  exact loop (tR (zT S)) 0 (by omega)
theorem r_nextFor {sd st : Int32} {s : XST} {l : Nat} {Q : Option Value → XM → Prop} (h : RQ M0 lv S (zF S) sd st M) (hm : RM M S s) (hl : l < tN (zT S))
    (hQ : ∀ M' : XM, RQ M0 lv S (zF S) sd st M' → RM M' S s → Q (some (.int (onw (nxt (tbF (zT S) (zF S)) (raF (zT S) (zF S)) s l (tR (zT S)))))) M') :
    RG xprog 209 0 [some (.ref 439), some (.int (nI l)), none, none] [] M Q := by
  have n7 := h.1.1.1.n7
  have r6 := h.1.1.1.r6
  have l2 := h.1.1.1.lv2
  have b7 := bn128 (s.1 l) (n := tR (zT S)) (by omega)
  rw [B_209_0]
  refine x_for (tR (zT S)) (fun i (M1 : XM) => RQ M0 lv S (zF S) sd st M1 ∧ RM M1 S s) (fun i M1 => RG xprog 209 5 [some (.ref 439), some (.int (nI l)), some (.int (onw (nxt (tbF (zT S) (zF S)) (raF (zT S) (zF S)) s l i))), some (.int (nI i))] [] M1 Q) ?_ ?_ 0 M (by omega) ⟨h, hm⟩
  · intro M1 ⟨k1, m1⟩
    rw [B_209_5]
    simp (disch := omega) only [k1.2.1.s.s, k1.2.1.s.f, k1.2.1.v, k1.2.1.n, k1.2.1.r, lAdd, addL, lMul, mulL, nMul, nI_add, subL, lSub, nSub, nDec, nCl, lCl, nVp, lVp, nLe, nLt, nEq, lLe, leL, lLt, ltL, eqL, lEq, nM1, nM2, litLt0, one01, zero01, oneNe0, xupE, xupA, xupK, xI_I, xS_I, xF_I, xJ_I, xI_R, xS_R, xF_R, xJ_R, xI_L, xS_L, xF_L, xJ_L, xcat_s, le46, ge16, or_true, true_or, false_or, or_false, eq_self, Option.toList_some, Option.toList_none, List.cons_append, List.nil_append, true_and, and_true, not_false_eq_true, not_true_eq_false, if_true, if_false, Nat.le_refl]
    exact hQ M1 k1 m1
  · intro a M1 ha ⟨k1, m1⟩ ih
    have sb := shr_bit (m := bn (s.1 l) (tR (zT S))) (i := a) b7 (by omega)
    rw [bn_test, decide_eq_true ha, Bool.true_and] at sb
    rw [nxt_s] at ih
    rw [B_209_5]
    simp (disch := omega) only [k1.2.1.s.s, k1.2.1.s.f, k1.2.1.v, k1.2.1.n, k1.2.1.r, lAdd, addL, lMul, mulL, nMul, nI_add, subL, lSub, nSub, nDec, nCl, lCl, nVp, lVp, nLe, nLt, nEq, lLe, leL, lLt, ltL, eqL, lEq, nM1, nM2, litLt0, one01, zero01, oneNe0, xupE, xupA, xupK, xI_I, xS_I, xF_I, xJ_I, xI_R, xS_R, xF_R, xJ_R, xI_L, xS_L, xF_L, xJ_L, xcat_s, le46, ge16, or_true, true_or, false_or, or_false, eq_self, Option.toList_some, Option.toList_none, List.cons_append, List.nil_append, true_and, and_true, not_false_eq_true, not_true_eq_false, if_true, if_false, if_neg, m1.2.1 l hl, m1.1 l a hl ha, sb]
    cases hz : s.1 l a
    · rw [if_neg (c := (false : Bool) = true) (by decide), if_neg (c := ¬ (0 : Int32) = 0) (fun z => z rfl)]
      by_cases hp : tab (zT S) (zF S) l a ≤ 0
      · rw [if_pos hp]
        have ho : ¬ opn (tbF (zT S) (zF S)) s l a = true := fun z => (tab_pos _ _ _ _).mp hp (opn_tab z)
        rw [if_neg ho] at ih
        exact ih M1 ⟨k1, m1⟩
      · rw [if_neg hp]
        have ho : opn (tbF (zT S) (zF S)) s l a = true := by
          unfold opn
          rw [hz, (tabp _ _ _ _).mpr hp]; rfl
        rw [if_pos ho] at ih
        rcases nxt_p (tbF (zT S) (zF S)) (raF (zT S) (zF S)) s l a with ⟨q, _⟩ | ⟨b, q1, q2, q3, _⟩
        · rw [q] at ih ⊢
          rw [if_pos (show onw none < 0 by decide)]
          exact ih M1 ⟨k1, m1⟩
        · rw [q1] at ih ⊢
          have e : onw (some b) = nI b := rfl
          dsimp only at ih
          rw [e, if_neg (by rw [ltL (by omega) (by omega)]; omega)]
          refine r_rathersOf k1.2.1 hl ha ?_
          intro M2 e2
          have k2 := k1.stepL e2
          have m2 := m1.ex e2 (by intro a k z1 z2; unfold rL; omega)
          simp (disch := omega) only [lAdd, addL, lMul, mulL, nMul, nI_add, subL, lSub, nSub, nDec, nCl, lCl, nVp, lVp, nLe, nLt, nEq, lLe, leL, lLt, ltL, eqL, lEq, nM1, nM2, litLt0, one01, zero01, oneNe0, xupE, xupA, xupK, xI_I, xS_I, xF_I, xJ_I, xI_R, xS_R, xF_R, xJ_R, xI_L, xS_L, xF_L, xJ_L, xcat_s, le46, ge16, or_true, true_or, false_or, or_false, eq_self, Option.toList_some, Option.toList_none, List.cons_append, List.nil_append, true_and, and_true, not_false_eq_true, not_true_eq_false, if_true, if_false, B_209_55, k2.2.1.s.s, k2.2.1.s.f, k2.2.1.v, k2.2.1.n, k2.2.1.r]
          refine r_rathersOf k2.2.1 hl (show b < tR (zT S) by omega) ?_
          intro M3 e3
          have k3 := k2.stepL e3
          have m3 := m2.ex e3 (by intro a k z1 z2; unfold rL; omega)
          simp (disch := omega) only [lAdd, addL, lMul, mulL, nMul, nI_add, subL, lSub, nSub, nDec, nCl, lCl, nVp, lVp, nLe, nLt, nEq, lLe, leL, lLt, ltL, eqL, lEq, nM1, nM2, litLt0, one01, zero01, oneNe0, xupE, xupA, xupK, xI_I, xS_I, xF_I, xJ_I, xI_R, xS_R, xF_R, xJ_R, xI_L, xS_L, xF_L, xJ_L, xcat_s, le46, ge16, or_true, true_or, false_or, or_false, eq_self, Option.toList_some, Option.toList_none, List.cons_append, List.nil_append, true_and, and_true, not_false_eq_true, not_true_eq_false, if_true, if_false, B_209_61]
          by_cases c : rav (zT S) (zF S) l a ≤ rav (zT S) (zF S) l b
          · rw [if_pos c]
            rw [if_pos (show raF (zT S) (zF S) l a ≤ raF (zT S) (zF S) l b from Int32.le_iff_toInt_le.mp c)] at ih
            exact ih M3 ⟨k3, m3⟩
          · rw [if_neg c]
            rw [if_neg (show ¬ raF (zT S) (zF S) l a ≤ raF (zT S) (zF S) l b from fun z => c (Int32.le_iff_toInt_le.mpr z))] at ih
            exact ih M3 ⟨k3, m3⟩
    · rw [if_pos (c := (true : Bool) = true) rfl, if_pos (c := ¬ (1 : Int32) = 0) (by decide)]
      rw [opn_asked hz, if_neg (show ¬ false = true by decide)] at ih
      exact ih M1 ⟨k1, m1⟩
theorem r_asks {sd st : Int32} {s : XST} {l a : Nat} {Q : Option Value → XM → Prop} (h : RQ M0 lv S (zF S) sd st M) (hm : RM M S s) (hg : GoodF (zT S) (zF S) s) (hl : l < tN (zT S)) (ha : a < tR (zT S))
    (hQ : ∀ M' : XM, RQ M0 lv S (zF S) sd st M' → RM M' S (sAsk (tbF (zT S) (zF S)) s l a) → Q none M') :
    RG xprog 210 0 [some (.ref 439), some (.int (nI l)), some (.int (nI a)), none] [] M Q := by
  have n7 := h.1.1.1.n7
  have r6 := h.1.1.1.r6
  have l2 := h.1.1.1.lv2
  have e1 : ∀ x y, (sAsk (tbF (zT S) (zF S)) s l a).1 x y = if x = l ∧ y = a then true else s.1 x y := fun _ _ => rfl
  have e2 : ∀ y, y ≠ a → (sAsk (tbF (zT S) (zF S)) s l a).2 y = s.2 y := fun y hy => if_neg hy
  rw [B_210_0]
  simp (disch := omega) only [h.2.1.s.s, h.2.1.s.f, h.2.1.v, h.2.1.n, h.2.1.r, lAdd, addL, lMul, mulL, nMul, nI_add, subL, lSub, nSub, nDec, nCl, lCl, nVp, lVp, nLe, nLt, nEq, lLe, leL, lLt, ltL, eqL, lEq, nM1, nM2, litLt0, one01, zero01, oneNe0, xupE, xupA, xupK, xI_I, xS_I, xF_I, xJ_I, xI_R, xS_R, xF_R, xJ_R, xI_L, xS_L, xF_L, xJ_L, xcat_s, le46, ge16, or_true, true_or, false_or, or_false, eq_self, Option.toList_some, Option.toList_none, List.cons_append, List.nil_append, true_and, and_true, not_false_eq_true, not_true_eq_false, if_true, if_false, hm.2.1 l hl, or_bit (show a < 8 by omega)]
  rw [bn_or _ ha]
  have k1 : RQ M0 lv S (zF S) sd st (xmI M 479 l (nI (bn (fun i => if i = a then true else s.1 l i) (tR (zT S))))) := h.wK _ (by omega) (by omega)
  have u1 : ∀ x, x < tN (zT S) → xI (xmI M 479 l (nI (bn (fun i => if i = a then true else s.1 l i) (tR (zT S))))) 479 x = nI (bn ((sAsk (tbF (zT S) (zF S)) s l a).1 x) (tR (zT S))) := by
    intro x hx
    rw [xI_I]
    by_cases q : x = l
    · subst q
      rw [xupE]
      congr 1
      exact bn_congr _ fun i _ => by
        rw [e1]
        by_cases z : i = a
        · rw [if_pos z, if_pos ⟨rfl, z⟩]
        · rw [if_neg z, if_neg (fun w => z w.2)]
    · rw [xupK _ _ q, hm.2.1 x hx]
      congr 1
      exact bn_congr _ fun i _ => by rw [e1, if_neg (fun w => q w.1)]
  have t1 : ∀ x y, x < tN (zT S) → y < tR (zT S) → xI (xmI M 479 l (nI (bn (fun i => if i = a then true else s.1 l i) (tR (zT S))))) 477 (6 * x + y) = tab (zT S) (zF S) x y := fun x y hx hy => by rw [xI_I, xupA _ _ _ _ (by omega)]; exact hm.1 x y hx hy
  have v1 : ∀ y, y < tR (zT S) → xI (xmI M 479 l (nI (bn (fun i => if i = a then true else s.1 l i) (tR (zT S))))) 478 y = onw (s.2 y) := fun y hy => by rw [xI_I, xupA _ _ _ _ (by omega)]; exact hm.2.2 y hy
  generalize xmI M 479 l (nI (bn (fun i => if i = a then true else s.1 l i) (tR (zT S)))) = M1 at k1 u1 t1 v1 ⊢
  have take : ∀ x3 : Int32, (sAsk (tbF (zT S) (zF S)) s l a).2 a = some l → RG xprog 210 78 [some (.ref 439), some (.int (nI l)), some (.int (nI a)), some (.int x3)] [] M1 Q := by
    intro x3 e3
    rw [B_210_78]
    simp (disch := omega) only [k1.2.1.s.s, k1.2.1.s.f, k1.2.1.v, k1.2.1.n, k1.2.1.r, lAdd, addL, lMul, mulL, nMul, nI_add, subL, lSub, nSub, nDec, nCl, lCl, nVp, lVp, nLe, nLt, nEq, lLe, leL, lLt, ltL, eqL, lEq, nM1, nM2, litLt0, one01, zero01, oneNe0, xupE, xupA, xupK, xI_I, xS_I, xF_I, xJ_I, xI_R, xS_R, xF_R, xJ_R, xI_L, xS_L, xF_L, xJ_L, xcat_s, le46, ge16, or_true, true_or, false_or, or_false, eq_self, Option.toList_some, Option.toList_none, List.cons_append, List.nil_append, true_and, and_true, not_false_eq_true, not_true_eq_false, if_true, if_false]
    refine hQ _ (k1.wK _ (by omega) (by omega)) ⟨?_, ?_, ?_⟩
    · intro x y hx hy
      rw [xI_I, xupA _ _ _ _ (by omega)]; exact t1 x y hx hy
    · intro x hx
      rw [xI_I, xupA _ _ _ _ (by omega)]; exact u1 x hx
    · intro y hy
      rw [xI_I]
      by_cases q : y = a
      · rw [q, xupE, e3]; rfl
      · rw [xupK _ _ q, e2 y q]; exact v1 y hy
  rw [B_210_12]
  simp (disch := omega) only [k1.2.1.s.s, k1.2.1.s.f, k1.2.1.v, k1.2.1.n, k1.2.1.r, lAdd, addL, lMul, mulL, nMul, nI_add, subL, lSub, nSub, nDec, nCl, lCl, nVp, lVp, nLe, nLt, nEq, lLe, leL, lLt, ltL, eqL, lEq, nM1, nM2, litLt0, one01, zero01, oneNe0, xupE, xupA, xupK, xI_I, xS_I, xF_I, xJ_I, xI_R, xS_R, xF_R, xJ_R, xI_L, xS_L, xF_L, xJ_L, xcat_s, le46, ge16, or_true, true_or, false_or, or_false, eq_self, Option.toList_some, Option.toList_none, List.cons_append, List.nil_append, true_and, and_true, not_false_eq_true, not_true_eq_false, if_true, if_false, v1 a ha]
  have e3 : (sAsk (tbF (zT S) (zF S)) s l a).2 a = match s.2 a with
    | none => some l
    | some o => if btr (tbF (zT S) (zF S)) a l o then some l else some o := if_pos rfl
  cases hk : s.2 a with
  | none =>
    rw [hk] at e3
    rw [if_pos (show onw none < 0 by decide)]
    exact take _ e3
  | some o =>
    have ho := (good_kr hg hk).1
    rw [hk] at e3
    dsimp only at e3
    rw [show onw (some o) = nI o from rfl, if_neg (by rw [ltL (by omega) (by omega)]; omega)]
    simp (disch := omega) only [k1.2.1.s.s, k1.2.1.s.f, k1.2.1.v, k1.2.1.n, k1.2.1.r, lAdd, addL, lMul, mulL, nMul, nI_add, subL, lSub, nSub, nDec, nCl, lCl, nVp, lVp, nLe, nLt, nEq, lLe, leL, lLt, ltL, eqL, lEq, nM1, nM2, litLt0, one01, zero01, oneNe0, xupE, xupA, xupK, xI_I, xS_I, xF_I, xJ_I, xI_R, xS_R, xF_R, xJ_R, xI_L, xS_L, xF_L, xJ_L, xcat_s, le46, ge16, or_true, true_or, false_or, or_false, eq_self, Option.toList_some, Option.toList_none, List.cons_append, List.nil_append, true_and, and_true, not_false_eq_true, not_true_eq_false, if_true, if_false, t1 l a hl ha, t1 o a ho ha]
    have stay : ¬ btr (tbF (zT S) (zF S)) a l o → Q none M1 := by
      intro hb
      refine hQ M1 k1 ⟨t1, u1, fun y hy => ?_⟩
      rw [ask_less hk hb]
      exact v1 y hy
    by_cases c1 : tab (zT S) (zF S) o a < tab (zT S) (zF S) l a
    · rw [if_pos c1]
      rw [if_pos (show btr (tbF (zT S) (zF S)) a l o from Or.inl (Int32.lt_iff_toInt_lt.mp c1))] at e3
      exact take _ e3
    rw [if_neg c1]
    have c1' : ¬ tbF (zT S) (zF S) o a < tbF (zT S) (zF S) l a := fun z => c1 (Int32.lt_iff_toInt_lt.mpr z)
    by_cases c2 : tab (zT S) (zF S) l a = tab (zT S) (zF S) o a
    · rw [if_neg (fun z => z c2)]
      have c2' : tbF (zT S) (zF S) l a = tbF (zT S) (zF S) o a := by unfold tbF; rw [c2]
      by_cases c3 : o ≤ l
      · rw [if_pos c3]
        exact stay (by unfold btr; omega)
      · rw [if_neg c3]
        rw [if_pos (show btr (tbF (zT S) (zF S)) a l o from Or.inr ⟨c2', by omega⟩)] at e3
        exact take _ e3
    · rw [if_pos c2]
      refine stay fun z => ?_
      rcases z with z | z
      · exact c1' z
      · exact c2 (Int32.toInt_inj.mp z.1)
end XRS
/-- one pass of the reference -/
theorem r_pass {M0 M : XM} {lv : Nat} {S : XS} {s0 : XST} {w : Nat} {z3 z4 : Option Value} {Q : Option Value → XM → Prop} (h : RQ M0 lv S (zF S) (tS (zT S) 2) 0 M) (hm : RM M S s0) (hg : GoodF (zT S) (zF S) s0) (hL : LeastF (zT S) (zF S) s0) (hw : w < tN (zT S))
    (h0 : ∀ (M' : XM) (s : XST), RQ M0 lv S (zF S) (tS (zT S) 2) 0 M' → GoodF (zT S) (zF S) s → LeastF (zT S) (zF S) s → FinF (zT S) (zF S) s → Q (some (.int (kw (tR (zT S)) s w))) M')
    (h1 : ∀ (M' : XM) (z3 z4 : Option Value) (s : XST), RQ M0 lv S (zF S) (tS (zT S) 2) 0 M' → RM M' S s → GoodF (zT S) (zF S) s → LeastF (zT S) (zF S) s → nAsk s0 (tR (zT S)) (tN (zT S)) < nAsk s (tR (zT S)) (tN (zT S)) → RG xprog 211 59 [some (.ref 439), some (.int (nI w)), some (.int 1), z3, z4] [] M' Q) :
    RG xprog 211 59 [some (.ref 439), some (.int (nI w)), some (.int 1), z3, z4] [] M Q := by
  have n7 := h.1.1.1.n7
  have r6 := h.1.1.1.r6
  have l2 := h.1.1.1.lv2
  rw [B_211_59, if_neg (by decide)]
  refine x_for (tN (zT S)) (fun i (v : XM × XST × Int32 × Option Value) => RQ M0 lv S (zF S) (tS (zT S) 2) 0 v.1 ∧ RM v.1 S v.2.1 ∧ GoodF (zT S) (zF S) v.2.1 ∧ LeastF (zT S) (zF S) v.2.1 ∧ ((v.2.2.1 = 0 ∧ nAsk s0 (tR (zT S)) (tN (zT S)) ≤ nAsk v.2.1 (tR (zT S)) (tN (zT S)) ∧ ∀ l, l < i → (∃ a, a < tR (zT S) ∧ v.2.1.2 a = some l) ∨ ∀ a, a < tR (zT S) → opn (tbF (zT S) (zF S)) v.2.1 l a = false) ∨ (v.2.2.1 = 1 ∧ nAsk s0 (tR (zT S)) (tN (zT S)) < nAsk v.2.1 (tR (zT S)) (tN (zT S))))) (fun i v => RG xprog 211 67 [some (.ref 439), some (.int (nI w)), some (.int v.2.2.1), some (.int (nI i)), v.2.2.2] [] v.1 Q) ?_ ?_ 0 (M, s0, 0, z4) (by omega) ⟨h, hm, hg, hL, Or.inl ⟨rfl, Nat.le_refl _, fun l hl => by omega⟩⟩
  · rintro ⟨M1, s, ag, z⟩ ⟨k1, m1, g1, l1, c1⟩
    dsimp only at k1 m1 g1 l1 c1 ⊢
    rw [B_211_67]
    simp (disch := omega) only [k1.2.1.s.s, k1.2.1.s.f, k1.2.1.v, k1.2.1.n, k1.2.1.r, lAdd, addL, lMul, mulL, nMul, nI_add, subL, lSub, nSub, nDec, nCl, lCl, nVp, lVp, nLe, nLt, nEq, lLe, leL, lLt, ltL, eqL, lEq, nM1, nM2, litLt0, one01, zero01, oneNe0, xupE, xupA, xupK, xI_I, xS_I, xF_I, xJ_I, xI_R, xS_R, xF_R, xJ_R, xI_L, xS_L, xF_L, xJ_L, xcat_s, le46, ge16, or_true, true_or, false_or, or_false, eq_self, Option.toList_some, Option.toList_none, List.cons_append, List.nil_append, true_and, and_true, not_false_eq_true, not_true_eq_false, if_true, if_false, Nat.le_refl]
    rcases c1 with ⟨rfl, _, c2⟩ | ⟨rfl, c2⟩
    · rw [B_211_59, if_pos rfl]
      simp (disch := omega) only [k1.2.1.s.s, lAdd, addL, lMul, mulL, nMul, nI_add, subL, lSub, nSub, nDec, nCl, lCl, nVp, lVp, nLe, nLt, nEq, lLe, leL, lLt, ltL, eqL, lEq, nM1, nM2, litLt0, one01, zero01, oneNe0, xupE, xupA, xupK, xI_I, xS_I, xF_I, xJ_I, xI_R, xS_R, xF_R, xJ_R, xI_L, xS_L, xF_L, xJ_L, xcat_s, le46, ge16, or_true, true_or, false_or, or_false, eq_self, Option.toList_some, Option.toList_none, List.cons_append, List.nil_append, true_and, and_true, not_false_eq_true, not_true_eq_false, if_true, if_false]
      rw [r_keeperOf k1 m1 g1 hw]
      simp (disch := omega) only [lAdd, addL, lMul, mulL, nMul, nI_add, subL, lSub, nSub, nDec, nCl, lCl, nVp, lVp, nLe, nLt, nEq, lLe, leL, lLt, ltL, eqL, lEq, nM1, nM2, litLt0, one01, zero01, oneNe0, xupE, xupA, xupK, xI_I, xS_I, xF_I, xJ_I, xI_R, xS_R, xF_R, xJ_R, xI_L, xS_L, xF_L, xJ_L, xcat_s, le46, ge16, or_true, true_or, false_or, or_false, eq_self, Option.toList_some, Option.toList_none, List.cons_append, List.nil_append, true_and, and_true, not_false_eq_true, not_true_eq_false, if_true, if_false, B_211_139]
      exact h0 M1 s k1 g1 l1 c2
    · exact h1 M1 _ _ s k1 m1 g1 l1 c2
  · rintro l ⟨M1, s, ag, z⟩ hl ⟨k1, m1, g1, l1, c1⟩ ih
    dsimp only at k1 m1 g1 l1 c1 ⊢
    have skip : ∀ (M2 : XM) (z : Option Value), RQ M0 lv S (zF S) (tS (zT S) 2) 0 M2 → RM M2 S s → ((∃ a, a < tR (zT S) ∧ s.2 a = some l) ∨ ∀ a, a < tR (zT S) → opn (tbF (zT S) (zF S)) s l a = false) → RG xprog 211 67 [some (.ref 439), some (.int (nI w)), some (.int ag), some (.int (nI (l + 1))), z] [] M2 Q := by
      intro M2 z k2 m2 hc
      refine ih (M2, s, ag, z) ⟨k2, m2, g1, l1, ?_⟩
      rcases c1 with ⟨c2, c3, c4⟩ | c2
      · refine Or.inl ⟨c2, c3, fun x hx => ?_⟩
        by_cases q : x = l
        · rw [q]; exact hc
        · exact c4 x (by omega)
      · exact Or.inr c2
    rw [B_211_67]
    simp (disch := omega) only [k1.2.1.s.s, k1.2.1.s.f, k1.2.1.v, k1.2.1.n, k1.2.1.r, lAdd, addL, lMul, mulL, nMul, nI_add, subL, lSub, nSub, nDec, nCl, lCl, nVp, lVp, nLe, nLt, nEq, lLe, leL, lLt, ltL, eqL, lEq, nM1, nM2, litLt0, one01, zero01, oneNe0, xupE, xupA, xupK, xI_I, xS_I, xF_I, xJ_I, xI_R, xS_R, xF_R, xJ_R, xI_L, xS_L, xF_L, xJ_L, xcat_s, le46, ge16, or_true, true_or, false_or, or_false, eq_self, Option.toList_some, Option.toList_none, List.cons_append, List.nil_append, true_and, and_true, not_false_eq_true, not_true_eq_false, if_true, if_false, if_neg, k1.2.1.l (show l < 7 by omega)]
    by_cases hs : oW (zF S) l = 1
    · rw [if_neg (fun q => q hs), r_keeperOf k1 m1 g1 hl]
      simp (disch := omega) only [lAdd, addL, lMul, mulL, nMul, nI_add, subL, lSub, nSub, nDec, nCl, lCl, nVp, lVp, nLe, nLt, nEq, lLe, leL, lLt, ltL, eqL, lEq, nM1, nM2, litLt0, one01, zero01, oneNe0, xupE, xupA, xupK, xI_I, xS_I, xF_I, xJ_I, xI_R, xS_R, xF_R, xJ_R, xI_L, xS_L, xF_L, xJ_L, xcat_s, le46, ge16, or_true, true_or, false_or, or_false, eq_self, Option.toList_some, Option.toList_none, List.cons_append, List.nil_append, true_and, and_true, not_false_eq_true, not_true_eq_false, if_true, if_false, B_211_95]
      unfold kw
      rcases kpr_p (tR (zT S)) s l with ⟨p1, p2⟩ | ⟨p1, p2⟩
      · rw [if_neg (show ¬ kpr (tR (zT S)) s l < tR (zT S) by omega), if_pos (by decide)]
        simp (disch := omega) only [k1.2.1.s.s, lAdd, addL, lMul, mulL, nMul, nI_add, subL, lSub, nSub, nDec, nCl, lCl, nVp, lVp, nLe, nLt, nEq, lLe, leL, lLt, ltL, eqL, lEq, nM1, nM2, litLt0, one01, zero01, oneNe0, xupE, xupA, xupK, xI_I, xS_I, xF_I, xJ_I, xI_R, xS_R, xF_R, xJ_R, xI_L, xS_L, xF_L, xJ_L, xcat_s, le46, ge16, or_true, true_or, false_or, or_false, eq_self, Option.toList_some, Option.toList_none, List.cons_append, List.nil_append, true_and, and_true, not_false_eq_true, not_true_eq_false, if_true, if_false]
        refine r_nextFor k1 m1 hl ?_
        intro M2 k2 m2
        simp (disch := omega) only [lAdd, addL, lMul, mulL, nMul, nI_add, subL, lSub, nSub, nDec, nCl, lCl, nVp, lVp, nLe, nLt, nEq, lLe, leL, lLt, ltL, eqL, lEq, nM1, nM2, litLt0, one01, zero01, oneNe0, xupE, xupA, xupK, xI_I, xS_I, xF_I, xJ_I, xI_R, xS_R, xF_R, xJ_R, xI_L, xS_L, xF_L, xJ_L, xcat_s, le46, ge16, or_true, true_or, false_or, or_false, eq_self, Option.toList_some, Option.toList_none, List.cons_append, List.nil_append, true_and, and_true, not_false_eq_true, not_true_eq_false, if_true, if_false, B_211_106]
        cases hx : nxt (tbF (zT S) (zF S)) (raF (zT S) (zF S)) s l (tR (zT S)) with
        | none =>
          rw [if_neg (show ¬ (0 : Int32) ≤ onw none by decide)]
          exact skip M2 _ k2 m2 (Or.inr (nxt_none hx))
        | some a =>
          have ha := (nxt_some hx).1
          rw [show onw (some a) = nI a from rfl]
          simp (disch := omega) only [lAdd, addL, lMul, mulL, nMul, nI_add, subL, lSub, nSub, nDec, nCl, lCl, nVp, lVp, nLe, nLt, nEq, lLe, leL, lLt, ltL, eqL, lEq, nM1, nM2, litLt0, one01, zero01, oneNe0, xupE, xupA, xupK, xI_I, xS_I, xF_I, xJ_I, xI_R, xS_R, xF_R, xJ_R, xI_L, xS_L, xF_L, xJ_L, xcat_s, le46, ge16, or_true, true_or, false_or, or_false, eq_self, Option.toList_some, Option.toList_none, List.cons_append, List.nil_append, true_and, and_true, not_false_eq_true, not_true_eq_false, if_true, if_false, Nat.zero_le, k2.2.1.s.s]
          refine r_asks k2 m2 g1 hl ha ?_
          intro M3 k3 m3
          simp (disch := omega) only [lAdd, addL, lMul, mulL, nMul, nI_add, subL, lSub, nSub, nDec, nCl, lCl, nVp, lVp, nLe, nLt, nEq, lLe, leL, lLt, ltL, eqL, lEq, nM1, nM2, litLt0, one01, zero01, oneNe0, xupE, xupA, xupK, xI_I, xS_I, xF_I, xJ_I, xI_R, xS_R, xF_R, xJ_R, xI_L, xS_L, xF_L, xJ_L, xcat_s, le46, ge16, or_true, true_or, false_or, or_false, eq_self, Option.toList_some, Option.toList_none, List.cons_append, List.nil_append, true_and, and_true, not_false_eq_true, not_true_eq_false, if_true, if_false, B_211_123]
          refine ih (M3, sAsk (tbF (zT S) (zF S)) s l a, 1, _) ⟨k3, m3, good_ask g1 hl p2 hx, least_ask g1 l1 hl p2 hx, Or.inr ⟨rfl, ?_⟩⟩
          dsimp only
          rw [nAsk_1 hl hx]
          rcases c1 with ⟨_, c3, _⟩ | ⟨_, c2⟩ <;> omega
      · rw [if_pos p1]
        simp (disch := omega) only [lAdd, addL, lMul, mulL, nMul, nI_add, subL, lSub, nSub, nDec, nCl, lCl, nVp, lVp, nLe, nLt, nEq, lLe, leL, lLt, ltL, eqL, lEq, nM1, nM2, litLt0, one01, zero01, oneNe0, xupE, xupA, xupK, xI_I, xS_I, xF_I, xJ_I, xI_R, xS_R, xF_R, xJ_R, xI_L, xS_L, xF_L, xJ_L, xcat_s, le46, ge16, or_true, true_or, false_or, or_false, eq_self, Option.toList_some, Option.toList_none, List.cons_append, List.nil_append, true_and, and_true, not_false_eq_true, not_true_eq_false, if_true, if_false, if_neg]
        exact skip M1 _ k1 m1 (Or.inl ⟨_, p1, p2⟩)
    · rw [if_pos hs]
      refine skip M1 _ k1 m1 (Or.inr fun a ha => ?_)
      unfold opn tbF tab
      rw [if_neg (fun q => hs q.1)]
      rfl
theorem r_stable {M0 M : XM} {lv B : Nat} {S : XS} {x : Int32} {Q : Option Value → XM → Prop} (h : RK M0 lv S M) (hi : SInv B S) (hB : B ≤ 99999)
    (hQ : ∀ M' : XM, RK M0 lv S M' → Q (some (.int (A_stable S x))) M') :
    RG xprog 211 0 [some (.ref 439), some (.int x), none, none, none] [] M Q := by
  have n7 := h.1.1.n7
  have r6 := h.1.1.r6
  have l2 := h.1.1.lv2
  unfold A_stable at hQ
  rw [B_211_0]
  simp (disch := omega) only [h.1.1.1.s, r_isLetter h.1.1, B_211_5, lAdd, addL, lMul, mulL, nMul, nI_add, subL, lSub, nSub, nDec, nCl, lCl, nVp, lVp, nLe, nLt, nEq, lLe, leL, lLt, ltL, eqL, lEq, nM1, nM2, litLt0, one01, zero01, oneNe0, xupE, xupA, xupK, xI_I, xS_I, xF_I, xJ_I, xI_R, xS_R, xF_R, xJ_R, xI_L, xS_L, xF_L, xJ_L, xcat_s, le46, ge16, or_true, true_or, false_or, or_false, eq_self, Option.toList_some, Option.toList_none, List.cons_append, List.nil_append, true_and, and_true, not_false_eq_true, not_true_eq_false, if_true, if_false]
  by_cases h2 : isLb (tN (zT S)) x
  · rw [if_pos h2, if_pos (by decide)]
    rw [if_pos h2] at hQ
    obtain ⟨w, hw, rfl⟩ := isLb_get h2 (by omega)
    rw [cN_n (by omega)] at hQ
    refine r_fillsTable h hi hB ?_
    intro M1 k1 t1
    simp (disch := omega) only [lAdd, addL, lMul, mulL, nMul, nI_add, subL, lSub, nSub, nDec, nCl, lCl, nVp, lVp, nLe, nLt, nEq, lLe, leL, lLt, ltL, eqL, lEq, nM1, nM2, litLt0, one01, zero01, oneNe0, xupE, xupA, xupK, xI_I, xS_I, xF_I, xJ_I, xI_R, xS_R, xF_R, xJ_R, xI_L, xS_L, xF_L, xJ_L, xcat_s, le46, ge16, or_true, true_or, false_or, or_false, eq_self, Option.toList_some, Option.toList_none, List.cons_append, List.nil_append, true_and, and_true, not_false_eq_true, not_true_eq_false, if_true, if_false, B_211_14]
    refine x_for 6 (fun i (M2 : XM) => RQ M0 lv S (zF S) (tS (zT S) 2) 0 M2 ∧ (∀ l a, l < tN (zT S) → a < tR (zT S) → xI M2 477 (6 * l + a) = tab (zT S) (zF S) l a) ∧ ∀ a, a < i → xI M2 478 a = -2) (fun i M2 => RG xprog 211 16 [some (.ref 439), some (.int (nI w)), some (.int (nI i)), none, none] [] M2 Q) ?_ ?_ 0 M1 (by omega) ⟨k1, t1, fun a ha => by omega⟩
    · intro M2 ⟨k2, t2, f2⟩
      rw [B_211_16]
      simp (disch := omega) only [lAdd, addL, lMul, mulL, nMul, nI_add, subL, lSub, nSub, nDec, nCl, lCl, nVp, lVp, nLe, nLt, nEq, lLe, leL, lLt, ltL, eqL, lEq, nM1, nM2, litLt0, one01, zero01, oneNe0, xupE, xupA, xupK, xI_I, xS_I, xF_I, xJ_I, xI_R, xS_R, xF_R, xJ_R, xI_L, xS_L, xF_L, xJ_L, xcat_s, le46, ge16, or_true, true_or, false_or, or_false, eq_self, Option.toList_some, Option.toList_none, List.cons_append, List.nil_append, true_and, and_true, not_false_eq_true, not_true_eq_false, if_true, if_false, if_pos]
      refine x_for 7 (fun i (M3 : XM) => RQ M0 lv S (zF S) (tS (zT S) 2) 0 M3 ∧ (∀ l a, l < tN (zT S) → a < tR (zT S) → xI M3 477 (6 * l + a) = tab (zT S) (zF S) l a) ∧ (∀ a, a < 6 → xI M3 478 a = -2) ∧ ∀ l, l < i → xI M3 479 l = 0) (fun i M3 => RG xprog 211 38 [some (.ref 439), some (.int (nI w)), some (.int (nI i)), none, none] [] M3 Q) ?_ ?_ 0 M2 (by omega) ⟨k2, t2, f2, fun a ha => by omega⟩
      · intro M3 ⟨k3, t3, f3, g3⟩
        rw [B_211_38]
        simp (disch := omega) only [lAdd, addL, lMul, mulL, nMul, nI_add, subL, lSub, nSub, nDec, nCl, lCl, nVp, lVp, nLe, nLt, nEq, lLe, leL, lLt, ltL, eqL, lEq, nM1, nM2, litLt0, one01, zero01, oneNe0, xupE, xupA, xupK, xI_I, xS_I, xF_I, xJ_I, xI_R, xS_R, xF_R, xJ_R, xI_L, xS_L, xF_L, xJ_L, xcat_s, le46, ge16, or_true, true_or, false_or, or_false, eq_self, Option.toList_some, Option.toList_none, List.cons_append, List.nil_append, true_and, and_true, not_false_eq_true, not_true_eq_false, if_true, if_false, if_pos]
        have m3 : RM M3 S s0A := by
          refine ⟨t3, fun l hl => ?_, fun a ha => f3 a (by omega)⟩
          rw [g3 l (by omega)]
          have : bn (s0A.1 l) (tR (zT S)) = 0 := by
            apply Nat.eq_of_testBit_eq
            intro b
            rw [bn_test, Nat.zero_testBit]
            exact Bool.and_false _
          rw [this]; rfl
        have outer : ∀ m (M4 : XM) (z3 z4 : Option Value) (s : XST), RQ M0 lv S (zF S) (tS (zT S) 2) 0 M4 → RM M4 S s → GoodF (zT S) (zF S) s → LeastF (zT S) (zF S) s → tN (zT S) * tR (zT S) ≤ nAsk s (tR (zT S)) (tN (zT S)) + m → RG xprog 211 59 [some (.ref 439), some (.int (nI w)), some (.int 1), z3, z4] [] M4 Q := by
          intro m
          induction m with
          | zero =>
            intro M4 z3 z4 s k4 m4 g4 l4 c4
            refine r_pass k4 m4 g4 l4 hw (fun M5 s' k5 g5 l5 f5 => by rw [kw_st g5 l5 f5]; exact hQ M5 k5.1) ?_
            intro M5 z5 z6 s' _ _ _ _ hn
            have := nAsk_le s' (tR (zT S)) (tN (zT S))
            omega
          | succ m ihm =>
            intro M4 z3 z4 s k4 m4 g4 l4 c4
            refine r_pass k4 m4 g4 l4 hw (fun M5 s' k5 g5 l5 f5 => by rw [kw_st g5 l5 f5]; exact hQ M5 k5.1) ?_
            intro M5 z5 z6 s' k5 m5 g5 l5 hn
            exact ihm M5 z5 z6 s' k5 m5 g5 l5 (by omega)
        exact outer (tN (zT S) * tR (zT S)) M3 none none s0A k3 m3 (good0 _ _ _ _) (least0 _ _ _ _) (Nat.le_add_left _ _)
      · intro i M3 hi ⟨k3, t3, f3, g3⟩ ih
        rw [B_211_38]
        simp (disch := omega) only [k3.2.1.s.s, k3.2.1.s.f, k3.2.1.v, k3.2.1.n, k3.2.1.r, lAdd, addL, lMul, mulL, nMul, nI_add, subL, lSub, nSub, nDec, nCl, lCl, nVp, lVp, nLe, nLt, nEq, lLe, leL, lLt, ltL, eqL, lEq, nM1, nM2, litLt0, one01, zero01, oneNe0, xupE, xupA, xupK, xI_I, xS_I, xF_I, xJ_I, xI_R, xS_R, xF_R, xJ_R, xI_L, xS_L, xF_L, xJ_L, xcat_s, le46, ge16, or_true, true_or, false_or, or_false, eq_self, Option.toList_some, Option.toList_none, List.cons_append, List.nil_append, true_and, and_true, not_false_eq_true, not_true_eq_false, if_true, if_false, if_neg]
        refine ih _ ⟨k3.wK _ (by omega) (by omega), ?_, ?_, ?_⟩
        · intro l a hl ha
          rw [xI_I, xupA _ _ _ _ (by omega)]; exact t3 l a hl ha
        · intro a ha
          rw [xI_I, xupA _ _ _ _ (by omega)]; exact f3 a ha
        · intro l hl
          rw [xI_I]
          by_cases q : l = i
          · rw [q, xupE]
          · rw [xupK _ _ q]; exact g3 l (by omega)
    · intro i M2 hi ⟨k2, t2, f2⟩ ih
      rw [B_211_16]
      simp (disch := omega) only [k2.2.1.s.s, k2.2.1.s.f, k2.2.1.v, k2.2.1.n, k2.2.1.r, lAdd, addL, lMul, mulL, nMul, nI_add, subL, lSub, nSub, nDec, nCl, lCl, nVp, lVp, nLe, nLt, nEq, lLe, leL, lLt, ltL, eqL, lEq, nM1, nM2, litLt0, one01, zero01, oneNe0, xupE, xupA, xupK, xI_I, xS_I, xF_I, xJ_I, xI_R, xS_R, xF_R, xJ_R, xI_L, xS_L, xF_L, xJ_L, xcat_s, le46, ge16, or_true, true_or, false_or, or_false, eq_self, Option.toList_some, Option.toList_none, List.cons_append, List.nil_append, true_and, and_true, not_false_eq_true, not_true_eq_false, if_true, if_false, if_neg]
      refine ih _ ⟨k2.wK _ (by omega) (by omega), ?_, ?_⟩
      · intro l a hl ha
        rw [xI_I, xupA _ _ _ _ (by omega)]; exact t2 l a hl ha
      · intro a ha
        rw [xI_I]
        by_cases q : a = i
        · rw [q, xupE]
        · rw [xupK _ _ q]; exact f2 a (by omega)
  · rw [if_neg h2, if_neg (by decide)]
    rw [if_neg h2] at hQ
    exact hQ M h
