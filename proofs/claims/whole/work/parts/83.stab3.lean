/-! stable: the class, memory -/
theorem tab_nat (T : XT) (F : XO) (l a : Nat) : ∃ i, i < 100 ∧ tab T F l a = nI i := by
  unfold tab
  split
  · unfold lkv
    rw [← held_w]
    split
    · split
      · rename_i h1 h2
        refine nOf (n := 100) ?_ ?_ (by omega)
        · rw [Int32.lt_iff_toInt_lt]
          rw [Int32.le_iff_toInt_le] at h1
          omega
        · rw [Int32.le_iff_toInt_le]
          rw [Int32.le_iff_toInt_le] at h2
          have : (99 : Int32).toInt = 99 := by decide
          have : (nI 100).toInt = 100 := by decide
          omega
      · exact ⟨99, by omega, rfl⟩
    · exact ⟨0, by omega, rfl⟩
  · exact ⟨0, by omega, rfl⟩
theorem sub100 : ∀ i j : Fin 100, ((0 : Int32) < nI i.val - nI j.val ↔ j.val < i.val) ∧ (nI i.val - nI j.val = 0 ↔ i.val = j.val) := by decide +kernel
def onv : Option Nat → Int32
  | none => -1
  | some o => nI o
theorem bn_ask (p : Nat → Bool) {a r : Nat} (ha : a < r) (hr : r ≤ 7) : nI (bn p r) &&& (((1 : Int32) <<< (nI a &&& 31)) ^^^ (-1)) = nI (bn (fun i => p i && !decide (i = a)) r) := by
  have e : bn (fun i => decide (i = a)) r = 2 ^ a := by
    apply Nat.eq_of_testBit_eq
    intro i
    rw [bn_test, Nat.testBit_two_pow]
    by_cases q : i = a
    · subst q; rw [decide_eq_true ha]; simp
    · rw [decide_eq_false q, decide_eq_false (show ¬ a = i from fun z => q z.symm)]; simp
  rw [sh1 (by omega), ← e, bn_andn _ _ hr]
theorem opn_ask (tb : Nat → Nat → Int) (s : XST) (l a i : Nat) : opn tb (sAsk tb s l a) l i = (opn tb s l i && !decide (i = a)) := by
  unfold opn
  have e : (sAsk tb s l a).1 l i = if l = l ∧ i = a then true else s.1 l i := rfl
  rw [e]
  by_cases q : i = a
  · rw [if_pos ⟨rfl, q⟩, decide_eq_true q]; simp
  · rw [if_neg (fun z => q z.2), decide_eq_false q]; simp
theorem opn_askn (tb : Nat → Nat → Int) (s : XST) {l a x : Nat} (h : x ≠ l) (i : Nat) : opn tb (sAsk tb s l a) x i = opn tb s x i := by
  unfold opn
  have e : (sAsk tb s l a).1 x i = if x = l ∧ i = a then true else s.1 x i := rfl
  rw [e, if_neg (fun z => h z.1)]
theorem tabp (T : XT) (F : XO) (l a : Nat) : decide (0 < tbF T F l a) = true ↔ ¬ tab T F l a ≤ 0 := by
  rw [tab_pos, decide_eq_true_eq]
  exact ⟨fun h q => q h, fun h => Classical.byContradiction h⟩
theorem c_startAsking {M0 M : XM} {t l : Nat} {S : XS} {Q : Option Value → XM → Prop} (h : CK M0 t S M) (hd : DL M S) (hl : l < tN (zT S))
    (hQ : ∀ M' : XM, CK M0 t S M' → Ex (fun a k => (a = 432 ∧ k = l) ∨ a = 425 + l ∨ tX t a k) M M' → xI M' 432 l = nI (bn (fun a => decide (0 < tbF (zT S) (zF S) l a)) (tR (zT S))) → (∀ a, a < tR (zT S) → 0 < tbF (zT S) (zF S) l a → xI M' (425 + l) a = rav (zT S) (zF S) l a) → Q none M') :
    RG xprog 201 0 [some (.ref 406), some (.ref t), some (.ref 84), some (.int (nI l)), none] [] M Q := by
  have n7 := h.1.tx.n7
  have r6 := h.1.tx.r6
  have t2 := h.1.t2
  have exD : ∀ {M1 : XM}, Ex (fun a k => (a = 432 ∧ k = l) ∨ a = 425 + l ∨ tX t a k) M M1 → DL M1 S := fun e => hd.ex e n7 (by intro a k z1 z2; unfold tX; omega)
  rw [B_201_0]
  simp (disch := omega) only [h.1.dl, lAdd, addL, lMul, mulL, nMul, nI_add, subL, lSub, nSub, nDec, nCl, lCl, nVp, lVp, nLe, nLt, nEq, lLe, leL, lLt, ltL, eqL, lEq, nM1, nM2, litLt0, one01, zero01, oneNe0, xupE, xupA, xupK, xI_I, xS_I, xF_I, xJ_I, xI_R, xS_R, xF_R, xJ_R, xI_L, xS_L, xF_L, xJ_L, xcat_s, le46, ge16, or_true, true_or, false_or, or_false, eq_self, Option.toList_some, Option.toList_none, List.cons_append, List.nil_append, true_and, and_true, not_false_eq_true, not_true_eq_false, if_true, if_false]
  refine x_for (tR (zT S)) (fun i (M1 : XM) => CK M0 t S M1 ∧ Ex (fun a k => (a = 432 ∧ k = l) ∨ a = 425 + l ∨ tX t a k) M M1 ∧ xI M1 432 l = nI (bn (fun a => decide (0 < tbF (zT S) (zF S) l a)) i) ∧ ∀ a, a < i → 0 < tbF (zT S) (zF S) l a → xI M1 (425 + l) a = rav (zT S) (zF S) l a) (fun i M1 => RG xprog 201 10 [some (.ref 406), some (.ref t), some (.ref 84), some (.int (nI l)), some (.int (nI i))] [] M1 Q) ?_ ?_ 0 (xmI M 432 l 0) (by omega) ⟨h.wD _ (by unfold dP; omega), (Ex.refl _ _).wr _ (Or.inl ⟨rfl, rfl⟩), by rw [xI_I, xupE]; rfl, fun a ha => by omega⟩
  · intro M1 ⟨k1, e1, u1, f1⟩
    rw [B_201_10]
    simp (disch := omega) only [k1.1.d, k1.1.tx.f, k1.1.tx.n, k1.1.tx.r, k1.1.of.f, k1.1.of.v, lAdd, addL, lMul, mulL, nMul, nI_add, subL, lSub, nSub, nDec, nCl, lCl, nVp, lVp, nLe, nLt, nEq, lLe, leL, lLt, ltL, eqL, lEq, nM1, nM2, litLt0, one01, zero01, oneNe0, xupE, xupA, xupK, xI_I, xS_I, xF_I, xJ_I, xI_R, xS_R, xF_R, xJ_R, xI_L, xS_L, xF_L, xJ_L, xcat_s, le46, ge16, or_true, true_or, false_or, or_false, eq_self, Option.toList_some, Option.toList_none, List.cons_append, List.nil_append, true_and, and_true, not_false_eq_true, not_true_eq_false, if_true, if_false, Nat.le_refl]
    exact hQ M1 k1 e1 u1 f1
  · intro a M1 ha ⟨k1, e1, u1, f1⟩ ih
    have d1 := exD e1
    rw [B_201_10]
    simp (disch := omega) only [k1.1.d, k1.1.tx.f, k1.1.tx.n, k1.1.tx.r, k1.1.of.f, k1.1.of.v, k1.1.dl, k1.1.dl1 (show l < 7 by omega), k1.1.dl3 (show l < 7 by omega), d1 l a hl ha, lAdd, addL, lMul, mulL, nMul, nI_add, subL, lSub, nSub, nDec, nCl, lCl, nVp, lVp, nLe, nLt, nEq, lLe, leL, lLt, ltL, eqL, lEq, nM1, nM2, litLt0, one01, zero01, oneNe0, xupE, xupA, xupK, xI_I, xS_I, xF_I, xJ_I, xI_R, xS_R, xF_R, xJ_R, xI_L, xS_L, xF_L, xJ_L, xcat_s, le46, ge16, or_true, true_or, false_or, or_false, eq_self, Option.toList_some, Option.toList_none, List.cons_append, List.nil_append, true_and, and_true, not_false_eq_true, not_true_eq_false, if_true, if_false, if_neg]
    by_cases hp : tab (zT S) (zF S) l a ≤ 0
    · rw [if_pos hp, B_201_61]
      simp (disch := omega) only [lAdd, addL, lMul, mulL, nMul, nI_add, subL, lSub, nSub, nDec, nCl, lCl, nVp, lVp, nLe, nLt, nEq, lLe, leL, lLt, ltL, eqL, lEq, nM1, nM2, litLt0, one01, zero01, oneNe0, xupE, xupA, xupK, xI_I, xS_I, xF_I, xJ_I, xI_R, xS_R, xF_R, xJ_R, xI_L, xS_L, xF_L, xJ_L, xcat_s, le46, ge16, or_true, true_or, false_or, or_false, eq_self, Option.toList_some, Option.toList_none, List.cons_append, List.nil_append, true_and, and_true, not_false_eq_true, not_true_eq_false, if_true, if_false]
      have hp2 := (tab_pos _ _ _ _).mp hp
      refine ih M1 ⟨k1, e1, ?_, ?_⟩
      · rw [bn_s, decide_eq_false hp2]; exact u1
      · intro b hb hb2
        by_cases q : b = a
        · rw [q] at hb2; exact absurd hb2 hp2
        · exact f1 b (by omega) hb2
    · rw [if_neg hp]
      refine c_rathersOf k1.1.tx k1.1.of (by omega) (by omega) k1.1.sep ?_
      intro M2 e2
      have k2 := k1.stepX e2
      have u2 : xI M2 432 l = nI (bn (fun a => decide (0 < tbF (zT S) (zF S) l a)) a) := by rw [e2.I (by unfold tX; omega)]; exact u1
      have b7 := bn128 (fun a => decide (0 < tbF (zT S) (zF S) l a)) (n := a) (by omega)
      simp (disch := omega) only [lAdd, addL, lMul, mulL, nMul, nI_add, subL, lSub, nSub, nDec, nCl, lCl, nVp, lVp, nLe, nLt, nEq, lLe, leL, lLt, ltL, eqL, lEq, nM1, nM2, litLt0, one01, zero01, oneNe0, xupE, xupA, xupK, xI_I, xS_I, xF_I, xJ_I, xI_R, xS_R, xF_R, xJ_R, xI_L, xS_L, xF_L, xJ_L, xcat_s, le46, ge16, or_true, true_or, false_or, or_false, eq_self, Option.toList_some, Option.toList_none, List.cons_append, List.nil_append, true_and, and_true, not_false_eq_true, not_true_eq_false, if_true, if_false, B_201_47, k2.1.d, k2.1.tx.f, k2.1.tx.n, k2.1.tx.r, k2.1.of.f, k2.1.of.v, k2.1.dl, k2.1.dl3 (show l < 7 by omega), B_201_61, u2, or_bit (show a < 8 by omega)]
      refine ih _ ⟨(k2.wD _ (by unfold dP; omega)).wD _ (by unfold dP; omega), ((e1.trans (e2.mono fun a k q => Or.inr (Or.inr q))).wr _ (Or.inr (Or.inl rfl))).wr _ (Or.inl ⟨rfl, rfl⟩), ?_, ?_⟩
      · rw [xI_I, xupE, bn_s, (tabp _ _ _ _).mpr hp]
        rfl
      · intro b hb hb2
        rw [xI_I, xupA _ _ _ _ (by omega), xI_I]
        by_cases q : b = a
        · rw [q, xupE]
        · rw [xupK _ _ q, e2.I (by unfold tX; omega)]
          exact f1 b (by omega) hb2
theorem c_whoAsks {M0 M : XM} {t : Nat} {S : XS} {w : Nat → Int32} {u : Nat → Nat} {Q : Option Value → XM → Prop} (h : CK M0 t S M) (hw : ∀ l, l < tN (zT S) → xI M 434 l = w l) (hu : ∀ l, l < tN (zT S) → xI M 432 l = nI (u l)) (hul : ∀ l, u l < 128)
    (h1 : (∀ l, l < tN (zT S) → ¬ (w l = -2 ∧ u l ≠ 0)) → Q (some (.int (-1))) M)
    (h2 : ∀ l, l < tN (zT S) → w l = -2 → u l ≠ 0 → Q (some (.int (nI l))) M) :
    RG xprog 202 0 [some (.ref 406), some (.int (nI (tN (zT S)))), none] [] M Q := by
  have n7 := h.1.tx.n7
  rw [B_202_0]
  have loop : ∀ j l, l + j = tN (zT S) → (∀ x, x < l → ¬ (w x = -2 ∧ u x ≠ 0)) → RG xprog 202 2 [some (.ref 406), some (.int (nI (tN (zT S)))), some (.int (nI l))] [] M Q := by
    intro j
    induction j with
    | zero =>
      intro l hl hx
      have : l = tN (zT S) := by omega
      subst this
      rw [B_202_2]
      simp (disch := omega) only [lAdd, addL, lMul, mulL, nMul, nI_add, subL, lSub, nSub, nDec, nCl, lCl, nVp, lVp, nLe, nLt, nEq, lLe, leL, lLt, ltL, eqL, lEq, nM1, nM2, litLt0, one01, zero01, oneNe0, xupE, xupA, xupK, xI_I, xS_I, xF_I, xJ_I, xI_R, xS_R, xF_R, xJ_R, xI_L, xS_L, xF_L, xJ_L, xcat_s, le46, ge16, or_true, true_or, false_or, or_false, eq_self, Option.toList_some, Option.toList_none, List.cons_append, List.nil_append, true_and, and_true, not_false_eq_true, not_true_eq_false, if_true, if_false, Nat.le_refl]
      exact h1 hx
    | succ j ih =>
      intro l hl hx
      have ul := hul l
      have nx : ¬ (w l = -2 ∧ u l ≠ 0) → RG xprog 202 2 [some (.ref 406), some (.int (nI (tN (zT S)))), some (.int (nI (l + 1)))] [] M Q := fun hn => ih (l + 1) (by omega) fun x hx2 => by
        by_cases q : x = l
        · rw [q]; exact hn
        · exact hx x (by omega)
      rw [B_202_2]
      simp (disch := omega) only [h.1.d, h.1.tx.f, h.1.tx.n, h.1.tx.r, h.1.of.f, h.1.of.v, h.1.dl, lAdd, addL, lMul, mulL, nMul, nI_add, subL, lSub, nSub, nDec, nCl, lCl, nVp, lVp, nLe, nLt, nEq, lLe, leL, lLt, ltL, eqL, lEq, nM1, nM2, litLt0, one01, zero01, oneNe0, xupE, xupA, xupK, xI_I, xS_I, xF_I, xJ_I, xI_R, xS_R, xF_R, xJ_R, xI_L, xS_L, xF_L, xJ_L, xcat_s, le46, ge16, or_true, true_or, false_or, or_false, eq_self, Option.toList_some, Option.toList_none, List.cons_append, List.nil_append, true_and, and_true, not_false_eq_true, not_true_eq_false, if_true, if_false, if_neg, hw l (show l < tN (zT S) by omega), hu l (show l < tN (zT S) by omega)]
      by_cases q1 : w l = -2
      · rw [if_neg (fun z => z q1)]
        by_cases q2 : u l = 0
        · rw [if_pos q2]
          exact nx fun z => z.2 q2
        · rw [if_neg q2]
          exact h2 l (by omega) q1 q2
      · rw [if_pos q1]
        exact nx fun z => q1 z.1
  exact loop (tN (zT S)) 0 (by omega) fun x hx => by omega
/-- the memory of an asking -/
def CM (M : XM) (S : XS) (s : XST) : Prop := DL M S ∧ (∀ l a, l < tN (zT S) → a < tR (zT S) → 0 < tbF (zT S) (zF S) l a → xI M (425 + l) a = rav (zT S) (zF S) l a) ∧ (∀ l, l < tN (zT S) → xI M 432 l = nI (bn (opn (tbF (zT S) (zF S)) s l) (tR (zT S)))) ∧ (∀ a, a < tR (zT S) → xI M 433 a = onv (s.2 a)) ∧ WHs (tR (zT S)) (tN (zT S)) (xI M 434) s
theorem opn_tab {tb : Nat → Nat → Int} {s : XST} {l a : Nat} (h : opn tb s l a = true) : 0 < tb l a := by
  unfold opn at h
  simp only [Bool.and_eq_true, decide_eq_true_eq] at h
  exact h.1
theorem c_whom {M0 M : XM} {t l : Nat} {S : XS} {s : XST} {Q : Option Value → XM → Prop} (h : CK M0 t S M) (hm : CM M S s) (hl : l < tN (zT S))
    (hQ : Q (some (.int (onv (nxt (tbF (zT S) (zF S)) (raF (zT S) (zF S)) s l (tR (zT S)))))) M) :
    RG xprog 203 0 [some (.ref 406), some (.int (nI l)), some (.int (nI (tR (zT S)))), none, none, none] [] M Q := by
  have n7 := h.1.tx.n7
  have r6 := h.1.tx.r6
  obtain ⟨_, m2, m3, _, _⟩ := hm
  have b7 := bn128 (opn (tbF (zT S) (zF S)) s l) (n := tR (zT S)) (by omega)
  rw [B_203_0]
  refine x_for (tR (zT S)) (fun i (z : Option Value) => True) (fun i z => RG xprog 203 5 [some (.ref 406), some (.int (nI l)), some (.int (nI (tR (zT S)))), some (.int (onv (nxt (tbF (zT S) (zF S)) (raF (zT S) (zF S)) s l i))), some (.int (nI i)), z] [] M Q) ?_ ?_ 0 none (by omega) trivial
  · intro z _
    rw [B_203_5]
    simp (disch := omega) only [lAdd, addL, lMul, mulL, nMul, nI_add, subL, lSub, nSub, nDec, nCl, lCl, nVp, lVp, nLe, nLt, nEq, lLe, leL, lLt, ltL, eqL, lEq, nM1, nM2, litLt0, one01, zero01, oneNe0, xupE, xupA, xupK, xI_I, xS_I, xF_I, xJ_I, xI_R, xS_R, xF_R, xJ_R, xI_L, xS_L, xF_L, xJ_L, xcat_s, le46, ge16, or_true, true_or, false_or, or_false, eq_self, Option.toList_some, Option.toList_none, List.cons_append, List.nil_append, true_and, and_true, not_false_eq_true, not_true_eq_false, if_true, if_false, Nat.le_refl]
    exact hQ
  · intro a z ha _ ih
    have ab := and_bit (m := bn (opn (tbF (zT S) (zF S)) s l) (tR (zT S))) (i := a) (by omega) (by omega)
    rw [bn_test, decide_eq_true ha, Bool.true_and] at ab
    rw [nxt_s] at ih
    rw [B_203_5]
    simp (disch := omega) only [h.1.dl, m3 l hl, lAdd, addL, lMul, mulL, nMul, nI_add, subL, lSub, nSub, nDec, nCl, lCl, nVp, lVp, nLe, nLt, nEq, lLe, leL, lLt, ltL, eqL, lEq, nM1, nM2, litLt0, one01, zero01, oneNe0, xupE, xupA, xupK, xI_I, xS_I, xF_I, xJ_I, xI_R, xS_R, xF_R, xJ_R, xI_L, xS_L, xF_L, xJ_L, xcat_s, le46, ge16, or_true, true_or, false_or, or_false, eq_self, Option.toList_some, Option.toList_none, List.cons_append, List.nil_append, true_and, and_true, not_false_eq_true, not_true_eq_false, if_true, if_false, if_neg]
    by_cases ho : opn (tbF (zT S) (zF S)) s l a = true
    · rw [if_neg (fun q => by rw [ab.mp q] at ho; cases ho), B_203_30, if_neg (by decide)]
      rw [if_pos ho] at ih
      rcases nxt_p (tbF (zT S) (zF S)) (raF (zT S) (zF S)) s l a with ⟨q, _⟩ | ⟨b, q1, q2, q3, _⟩
      · rw [q] at ih ⊢
        rw [if_pos (show onv none = -1 from rfl)]
        simp (disch := omega) only [lAdd, addL, lMul, mulL, nMul, nI_add, subL, lSub, nSub, nDec, nCl, lCl, nVp, lVp, nLe, nLt, nEq, lLe, leL, lLt, ltL, eqL, lEq, nM1, nM2, litLt0, one01, zero01, oneNe0, xupE, xupA, xupK, xI_I, xS_I, xF_I, xJ_I, xI_R, xS_R, xF_R, xJ_R, xI_L, xS_L, xF_L, xJ_L, xcat_s, le46, ge16, or_true, true_or, false_or, or_false, eq_self, Option.toList_some, Option.toList_none, List.cons_append, List.nil_append, true_and, and_true, not_false_eq_true, not_true_eq_false, if_true, if_false]
        exact ih _ trivial
      · rw [q1] at ih ⊢
        have e : onv (some b) = nI b := rfl
        dsimp only at ih
        rw [e]
        rw [if_neg (by rw [nM1 (by omega)]; exact fun z => z)]
        simp (disch := omega) only [h.1.dl, h.1.dl3 (show l < 7 by omega), m2 l a hl ha (opn_tab ho), m2 l b hl (by omega) (opn_tab q3), lAdd, addL, lMul, mulL, nMul, nI_add, subL, lSub, nSub, nDec, nCl, lCl, nVp, lVp, nLe, nLt, nEq, lLe, leL, lLt, ltL, eqL, lEq, nM1, nM2, litLt0, one01, zero01, oneNe0, xupE, xupA, xupK, xI_I, xS_I, xF_I, xJ_I, xI_R, xS_R, xF_R, xJ_R, xI_L, xS_L, xF_L, xJ_L, xcat_s, le46, ge16, or_true, true_or, false_or, or_false, eq_self, Option.toList_some, Option.toList_none, List.cons_append, List.nil_append, true_and, and_true, not_false_eq_true, not_true_eq_false, if_true, if_false]
        by_cases c : rav (zT S) (zF S) l a ≤ rav (zT S) (zF S) l b
        · rw [if_pos c]
          rw [if_pos (show raF (zT S) (zF S) l a ≤ raF (zT S) (zF S) l b from Int32.le_iff_toInt_le.mp c)] at ih
          exact ih _ trivial
        · rw [if_neg c]
          rw [if_neg (show ¬ raF (zT S) (zF S) l a ≤ raF (zT S) (zF S) l b from fun z => c (Int32.le_iff_toInt_le.mpr z))] at ih
          exact ih _ trivial
    · rw [if_pos (ab.mpr (by simpa using ho)), B_203_30, if_pos rfl]
      rw [if_neg ho] at ih
      simp (disch := omega) only [lAdd, addL, lMul, mulL, nMul, nI_add, subL, lSub, nSub, nDec, nCl, lCl, nVp, lVp, nLe, nLt, nEq, lLe, leL, lLt, ltL, eqL, lEq, nM1, nM2, litLt0, one01, zero01, oneNe0, xupE, xupA, xupK, xI_I, xS_I, xF_I, xJ_I, xI_R, xS_R, xF_R, xJ_R, xI_L, xS_L, xF_L, xJ_L, xcat_s, le46, ge16, or_true, true_or, false_or, or_false, eq_self, Option.toList_some, Option.toList_none, List.cons_append, List.nil_append, true_and, and_true, not_false_eq_true, not_true_eq_false, if_true, if_false]
      exact ih _ trivial
