/-! bundle: class and reference -/
def bunF (T : XT) (F : XO) (l : Nat) : Nat := iter (fun _ s => cbF (lnk T (oD F) (bn (fun _ => true) (tN T))) (tN T) s) (tN T) (2 ^ l)
def A_bundle (S : XS) (x : Int32) : Int32 := if isLb (tN (zT S)) x then nI (bunF (zT S) (zF S) (cN x)) else -1
theorem lnk_t (T : XT) (d : Int32) : ∀ o i, o < tN T → ((lnk T d (bn (fun _ => true) (tN T)) o).testBit i = true ↔ i < tN T ∧ decide (ansb T d i o) = true) := by
  intro o i ho
  unfold lnk
  rw [bn_test, bn_test, bn_test, decide_eq_true ho]
  by_cases hi : i < tN T
  · rw [decide_eq_true hi]
    simp [hi]
  · rw [decide_eq_false hi]
    simp [hi]
theorem lnk_lt (T : XT) (d : Int32) (th o : Nat) : lnk T d th o < 2 ^ tN T := bn_lt _ _
theorem lt128 {n s : Nat} (h : n ≤ 7) (hs : s < 2 ^ n) : s < 128 := Nat.lt_of_lt_of_le hs (show 2 ^ n ≤ 2 ^ 7 from Nat.pow_le_pow_right (by omega) h)
theorem c_tiedTo {M0 M : XM} {t l : Nat} {S : XS} {Q : Option Value → XM → Prop} (h : CK M0 t S M) (hl : l < tN (zT S))
    (hQ : ∀ M' : XM, CK M0 t S M' → Q (some (.int (nI (bunF (zT S) (zF S) l)))) M') :
    RG xprog 228 0 [some (.ref 435), some (.int (nI l)), some (.ref t), some (.int (oD (zF S))), none, none, none, none] [] M Q := by
  have n7 := h.1.tx.n7
  rw [B_228_0]
  simp (disch := omega) only [h.1.d, h.1.tx.f, h.1.tx.n, h.1.tx.r, h.1.of.f, h.1.of.v, h.1.an, lAdd, addL, lMul, mulL, nMul, nI_add, subL, lSub, nSub, nDec, nCl, lCl, nVp, lVp, nLe, nLt, nEq, lLe, leL, lLt, ltL, eqL, lEq, nM1, nM2, litLt0, one01, zero01, oneNe0, xupE, xupA, xupK, xI_I, xS_I, xF_I, xJ_I, xI_R, xS_R, xF_R, xJ_R, xI_L, xS_L, xF_L, xJ_L, xcat_s, le46, ge16, or_true, true_or, false_or, or_false, eq_self, Option.toList_some, Option.toList_none, List.cons_append, List.nil_append, true_and, and_true, not_false_eq_true, not_true_eq_false, if_true, if_false, bn_full n7]
  refine c_link h (bn128 _ n7) ?_
  intro M1 k1 f1
  simp (disch := omega) only [lAdd, addL, lMul, mulL, nMul, nI_add, subL, lSub, nSub, nDec, nCl, lCl, nVp, lVp, nLe, nLt, nEq, lLe, leL, lLt, ltL, eqL, lEq, nM1, nM2, litLt0, one01, zero01, oneNe0, xupE, xupA, xupK, xI_I, xS_I, xF_I, xJ_I, xI_R, xS_R, xF_R, xJ_R, xI_L, xS_L, xF_L, xJ_L, xcat_s, le46, ge16, or_true, true_or, false_or, or_false, eq_self, Option.toList_some, Option.toList_none, List.cons_append, List.nil_append, true_and, and_true, not_false_eq_true, not_true_eq_false, if_true, if_false, B_228_14, sh1 (show l < 8 by omega)]
  have A2 : ∀ o, o < tN (zT S) → lnk (zT S) (oD (zF S)) (bn (fun _ => true) (tN (zT S))) o < 2 ^ tN (zT S) := fun o _ => lnk_lt _ _ _ _
  have outer : ∀ j k (z6 z7 : Option Value), k + j = tN (zT S) → RG xprog 228 22 [some (.ref 435), some (.int (nI l)), some (.ref t), some (.int (oD (zF S))), some (.int (nI (iter (fun _ s => cbF (lnk (zT S) (oD (zF S)) (bn (fun _ => true) (tN (zT S)))) (tN (zT S)) s) k (2 ^ l)))), some (.int (nI k)), z6, z7] [] M1 Q := by
    intro j
    induction j with
    | zero =>
      intro k z6 z7 hk
      have : k = tN (zT S) := by omega
      subst this
      rw [B_228_22]
      simp (disch := omega) only [k1.1.d, k1.1.tx.f, k1.1.tx.n, k1.1.tx.r, k1.1.of.f, k1.1.of.v, lAdd, addL, lMul, mulL, nMul, nI_add, subL, lSub, nSub, nDec, nCl, lCl, nVp, lVp, nLe, nLt, nEq, lLe, leL, lLt, ltL, eqL, lEq, nM1, nM2, litLt0, one01, zero01, oneNe0, xupE, xupA, xupK, xI_I, xS_I, xF_I, xJ_I, xI_R, xS_R, xF_R, xJ_R, xI_L, xS_L, xF_L, xJ_L, xcat_s, le46, ge16, or_true, true_or, false_or, or_false, eq_self, Option.toList_some, Option.toList_none, List.cons_append, List.nil_append, true_and, and_true, not_false_eq_true, not_true_eq_false, if_true, if_false, Nat.le_refl]
      exact hQ M1 k1
    | succ j ih =>
      intro k z6 z7 hk
      have e := fun z6 z7 => ih (k + 1) z6 z7 (by omega)
      rw [iter_s] at e
      have s0 : iter (fun _ s => cbF (lnk (zT S) (oD (zF S)) (bn (fun _ => true) (tN (zT S)))) (tN (zT S)) s) k (2 ^ l) < 2 ^ tN (zT S) := iter_inv (fun _ s => s < 2 ^ tN (zT S)) _ _ k (pow_lt hl) fun i s _ hs => iter_inv (fun _ s => s < 2 ^ tN (zT S)) (cb1 _) s (tN (zT S)) hs fun o s ho h => cb1_lt A2 ho h
      generalize iter (fun _ s => cbF (lnk (zT S) (oD (zF S)) (bn (fun _ => true) (tN (zT S)))) (tN (zT S)) s) k (2 ^ l) = s at e s0 ⊢
      rw [B_228_22]
      simp (disch := omega) only [k1.1.d, k1.1.tx.f, k1.1.tx.n, k1.1.tx.r, k1.1.of.f, k1.1.of.v, lAdd, addL, lMul, mulL, nMul, nI_add, subL, lSub, nSub, nDec, nCl, lCl, nVp, lVp, nLe, nLt, nEq, lLe, leL, lLt, ltL, eqL, lEq, nM1, nM2, litLt0, one01, zero01, oneNe0, xupE, xupA, xupK, xI_I, xS_I, xF_I, xJ_I, xI_R, xS_R, xF_R, xJ_R, xI_L, xS_L, xF_L, xJ_L, xcat_s, le46, ge16, or_true, true_or, false_or, or_false, eq_self, Option.toList_some, Option.toList_none, List.cons_append, List.nil_append, true_and, and_true, not_false_eq_true, not_true_eq_false, if_true, if_false, if_neg]
      have inner : ∀ r o (z7 : Option Value), o + r = tN (zT S) → RG xprog 228 34 [some (.ref 435), some (.int (nI l)), some (.ref t), some (.int (oD (zF S))), some (.int (nI (iter (cb1 (lnk (zT S) (oD (zF S)) (bn (fun _ => true) (tN (zT S))))) o s))), some (.int (nI k)), some (.int (nI o)), z7] [] M1 Q := by
        intro r
        induction r with
        | zero =>
          intro o z7 ho
          have : o = tN (zT S) := by omega
          subst this
          rw [B_228_34]
          simp (disch := omega) only [k1.1.d, k1.1.tx.f, k1.1.tx.n, k1.1.tx.r, k1.1.of.f, k1.1.of.v, lAdd, addL, lMul, mulL, nMul, nI_add, subL, lSub, nSub, nDec, nCl, lCl, nVp, lVp, nLe, nLt, nEq, lLe, leL, lLt, ltL, eqL, lEq, nM1, nM2, litLt0, one01, zero01, oneNe0, xupE, xupA, xupK, xI_I, xS_I, xF_I, xJ_I, xI_R, xS_R, xF_R, xJ_R, xI_L, xS_L, xF_L, xJ_L, xcat_s, le46, ge16, or_true, true_or, false_or, or_false, eq_self, Option.toList_some, Option.toList_none, List.cons_append, List.nil_append, true_and, and_true, not_false_eq_true, not_true_eq_false, if_true, if_false, Nat.le_refl]
          exact e _ _
        | succ r ih2 =>
          intro o z7 ho
          have e2 := fun z7 => ih2 (o + 1) z7 (by omega)
          rw [iter_s, cb1] at e2
          have s1 : iter (cb1 (lnk (zT S) (oD (zF S)) (bn (fun _ => true) (tN (zT S))))) o s < 2 ^ tN (zT S) := iter_inv (fun _ s => s < 2 ^ tN (zT S)) (cb1 _) s o s0 fun i s hi h => cb1_lt A2 (by omega) h
          generalize iter (cb1 (lnk (zT S) (oD (zF S)) (bn (fun _ => true) (tN (zT S))))) o s = u at e2 s1 ⊢
          have u8 := lt128 n7 s1
          have a8 := lt128 n7 (lnk_lt (zT S) (oD (zF S)) (bn (fun _ => true) (tN (zT S))) o)
          have ab := and_bit (m := u) (i := o) (by omega) (by omega)
          rw [B_228_34]
          simp (disch := omega) only [k1.1.d, k1.1.tx.f, k1.1.tx.n, k1.1.tx.r, k1.1.of.f, k1.1.of.v, k1.1.an, lAdd, addL, lMul, mulL, nMul, nI_add, subL, lSub, nSub, nDec, nCl, lCl, nVp, lVp, nLe, nLt, nEq, lLe, leL, lLt, ltL, eqL, lEq, nM1, nM2, litLt0, one01, zero01, oneNe0, xupE, xupA, xupK, xI_I, xS_I, xF_I, xJ_I, xI_R, xS_R, xF_R, xJ_R, xI_L, xS_L, xF_L, xJ_L, xcat_s, le46, ge16, or_true, true_or, false_or, or_false, eq_self, Option.toList_some, Option.toList_none, List.cons_append, List.nil_append, true_and, and_true, not_false_eq_true, not_true_eq_false, if_true, if_false, if_neg, B_228_58, f1 o (show o < tN (zT S) by omega), i32_or, i32_and, or_bit (show o < 8 by omega)]
          by_cases hb : u.testBit o = true
          · rw [if_neg (by rw [sh1 (by omega), i32_and] at ab; rw [sh1 (by omega), i32_and]; rw [ab, hb]; decide)]
            rw [if_pos hb] at e2
            exact e2 _
          · rw [if_pos (by rw [sh1 (by omega), i32_and] at ab; rw [sh1 (by omega), i32_and]; rw [ab]; simpa using hb)]
            rw [if_neg hb] at e2
            have hlt : u &&& lnk (zT S) (oD (zF S)) (bn (fun _ => true) (tN (zT S))) o < 2 ^ 31 := Nat.lt_of_le_of_lt Nat.and_le_left (by omega)
            simp only [eqL hlt (show 0 < 2 ^ 31 by omega)]
            by_cases hz : u &&& lnk (zT S) (oD (zF S)) (bn (fun _ => true) (tN (zT S))) o = 0
            · rw [if_pos hz]
              rw [if_pos hz] at e2
              exact e2 _
            · rw [if_neg hz]
              rw [if_neg hz] at e2
              exact e2 _
      exact inner (tN (zT S)) 0 _ (by omega)
  exact outer (tN (zT S)) 0 none none (by omega)
theorem c_bundle {M0 M : XM} {t : Nat} {S : XS} {x : Int32} {Q : Option Value → XM → Prop} (h : CK M0 t S M)
    (hQ : ∀ M' : XM, CK M0 t S M' → Q (some (.int (A_bundle S x))) M') :
    RG xprog 229 0 [some (.ref 16), some (.int x)] [] M Q := by
  have n7 := h.1.tx.n7
  unfold A_bundle at hQ
  rw [B_229_0]
  simp (disch := omega) only [h.1.d, c_isLetter h.1, B_229_5, lAdd, addL, lMul, mulL, nMul, nI_add, subL, lSub, nSub, nDec, nCl, lCl, nVp, lVp, nLe, nLt, nEq, lLe, leL, lLt, ltL, eqL, lEq, nM1, nM2, litLt0, one01, zero01, oneNe0, xupE, xupA, xupK, xI_I, xS_I, xF_I, xJ_I, xI_R, xS_R, xF_R, xJ_R, xI_L, xS_L, xF_L, xJ_L, xcat_s, le46, ge16, or_true, true_or, false_or, or_false, eq_self, Option.toList_some, Option.toList_none, List.cons_append, List.nil_append, true_and, and_true, not_false_eq_true, not_true_eq_false, if_true, if_false]
  by_cases hx : isLb (tN (zT S)) x
  · rw [if_pos hx, if_pos (by decide)]
    rw [if_pos hx] at hQ
    obtain ⟨l, hl, rfl⟩ := isLb_get hx (by omega)
    rw [cN_n (by omega)] at hQ
    simp (disch := omega) only [h.1.d, h.1.tx.f, h.1.tx.n, h.1.tx.r, h.1.of.f, h.1.of.v, h.1.an, lAdd, addL, lMul, mulL, nMul, nI_add, subL, lSub, nSub, nDec, nCl, lCl, nVp, lVp, nLe, nLt, nEq, lLe, leL, lLt, ltL, eqL, lEq, nM1, nM2, litLt0, one01, zero01, oneNe0, xupE, xupA, xupK, xI_I, xS_I, xF_I, xJ_I, xI_R, xS_R, xF_R, xJ_R, xI_L, xS_L, xF_L, xJ_L, xcat_s, le46, ge16, or_true, true_or, false_or, or_false, eq_self, Option.toList_some, Option.toList_none, List.cons_append, List.nil_append, true_and, and_true, not_false_eq_true, not_true_eq_false, if_true, if_false]
    refine c_tiedTo h hl ?_
    intro M1 k1
    simp (disch := omega) only [lAdd, addL, lMul, mulL, nMul, nI_add, subL, lSub, nSub, nDec, nCl, lCl, nVp, lVp, nLe, nLt, nEq, lLe, leL, lLt, ltL, eqL, lEq, nM1, nM2, litLt0, one01, zero01, oneNe0, xupE, xupA, xupK, xI_I, xS_I, xF_I, xJ_I, xI_R, xS_R, xF_R, xJ_R, xI_L, xS_L, xF_L, xJ_L, xcat_s, le46, ge16, or_true, true_or, false_or, or_false, eq_self, Option.toList_some, Option.toList_none, List.cons_append, List.nil_append, true_and, and_true, not_false_eq_true, not_true_eq_false, if_true, if_false, B_229_29]
    exact hQ M1 k1
  · rw [if_neg hx, if_neg (by decide)]
    rw [if_neg hx] at hQ
    exact hQ M h
theorem shr_or {s m o : Nat} (hs : s < 128) (hm : m < 8) (ho : o < 8) : ((nI s >>> (nI m &&& 31)) ||| (nI s >>> (nI o &&& 31))) &&& 1 = if s.testBit m = true ∨ s.testBit o = true then 1 else 0 := by
  rw [shr_n hs hm, shr_n hs ho, i32_or, and_one]
  have e : ((s >>> m ||| s >>> o) % 2 = 1) ↔ (s.testBit m = true ∨ s.testBit o = true) := by
    have : (s >>> m ||| s >>> o).testBit 0 = (s.testBit m || s.testBit o) := by
      rw [Nat.testBit_or, Nat.testBit_shiftRight, Nat.testBit_shiftRight, Nat.add_zero, Nat.add_zero]
    rw [Nat.testBit_zero] at this
    rw [← Bool.or_eq_true, ← this, decide_eq_true_eq]
  by_cases h : s.testBit m = true ∨ s.testBit o = true
  · rw [if_pos h, e.mpr h]; rfl
  · rw [if_neg h]
    have : (s >>> m ||| s >>> o) % 2 = 0 := by
      have hn : ¬ (s >>> m ||| s >>> o) % 2 = 1 := fun z => h (e.mp z)
      omega
    rw [this]; rfl
theorem r_bundle {M0 M : XM} {lv B : Nat} {S : XS} {x : Int32} {Q : Option Value → XM → Prop} (h : RK M0 lv S M) (hi : SInv B S) (hB : B ≤ 99999)
    (hQ : ∀ M' : XM, RK M0 lv S M' → Q (some (.int (A_bundle S x))) M') :
    RG xprog 230 0 [some (.ref 439), some (.int x), none, none, none, none] [] M Q := by
  have n7 := h.1.1.n7
  have l2 := h.1.1.lv2
  unfold A_bundle at hQ
  rw [B_230_0]
  simp (disch := omega) only [h.1.1.1.s, r_isLetter h.1.1, B_230_5, lAdd, addL, lMul, mulL, nMul, nI_add, subL, lSub, nSub, nDec, nCl, lCl, nVp, lVp, nLe, nLt, nEq, lLe, leL, lLt, ltL, eqL, lEq, nM1, nM2, litLt0, one01, zero01, oneNe0, xupE, xupA, xupK, xI_I, xS_I, xF_I, xJ_I, xI_R, xS_R, xF_R, xJ_R, xI_L, xS_L, xF_L, xJ_L, xcat_s, le46, ge16, or_true, true_or, false_or, or_false, eq_self, Option.toList_some, Option.toList_none, List.cons_append, List.nil_append, true_and, and_true, not_false_eq_true, not_true_eq_false, if_true, if_false]
  by_cases hx : isLb (tN (zT S)) x
  · rw [if_pos hx, if_pos (by decide)]
    rw [if_pos hx] at hQ
    obtain ⟨l, hl, rfl⟩ := isLb_get hx (by omega)
    rw [cN_n (by omega)] at hQ
    unfold bunF at hQ
    rw [bun_eq (lnk_t (zT S) (oD (zF S))) n7 hl] at hQ
    generalize hp : (fun i o => decide (ansb (zT S) (oD (zF S)) i o)) = p at hQ
    have hpe : ∀ i o, p i o = decide (ansb (zT S) (oD (zF S)) i o) := fun i o => by rw [← hp]
    refine r_copies h hi hB ?_
    intro M1 h1
    simp (disch := omega) only [lAdd, addL, lMul, mulL, nMul, nI_add, subL, lSub, nSub, nDec, nCl, lCl, nVp, lVp, nLe, nLt, nEq, lLe, leL, lLt, ltL, eqL, lEq, nM1, nM2, litLt0, one01, zero01, oneNe0, xupE, xupA, xupK, xI_I, xS_I, xF_I, xJ_I, xI_R, xS_R, xF_R, xJ_R, xI_L, xS_L, xF_L, xJ_L, xcat_s, le46, ge16, or_true, true_or, false_or, or_false, eq_self, Option.toList_some, Option.toList_none, List.cons_append, List.nil_append, true_and, and_true, not_false_eq_true, not_true_eq_false, if_true, if_false, B_230_14, sh1 (show l < 8 by omega)]
    refine x_for 7 (fun k (s : XM × Nat × Option Value × Option Value) => RQ M0 lv S (zF S) (tS (zT S) 2) 0 s.1 ∧ s.2.1 = iter (fun _ s => rbF p (tN (zT S)) s) k (2 ^ l) ∧ s.2.1 < 2 ^ tN (zT S)) (fun k s => RG xprog 230 20 [some (.ref 439), some (.int (nI l)), some (.int (nI s.2.1)), some (.int (nI k)), s.2.2.1, s.2.2.2] [] s.1 Q) ?_ ?_ 0 (M1, 2 ^ l, none, none) (by omega) ⟨h1, rfl, pow_lt hl⟩
    · rintro ⟨M2, s, z1, z2⟩ ⟨k2, e2, b2⟩
      dsimp only at k2 e2 b2 ⊢
      rw [B_230_20]
      simp (disch := omega) only [lAdd, addL, lMul, mulL, nMul, nI_add, subL, lSub, nSub, nDec, nCl, lCl, nVp, lVp, nLe, nLt, nEq, lLe, leL, lLt, ltL, eqL, lEq, nM1, nM2, litLt0, one01, zero01, oneNe0, xupE, xupA, xupK, xI_I, xS_I, xF_I, xJ_I, xI_R, xS_R, xF_R, xJ_R, xI_L, xS_L, xF_L, xJ_L, xcat_s, le46, ge16, or_true, true_or, false_or, or_false, eq_self, Option.toList_some, Option.toList_none, List.cons_append, List.nil_append, true_and, and_true, not_false_eq_true, not_true_eq_false, if_true, if_false, if_pos]
      rw [e2]
      exact hQ M2 k2.1
    · rintro k ⟨M2, s, z1, z2⟩ hk ⟨k2, e2, b2⟩ ih
      dsimp only at k2 e2 b2 ⊢
      rw [iter_s, ← e2] at ih
      rw [B_230_20]
      simp (disch := omega) only [lAdd, addL, lMul, mulL, nMul, nI_add, subL, lSub, nSub, nDec, nCl, lCl, nVp, lVp, nLe, nLt, nEq, lLe, leL, lLt, ltL, eqL, lEq, nM1, nM2, litLt0, one01, zero01, oneNe0, xupE, xupA, xupK, xI_I, xS_I, xF_I, xJ_I, xI_R, xS_R, xF_R, xJ_R, xI_L, xS_L, xF_L, xJ_L, xcat_s, le46, ge16, or_true, true_or, false_or, or_false, eq_self, Option.toList_some, Option.toList_none, List.cons_append, List.nil_append, true_and, and_true, not_false_eq_true, not_true_eq_false, if_true, if_false, if_neg]
      refine x_for (tN (zT S)) (fun m (u : XM × Nat × Option Value) => RQ M0 lv S (zF S) (tS (zT S) 2) 0 u.1 ∧ u.2.1 = iter (fun m s => iter (rb1 p m) (tN (zT S)) s) m s ∧ u.2.1 < 2 ^ tN (zT S)) (fun m u => RG xprog 230 29 [some (.ref 439), some (.int (nI l)), some (.int (nI u.2.1)), some (.int (nI k)), some (.int (nI m)), u.2.2] [] u.1 Q) ?_ ?_ 0 (M2, s, z2) (by omega) ⟨k2, rfl, b2⟩
      · rintro ⟨M3, u, z3⟩ ⟨k3, e3, b3⟩
        dsimp only at k3 e3 b3 ⊢
        rw [B_230_29]
        simp (disch := omega) only [k3.2.1.s.s, k3.2.1.s.f, k3.2.1.v, k3.2.1.n, k3.2.1.r, lAdd, addL, lMul, mulL, nMul, nI_add, subL, lSub, nSub, nDec, nCl, lCl, nVp, lVp, nLe, nLt, nEq, lLe, leL, lLt, ltL, eqL, lEq, nM1, nM2, litLt0, one01, zero01, oneNe0, xupE, xupA, xupK, xI_I, xS_I, xF_I, xJ_I, xI_R, xS_R, xF_R, xJ_R, xI_L, xS_L, xF_L, xJ_L, xcat_s, le46, ge16, or_true, true_or, false_or, or_false, eq_self, Option.toList_some, Option.toList_none, List.cons_append, List.nil_append, true_and, and_true, not_false_eq_true, not_true_eq_false, if_true, if_false, Nat.le_refl]
        exact ih (M3, u, _, _) ⟨k3, e3, b3⟩
      · rintro m ⟨M3, u, z3⟩ hm ⟨k3, e3, b3⟩ ih2
        dsimp only at k3 e3 b3 ⊢
        rw [iter_s, ← e3] at ih2
        rw [B_230_29]
        simp (disch := omega) only [k3.2.1.s.s, k3.2.1.s.f, k3.2.1.v, k3.2.1.n, k3.2.1.r, lAdd, addL, lMul, mulL, nMul, nI_add, subL, lSub, nSub, nDec, nCl, lCl, nVp, lVp, nLe, nLt, nEq, lLe, leL, lLt, ltL, eqL, lEq, nM1, nM2, litLt0, one01, zero01, oneNe0, xupE, xupA, xupK, xI_I, xS_I, xF_I, xJ_I, xI_R, xS_R, xF_R, xJ_R, xI_L, xS_L, xF_L, xJ_L, xcat_s, le46, ge16, or_true, true_or, false_or, or_false, eq_self, Option.toList_some, Option.toList_none, List.cons_append, List.nil_append, true_and, and_true, not_false_eq_true, not_true_eq_false, if_true, if_false, if_neg]
        refine x_for (tN (zT S)) (fun o (y : XM × Nat) => RQ M0 lv S (zF S) (tS (zT S) 2) 0 y.1 ∧ y.2 = iter (rb1 p m) o u ∧ y.2 < 2 ^ tN (zT S)) (fun o y => RG xprog 230 46 [some (.ref 439), some (.int (nI l)), some (.int (nI y.2)), some (.int (nI k)), some (.int (nI m)), some (.int (nI o))] [] y.1 Q) ?_ ?_ 0 (M3, u) (by omega) ⟨k3, rfl, b3⟩
        · rintro ⟨M4, y⟩ ⟨k4, e4, b4⟩
          dsimp only at k4 e4 b4 ⊢
          rw [B_230_46]
          simp (disch := omega) only [k4.2.1.s.s, k4.2.1.s.f, k4.2.1.v, k4.2.1.n, k4.2.1.r, lAdd, addL, lMul, mulL, nMul, nI_add, subL, lSub, nSub, nDec, nCl, lCl, nVp, lVp, nLe, nLt, nEq, lLe, leL, lLt, ltL, eqL, lEq, nM1, nM2, litLt0, one01, zero01, oneNe0, xupE, xupA, xupK, xI_I, xS_I, xF_I, xJ_I, xI_R, xS_R, xF_R, xJ_R, xI_L, xS_L, xF_L, xJ_L, xcat_s, le46, ge16, or_true, true_or, false_or, or_false, eq_self, Option.toList_some, Option.toList_none, List.cons_append, List.nil_append, true_and, and_true, not_false_eq_true, not_true_eq_false, if_true, if_false, Nat.le_refl]
          exact ih2 (M4, y, _) ⟨k4, e4, b4⟩
        · rintro o ⟨M4, y⟩ ho ⟨k4, e4, b4⟩ ih3
          dsimp only at k4 e4 b4 ⊢
          rw [iter_s, ← e4, rb1] at ih3
          have y8 := lt128 n7 b4
          rw [B_230_46]
          simp (disch := omega) only [k4.2.1.s.s, k4.2.1.s.f, k4.2.1.v, k4.2.1.n, k4.2.1.r, lAdd, addL, lMul, mulL, nMul, nI_add, subL, lSub, nSub, nDec, nCl, lCl, nVp, lVp, nLe, nLt, nEq, lLe, leL, lLt, ltL, eqL, lEq, nM1, nM2, litLt0, one01, zero01, oneNe0, xupE, xupA, xupK, xI_I, xS_I, xF_I, xJ_I, xI_R, xS_R, xF_R, xJ_R, xI_L, xS_L, xF_L, xJ_L, xcat_s, le46, ge16, or_true, true_or, false_or, or_false, eq_self, Option.toList_some, Option.toList_none, List.cons_append, List.nil_append, true_and, and_true, not_false_eq_true, not_true_eq_false, if_true, if_false, if_neg, shr_or y8 (show m < 8 by omega) (show o < 8 by omega)]
          by_cases ht : y.testBit m = true ∨ y.testBit o = true
          · rw [if_pos ht, if_neg (fun z => z rfl)]
            refine q_doesAnswer k4 hm ho ?_
            intro M5 k5
            simp (disch := omega) only [lAdd, addL, lMul, mulL, nMul, nI_add, subL, lSub, nSub, nDec, nCl, lCl, nVp, lVp, nLe, nLt, nEq, lLe, leL, lLt, ltL, eqL, lEq, nM1, nM2, litLt0, one01, zero01, oneNe0, xupE, xupA, xupK, xI_I, xS_I, xF_I, xJ_I, xI_R, xS_R, xF_R, xJ_R, xI_L, xS_L, xF_L, xJ_L, xcat_s, le46, ge16, or_true, true_or, false_or, or_false, eq_self, Option.toList_some, Option.toList_none, List.cons_append, List.nil_append, true_and, and_true, not_false_eq_true, not_true_eq_false, if_true, if_false, B_230_83, sh1 (show m < 8 by omega), sh1 (show o < 8 by omega), i32_or]
            by_cases ha : ansb (zT S) (oD (zF S)) m o
            · rw [if_pos ha, if_neg (by decide)]
              have hpt : p m o = true := by rw [hpe]; exact decide_eq_true ha
              rw [if_pos ⟨ht, hpt⟩] at ih3
              refine ih3 (M5, y ||| (2 ^ m ||| 2 ^ o)) ⟨k5, rfl, Nat.or_lt_two_pow b4 (Nat.or_lt_two_pow (pow_lt hm) (pow_lt ho))⟩
            · rw [if_neg ha, if_pos rfl]
              have hpf : ¬ p m o = true := by rw [hpe, decide_eq_true_eq]; exact ha
              rw [if_neg (fun z => hpf z.2)] at ih3
              exact ih3 (M5, y) ⟨k5, rfl, b4⟩
          · rw [if_neg ht, if_pos (by decide)]
            rw [if_neg (fun z => ht z.1)] at ih3
            exact ih3 (M4, y) ⟨k4, rfl, b4⟩
  · rw [if_neg hx, if_neg (by decide)]
    rw [if_neg hx] at hQ
    exact hQ M h
