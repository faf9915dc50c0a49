/-! the tape: feed, back -/
def byt (w s : Int32) : Int32 := vp_nar .byte ((Int32.toInt8 ((Int32.toUInt32 w >>> (Int32.toUInt32 s &&& Int32.toUInt32 31)).toInt32)).toInt32)
theorem byt_r (w : Int32) : (Int32.toInt8 (w >>> ((24 : Int32) &&& 31))) = Int32.toInt8 ((Int32.toUInt32 w >>> (Int32.toUInt32 24 &&& Int32.toUInt32 31)).toInt32) ∧ (Int32.toInt8 (w >>> ((16 : Int32) &&& 31))) = Int32.toInt8 ((Int32.toUInt32 w >>> (Int32.toUInt32 16 &&& Int32.toUInt32 31)).toInt32) ∧ (Int32.toInt8 (w >>> ((8 : Int32) &&& 31))) = Int32.toInt8 ((Int32.toUInt32 w >>> (Int32.toUInt32 8 &&& Int32.toUInt32 31)).toInt32) ∧ (Int32.toInt8 (w >>> ((0 : Int32) &&& 31))) = Int32.toInt8 ((Int32.toUInt32 w >>> (Int32.toUInt32 0 &&& Int32.toUInt32 31)).toInt32) := by
  have key : ∀ (k : Nat) (a : Int32) (b : UInt32), k ≤ 24 → (a.toBitVec.smod 32).toNat = k → b.toNat % 32 = k → Int32.toInt8 (w >>> a) = Int32.toInt8 (w.toUInt32 >>> b).toInt32 := by
    intro k a b hk ha hb
    apply Int8.toBitVec_inj.mp
    apply BitVec.eq_of_getLsbD_eq
    intro i hi
    have e1 : (w >>> a).toInt8.toBitVec = (w.toBitVec.sshiftRight k).setWidth 8 := by
      rw [Int32.toBitVec_toInt8, Int32.toBitVec_shiftRight, BitVec.sshiftRight', ha, BitVec.signExtend_eq_setWidth_of_le _ (by omega)]
    have e2 : ((w.toUInt32 >>> b).toInt32).toInt8.toBitVec = (w.toBitVec >>> k).setWidth 8 := by
      rw [Int32.toBitVec_toInt8, BitVec.signExtend_eq_setWidth_of_le _ (by omega)]
      show ((w.toUInt32 >>> b).toBitVec).setWidth 8 = _
      rw [UInt32.toBitVec_shiftRight]
      congr 1
      show w.toBitVec >>> (b.toBitVec % 32) = _
      rw [BitVec.ushiftRight_eq', BitVec.toNat_umod]
      congr 1
    rw [e1, e2, BitVec.getLsbD_setWidth, BitVec.getLsbD_setWidth, BitVec.getLsbD_sshiftRight, BitVec.getLsbD_ushiftRight]
    simp only [show k + i < 32 by omega, if_true, show ¬ 32 ≤ i by omega, decide_false, Bool.not_false, Bool.true_and]
  exact ⟨key 24 _ _ (by omega) (by decide) (by decide), key 16 _ _ (by omega) (by decide) (by decide), key 8 _ _ (by omega) (by decide) (by decide), key 0 _ _ (by omega) (by decide) (by decide)⟩
def addW (f : Nat → Int32) (n : Nat) (w : Int32) : Nat → Int32 := xone (xone (xone (xone f n (byt w 24)) (n + 1) (byt w 16)) (n + 2) (byt w 8)) (n + 3) (byt w 0)
theorem sh8 : (24 : Int32) + (-8) = 16 ∧ (16 : Int32) + (-8) = 8 ∧ (8 : Int32) + (-8) = 0 ∧ (0 : Int32) + (-8) = -8 := by decide
theorem cut4 {f g : Nat → Int32} {n : Nat} (x : Int32) (h : ∀ i, i < n → f i = g i) : ∀ i, i < n + 1 → xone f n x i = xone g n x i := by
  intro i hi
  rw [xo_at, xo_at]
  by_cases q : i = n
  · rw [if_pos q, if_pos q]
  · rw [if_neg q, if_neg q]; exact h i (by omega)
/-- one byte -/
theorem c_byte {M : XM} {n : Nat} {w s s' : Int32} {f : Nat → Int32} {Q : Option Value → XM → Prop} (hs : xS M 17 = (7, 0) ∧ xF M 17 0 = 18 ∧ xS M 18 = (41, 2000)) (hn : n < 2000) (h1 : xI M 17 1 = nI n) (h2 : ∀ i, i < n → xI M 18 i = f i) (hp : ¬ s < 0) (hs' : s + (-8) = s')
    (hQ : ∀ M' : XM, Ex (fun a k => a = 18 ∨ (a = 17 ∧ k = 1)) M M' → xI M' 17 1 = nI (n + 1) → (∀ i, i < n + 1 → xI M' 18 i = xone f n (byt w s) i) → RG xprog 32 3 [some (.ref 17), some (.int w), some (.int s')] [] M' Q) :
    RG xprog 32 3 [some (.ref 17), some (.int w), some (.int s)] [] M Q := by
  rw [B_32_3, if_neg hp]
  simp (disch := omega) only [hs, h1, lAdd, addL, lMul, mulL, nMul, nI_add, subL, lSub, nSub, nDec, nCl, lCl, nVp, lVp, nLe, nLt, nEq, lLe, leL, lLt, ltL, eqL, lEq, nM1, nM2, litLt0, one01, zero01, oneNe0, xupE, xupA, xupK, xI_I, xS_I, xF_I, xJ_I, xI_R, xS_R, xF_R, xJ_R, xI_L, xS_L, xF_L, xJ_L, xcat_s, le46, ge16, or_true, true_or, false_or, or_false, eq_self, Option.toList_some, Option.toList_none, List.cons_append, List.nil_append, true_and, and_true, not_false_eq_true, not_true_eq_false, if_true, if_false, if_neg, nFalse]
  rw [if_pos (by omega), B_32_30]
  simp (disch := omega) only [hs, h1, lAdd, addL, lMul, mulL, nMul, nI_add, subL, lSub, nSub, nDec, nCl, lCl, nVp, lVp, nLe, nLt, nEq, lLe, leL, lLt, ltL, eqL, lEq, nM1, nM2, litLt0, one01, zero01, oneNe0, xupE, xupA, xupK, xI_I, xS_I, xF_I, xJ_I, xI_R, xS_R, xF_R, xJ_R, xI_L, xS_L, xF_L, xJ_L, xcat_s, le46, ge16, or_true, true_or, false_or, or_false, eq_self, Option.toList_some, Option.toList_none, List.cons_append, List.nil_append, true_and, and_true, not_false_eq_true, not_true_eq_false, if_true, if_false]
  rw [hs']
  refine hQ _ (((Ex.refl _ _).wr _ (by omega)).wr _ (by omega)) ?_ ?_
  · simp (disch := omega) only [lAdd, addL, lMul, mulL, nMul, nI_add, subL, lSub, nSub, nDec, nCl, lCl, nVp, lVp, nLe, nLt, nEq, lLe, leL, lLt, ltL, eqL, lEq, nM1, nM2, litLt0, one01, zero01, oneNe0, xupE, xupA, xupK, xI_I, xS_I, xF_I, xJ_I, xI_R, xS_R, xF_R, xJ_R, xI_L, xS_L, xF_L, xJ_L, xcat_s, le46, ge16, or_true, true_or, false_or, or_false, eq_self, Option.toList_some, Option.toList_none, List.cons_append, List.nil_append, true_and, and_true, not_false_eq_true, not_true_eq_false, if_true, if_false]
  · intro i hi
    rw [xI_I, xupR _ _ _ (by omega), xI_I, xup_s]
    exact cut4 _ h2 i hi
theorem c_addWord {M : XM} {n : Nat} {w : Int32} {f : Nat → Int32} {Q : Option Value → XM → Prop} (hs : xS M 17 = (7, 0) ∧ xF M 17 0 = 18 ∧ xS M 18 = (41, 2000)) (hn : n + 4 ≤ 2000) (h1 : xI M 17 1 = nI n) (h2 : ∀ i, i < n → xI M 18 i = f i)
    (hQ : ∀ M' : XM, Ex (fun a k => a = 18 ∨ (a = 17 ∧ k = 1)) M M' → xI M' 17 1 = nI (n + 4) → (∀ i, i < n + 4 → xI M' 18 i = addW f n w i) → Q none M') :
    RG xprog 32 0 [some (.ref 17), some (.int w), none] [] M Q := by
  have hs' : ∀ M' : XM, Ex (fun a k => a = 18 ∨ (a = 17 ∧ k = 1)) M M' → xS M' 17 = (7, 0) ∧ xF M' 17 0 = 18 ∧ xS M' 18 = (41, 2000) := fun M' e => by rw [e.S, e.F]; exact hs
  rw [B_32_0]
  refine c_byte (s := 24) hs (by omega) h1 h2 (by decide) sh8.1 ?_
  intro M1 e1 a1 b1
  refine c_byte (s := 16) (hs' M1 e1) (by omega) a1 b1 (by decide) sh8.2.1 ?_
  intro M2 e2 a2 b2
  have e2 := e1.trans e2
  refine c_byte (s := 8) (hs' M2 e2) (by omega) a2 b2 (by decide) sh8.2.2.1 ?_
  intro M3 e3 a3 b3
  have e3 := e2.trans e3
  refine c_byte (s := 0) (hs' M3 e3) (by omega) a3 b3 (by decide) sh8.2.2.2 ?_
  intro M4 e4 a4 b4
  rw [B_32_3, if_pos (by decide)]
  exact hQ M4 (e3.trans e4) a4 b4
theorem r_byte {M : XM} {n : Nat} {w s s' : Int32} {f : Nat → Int32} {Q : Option Value → XM → Prop} (hs : RSh M) (hn : n < 2000) (h1 : xI M 439 2 = nI n) (h2 : ∀ i, i < n → xI M 440 i = f i) (hp : ¬ s < 0) (hs' : s + (-8) = s') (hb : Int32.toInt8 (w >>> (s &&& 31)) = Int32.toInt8 ((Int32.toUInt32 w >>> (Int32.toUInt32 s &&& Int32.toUInt32 31)).toInt32))
    (hQ : ∀ M' : XM, Ex (fun a k => a = 440 ∨ (a = 439 ∧ k = 2)) M M' → xI M' 439 2 = nI (n + 1) → (∀ i, i < n + 1 → xI M' 440 i = xone f n (byt w s) i) → RG xprog 34 3 [some (.ref 439), some (.int w), some (.int s')] [] M' Q) :
    RG xprog 34 3 [some (.ref 439), some (.int w), some (.int s)] [] M Q := by
  rw [B_34_3, if_neg hp]
  simp (disch := omega) only [hs.s, hs.f, h1, lAdd, addL, lMul, mulL, nMul, nI_add, subL, lSub, nSub, nDec, nCl, lCl, nVp, lVp, nLe, nLt, nEq, lLe, leL, lLt, ltL, eqL, lEq, nM1, nM2, litLt0, one01, zero01, oneNe0, xupE, xupA, xupK, xI_I, xS_I, xF_I, xJ_I, xI_R, xS_R, xF_R, xJ_R, xI_L, xS_L, xF_L, xJ_L, xcat_s, le46, ge16, or_true, true_or, false_or, or_false, eq_self, Option.toList_some, Option.toList_none, List.cons_append, List.nil_append, true_and, and_true, not_false_eq_true, not_true_eq_false, if_true, if_false, if_neg, nFalse]
  rw [if_pos (by omega), B_34_30, hb, hs']
  refine hQ _ (((Ex.refl _ _).wr _ (by omega)).wr _ (by omega)) ?_ ?_
  · simp (disch := omega) only [lAdd, addL, lMul, mulL, nMul, nI_add, subL, lSub, nSub, nDec, nCl, lCl, nVp, lVp, nLe, nLt, nEq, lLe, leL, lLt, ltL, eqL, lEq, nM1, nM2, litLt0, one01, zero01, oneNe0, xupE, xupA, xupK, xI_I, xS_I, xF_I, xJ_I, xI_R, xS_R, xF_R, xJ_R, xI_L, xS_L, xF_L, xJ_L, xcat_s, le46, ge16, or_true, true_or, false_or, or_false, eq_self, Option.toList_some, Option.toList_none, List.cons_append, List.nil_append, true_and, and_true, not_false_eq_true, not_true_eq_false, if_true, if_false]
  · intro i hi
    rw [xI_I, xupR _ _ _ (by omega), xI_I, xup_s]
    exact cut4 _ h2 i hi
theorem r_put {M : XM} {n : Nat} {w : Int32} {f : Nat → Int32} {Q : Option Value → XM → Prop} (hs : RSh M) (hn : n + 4 ≤ 2000) (h1 : xI M 439 2 = nI n) (h2 : ∀ i, i < n → xI M 440 i = f i)
    (hQ : ∀ M' : XM, Ex (fun a k => a = 440 ∨ (a = 439 ∧ k = 2)) M M' → xI M' 439 2 = nI (n + 4) → (∀ i, i < n + 4 → xI M' 440 i = addW f n w i) → Q none M') :
    RG xprog 34 0 [some (.ref 439), some (.int w), none] [] M Q := by
  obtain ⟨q1, q2, q3, q4⟩ := byt_r w
  rw [B_34_0]
  refine r_byte (s := 24) hs (by omega) h1 h2 (by decide) sh8.1 q1 ?_
  intro M1 e1 a1 b1
  refine r_byte (s := 16) (hs.ex e1) (by omega) a1 b1 (by decide) sh8.2.1 q2 ?_
  intro M2 e2 a2 b2
  have e2 := e1.trans e2
  refine r_byte (s := 8) (hs.ex e2) (by omega) a2 b2 (by decide) sh8.2.2.1 q3 ?_
  intro M3 e3 a3 b3
  have e3 := e2.trans e3
  refine r_byte (s := 0) (hs.ex e3) (by omega) a3 b3 (by decide) sh8.2.2.2 q4 ?_
  intro M4 e4 a4 b4
  rw [B_34_3, if_pos (by decide)]
  exact hQ M4 (e3.trans e4) a4 b4
abbrev okF (S : XS) : Prop := zPn S + 20 ≤ 2000
def S_feed (S : XS) (a b c d e : Int32) : XS := setP S (zPn S + 20, addW (addW (addW (addW (addW (zP S) (zPn S) a) (zPn S + 4) b) (zPn S + 8) c) (zPn S + 12) d) (zPn S + 16) e)
theorem CW.setTp {M M' : XM} {t : Nat} {S : XS} (h : CW M t S) (e : Ex (fun a k => a = 18 ∨ (a = 17 ∧ k = 1)) M M') {n : Nat} {f : Nat → Int32} (h1 : xI M' 17 1 = nI n) (h2 : ∀ i, i < n → xI M' 18 i = f i) : CW M' t (setP S (n, f)) :=
  ⟨h.1.ex e, h.k_tx e (by intro a k z1 z2; omega), h.2.2.1.ex e, h.k_of e (by intro a k z1 z2; omega), h.k_ah e (by intro a k z1 z2; omega), ⟨h1, h2⟩, h.k_pl e (by omega), h.k_hs e (by intro a k z; omega), h.k_sl e ⟨by omega, by intro a k z1 z2; omega⟩, h.k_td e ⟨by omega, by intro a k z1 z2; omega⟩⟩
theorem RWd.setTp {M M' : XM} {lv : Nat} {S : XS} (h : RWd M lv S) (e : Ex (fun a k => a = 440 ∨ (a = 439 ∧ k = 2)) M M') {n : Nat} {f : Nat → Int32} (h1 : xI M' 439 2 = nI n) (h2 : ∀ i, i < n → xI M' 440 i = f i) : RWd M' lv (setP S (n, f)) :=
  ⟨h.k_w e (by intro a k z; unfold rNT; omega), h.k_of e (by intro k; omega), ⟨h1, h2⟩, h.k_pl e (by omega), h.k_hs e ⟨by omega, by intro k; omega⟩, h.k_sl e (by intro k; omega), h.k_td e ⟨by omega, by intro k; omega⟩⟩
theorem c_feed {M : XM} {t B : Nat} {S : XS} {a b c d e : Int32} {Q : Option Value → XM → Prop} (h : CW M t S) (hi : SInv B S)
    (hQ : ∀ M' : XM, Ex cR M M' → CW M' t (if okF S then S_feed S a b c d e else S) → Q (some (.int (if okF S then nI (zPn S + 20) else -1))) M') :
    RG xprog 33 0 [some (.ref 16), some (.int a), some (.int b), some (.int c), some (.int d), some (.int e)] [] M Q := by
  have p2 := hi.2.2.2.1
  have hs : xS M 17 = (7, 0) ∧ xF M 17 0 = 18 ∧ xS M 18 = (41, 2000) := ⟨h.tp.1, h.tp.2.1, h.tp.2.2.1⟩
  have hs' : ∀ M' : XM, Ex (fun a k => a = 18 ∨ (a = 17 ∧ k = 1)) M M' → xS M' 17 = (7, 0) ∧ xF M' 17 0 = 18 ∧ xS M' 18 = (41, 2000) := fun M' e => by rw [e.S, e.F]; exact hs
  have hd : ∀ M' : XM, Ex (fun a k => a = 18 ∨ (a = 17 ∧ k = 1)) M M' → xS M' 16 = (11, 0) ∧ xF M' 16 0 = 17 := fun M' e => by rw [e.S, e.F]; exact ⟨h.d.1, h.d.2.1⟩
  rw [B_33_0]
  simp (disch := omega) only [h.d, hs, h.tp, lAdd, addL, lMul, mulL, nMul, nI_add, subL, lSub, nSub, nDec, nCl, lCl, nVp, lVp, nLe, nLt, nEq, lLe, leL, lLt, ltL, eqL, lEq, nM1, nM2, litLt0, one01, zero01, oneNe0, xupE, xupA, xupK, xI_I, xS_I, xF_I, xJ_I, xI_R, xS_R, xF_R, xJ_R, xI_L, xS_L, xF_L, xJ_L, xcat_s, le46, ge16, or_true, true_or, false_or, or_false, eq_self, Option.toList_some, Option.toList_none, List.cons_append, List.nil_append, true_and, and_true, not_false_eq_true, not_true_eq_false, if_true, if_false, B_31_0, ite_i, B_33_9]
  by_cases ok : okF S
  · rw [if_pos ok, if_pos ok] at hQ
    rw [if_neg (show ¬ 2000 < zPn S + 20 from fun q => by unfold okF at ok; omega)]
    have ok' : zPn S + 20 ≤ 2000 := ok
    refine c_addWord hs (by omega) h.tp.2.2.2 h.2.2.2.2.2.1.2 ?_
    intro M1 e1 a1 b1
    simp (disch := omega) only [lAdd, addL, lMul, mulL, nMul, nI_add, subL, lSub, nSub, nDec, nCl, lCl, nVp, lVp, nLe, nLt, nEq, lLe, leL, lLt, ltL, eqL, lEq, nM1, nM2, litLt0, one01, zero01, oneNe0, xupE, xupA, xupK, xI_I, xS_I, xF_I, xJ_I, xI_R, xS_R, xF_R, xJ_R, xI_L, xS_L, xF_L, xJ_L, xcat_s, le46, ge16, or_true, true_or, false_or, or_false, eq_self, Option.toList_some, Option.toList_none, List.cons_append, List.nil_append, true_and, and_true, not_false_eq_true, not_true_eq_false, if_true, if_false, B_33_22, hd M1 e1, hs' M1 e1]
    refine c_addWord (hs' M1 e1) (by omega) a1 b1 ?_
    intro M2 e2 a2 b2
    have e2 := e1.trans e2
    simp (disch := omega) only [lAdd, addL, lMul, mulL, nMul, nI_add, subL, lSub, nSub, nDec, nCl, lCl, nVp, lVp, nLe, nLt, nEq, lLe, leL, lLt, ltL, eqL, lEq, nM1, nM2, litLt0, one01, zero01, oneNe0, xupE, xupA, xupK, xI_I, xS_I, xF_I, xJ_I, xI_R, xS_R, xF_R, xJ_R, xI_L, xS_L, xF_L, xJ_L, xcat_s, le46, ge16, or_true, true_or, false_or, or_false, eq_self, Option.toList_some, Option.toList_none, List.cons_append, List.nil_append, true_and, and_true, not_false_eq_true, not_true_eq_false, if_true, if_false, B_33_30, hd M2 e2, hs' M2 e2]
    refine c_addWord (hs' M2 e2) (by omega) a2 b2 ?_
    intro M3 e3 a3 b3
    have e3 := e2.trans e3
    simp (disch := omega) only [lAdd, addL, lMul, mulL, nMul, nI_add, subL, lSub, nSub, nDec, nCl, lCl, nVp, lVp, nLe, nLt, nEq, lLe, leL, lLt, ltL, eqL, lEq, nM1, nM2, litLt0, one01, zero01, oneNe0, xupE, xupA, xupK, xI_I, xS_I, xF_I, xJ_I, xI_R, xS_R, xF_R, xJ_R, xI_L, xS_L, xF_L, xJ_L, xcat_s, le46, ge16, or_true, true_or, false_or, or_false, eq_self, Option.toList_some, Option.toList_none, List.cons_append, List.nil_append, true_and, and_true, not_false_eq_true, not_true_eq_false, if_true, if_false, B_33_38, hd M3 e3, hs' M3 e3]
    refine c_addWord (hs' M3 e3) (by omega) a3 b3 ?_
    intro M4 e4 a4 b4
    have e4 := e3.trans e4
    simp (disch := omega) only [lAdd, addL, lMul, mulL, nMul, nI_add, subL, lSub, nSub, nDec, nCl, lCl, nVp, lVp, nLe, nLt, nEq, lLe, leL, lLt, ltL, eqL, lEq, nM1, nM2, litLt0, one01, zero01, oneNe0, xupE, xupA, xupK, xI_I, xS_I, xF_I, xJ_I, xI_R, xS_R, xF_R, xJ_R, xI_L, xS_L, xF_L, xJ_L, xcat_s, le46, ge16, or_true, true_or, false_or, or_false, eq_self, Option.toList_some, Option.toList_none, List.cons_append, List.nil_append, true_and, and_true, not_false_eq_true, not_true_eq_false, if_true, if_false, B_33_47, hd M4 e4, hs' M4 e4]
    refine c_addWord (hs' M4 e4) (by omega) a4 b4 ?_
    intro M5 e5 a5 b5
    have e5 := e4.trans e5
    simp (disch := omega) only [lAdd, addL, lMul, mulL, nMul, nI_add, subL, lSub, nSub, nDec, nCl, lCl, nVp, lVp, nLe, nLt, nEq, lLe, leL, lLt, ltL, eqL, lEq, nM1, nM2, litLt0, one01, zero01, oneNe0, xupE, xupA, xupK, xI_I, xS_I, xF_I, xJ_I, xI_R, xS_R, xF_R, xJ_R, xI_L, xS_L, xF_L, xJ_L, xcat_s, le46, ge16, or_true, true_or, false_or, or_false, eq_self, Option.toList_some, Option.toList_none, List.cons_append, List.nil_append, true_and, and_true, not_false_eq_true, not_true_eq_false, if_true, if_false, B_33_56, hd M5 e5, hs' M5 e5, a5]
    exact hQ M5 (e5.mono fun a k q => by unfold cR; omega) (h.setTp e5 a5 b5)
  · rw [if_neg ok, if_neg ok] at hQ
    rw [if_pos (show 2000 < zPn S + 20 by unfold okF at ok; omega)]
    exact hQ M (Ex.refl _ _) h
theorem r_feed {M : XM} {lv B : Nat} {S : XS} {a b c d e : Int32} {Q : Option Value → XM → Prop} (h : RWd M lv S) (hi : SInv B S)
    (hQ : ∀ M' : XM, Ex rR M M' → RWd M' lv (if okF S then S_feed S a b c d e else S) → Q (some (.int (if okF S then nI (zPn S + 20) else -1))) M') :
    RG xprog 35 0 [some (.ref 439), some (.int a), some (.int b), some (.int c), some (.int d), some (.int e)] [] M Q := by
  have p2 := hi.2.2.2.1
  rw [B_35_0]
  simp (disch := omega) only [h.1.1.s, h.2.2.1.1, lAdd, addL, lMul, mulL, nMul, nI_add, subL, lSub, nSub, nDec, nCl, lCl, nVp, lVp, nLe, nLt, nEq, lLe, leL, lLt, ltL, eqL, lEq, nM1, nM2, litLt0, one01, zero01, oneNe0, xupE, xupA, xupK, xI_I, xS_I, xF_I, xJ_I, xI_R, xS_R, xF_R, xJ_R, xI_L, xS_L, xF_L, xJ_L, xcat_s, le46, ge16, or_true, true_or, false_or, or_false, eq_self, Option.toList_some, Option.toList_none, List.cons_append, List.nil_append, true_and, and_true, not_false_eq_true, not_true_eq_false, if_true, if_false]
  by_cases ok : okF S
  · rw [if_pos ok, if_pos ok] at hQ
    rw [if_pos (show zPn S + 20 ≤ 2000 from ok)]
    have ok' : zPn S + 20 ≤ 2000 := ok
    refine r_put h.1.1 (by omega) h.2.2.1.1 h.2.2.1.2 ?_
    intro M1 e1 a1 b1
    simp (disch := omega) only [lAdd, addL, lMul, mulL, nMul, nI_add, subL, lSub, nSub, nDec, nCl, lCl, nVp, lVp, nLe, nLt, nEq, lLe, leL, lLt, ltL, eqL, lEq, nM1, nM2, litLt0, one01, zero01, oneNe0, xupE, xupA, xupK, xI_I, xS_I, xF_I, xJ_I, xI_R, xS_R, xF_R, xJ_R, xI_L, xS_L, xF_L, xJ_L, xcat_s, le46, ge16, or_true, true_or, false_or, or_false, eq_self, Option.toList_some, Option.toList_none, List.cons_append, List.nil_append, true_and, and_true, not_false_eq_true, not_true_eq_false, if_true, if_false, B_35_20, (h.1.1.ex e1).s]
    refine r_put (h.1.1.ex e1) (by omega) a1 b1 ?_
    intro M2 e2 a2 b2
    have e2 := e1.trans e2
    simp (disch := omega) only [lAdd, addL, lMul, mulL, nMul, nI_add, subL, lSub, nSub, nDec, nCl, lCl, nVp, lVp, nLe, nLt, nEq, lLe, leL, lLt, ltL, eqL, lEq, nM1, nM2, litLt0, one01, zero01, oneNe0, xupE, xupA, xupK, xI_I, xS_I, xF_I, xJ_I, xI_R, xS_R, xF_R, xJ_R, xI_L, xS_L, xF_L, xJ_L, xcat_s, le46, ge16, or_true, true_or, false_or, or_false, eq_self, Option.toList_some, Option.toList_none, List.cons_append, List.nil_append, true_and, and_true, not_false_eq_true, not_true_eq_false, if_true, if_false, B_35_25, (h.1.1.ex e2).s]
    refine r_put (h.1.1.ex e2) (by omega) a2 b2 ?_
    intro M3 e3 a3 b3
    have e3 := e2.trans e3
    simp (disch := omega) only [lAdd, addL, lMul, mulL, nMul, nI_add, subL, lSub, nSub, nDec, nCl, lCl, nVp, lVp, nLe, nLt, nEq, lLe, leL, lLt, ltL, eqL, lEq, nM1, nM2, litLt0, one01, zero01, oneNe0, xupE, xupA, xupK, xI_I, xS_I, xF_I, xJ_I, xI_R, xS_R, xF_R, xJ_R, xI_L, xS_L, xF_L, xJ_L, xcat_s, le46, ge16, or_true, true_or, false_or, or_false, eq_self, Option.toList_some, Option.toList_none, List.cons_append, List.nil_append, true_and, and_true, not_false_eq_true, not_true_eq_false, if_true, if_false, B_35_30, (h.1.1.ex e3).s]
    refine r_put (h.1.1.ex e3) (by omega) a3 b3 ?_
    intro M4 e4 a4 b4
    have e4 := e3.trans e4
    simp (disch := omega) only [lAdd, addL, lMul, mulL, nMul, nI_add, subL, lSub, nSub, nDec, nCl, lCl, nVp, lVp, nLe, nLt, nEq, lLe, leL, lLt, ltL, eqL, lEq, nM1, nM2, litLt0, one01, zero01, oneNe0, xupE, xupA, xupK, xI_I, xS_I, xF_I, xJ_I, xI_R, xS_R, xF_R, xJ_R, xI_L, xS_L, xF_L, xJ_L, xcat_s, le46, ge16, or_true, true_or, false_or, or_false, eq_self, Option.toList_some, Option.toList_none, List.cons_append, List.nil_append, true_and, and_true, not_false_eq_true, not_true_eq_false, if_true, if_false, B_35_36, (h.1.1.ex e4).s]
    refine r_put (h.1.1.ex e4) (by omega) a4 b4 ?_
    intro M5 e5 a5 b5
    have e5 := e4.trans e5
    simp (disch := omega) only [lAdd, addL, lMul, mulL, nMul, nI_add, subL, lSub, nSub, nDec, nCl, lCl, nVp, lVp, nLe, nLt, nEq, lLe, leL, lLt, ltL, eqL, lEq, nM1, nM2, litLt0, one01, zero01, oneNe0, xupE, xupA, xupK, xI_I, xS_I, xF_I, xJ_I, xI_R, xS_R, xF_R, xJ_R, xI_L, xS_L, xF_L, xJ_L, xcat_s, le46, ge16, or_true, true_or, false_or, or_false, eq_self, Option.toList_some, Option.toList_none, List.cons_append, List.nil_append, true_and, and_true, not_false_eq_true, not_true_eq_false, if_true, if_false, B_35_42, (h.1.1.ex e5).s, a5]
    exact hQ M5 (e5.mono fun a k q => by unfold rR; omega) (h.setTp e5 a5 b5)
  · rw [if_neg ok, if_neg ok] at hQ
    rw [if_neg (show ¬ zPn S + 20 ≤ 2000 from ok)]
    exact hQ M (Ex.refl _ _) h
theorem i_feed {B : Nat} {S : XS} {a b c d e : Int32} (hi : SInv B S) : SInv B (if okF S then S_feed S a b c d e else S) := by
  split
  · rename_i ok
    obtain ⟨h1, h2, h3, h4, h5⟩ := hi
    exact ⟨h1, h2, h3, ok, h5⟩
  · exact hi
abbrev okB (S : XS) (x : Int32) : Prop := inb x 0 (nI (zPn S))
def S_back (S : XS) (x : Int32) : XS := setP S (zPn S - cN x, zP S)
theorem c_back {M : XM} {t B : Nat} {S : XS} {x : Int32} {Q : Option Value → XM → Prop} (h : CW M t S) (hi : SInv B S)
    (hQ : ∀ M' : XM, Ex cR M M' → CW M' t (if okB S x then S_back S x else S) → Q (some (.int (if okB S x then nI (zPn S - cN x) else -1))) M') :
    RG xprog 36 0 [some (.ref 16), some (.int x)] [] M Q := by
  have p2 := hi.2.2.2.1
  rw [B_36_0]
  simp (disch := omega) only [h.d, h.tp, lAdd, addL, lMul, mulL, nMul, nI_add, subL, lSub, nSub, nDec, nCl, lCl, nVp, lVp, nLe, nLt, nEq, lLe, leL, lLt, ltL, eqL, lEq, nM1, nM2, litLt0, one01, zero01, oneNe0, xupE, xupA, xupK, xI_I, xS_I, xF_I, xJ_I, xI_R, xS_R, xF_R, xJ_R, xI_L, xS_L, xF_L, xJ_L, xcat_s, le46, ge16, or_true, true_or, false_or, or_false, eq_self, Option.toList_some, Option.toList_none, List.cons_append, List.nil_append, true_and, and_true, not_false_eq_true, not_true_eq_false, if_true, if_false]
  by_cases ok : okB S x
  · rw [if_pos ok, if_pos ok] at hQ
    obtain ⟨k, hk, rfl⟩ := inb_get (n := zPn S) ok (by omega)
    unfold S_back at hQ
    rw [cN_n (by omega)] at hQ
    rw [if_neg ok.1]
    simp (disch := omega) only [lAdd, addL, lMul, mulL, nMul, nI_add, subL, lSub, nSub, nDec, nCl, lCl, nVp, lVp, nLe, nLt, nEq, lLe, leL, lLt, ltL, eqL, lEq, nM1, nM2, litLt0, one01, zero01, oneNe0, xupE, xupA, xupK, xI_I, xS_I, xF_I, xJ_I, xI_R, xS_R, xF_R, xJ_R, xI_L, xS_L, xF_L, xJ_L, xcat_s, le46, ge16, or_true, true_or, false_or, or_false, eq_self, Option.toList_some, Option.toList_none, List.cons_append, List.nil_append, true_and, and_true, not_false_eq_true, not_true_eq_false, if_true, if_false, if_pos]
    have e1 : Ex (fun a k => a = 18 ∨ (a = 17 ∧ k = 1)) M (xmI M 17 1 (nI (zPn S - k))) := (Ex.refl _ _).wr _ (by omega)
    refine hQ _ (e1.mono fun a k q => by unfold cR; omega) (h.setTp e1 (by simp (disch := omega) only [lAdd, addL, lMul, mulL, nMul, nI_add, subL, lSub, nSub, nDec, nCl, lCl, nVp, lVp, nLe, nLt, nEq, lLe, leL, lLt, ltL, eqL, lEq, nM1, nM2, litLt0, one01, zero01, oneNe0, xupE, xupA, xupK, xI_I, xS_I, xF_I, xJ_I, xI_R, xS_R, xF_R, xJ_R, xI_L, xS_L, xF_L, xJ_L, xcat_s, le46, ge16, or_true, true_or, false_or, or_false, eq_self, Option.toList_some, Option.toList_none, List.cons_append, List.nil_append, true_and, and_true, not_false_eq_true, not_true_eq_false, if_true, if_false]) fun i hi => ?_)
    simp (disch := omega) only [lAdd, addL, lMul, mulL, nMul, nI_add, subL, lSub, nSub, nDec, nCl, lCl, nVp, lVp, nLe, nLt, nEq, lLe, leL, lLt, ltL, eqL, lEq, nM1, nM2, litLt0, one01, zero01, oneNe0, xupE, xupA, xupK, xI_I, xS_I, xF_I, xJ_I, xI_R, xS_R, xF_R, xJ_R, xI_L, xS_L, xF_L, xJ_L, xcat_s, le46, ge16, or_true, true_or, false_or, or_false, eq_self, Option.toList_some, Option.toList_none, List.cons_append, List.nil_append, true_and, and_true, not_false_eq_true, not_true_eq_false, if_true, if_false]
    exact h.2.2.2.2.2.1.2 i (by omega)
  · rw [if_neg ok, if_neg ok] at hQ
    by_cases h0 : x < 0
    · rw [if_pos h0]; exact hQ M (Ex.refl _ _) h
    · rw [if_neg h0, if_neg (fun q => ok ⟨h0, by rw [← le_nlt]; exact q⟩)]
      exact hQ M (Ex.refl _ _) h
theorem r_back {M : XM} {lv B : Nat} {S : XS} {x : Int32} {Q : Option Value → XM → Prop} (h : RWd M lv S) (hi : SInv B S)
    (hQ : ∀ M' : XM, Ex rR M M' → RWd M' lv (if okB S x then S_back S x else S) → Q (some (.int (if okB S x then nI (zPn S - cN x) else -1))) M') :
    RG xprog 37 0 [some (.ref 439), some (.int x)] [] M Q := by
  have p2 := hi.2.2.2.1
  rw [B_37_0]
  simp (disch := omega) only [h.1.1.s, h.2.2.1.1, lAdd, addL, lMul, mulL, nMul, nI_add, subL, lSub, nSub, nDec, nCl, lCl, nVp, lVp, nLe, nLt, nEq, lLe, leL, lLt, ltL, eqL, lEq, nM1, nM2, litLt0, one01, zero01, oneNe0, xupE, xupA, xupK, xI_I, xS_I, xF_I, xJ_I, xI_R, xS_R, xF_R, xJ_R, xI_L, xS_L, xF_L, xJ_L, xcat_s, le46, ge16, or_true, true_or, false_or, or_false, eq_self, Option.toList_some, Option.toList_none, List.cons_append, List.nil_append, true_and, and_true, not_false_eq_true, not_true_eq_false, if_true, if_false]
  by_cases ok : okB S x
  · rw [if_pos ok, if_pos ok] at hQ
    obtain ⟨k, hk, rfl⟩ := inb_get (n := zPn S) ok (by omega)
    unfold S_back at hQ
    rw [cN_n (by omega)] at hQ
    rw [if_neg ok.1]
    simp (disch := omega) only [lAdd, addL, lMul, mulL, nMul, nI_add, subL, lSub, nSub, nDec, nCl, lCl, nVp, lVp, nLe, nLt, nEq, lLe, leL, lLt, ltL, eqL, lEq, nM1, nM2, litLt0, one01, zero01, oneNe0, xupE, xupA, xupK, xI_I, xS_I, xF_I, xJ_I, xI_R, xS_R, xF_R, xJ_R, xI_L, xS_L, xF_L, xJ_L, xcat_s, le46, ge16, or_true, true_or, false_or, or_false, eq_self, Option.toList_some, Option.toList_none, List.cons_append, List.nil_append, true_and, and_true, not_false_eq_true, not_true_eq_false, if_true, if_false, if_pos]
    have e1 : Ex (fun a k => a = 440 ∨ (a = 439 ∧ k = 2)) M (xmI M 439 2 (nI (zPn S - k))) := (Ex.refl _ _).wr _ (by omega)
    refine hQ _ (e1.mono fun a k q => by unfold rR; omega) (h.setTp e1 (by simp (disch := omega) only [lAdd, addL, lMul, mulL, nMul, nI_add, subL, lSub, nSub, nDec, nCl, lCl, nVp, lVp, nLe, nLt, nEq, lLe, leL, lLt, ltL, eqL, lEq, nM1, nM2, litLt0, one01, zero01, oneNe0, xupE, xupA, xupK, xI_I, xS_I, xF_I, xJ_I, xI_R, xS_R, xF_R, xJ_R, xI_L, xS_L, xF_L, xJ_L, xcat_s, le46, ge16, or_true, true_or, false_or, or_false, eq_self, Option.toList_some, Option.toList_none, List.cons_append, List.nil_append, true_and, and_true, not_false_eq_true, not_true_eq_false, if_true, if_false]) fun i hi => ?_)
    simp (disch := omega) only [lAdd, addL, lMul, mulL, nMul, nI_add, subL, lSub, nSub, nDec, nCl, lCl, nVp, lVp, nLe, nLt, nEq, lLe, leL, lLt, ltL, eqL, lEq, nM1, nM2, litLt0, one01, zero01, oneNe0, xupE, xupA, xupK, xI_I, xS_I, xF_I, xJ_I, xI_R, xS_R, xF_R, xJ_R, xI_L, xS_L, xF_L, xJ_L, xcat_s, le46, ge16, or_true, true_or, false_or, or_false, eq_self, Option.toList_some, Option.toList_none, List.cons_append, List.nil_append, true_and, and_true, not_false_eq_true, not_true_eq_false, if_true, if_false]
    exact h.2.2.1.2 i (by omega)
  · rw [if_neg ok, if_neg ok] at hQ
    by_cases h0 : x < 0
    · rw [if_pos h0]; exact hQ M (Ex.refl _ _) h
    · rw [if_neg h0, if_neg (fun q => ok ⟨h0, by rw [← le_nlt]; exact q⟩)]
      exact hQ M (Ex.refl _ _) h
theorem i_back {B : Nat} {S : XS} {x : Int32} (hi : SInv B S) : SInv B (if okB S x then S_back S x else S) := by
  split
  · obtain ⟨h1, h2, h3, h4, h5⟩ := hi
    exact ⟨h1, h2, h3, by show zPn S - cN x ≤ 2000; omega, h5⟩
  · exact hi
