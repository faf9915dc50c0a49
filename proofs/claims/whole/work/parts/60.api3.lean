/-! answers: uneasy, favourite -/
abbrev isAt (S : XS) (p x : Int32) : Prop := isLb (tN (zT S)) x ∧ oW (zF S) (cN x) = p
theorem c_isWith {M : XM} {t : Nat} {S : XS} {x : Int32} {Q : Option Value → XM → Prop} (h : CW M t S) : RG xprog 155 0 [some (.ref 16), some (.int x)] [] M Q = Q (some (.int (if isAt S 2 x then 1 else 0))) M := by
  have n7 := h.tx.n7
  rw [B_155_0]
  simp (disch := omega) only [h.d, c_isLetter h, B_155_5, lAdd, addL, lMul, mulL, nMul, nI_add, subL, lSub, nSub, nDec, nCl, lCl, nVp, lVp, nLe, nLt, nEq, lLe, leL, lLt, ltL, eqL, lEq, nM1, nM2, litLt0, one01, zero01, oneNe0, xupE, xupA, xupK, xI_I, xS_I, xF_I, xJ_I, xI_R, xS_R, xF_R, xJ_R, xI_L, xS_L, xF_L, xJ_L, xcat_s, le46, ge16, or_true, true_or, false_or, or_false, eq_self, Option.toList_some, Option.toList_none, List.cons_append, List.nil_append, true_and, and_true, not_false_eq_true, not_true_eq_false, if_true, if_false]
  by_cases hx : isLb (tN (zT S)) x
  · obtain ⟨l, hl, rfl⟩ := isLb_get hx (by omega)
    rw [if_pos hx, if_neg (by decide)]
    simp (disch := omega) only [lAdd, addL, lMul, mulL, nMul, nI_add, subL, lSub, nSub, nDec, nCl, lCl, nVp, lVp, nLe, nLt, nEq, lLe, leL, lLt, ltL, eqL, lEq, nM1, nM2, litLt0, one01, zero01, oneNe0, xupE, xupA, xupK, xI_I, xS_I, xF_I, xJ_I, xI_R, xS_R, xF_R, xJ_R, xI_L, xS_L, xF_L, xJ_L, xcat_s, le46, ge16, or_true, true_or, false_or, or_false, eq_self, Option.toList_some, Option.toList_none, List.cons_append, List.nil_append, true_and, and_true, not_false_eq_true, not_true_eq_false, if_true, if_false, h.d, h.of.f, h.of.v, ite_i]
    congr 3
    by_cases hw : oW (zF S) l = 2
    · rw [if_neg (fun q => q hw), if_pos ⟨hx, by rw [cN_n (by omega)]; exact hw⟩]
    · rw [if_pos hw, if_neg (fun q => hw (by have := q.2; rw [cN_n (by omega)] at this; exact this))]
  · rw [if_neg hx, if_pos rfl, if_neg (fun q => hx q.1)]
theorem c_isOnShelf {M : XM} {t : Nat} {S : XS} {x : Int32} {Q : Option Value → XM → Prop} (h : CW M t S) : RG xprog 147 0 [some (.ref 16), some (.int x)] [] M Q = Q (some (.int (if isAt S 1 x then 1 else 0))) M := by
  have n7 := h.tx.n7
  rw [B_147_0]
  simp (disch := omega) only [h.d, c_isLetter h, B_147_5, lAdd, addL, lMul, mulL, nMul, nI_add, subL, lSub, nSub, nDec, nCl, lCl, nVp, lVp, nLe, nLt, nEq, lLe, leL, lLt, ltL, eqL, lEq, nM1, nM2, litLt0, one01, zero01, oneNe0, xupE, xupA, xupK, xI_I, xS_I, xF_I, xJ_I, xI_R, xS_R, xF_R, xJ_R, xI_L, xS_L, xF_L, xJ_L, xcat_s, le46, ge16, or_true, true_or, false_or, or_false, eq_self, Option.toList_some, Option.toList_none, List.cons_append, List.nil_append, true_and, and_true, not_false_eq_true, not_true_eq_false, if_true, if_false]
  by_cases hx : isLb (tN (zT S)) x
  · obtain ⟨l, hl, rfl⟩ := isLb_get hx (by omega)
    rw [if_pos hx, if_neg (by decide)]
    simp (disch := omega) only [lAdd, addL, lMul, mulL, nMul, nI_add, subL, lSub, nSub, nDec, nCl, lCl, nVp, lVp, nLe, nLt, nEq, lLe, leL, lLt, ltL, eqL, lEq, nM1, nM2, litLt0, one01, zero01, oneNe0, xupE, xupA, xupK, xI_I, xS_I, xF_I, xJ_I, xI_R, xS_R, xF_R, xJ_R, xI_L, xS_L, xF_L, xJ_L, xcat_s, le46, ge16, or_true, true_or, false_or, or_false, eq_self, Option.toList_some, Option.toList_none, List.cons_append, List.nil_append, true_and, and_true, not_false_eq_true, not_true_eq_false, if_true, if_false, h.d, h.of.f, h.of.v, ite_i]
    congr 3
    by_cases hw : oW (zF S) l = 1
    · rw [if_neg (fun q => q hw), if_pos ⟨hx, by rw [cN_n (by omega)]; exact hw⟩]
    · rw [if_pos hw, if_neg (fun q => hw (by have := q.2; rw [cN_n (by omega)] at this; exact this))]
  · rw [if_neg hx, if_pos rfl, if_neg (fun q => hx q.1)]
theorem r_isRead {M : XM} {lv : Nat} {S : XS} {x : Int32} {Q : Option Value → XM → Prop} (h : RWd M lv S) : RG xprog 238 0 [some (.ref 439), some (.int x)] [] M Q = Q (some (.int (if isAt S 2 x then 1 else 0))) M := by
  have n7 := h.1.n7
  rw [B_238_0]
  simp (disch := omega) only [h.1.1.s, r_isLetter h.1, B_238_5, lAdd, addL, lMul, mulL, nMul, nI_add, subL, lSub, nSub, nDec, nCl, lCl, nVp, lVp, nLe, nLt, nEq, lLe, leL, lLt, ltL, eqL, lEq, nM1, nM2, litLt0, one01, zero01, oneNe0, xupE, xupA, xupK, xI_I, xS_I, xF_I, xJ_I, xI_R, xS_R, xF_R, xJ_R, xI_L, xS_L, xF_L, xJ_L, xcat_s, le46, ge16, or_true, true_or, false_or, or_false, eq_self, Option.toList_some, Option.toList_none, List.cons_append, List.nil_append, true_and, and_true, not_false_eq_true, not_true_eq_false, if_true, if_false]
  by_cases hx : isLb (tN (zT S)) x
  · obtain ⟨l, hl, rfl⟩ := isLb_get hx (by omega)
    rw [if_pos hx, if_neg (by decide)]
    simp (disch := omega) only [lAdd, addL, lMul, mulL, nMul, nI_add, subL, lSub, nSub, nDec, nCl, lCl, nVp, lVp, nLe, nLt, nEq, lLe, leL, lLt, ltL, eqL, lEq, nM1, nM2, litLt0, one01, zero01, oneNe0, xupE, xupA, xupK, xI_I, xS_I, xF_I, xJ_I, xI_R, xS_R, xF_R, xJ_R, xI_L, xS_L, xF_L, xJ_L, xcat_s, le46, ge16, or_true, true_or, false_or, or_false, eq_self, Option.toList_some, Option.toList_none, List.cons_append, List.nil_append, true_and, and_true, not_false_eq_true, not_true_eq_false, if_true, if_false, h.1.1.s, h.1.1.f, (h.2.1.1 l (by omega)).1, ite_i]
    congr 3
    by_cases hw : oW (zF S) l = 2
    · rw [if_neg (fun q => q hw), if_pos ⟨hx, by rw [cN_n (by omega)]; exact hw⟩]
    · rw [if_pos hw, if_neg (fun q => hw (by have := q.2; rw [cN_n (by omega)] at this; exact this))]
  · rw [if_neg hx, if_pos rfl, if_neg (fun q => hx q.1)]
def hasL (T : XT) (F : XO) (a : Nat) : Int32 := if oS F a = -2 then 0 else lkv T F (cN (oS F a)) a
abbrev unb (T : XT) (F : XO) (l a : Nat) : Prop := oW F l = 2 ∧ ¬ oH F l = nI a ∧ ¬ lkv T F l a ≤ hasL T F a ∧ ¬ rav T F l a ≤ rav T F l (cN (oH F l))
theorem OInv.w2 {T : XT} {F : XO} (h : OInv T F) {l : Nat} (hl : l < 7) (hw : oW F l = 2) : ∃ a, a < tR T ∧ oH F l = nI a ∧ oS F a = nI l := by
  rcases h.1 l hl with q | ⟨_, _, q⟩
  · exact absurd hw q.2
  · exact q
theorem OInv.s2 {T : XT} {F : XO} (h : OInv T F) {a : Nat} (ha : a < 6) (hs : ¬ oS F a = -2) : ∃ l, l < tN T ∧ oS F a = nI l := by
  rcases h.2.1 a ha with q | ⟨_, l, q1, q2, _⟩
  · exact absurd q hs
  · exact ⟨l, q1, q2⟩
theorem c_wouldMove {M0 M : XM} {t l a B : Nat} {S : XS} {Q : Option Value → XM → Prop} (h : CK M0 t S M) (hi : SInv B S) (hl : l < tN (zT S)) (ha : a < tR (zT S))
    (hQ : ∀ M' : XM, CK M0 t S M' → Q (some (.int (if unb (zT S) (zF S) l a then 1 else 0))) M') :
    RG xprog 212 0 [some (.ref 16), some (.int (nI l)), some (.int (nI a)), none, none] [] M Q := by
  have n7 := h.1.tx.n7
  have r6 := h.1.tx.r6
  rw [B_212_0]
  simp (disch := omega) only [h.1.d, c_isWith h.1, B_212_5, lAdd, addL, lMul, mulL, nMul, nI_add, subL, lSub, nSub, nDec, nCl, lCl, nVp, lVp, nLe, nLt, nEq, lLe, leL, lLt, ltL, eqL, lEq, nM1, nM2, litLt0, one01, zero01, oneNe0, xupE, xupA, xupK, xI_I, xS_I, xF_I, xJ_I, xI_R, xS_R, xF_R, xJ_R, xI_L, xS_L, xF_L, xJ_L, xcat_s, le46, ge16, or_true, true_or, false_or, or_false, eq_self, Option.toList_some, Option.toList_none, List.cons_append, List.nil_append, true_and, and_true, not_false_eq_true, not_true_eq_false, if_true, if_false]
  by_cases hw : oW (zF S) l = 2
  · rw [if_pos (c := isAt S 2 (nI l)) ⟨isLb_nI hl (by omega), by rw [cN_n (by omega)]; exact hw⟩, if_neg (by decide)]
    obtain ⟨b, hb1, hb2, hb3⟩ := hi.2.1.w2 (by omega) hw
    simp (disch := omega) only [h.1.d, h.1.tx.f, h.1.tx.n, h.1.tx.r, h.1.of.f, h.1.of.v, lAdd, addL, lMul, mulL, nMul, nI_add, subL, lSub, nSub, nDec, nCl, lCl, nVp, lVp, nLe, nLt, nEq, lLe, leL, lLt, ltL, eqL, lEq, nM1, nM2, litLt0, one01, zero01, oneNe0, xupE, xupA, xupK, xI_I, xS_I, xF_I, xJ_I, xI_R, xS_R, xF_R, xJ_R, xI_L, xS_L, xF_L, xJ_L, xcat_s, le46, ge16, or_true, true_or, false_or, or_false, eq_self, Option.toList_some, Option.toList_none, List.cons_append, List.nil_append, true_and, and_true, not_false_eq_true, not_true_eq_false, if_true, if_false]
    by_cases hh : oH (zF S) l = nI a
    · rw [if_neg (fun q => q hh)]
      rw [if_neg (fun q => q.2.1 hh)] at hQ
      exact hQ M h
    rw [if_pos hh]
    have fin : ∀ (M1 : XM) (x3 : Int32), CK M0 t S M1 → RG xprog 212 49 [some (.ref 16), some (.int (nI l)), some (.int (nI a)), some (.int x3), none] [.int (hasL (zT S) (zF S) a)] M1 Q := by
      intro M1 x3 k1
      rw [B_212_49]
      simp (disch := omega) only [k1.1.d, k1.1.tx.f, k1.1.tx.n, k1.1.tx.r, k1.1.of.f, k1.1.of.v, lAdd, addL, lMul, mulL, nMul, nI_add, subL, lSub, nSub, nDec, nCl, lCl, nVp, lVp, nLe, nLt, nEq, lLe, leL, lLt, ltL, eqL, lEq, nM1, nM2, litLt0, one01, zero01, oneNe0, xupE, xupA, xupK, xI_I, xS_I, xF_I, xJ_I, xI_R, xS_R, xF_R, xJ_R, xI_L, xS_L, xF_L, xJ_L, xcat_s, le46, ge16, or_true, true_or, false_or, or_false, eq_self, Option.toList_some, Option.toList_none, List.cons_append, List.nil_append, true_and, and_true, not_false_eq_true, not_true_eq_false, if_true, if_false]
      refine c_likesNow k1 (by omega) (by omega) ?_
      intro M2 k2
      simp (disch := omega) only [lAdd, addL, lMul, mulL, nMul, nI_add, subL, lSub, nSub, nDec, nCl, lCl, nVp, lVp, nLe, nLt, nEq, lLe, leL, lLt, ltL, eqL, lEq, nM1, nM2, litLt0, one01, zero01, oneNe0, xupE, xupA, xupK, xI_I, xS_I, xF_I, xJ_I, xI_R, xS_R, xF_R, xJ_R, xI_L, xS_L, xF_L, xJ_L, xcat_s, le46, ge16, or_true, true_or, false_or, or_false, eq_self, Option.toList_some, Option.toList_none, List.cons_append, List.nil_append, true_and, and_true, not_false_eq_true, not_true_eq_false, if_true, if_false, B_212_57, k2.1.d, k2.1.tx.f, k2.1.tx.n, k2.1.tx.r, k2.1.of.f, k2.1.of.v]
      by_cases c1 : lkv (zT S) (zF S) l a ≤ hasL (zT S) (zF S) a
      · rw [if_pos c1]
        rw [if_neg (fun q => q.2.2.1 c1)] at hQ
        exact hQ M2 k2
      rw [if_neg c1]
      refine c_rathersOf k2.1.tx k2.1.of (by omega) (by omega) k2.1.sep ?_
      intro M3 e3
      have k3 := k2.stepX e3
      simp (disch := omega) only [lAdd, addL, lMul, mulL, nMul, nI_add, subL, lSub, nSub, nDec, nCl, lCl, nVp, lVp, nLe, nLt, nEq, lLe, leL, lLt, ltL, eqL, lEq, nM1, nM2, litLt0, one01, zero01, oneNe0, xupE, xupA, xupK, xI_I, xS_I, xF_I, xJ_I, xI_R, xS_R, xF_R, xJ_R, xI_L, xS_L, xF_L, xJ_L, xcat_s, le46, ge16, or_true, true_or, false_or, or_false, eq_self, Option.toList_some, Option.toList_none, List.cons_append, List.nil_append, true_and, and_true, not_false_eq_true, not_true_eq_false, if_true, if_false, B_212_75, k3.1.d, k3.1.tx.f, k3.1.tx.n, k3.1.tx.r, k3.1.of.f, k3.1.of.v, hb2]
      refine c_rathersOf k3.1.tx k3.1.of (by omega) (by omega) k3.1.sep ?_
      intro M4 e4
      have k4 := k3.stepX e4
      have q := hQ M4 k4
      simp (disch := omega) only [lAdd, addL, lMul, mulL, nMul, nI_add, subL, lSub, nSub, nDec, nCl, lCl, nVp, lVp, nLe, nLt, nEq, lLe, leL, lLt, ltL, eqL, lEq, nM1, nM2, litLt0, one01, zero01, oneNe0, xupE, xupA, xupK, xI_I, xS_I, xF_I, xJ_I, xI_R, xS_R, xF_R, xJ_R, xI_L, xS_L, xF_L, xJ_L, xcat_s, le46, ge16, or_true, true_or, false_or, or_false, eq_self, Option.toList_some, Option.toList_none, List.cons_append, List.nil_append, true_and, and_true, not_false_eq_true, not_true_eq_false, if_true, if_false, B_212_96, ite_i]
      by_cases c2 : rav (zT S) (zF S) l a ≤ rav (zT S) (zF S) l b
      · rw [if_pos c2]
        rw [if_neg (fun q => q.2.2.2 (by rw [hb2, cN_n (by omega)]; exact c2))] at q
        exact q
      · rw [if_neg c2]
        rw [if_pos ⟨hw, hh, c1, by rw [hb2, cN_n (by omega)]; exact c2⟩] at q
        exact q
    by_cases hs : oS (zF S) a = -2
    · rw [if_neg (fun q => q hs)]
      have := fin M (oS (zF S) a) h
      unfold hasL at this
      rw [if_pos hs] at this
      exact this
    · rw [if_pos hs]
      obtain ⟨j, hj1, hj2⟩ := hi.2.1.s2 (show a < 6 by omega) hs
      rw [hj2]
      refine c_likesNow h (by omega) (by omega) ?_
      intro M1 k1
      simp (disch := omega) only [lAdd, addL, lMul, mulL, nMul, nI_add, subL, lSub, nSub, nDec, nCl, lCl, nVp, lVp, nLe, nLt, nEq, lLe, leL, lLt, ltL, eqL, lEq, nM1, nM2, litLt0, one01, zero01, oneNe0, xupE, xupA, xupK, xI_I, xS_I, xF_I, xJ_I, xI_R, xS_R, xF_R, xJ_R, xI_L, xS_L, xF_L, xJ_L, xcat_s, le46, ge16, or_true, true_or, false_or, or_false, eq_self, Option.toList_some, Option.toList_none, List.cons_append, List.nil_append, true_and, and_true, not_false_eq_true, not_true_eq_false, if_true, if_false]
      have := fin M1 (nI j) k1
      unfold hasL at this
      rw [if_neg hs, hj2, cN_n (by omega)] at this
      exact this
  · rw [if_neg (c := isAt S 2 (nI l)) (fun q => hw (by have := q.2; rw [cN_n (by omega)] at this; exact this)), if_pos rfl]
    rw [if_neg (fun q => hw q.1)] at hQ
    exact hQ M h
theorem r_areUneasy {M0 M : XM} {lv l a : Nat} {S : XS} {F : XO} {sd st : Int32} {Q : Option Value → XM → Prop} (h : RQ M0 lv S F sd st M) (hl : l < tN (zT S)) (ha : a < tR (zT S))
    (hQ : ∀ M' : XM, RQ M0 lv S F sd st M' → Q (some (.int (if unb (zT S) F l a then 1 else 0))) M') :
    RG xprog 214 0 [some (.ref 439), some (.int (nI l)), some (.int (nI a)), none] [] M Q := by
  have n7 := h.2.1.n7
  have r6 := h.2.1.r6
  rw [B_214_0]
  simp (disch := omega) only [h.2.1.s.s, h.2.1.s.f, h.2.1.v, h.2.1.n, h.2.1.r, h.2.1.l (show l < 7 by omega), lAdd, addL, lMul, mulL, nMul, nI_add, subL, lSub, nSub, nDec, nCl, lCl, nVp, lVp, nLe, nLt, nEq, lLe, leL, lLt, ltL, eqL, lEq, nM1, nM2, litLt0, one01, zero01, oneNe0, xupE, xupA, xupK, xI_I, xS_I, xF_I, xJ_I, xI_R, xS_R, xF_R, xJ_R, xI_L, xS_L, xF_L, xJ_L, xcat_s, le46, ge16, or_true, true_or, false_or, or_false, eq_self, Option.toList_some, Option.toList_none, List.cons_append, List.nil_append, true_and, and_true, not_false_eq_true, not_true_eq_false, if_true, if_false, r_letterOf h.2.1 (show a < 6 by omega), B_214_30]
  by_cases hw : oW F l = 2
  · rw [if_neg (fun q => q hw)]
    obtain ⟨b, hb1, hb2, hb3⟩ := h.2.1.i.w2 (by omega) hw
    by_cases hh : oH F l = nI a
    · rw [if_neg (fun q => q hh)]
      rw [if_neg (fun q => q.2.1 hh)] at hQ
      exact hQ M h
    rw [if_pos hh]
    refine q_rathersOf h hl ha ?_
    intro M1 h1
    simp (disch := omega) only [h1.2.1.s.s, h1.2.1.s.f, h1.2.1.v, h1.2.1.n, h1.2.1.r, h1.2.1.l (show l < 7 by omega), lAdd, addL, lMul, mulL, nMul, nI_add, subL, lSub, nSub, nDec, nCl, lCl, nVp, lVp, nLe, nLt, nEq, lLe, leL, lLt, ltL, eqL, lEq, nM1, nM2, litLt0, one01, zero01, oneNe0, xupE, xupA, xupK, xI_I, xS_I, xF_I, xJ_I, xI_R, xS_R, xF_R, xJ_R, xI_L, xS_L, xF_L, xJ_L, xcat_s, le46, ge16, or_true, true_or, false_or, or_false, eq_self, Option.toList_some, Option.toList_none, List.cons_append, List.nil_append, true_and, and_true, not_false_eq_true, not_true_eq_false, if_true, if_false, B_214_37, hb2]
    refine q_rathersOf h1 hl hb1 ?_
    intro M2 h2
    simp (disch := omega) only [h2.2.1.s.s, h2.2.1.s.f, h2.2.1.v, h2.2.1.n, h2.2.1.r, lAdd, addL, lMul, mulL, nMul, nI_add, subL, lSub, nSub, nDec, nCl, lCl, nVp, lVp, nLe, nLt, nEq, lLe, leL, lLt, ltL, eqL, lEq, nM1, nM2, litLt0, one01, zero01, oneNe0, xupE, xupA, xupK, xI_I, xS_I, xF_I, xJ_I, xI_R, xS_R, xF_R, xJ_R, xI_L, xS_L, xF_L, xJ_L, xcat_s, le46, ge16, or_true, true_or, false_or, or_false, eq_self, Option.toList_some, Option.toList_none, List.cons_append, List.nil_append, true_and, and_true, not_false_eq_true, not_true_eq_false, if_true, if_false, B_214_51]
    by_cases c2 : rav (zT S) F l a ≤ rav (zT S) F l b
    · rw [if_pos c2]
      rw [if_neg (fun q => q.2.2.2 (by rw [hb2, cN_n (by omega)]; exact c2))] at hQ
      exact hQ M2 h2
    rw [if_neg c2]
    refine q_likesOf h2 hl ha ?_
    intro M3 h3
    simp (disch := omega) only [h3.2.1.s.s, h3.2.1.s.f, h3.2.1.v, h3.2.1.n, h3.2.1.r, lAdd, addL, lMul, mulL, nMul, nI_add, subL, lSub, nSub, nDec, nCl, lCl, nVp, lVp, nLe, nLt, nEq, lLe, leL, lLt, ltL, eqL, lEq, nM1, nM2, litLt0, one01, zero01, oneNe0, xupE, xupA, xupK, xI_I, xS_I, xF_I, xJ_I, xI_R, xS_R, xF_R, xJ_R, xI_L, xS_L, xF_L, xJ_L, xcat_s, le46, ge16, or_true, true_or, false_or, or_false, eq_self, Option.toList_some, Option.toList_none, List.cons_append, List.nil_append, true_and, and_true, not_false_eq_true, not_true_eq_false, if_true, if_false, B_214_60]
    have fin : ∀ (M4 : XM), RQ M0 lv S F sd st M4 → RG xprog 214 74 [some (.ref 439), some (.int (nI l)), some (.int (nI a)), some (.int (oS F a))] [.int (hasL (zT S) F a), .int (lkv (zT S) F l a)] M4 Q := by
      intro M4 h4
      have q := hQ M4 h4
      simp (disch := omega) only [lAdd, addL, lMul, mulL, nMul, nI_add, subL, lSub, nSub, nDec, nCl, lCl, nVp, lVp, nLe, nLt, nEq, lLe, leL, lLt, ltL, eqL, lEq, nM1, nM2, litLt0, one01, zero01, oneNe0, xupE, xupA, xupK, xI_I, xS_I, xF_I, xJ_I, xI_R, xS_R, xF_R, xJ_R, xI_L, xS_L, xF_L, xJ_L, xcat_s, le46, ge16, or_true, true_or, false_or, or_false, eq_self, Option.toList_some, Option.toList_none, List.cons_append, List.nil_append, true_and, and_true, not_false_eq_true, not_true_eq_false, if_true, if_false, B_214_74, ite_i]
      by_cases c1 : lkv (zT S) F l a ≤ hasL (zT S) F a
      · rw [if_pos c1]
        rw [if_neg (fun q => q.2.2.1 c1)] at q
        exact q
      · rw [if_neg c1]
        rw [if_pos ⟨hw, hh, c1, by rw [hb2, cN_n (by omega)]; exact c2⟩] at q
        exact q
    by_cases hs : oS F a = -2
    · have := fin M3 h3
      unfold hasL at this
      rw [if_pos hs, hs] at this
      rw [hs, if_neg (by decide)]
      exact this
    · obtain ⟨j, hj1, hj2⟩ := h.2.1.i.s2 (show a < 6 by omega) hs
      have fin' := fin
      unfold hasL at fin'
      rw [if_neg hs, hj2, cN_n (by omega)] at fin'
      rw [hj2, if_pos (by rw [lLe (by omega) (by omega)]; omega)]
      refine q_likesOf h3 hj1 ha ?_
      intro M4 h4
      simp (disch := omega) only [lAdd, addL, lMul, mulL, nMul, nI_add, subL, lSub, nSub, nDec, nCl, lCl, nVp, lVp, nLe, nLt, nEq, lLe, leL, lLt, ltL, eqL, lEq, nM1, nM2, litLt0, one01, zero01, oneNe0, xupE, xupA, xupK, xI_I, xS_I, xF_I, xJ_I, xI_R, xS_R, xF_R, xJ_R, xI_L, xS_L, xF_L, xJ_L, xcat_s, le46, ge16, or_true, true_or, false_or, or_false, eq_self, Option.toList_some, Option.toList_none, List.cons_append, List.nil_append, true_and, and_true, not_false_eq_true, not_true_eq_false, if_true, if_false]
      exact fin' M4 h4
  · rw [if_pos hw]
    rw [if_neg (fun q => hw q.1)] at hQ
    exact hQ M h
def un1 (T : XT) (F : XO) (l a : Nat) (s : Int32 × Int32) : Int32 × Int32 := if unb T F l a then (s.1 + 1, if ¬ s.1 = 0 then s.2 else nI (10 * l + a)) else s
def unF (T : XT) (F : XO) : Int32 × Int32 := iter (fun l s => iter (un1 T F l) (tR T) s) (tN T) (0, -2)
abbrev is01 (w : Int32) : Prop := w = 0 ∨ w = 1
def A_uneasy (S : XS) (w : Int32) : Int32 := if is01 w then (if w = 0 then (unF (zT S) (zF S)).1 else (unF (zT S) (zF S)).2) else -1
theorem in01 (w : Int32) : inb w 0 1 ↔ is01 w := by
  have e0 : (0 : Int32).toInt = 0 := rfl
  have e1 : (1 : Int32).toInt = 1 := rfl
  unfold inb is01
  rw [i32_lt, i32_lt, e0, e1, ← Int32.toInt_inj, ← Int32.toInt_inj, e0, e1]
  omega
theorem c_uneasy {M0 M : XM} {t B : Nat} {S : XS} {w : Int32} {Q : Option Value → XM → Prop} (h : CK M0 t S M) (hi : SInv B S)
    (hQ : ∀ M' : XM, CK M0 t S M' → Q (some (.int (A_uneasy S w))) M') :
    RG xprog 213 0 [some (.ref 16), some (.int w), none, none, none, none] [] M Q := by
  have n7 := h.1.tx.n7
  have r6 := h.1.tx.r6
  unfold A_uneasy at hQ
  have go : is01 w → RG xprog 213 11 [some (.ref 16), some (.int w), none, none, none, none] [] M Q := by
    intro hw
    rw [if_pos hw] at hQ
    rw [B_213_11]
    refine x_for (tN (zT S)) (fun i (s : XM × Int32 × Int32 × Option Value) => CK M0 t S s.1 ∧ (s.2.1, s.2.2.1) = iter (fun l s => iter (un1 (zT S) (zF S) l) (tR (zT S)) s) i (0, -2)) (fun i s => RG xprog 213 19 [some (.ref 16), some (.int w), some (.int s.2.1), some (.int s.2.2.1), some (.int (nI i)), s.2.2.2] [] s.1 Q) ?_ ?_ 0 (M, 0, -2, none) (by omega) ⟨h, rfl⟩
    · rintro ⟨M1, x, y, z⟩ ⟨k1, e1⟩
      dsimp only at k1 e1 ⊢
      have q := hQ M1 k1
      unfold unF at q
      rw [← e1] at q
      rw [B_213_19]
      simp (disch := omega) only [k1.1.d, k1.1.tx.f, k1.1.tx.n, k1.1.tx.r, k1.1.of.f, k1.1.of.v, lAdd, addL, lMul, mulL, nMul, nI_add, subL, lSub, nSub, nDec, nCl, lCl, nVp, lVp, nLe, nLt, nEq, lLe, leL, lLt, ltL, eqL, lEq, nM1, nM2, litLt0, one01, zero01, oneNe0, xupE, xupA, xupK, xI_I, xS_I, xF_I, xJ_I, xI_R, xS_R, xF_R, xJ_R, xI_L, xS_L, xF_L, xJ_L, xcat_s, le46, ge16, or_true, true_or, false_or, or_false, eq_self, Option.toList_some, Option.toList_none, List.cons_append, List.nil_append, true_and, and_true, not_false_eq_true, not_true_eq_false, if_true, if_false, Nat.le_refl]
      by_cases w0 : w = 0
      · rw [if_neg (fun z => z w0)]
        rw [if_pos w0] at q
        exact q
      · rw [if_pos w0]
        rw [if_neg w0] at q
        exact q
    · rintro l ⟨M1, x, y, z⟩ hl ⟨k1, e1⟩ ih
      dsimp only at k1 e1 ⊢
      rw [iter_s, ← e1] at ih
      rw [B_213_19]
      simp (disch := omega) only [k1.1.d, k1.1.tx.f, k1.1.tx.n, k1.1.tx.r, k1.1.of.f, k1.1.of.v, lAdd, addL, lMul, mulL, nMul, nI_add, subL, lSub, nSub, nDec, nCl, lCl, nVp, lVp, nLe, nLt, nEq, lLe, leL, lLt, ltL, eqL, lEq, nM1, nM2, litLt0, one01, zero01, oneNe0, xupE, xupA, xupK, xI_I, xS_I, xF_I, xJ_I, xI_R, xS_R, xF_R, xJ_R, xI_L, xS_L, xF_L, xJ_L, xcat_s, le46, ge16, or_true, true_or, false_or, or_false, eq_self, Option.toList_some, Option.toList_none, List.cons_append, List.nil_append, true_and, and_true, not_false_eq_true, not_true_eq_false, if_true, if_false, if_neg]
      refine x_for (tR (zT S)) (fun i (s : XM × Int32 × Int32) => CK M0 t S s.1 ∧ (s.2.1, s.2.2) = iter (un1 (zT S) (zF S) l) i (x, y)) (fun i s => RG xprog 213 34 [some (.ref 16), some (.int w), some (.int s.2.1), some (.int s.2.2), some (.int (nI l)), some (.int (nI i))] [] s.1 Q) ?_ ?_ 0 (M1, x, y) (by omega) ⟨k1, rfl⟩
      · rintro ⟨M2, x2, y2⟩ ⟨k2, e2⟩
        dsimp only at k2 e2 ⊢
        rw [B_213_34]
        simp (disch := omega) only [k2.1.d, k2.1.tx.f, k2.1.tx.n, k2.1.tx.r, k2.1.of.f, k2.1.of.v, lAdd, addL, lMul, mulL, nMul, nI_add, subL, lSub, nSub, nDec, nCl, lCl, nVp, lVp, nLe, nLt, nEq, lLe, leL, lLt, ltL, eqL, lEq, nM1, nM2, litLt0, one01, zero01, oneNe0, xupE, xupA, xupK, xI_I, xS_I, xF_I, xJ_I, xI_R, xS_R, xF_R, xJ_R, xI_L, xS_L, xF_L, xJ_L, xcat_s, le46, ge16, or_true, true_or, false_or, or_false, eq_self, Option.toList_some, Option.toList_none, List.cons_append, List.nil_append, true_and, and_true, not_false_eq_true, not_true_eq_false, if_true, if_false, Nat.le_refl]
        exact ih (M2, x2, y2, _) ⟨k2, e2⟩
      · rintro a ⟨M2, x2, y2⟩ ha ⟨k2, e2⟩ ih2
        dsimp only at k2 e2 ⊢
        rw [iter_s, ← e2, un1] at ih2
        rw [B_213_34]
        simp (disch := omega) only [k2.1.d, k2.1.tx.f, k2.1.tx.n, k2.1.tx.r, k2.1.of.f, k2.1.of.v, lAdd, addL, lMul, mulL, nMul, nI_add, subL, lSub, nSub, nDec, nCl, lCl, nVp, lVp, nLe, nLt, nEq, lLe, leL, lLt, ltL, eqL, lEq, nM1, nM2, litLt0, one01, zero01, oneNe0, xupE, xupA, xupK, xI_I, xS_I, xF_I, xJ_I, xI_R, xS_R, xF_R, xJ_R, xI_L, xS_L, xF_L, xJ_L, xcat_s, le46, ge16, or_true, true_or, false_or, or_false, eq_self, Option.toList_some, Option.toList_none, List.cons_append, List.nil_append, true_and, and_true, not_false_eq_true, not_true_eq_false, if_true, if_false, if_neg]
        refine c_wouldMove k2 hi hl ha ?_
        intro M3 k3
        simp (disch := omega) only [lAdd, addL, lMul, mulL, nMul, nI_add, subL, lSub, nSub, nDec, nCl, lCl, nVp, lVp, nLe, nLt, nEq, lLe, leL, lLt, ltL, eqL, lEq, nM1, nM2, litLt0, one01, zero01, oneNe0, xupE, xupA, xupK, xI_I, xS_I, xF_I, xJ_I, xI_R, xS_R, xF_R, xJ_R, xI_L, xS_L, xF_L, xJ_L, xcat_s, le46, ge16, or_true, true_or, false_or, or_false, eq_self, Option.toList_some, Option.toList_none, List.cons_append, List.nil_append, true_and, and_true, not_false_eq_true, not_true_eq_false, if_true, if_false, B_213_54]
        by_cases hu : unb (zT S) (zF S) l a
        · rw [if_pos hu, if_neg (by decide)]
          rw [if_pos hu] at ih2
          by_cases h0 : x2 = 0
          · rw [if_neg (fun z => z h0)]
            rw [if_neg (fun z => z h0)] at ih2
            exact ih2 (M3, _, _) ⟨k3, rfl⟩
          · rw [if_pos h0]
            rw [if_pos h0] at ih2
            exact ih2 (M3, _, _) ⟨k3, rfl⟩
        · rw [if_neg hu, if_pos rfl]
          rw [if_neg hu] at ih2
          exact ih2 (M3, x2, y2) ⟨k3, rfl⟩
  rw [B_213_0]
  by_cases w0 : w = 0
  · rw [if_pos w0]; exact go (Or.inl w0)
  rw [if_neg w0]
  by_cases w1 : w = 1
  · rw [if_pos w1]; exact go (Or.inr w1)
  rw [if_neg w1]
  rw [if_neg (fun q => q.elim w0 w1)] at hQ
  exact hQ M h
theorem r_uneasy {M0 M : XM} {lv B : Nat} {S : XS} {w : Int32} {Q : Option Value → XM → Prop} (h : RK M0 lv S M) (hi : SInv B S) (hB : B ≤ 99999)
    (hQ : ∀ M' : XM, RK M0 lv S M' → Q (some (.int (A_uneasy S w))) M') :
    RG xprog 215 0 [some (.ref 439), some (.int w), none, none, none, none] [] M Q := by
  have n7 := h.1.1.n7
  have r6 := h.1.1.r6
  have l2 := h.1.1.lv2
  unfold A_uneasy at hQ
  rw [B_215_0]
  simp (disch := omega) only [h.1.1.1.s, r_in, B_215_6, lAdd, addL, lMul, mulL, nMul, nI_add, subL, lSub, nSub, nDec, nCl, lCl, nVp, lVp, nLe, nLt, nEq, lLe, leL, lLt, ltL, eqL, lEq, nM1, nM2, litLt0, one01, zero01, oneNe0, xupE, xupA, xupK, xI_I, xS_I, xF_I, xJ_I, xI_R, xS_R, xF_R, xJ_R, xI_L, xS_L, xF_L, xJ_L, xcat_s, le46, ge16, or_true, true_or, false_or, or_false, eq_self, Option.toList_some, Option.toList_none, List.cons_append, List.nil_append, true_and, and_true, not_false_eq_true, not_true_eq_false, if_true, if_false]
  by_cases hw : is01 w
  · rw [if_pos ((in01 w).mpr hw), if_pos (by decide)]
    rw [if_pos hw] at hQ
    refine r_copies h hi hB ?_
    intro M1 h1
    simp (disch := omega) only [lAdd, addL, lMul, mulL, nMul, nI_add, subL, lSub, nSub, nDec, nCl, lCl, nVp, lVp, nLe, nLt, nEq, lLe, leL, lLt, ltL, eqL, lEq, nM1, nM2, litLt0, one01, zero01, oneNe0, xupE, xupA, xupK, xI_I, xS_I, xF_I, xJ_I, xI_R, xS_R, xF_R, xJ_R, xI_L, xS_L, xF_L, xJ_L, xcat_s, le46, ge16, or_true, true_or, false_or, or_false, eq_self, Option.toList_some, Option.toList_none, List.cons_append, List.nil_append, true_and, and_true, not_false_eq_true, not_true_eq_false, if_true, if_false, B_215_15]
    refine x_for (tN (zT S)) (fun i (s : XM × Int32 × Int32 × Option Value) => RQ M0 lv S (zF S) (tS (zT S) 2) 0 s.1 ∧ (s.2.1, s.2.2.1) = iter (fun l s => iter (un1 (zT S) (zF S) l) (tR (zT S)) s) i (0, -2)) (fun i s => RG xprog 215 23 [some (.ref 439), some (.int w), some (.int s.2.1), some (.int s.2.2.1), some (.int (nI i)), s.2.2.2] [] s.1 Q) ?_ ?_ 0 (M1, 0, -2, none) (by omega) ⟨h1, rfl⟩
    · rintro ⟨M1, x, y, z⟩ ⟨k1, e1⟩
      dsimp only at k1 e1 ⊢
      have q := hQ M1 k1.1
      unfold unF at q
      rw [← e1] at q
      rw [B_215_23]
      simp (disch := omega) only [k1.2.1.s.s, k1.2.1.s.f, k1.2.1.v, k1.2.1.n, k1.2.1.r, lAdd, addL, lMul, mulL, nMul, nI_add, subL, lSub, nSub, nDec, nCl, lCl, nVp, lVp, nLe, nLt, nEq, lLe, leL, lLt, ltL, eqL, lEq, nM1, nM2, litLt0, one01, zero01, oneNe0, xupE, xupA, xupK, xI_I, xS_I, xF_I, xJ_I, xI_R, xS_R, xF_R, xJ_R, xI_L, xS_L, xF_L, xJ_L, xcat_s, le46, ge16, or_true, true_or, false_or, or_false, eq_self, Option.toList_some, Option.toList_none, List.cons_append, List.nil_append, true_and, and_true, not_false_eq_true, not_true_eq_false, if_true, if_false, Nat.le_refl]
      by_cases w0 : w = 0
      · rw [if_neg (fun z => z w0)]
        rw [if_pos w0] at q
        exact q
      · rw [if_pos w0]
        rw [if_neg w0] at q
        exact q
    · rintro l ⟨M1, x, y, z⟩ hl ⟨k1, e1⟩ ih
      dsimp only at k1 e1 ⊢
      rw [iter_s, ← e1] at ih
      rw [B_215_23]
      simp (disch := omega) only [k1.2.1.s.s, k1.2.1.s.f, k1.2.1.v, k1.2.1.n, k1.2.1.r, lAdd, addL, lMul, mulL, nMul, nI_add, subL, lSub, nSub, nDec, nCl, lCl, nVp, lVp, nLe, nLt, nEq, lLe, leL, lLt, ltL, eqL, lEq, nM1, nM2, litLt0, one01, zero01, oneNe0, xupE, xupA, xupK, xI_I, xS_I, xF_I, xJ_I, xI_R, xS_R, xF_R, xJ_R, xI_L, xS_L, xF_L, xJ_L, xcat_s, le46, ge16, or_true, true_or, false_or, or_false, eq_self, Option.toList_some, Option.toList_none, List.cons_append, List.nil_append, true_and, and_true, not_false_eq_true, not_true_eq_false, if_true, if_false, if_neg]
      refine x_for (tR (zT S)) (fun i (s : XM × Int32 × Int32) => RQ M0 lv S (zF S) (tS (zT S) 2) 0 s.1 ∧ (s.2.1, s.2.2) = iter (un1 (zT S) (zF S) l) i (x, y)) (fun i s => RG xprog 215 40 [some (.ref 439), some (.int w), some (.int s.2.1), some (.int s.2.2), some (.int (nI l)), some (.int (nI i))] [] s.1 Q) ?_ ?_ 0 (M1, x, y) (by omega) ⟨k1, rfl⟩
      · rintro ⟨M2, x2, y2⟩ ⟨k2, e2⟩
        dsimp only at k2 e2 ⊢
        rw [B_215_40]
        simp (disch := omega) only [k2.2.1.s.s, k2.2.1.s.f, k2.2.1.v, k2.2.1.n, k2.2.1.r, lAdd, addL, lMul, mulL, nMul, nI_add, subL, lSub, nSub, nDec, nCl, lCl, nVp, lVp, nLe, nLt, nEq, lLe, leL, lLt, ltL, eqL, lEq, nM1, nM2, litLt0, one01, zero01, oneNe0, xupE, xupA, xupK, xI_I, xS_I, xF_I, xJ_I, xI_R, xS_R, xF_R, xJ_R, xI_L, xS_L, xF_L, xJ_L, xcat_s, le46, ge16, or_true, true_or, false_or, or_false, eq_self, Option.toList_some, Option.toList_none, List.cons_append, List.nil_append, true_and, and_true, not_false_eq_true, not_true_eq_false, if_true, if_false, Nat.le_refl]
        exact ih (M2, x2, y2, _) ⟨k2, e2⟩
      · rintro a ⟨M2, x2, y2⟩ ha ⟨k2, e2⟩ ih2
        dsimp only at k2 e2 ⊢
        rw [iter_s, ← e2, un1] at ih2
        rw [B_215_40]
        simp (disch := omega) only [k2.2.1.s.s, k2.2.1.s.f, k2.2.1.v, k2.2.1.n, k2.2.1.r, lAdd, addL, lMul, mulL, nMul, nI_add, subL, lSub, nSub, nDec, nCl, lCl, nVp, lVp, nLe, nLt, nEq, lLe, leL, lLt, ltL, eqL, lEq, nM1, nM2, litLt0, one01, zero01, oneNe0, xupE, xupA, xupK, xI_I, xS_I, xF_I, xJ_I, xI_R, xS_R, xF_R, xJ_R, xI_L, xS_L, xF_L, xJ_L, xcat_s, le46, ge16, or_true, true_or, false_or, or_false, eq_self, Option.toList_some, Option.toList_none, List.cons_append, List.nil_append, true_and, and_true, not_false_eq_true, not_true_eq_false, if_true, if_false, if_neg]
        refine r_areUneasy k2 hl ha ?_
        intro M3 k3
        simp (disch := omega) only [lAdd, addL, lMul, mulL, nMul, nI_add, subL, lSub, nSub, nDec, nCl, lCl, nVp, lVp, nLe, nLt, nEq, lLe, leL, lLt, ltL, eqL, lEq, nM1, nM2, litLt0, one01, zero01, oneNe0, xupE, xupA, xupK, xI_I, xS_I, xF_I, xJ_I, xI_R, xS_R, xF_R, xJ_R, xI_L, xS_L, xF_L, xJ_L, xcat_s, le46, ge16, or_true, true_or, false_or, or_false, eq_self, Option.toList_some, Option.toList_none, List.cons_append, List.nil_append, true_and, and_true, not_false_eq_true, not_true_eq_false, if_true, if_false, B_215_62]
        by_cases hu : unb (zT S) (zF S) l a
        · rw [if_pos hu, if_pos (by decide)]
          rw [if_pos hu] at ih2
          by_cases h0 : x2 = 0
          · rw [if_neg (fun z => z h0)]
            rw [if_neg (fun z => z h0)] at ih2
            exact ih2 (M3, _, _) ⟨k3, rfl⟩
          · rw [if_pos h0]
            rw [if_pos h0] at ih2
            exact ih2 (M3, _, _) ⟨k3, rfl⟩
        · rw [if_neg hu, if_neg (by decide)]
          rw [if_neg hu] at ih2
          exact ih2 (M3, x2, y2) ⟨k3, rfl⟩
  · rw [if_neg (fun q => hw ((in01 w).mp q)), if_neg (by decide)]
    rw [if_neg hw] at hQ
    exact hQ M h
theorem iheld0 (x : Int32) : (0 : Int32) ≤ iheld x := by
  rw [← held_w]
  split
  · split
    · assumption
    · decide
  · decide
theorem lkv0 (T : XT) (F : XO) (l a : Nat) : 0 ≤ (lkv T F l a).toInt := by
  have := iheld0 (tW T 0 (vvar T F l a))
  rw [i32_le] at this
  exact this
def fav1 (T : XT) (F : XO) (a l : Nat) (s : Int32 × Int32) : Int32 × Int32 := if oW F l = 3 then s else if lkv T F l a ≤ s.2 then s else (nI l, lkv T F l a)
def favF (T : XT) (F : XO) (a : Nat) : Int32 × Int32 := iter (fav1 T F a) (tN T) (-2, -2)
def A_favourite (S : XS) (x w : Int32) : Int32 := if isLb (tR (zT S)) x then (if is01 w then (if w = 0 then (favF (zT S) (zF S) (cN x)).1 else (favF (zT S) (zF S) (cN x)).2) else -1) else -1
theorem c_favourite {M0 M : XM} {t : Nat} {S : XS} {x w : Int32} {Q : Option Value → XM → Prop} (h : CK M0 t S M)
    (hQ : ∀ M' : XM, CK M0 t S M' → Q (some (.int (A_favourite S x w))) M') :
    RG xprog 216 0 [some (.ref 16), some (.int x), some (.int w), none, none, none, none] [] M Q := by
  have n7 := h.1.tx.n7
  have r6 := h.1.tx.r6
  unfold A_favourite at hQ
  rw [B_216_0]
  simp (disch := omega) only [h.1.d, c_isReader h.1, B_216_5, lAdd, addL, lMul, mulL, nMul, nI_add, subL, lSub, nSub, nDec, nCl, lCl, nVp, lVp, nLe, nLt, nEq, lLe, leL, lLt, ltL, eqL, lEq, nM1, nM2, litLt0, one01, zero01, oneNe0, xupE, xupA, xupK, xI_I, xS_I, xF_I, xJ_I, xI_R, xS_R, xF_R, xJ_R, xI_L, xS_L, xF_L, xJ_L, xcat_s, le46, ge16, or_true, true_or, false_or, or_false, eq_self, Option.toList_some, Option.toList_none, List.cons_append, List.nil_append, true_and, and_true, not_false_eq_true, not_true_eq_false, if_true, if_false]
  by_cases hx : isLb (tR (zT S)) x
  · obtain ⟨a, ha, rfl⟩ := isLb_get hx (by omega)
    rw [if_pos hx, if_neg (by decide)]
    rw [if_pos hx, cN_n (by omega)] at hQ
    by_cases hw : is01 w
    · have hw' := (in01 w).mpr hw
      rw [if_neg hw'.1, if_pos (by rw [le_nlt]; exact hw'.2)]
      rw [if_pos hw] at hQ
      refine x_for (tN (zT S)) (fun i (s : XM × Int32 × Int32 × Option Value) => CK M0 t S s.1 ∧ (s.2.1, s.2.2.1) = iter (fav1 (zT S) (zF S) a) i (-2, -2)) (fun i s => RG xprog 216 29 [some (.ref 16), some (.int (nI a)), some (.int w), some (.int s.2.1), some (.int s.2.2.1), some (.int (nI i)), s.2.2.2] [] s.1 Q) ?_ ?_ 0 (M, -2, -2, none) (by omega) ⟨h, rfl⟩
      · rintro ⟨M1, x, y, z⟩ ⟨k1, e1⟩
        dsimp only at k1 e1 ⊢
        have q := hQ M1 k1
        unfold favF at q
        rw [← e1] at q
        rw [B_216_29]
        simp (disch := omega) only [k1.1.d, k1.1.tx.f, k1.1.tx.n, k1.1.tx.r, k1.1.of.f, k1.1.of.v, lAdd, addL, lMul, mulL, nMul, nI_add, subL, lSub, nSub, nDec, nCl, lCl, nVp, lVp, nLe, nLt, nEq, lLe, leL, lLt, ltL, eqL, lEq, nM1, nM2, litLt0, one01, zero01, oneNe0, xupE, xupA, xupK, xI_I, xS_I, xF_I, xJ_I, xI_R, xS_R, xF_R, xJ_R, xI_L, xS_L, xF_L, xJ_L, xcat_s, le46, ge16, or_true, true_or, false_or, or_false, eq_self, Option.toList_some, Option.toList_none, List.cons_append, List.nil_append, true_and, and_true, not_false_eq_true, not_true_eq_false, if_true, if_false, Nat.le_refl]
        by_cases w0 : w = 0
        · rw [if_neg (fun z => z w0)]
          rw [if_pos w0] at q
          exact q
        · rw [if_pos w0]
          rw [if_neg w0] at q
          exact q
      · rintro l ⟨M1, x, y, z⟩ hl ⟨k1, e1⟩ ih
        dsimp only at k1 e1 ⊢
        rw [iter_s, ← e1, fav1] at ih
        rw [B_216_29]
        simp (disch := omega) only [k1.1.d, k1.1.tx.f, k1.1.tx.n, k1.1.tx.r, k1.1.of.f, k1.1.of.v, lAdd, addL, lMul, mulL, nMul, nI_add, subL, lSub, nSub, nDec, nCl, lCl, nVp, lVp, nLe, nLt, nEq, lLe, leL, lLt, ltL, eqL, lEq, nM1, nM2, litLt0, one01, zero01, oneNe0, xupE, xupA, xupK, xI_I, xS_I, xF_I, xJ_I, xI_R, xS_R, xF_R, xJ_R, xI_L, xS_L, xF_L, xJ_L, xcat_s, le46, ge16, or_true, true_or, false_or, or_false, eq_self, Option.toList_some, Option.toList_none, List.cons_append, List.nil_append, true_and, and_true, not_false_eq_true, not_true_eq_false, if_true, if_false, if_neg]
        by_cases hb : oW (zF S) l = 3
        · rw [if_pos hb]
          rw [if_pos hb] at ih
          exact ih (M1, x, y, z) ⟨k1, rfl⟩
        · rw [if_neg hb]
          rw [if_neg hb] at ih
          refine c_likesNow k1 (by omega) (by omega) ?_
          intro M2 k2
          simp (disch := omega) only [lAdd, addL, lMul, mulL, nMul, nI_add, subL, lSub, nSub, nDec, nCl, lCl, nVp, lVp, nLe, nLt, nEq, lLe, leL, lLt, ltL, eqL, lEq, nM1, nM2, litLt0, one01, zero01, oneNe0, xupE, xupA, xupK, xI_I, xS_I, xF_I, xJ_I, xI_R, xS_R, xF_R, xJ_R, xI_L, xS_L, xF_L, xJ_L, xcat_s, le46, ge16, or_true, true_or, false_or, or_false, eq_self, Option.toList_some, Option.toList_none, List.cons_append, List.nil_append, true_and, and_true, not_false_eq_true, not_true_eq_false, if_true, if_false, B_216_62]
          by_cases hc : lkv (zT S) (zF S) l a ≤ y
          · rw [if_pos hc]
            rw [if_pos hc] at ih
            exact ih (M2, x, y, _) ⟨k2, rfl⟩
          · rw [if_neg hc]
            rw [if_neg hc] at ih
            exact ih (M2, _, _, _) ⟨k2, rfl⟩
    · rw [if_neg hw] at hQ
      by_cases h0 : w < 0
      · rw [if_pos h0]
        exact hQ M h
      · rw [if_neg h0, if_neg (fun q => hw ((in01 w).mp ⟨h0, by rw [← le_nlt]; exact q⟩))]
        exact hQ M h
  · rw [if_neg hx, if_pos rfl]
    rw [if_neg hx] at hQ
    exact hQ M h
theorem r_favourite {M0 M : XM} {lv B : Nat} {S : XS} {x w : Int32} {Q : Option Value → XM → Prop} (h : RK M0 lv S M) (hi : SInv B S) (hB : B ≤ 99999)
    (hQ : ∀ M' : XM, RK M0 lv S M' → Q (some (.int (A_favourite S x w))) M') :
    RG xprog 217 0 [some (.ref 439), some (.int x), some (.int w), none, none] [] M Q := by
  have n7 := h.1.1.n7
  have r6 := h.1.1.r6
  have l2 := h.1.1.lv2
  unfold A_favourite at hQ
  rw [B_217_0]
  simp (disch := omega) only [h.1.1.1.s, r_isReader h.1.1, B_217_5, lAdd, addL, lMul, mulL, nMul, nI_add, subL, lSub, nSub, nDec, nCl, lCl, nVp, lVp, nLe, nLt, nEq, lLe, leL, lLt, ltL, eqL, lEq, nM1, nM2, litLt0, one01, zero01, oneNe0, xupE, xupA, xupK, xI_I, xS_I, xF_I, xJ_I, xI_R, xS_R, xF_R, xJ_R, xI_L, xS_L, xF_L, xJ_L, xcat_s, le46, ge16, or_true, true_or, false_or, or_false, eq_self, Option.toList_some, Option.toList_none, List.cons_append, List.nil_append, true_and, and_true, not_false_eq_true, not_true_eq_false, if_true, if_false, r_in, B_217_14]
  by_cases hx : isLb (tR (zT S)) x
  · obtain ⟨a, ha, rfl⟩ := isLb_get hx (by omega)
    rw [if_pos hx, if_neg (by decide)]
    rw [if_pos hx, cN_n (by omega)] at hQ
    by_cases hw : is01 w
    · rw [if_pos ((in01 w).mpr hw), if_pos (by decide)]
      rw [if_pos hw] at hQ
      refine r_copies h hi hB ?_
      intro M1 h1
      simp (disch := omega) only [lAdd, addL, lMul, mulL, nMul, nI_add, subL, lSub, nSub, nDec, nCl, lCl, nVp, lVp, nLe, nLt, nEq, lLe, leL, lLt, ltL, eqL, lEq, nM1, nM2, litLt0, one01, zero01, oneNe0, xupE, xupA, xupK, xI_I, xS_I, xF_I, xJ_I, xI_R, xS_R, xF_R, xJ_R, xI_L, xS_L, xF_L, xJ_L, xcat_s, le46, ge16, or_true, true_or, false_or, or_false, eq_self, Option.toList_some, Option.toList_none, List.cons_append, List.nil_append, true_and, and_true, not_false_eq_true, not_true_eq_false, if_true, if_false, B_217_23]
      refine x_for (tN (zT S)) (fun i (s : XM × Int32) => RQ M0 lv S (zF S) (tS (zT S) 2) 0 s.1 ∧ s.2 = (iter (fav1 (zT S) (zF S) a) i (-2, -2)).1 ∧ ((s.2 = -2 ∧ (iter (fav1 (zT S) (zF S) a) i (-2, -2)).2 = -2) ∨ ∃ j, j < tN (zT S) ∧ s.2 = nI j ∧ (iter (fav1 (zT S) (zF S) a) i (-2, -2)).2 = lkv (zT S) (zF S) j a)) (fun i s => RG xprog 217 29 [some (.ref 439), some (.int (nI a)), some (.int w), some (.int s.2), some (.int (nI i))] [] s.1 Q) ?_ ?_ 0 (M1, -2) (by omega) ⟨h1, rfl, Or.inl ⟨rfl, rfl⟩⟩
      · rintro ⟨M2, x⟩ ⟨k1, e1, e2⟩
        dsimp only at k1 e1 e2 ⊢
        unfold favF at hQ
        rw [B_217_29]
        simp (disch := omega) only [k1.2.1.s.s, k1.2.1.s.f, k1.2.1.v, k1.2.1.n, k1.2.1.r, lAdd, addL, lMul, mulL, nMul, nI_add, subL, lSub, nSub, nDec, nCl, lCl, nVp, lVp, nLe, nLt, nEq, lLe, leL, lLt, ltL, eqL, lEq, nM1, nM2, litLt0, one01, zero01, oneNe0, xupE, xupA, xupK, xI_I, xS_I, xF_I, xJ_I, xI_R, xS_R, xF_R, xJ_R, xI_L, xS_L, xF_L, xJ_L, xcat_s, le46, ge16, or_true, true_or, false_or, or_false, eq_self, Option.toList_some, Option.toList_none, List.cons_append, List.nil_append, true_and, and_true, not_false_eq_true, not_true_eq_false, if_true, if_false, Nat.le_refl]
        rcases e2 with ⟨q1, q2⟩ | ⟨j, q1, q2, q3⟩
        · rw [q1, if_pos (by decide), B_217_101]
          have q := hQ M2 k1.1
          rw [← e1, q2, q1, ite_self] at q
          exact q
        · rw [q2, if_neg (by rw [ltL (by omega) (by omega)]; omega)]
          rw [← e1, q2, q3] at hQ
          by_cases w0 : w = 0
          · rw [if_neg (fun z => z w0), B_217_101]
            rw [if_pos w0] at hQ
            exact hQ M2 k1.1
          · rw [if_pos w0]
            rw [if_neg w0] at hQ
            refine q_likesOf k1 q1 ha ?_
            intro M3 k2
            simp (disch := omega) only [lAdd, addL, lMul, mulL, nMul, nI_add, subL, lSub, nSub, nDec, nCl, lCl, nVp, lVp, nLe, nLt, nEq, lLe, leL, lLt, ltL, eqL, lEq, nM1, nM2, litLt0, one01, zero01, oneNe0, xupE, xupA, xupK, xI_I, xS_I, xF_I, xJ_I, xI_R, xS_R, xF_R, xJ_R, xI_L, xS_L, xF_L, xJ_L, xcat_s, le46, ge16, or_true, true_or, false_or, or_false, eq_self, Option.toList_some, Option.toList_none, List.cons_append, List.nil_append, true_and, and_true, not_false_eq_true, not_true_eq_false, if_true, if_false, B_217_101]
            exact hQ M3 k2.1
      · rintro l ⟨M2, x⟩ hl ⟨k1, e1, e2⟩ ih
        dsimp only at k1 e1 e2 ⊢
        rw [iter_s, fav1] at ih
        rw [B_217_29]
        simp (disch := omega) only [k1.2.1.s.s, k1.2.1.s.f, k1.2.1.v, k1.2.1.n, k1.2.1.r, lAdd, addL, lMul, mulL, nMul, nI_add, subL, lSub, nSub, nDec, nCl, lCl, nVp, lVp, nLe, nLt, nEq, lLe, leL, lLt, ltL, eqL, lEq, nM1, nM2, litLt0, one01, zero01, oneNe0, xupE, xupA, xupK, xI_I, xS_I, xF_I, xJ_I, xI_R, xS_R, xF_R, xJ_R, xI_L, xS_L, xF_L, xJ_L, xcat_s, le46, ge16, or_true, true_or, false_or, or_false, eq_self, Option.toList_some, Option.toList_none, List.cons_append, List.nil_append, true_and, and_true, not_false_eq_true, not_true_eq_false, if_true, if_false, if_neg, k1.2.1.l (show l < 7 by omega)]
        by_cases hb : oW (zF S) l = 3
        · rw [if_pos hb]
          rw [if_pos hb] at ih
          exact ih (M2, x) ⟨k1, e1, e2⟩
        · rw [if_neg hb]
          rw [if_neg hb] at ih
          rcases e2 with ⟨q1, q2⟩ | ⟨j, q1, q2, q3⟩
          · rw [q2, if_neg (by rw [i32_le]; have := lkv0 (zT S) (zF S) l a; have e : (-2 : Int32).toInt = -2 := rfl; omega)] at ih
            rw [q1, if_pos (by decide)]
            exact ih (M2, nI l) ⟨k1, rfl, Or.inr ⟨l, hl, rfl, rfl⟩⟩
          · rw [q3] at ih
            rw [q2, if_neg (by rw [ltL (by omega) (by omega)]; omega)]
            refine q_likesOf k1 hl ha ?_
            intro M3 k2
            simp (disch := omega) only [lAdd, addL, lMul, mulL, nMul, nI_add, subL, lSub, nSub, nDec, nCl, lCl, nVp, lVp, nLe, nLt, nEq, lLe, leL, lLt, ltL, eqL, lEq, nM1, nM2, litLt0, one01, zero01, oneNe0, xupE, xupA, xupK, xI_I, xS_I, xF_I, xJ_I, xI_R, xS_R, xF_R, xJ_R, xI_L, xS_L, xF_L, xJ_L, xcat_s, le46, ge16, or_true, true_or, false_or, or_false, eq_self, Option.toList_some, Option.toList_none, List.cons_append, List.nil_append, true_and, and_true, not_false_eq_true, not_true_eq_false, if_true, if_false, B_217_65, k2.2.1.s.s, k2.2.1.s.f, k2.2.1.v, k2.2.1.n, k2.2.1.r]
            refine q_likesOf k2 q1 ha ?_
            intro M4 k3
            simp (disch := omega) only [lAdd, addL, lMul, mulL, nMul, nI_add, subL, lSub, nSub, nDec, nCl, lCl, nVp, lVp, nLe, nLt, nEq, lLe, leL, lLt, ltL, eqL, lEq, nM1, nM2, litLt0, one01, zero01, oneNe0, xupE, xupA, xupK, xI_I, xS_I, xF_I, xJ_I, xI_R, xS_R, xF_R, xJ_R, xI_L, xS_L, xF_L, xJ_L, xcat_s, le46, ge16, or_true, true_or, false_or, or_false, eq_self, Option.toList_some, Option.toList_none, List.cons_append, List.nil_append, true_and, and_true, not_false_eq_true, not_true_eq_false, if_true, if_false, B_217_71]
            by_cases hc : lkv (zT S) (zF S) l a ≤ lkv (zT S) (zF S) j a
            · rw [if_pos hc]
              rw [if_pos hc] at ih
              exact ih (M4, nI j) ⟨k3, by rw [← e1, q2], Or.inr ⟨j, q1, rfl, q3⟩⟩
            · rw [if_neg hc]
              rw [if_neg hc] at ih
              exact ih (M4, nI l) ⟨k3, rfl, Or.inr ⟨l, hl, rfl, rfl⟩⟩
    · rw [if_neg (fun q => hw ((in01 w).mp q)), if_neg (by decide)]
      rw [if_neg hw] at hQ
      exact hQ M h
  · rw [if_neg hx, if_pos rfl]
    rw [if_neg hx] at hQ
    exact hQ M h
