/-! answers: answers, crowd, uneasy .. -/
theorem r_lawg {M M1 : XM} {lv k : Nat} {T : XT} {F : XO} {x : Int32} {v : Nat → Int32} {Q : Option Value → XM → Prop} (h : RR M lv T F) (hk : k < 4) (e : Ex (fun b _ => b = 470) M M1) (hv : ∀ j, j < 9 → xI M1 470 j = v j) (hx : x = plv k v)
    (hQ : ∀ M' : XM, Ex rL M M' → Q (some (.int (tW T k v))) M') :
    RG xprog 136 0 [some (.ref 439), some (.int (nI k)), some (.int x), none, none, none, none] [] M1 Q := by
  have h1 := h.ex e (by intro a k q; unfold rNT; omega)
  have hL := h1.1.lw hk
  have E : tW T k (xI M1 470) = tW T k v := by
    obtain ⟨_, _, _, _, _, _, _, _, h9⟩ := hL
    exact h9 _ _ hv
  refine r_lawTells h1.s h.lv2 h1.v hk hL ?_ ?_
  · rw [hx]
    unfold plv
    rw [hv 0 (by omega), hv 4 (by omega)]
  · intro M2 e2
    rw [E]
    exact hQ M2 ((e.mono (by intro a k q; exact Or.inl q)).trans (e2.mono rT_L))
/-- l answers o -/
abbrev ansb (T : XT) (d : Int32) (l o : Nat) : Prop := ¬ tL T l 3 ≤ tL T o 3 ∧ ¬ tW T 3 (avar T o l d) ≤ 0
theorem r_isLater {M : XM} {lv l o : Nat} {T : XT} {Q : Option Value → XM → Prop} (h : RW M lv T) (hl : l < tN T) (ho : o < tN T) : RG xprog 144 0 [some (.ref 439), some (.int (nI l)), some (.int (nI o))] [] M Q = Q (some (.int (if tL T l 3 ≤ tL T o 3 then 0 else 1))) M := by
  have l2 := h.lv2
  have n7 := h.n7
  rw [B_144_0]
  simp (disch := omega) only [h.1.s, h.1.f, h.v, h.l hl, h.l ho, lAdd, addL, lMul, mulL, nMul, nI_add, subL, lSub, nSub, nDec, nCl, lCl, nVp, lVp, nLe, nLt, nEq, lLe, leL, lLt, ltL, eqL, lEq, nM1, nM2, litLt0, one01, zero01, oneNe0, xupE, xupA, xupK, xI_I, xS_I, xF_I, xJ_I, xI_R, xS_R, xF_R, xJ_R, xI_L, xS_L, xF_L, xJ_L, xcat_s, le46, ge16, or_true, true_or, false_or, or_false, eq_self, Option.toList_some, Option.toList_none, List.cons_append, List.nil_append, true_and, and_true, not_false_eq_true, not_true_eq_false, if_true, if_false, ite_i]
theorem r_doesAnswer {M : XM} {lv l o : Nat} {T : XT} {F : XO} {Q : Option Value → XM → Prop} (h : RR M lv T F) (hl : l < tN T) (ho : o < tN T)
    (hQ : ∀ M' : XM, Ex rL M M' → Q (some (.int (if ansb T (oD F) l o then 1 else 0))) M') :
    RG xprog 145 0 [some (.ref 439), some (.int (nI l)), some (.int (nI o))] [] M Q := by
  have l2 := h.lv2
  have n7 := h.n7
  obtain ⟨w, hw1, hw2⟩ := (h.1.2.2.2.2.1 l hl).1 1 (by omega)
  obtain ⟨w', hw3, hw4⟩ := (h.1.2.2.2.2.1 o ho).1 1 (by omega)
  have hl3 := h.1.l hl
  have ho3 := h.1.l ho
  rw [B_145_0]
  simp (disch := omega) only [h.s.s, r_isLater h.1 hl ho, B_145_6, lAdd, addL, lMul, mulL, nMul, nI_add, subL, lSub, nSub, nDec, nCl, lCl, nVp, lVp, nLe, nLt, nEq, lLe, leL, lLt, ltL, eqL, lEq, nM1, nM2, litLt0, one01, zero01, oneNe0, xupE, xupA, xupK, xI_I, xS_I, xF_I, xJ_I, xI_R, xS_R, xF_R, xJ_R, xI_L, xS_L, xF_L, xJ_L, xcat_s, le46, ge16, or_true, true_or, false_or, or_false, eq_self, Option.toList_some, Option.toList_none, List.cons_append, List.nil_append, true_and, and_true, not_false_eq_true, not_true_eq_false, if_true, if_false]
  by_cases hc : tL T l 3 ≤ tL T o 3
  · rw [if_pos hc, if_neg (fun q => q rfl)]
    rw [if_neg (fun q => q.1 hc)] at hQ
    exact hQ M (Ex.refl _ _)
  · rw [if_neg hc, if_pos (by decide)]
    simp (disch := omega) only [h.s.s, h.s.f, h.v, hl3, ho3, lAdd, addL, lMul, mulL, nMul, nI_add, subL, lSub, nSub, nDec, nCl, lCl, nVp, lVp, nLe, nLt, nEq, lLe, leL, lLt, ltL, eqL, lEq, nM1, nM2, litLt0, one01, zero01, oneNe0, xupE, xupA, xupK, xI_I, xS_I, xF_I, xJ_I, xI_R, xS_R, xF_R, xJ_R, xI_L, xS_L, xF_L, xJ_L, xcat_s, le46, ge16, or_true, true_or, false_or, or_false, eq_self, Option.toList_some, Option.toList_none, List.cons_append, List.nil_append, true_and, and_true, not_false_eq_true, not_true_eq_false, if_true, if_false, hw2, hw4, r_off hw1 hw3, B_145_47, B_145_68, B_145_108, B_145_163, B_145_185, h.d]
    refine r_lawg (k := 3) (v := avar T o l (oD F)) h (by omega) ?_ ?_ rfl ?_
    · iterate 9 refine Ex.wr ?_ _ rfl
      exact Ex.refl _ _
    · intro k hk
      simp only [xI_I, xup_at, true_and]
      match k, hk with
      | 0, _ => simp only [avar, hw2, hw4]; rfl
      | 1, _ => rfl
      | 2, _ => rfl
      | 3, _ => rfl
      | 4, _ => rfl
      | 5, _ => rfl
      | 6, _ => rfl
      | 7, _ => rfl
      | 8, _ => rfl
    · intro M2 e2
      have q := hQ M2 e2
      simp (disch := omega) only [lAdd, addL, lMul, mulL, nMul, nI_add, subL, lSub, nSub, nDec, nCl, lCl, nVp, lVp, nLe, nLt, nEq, lLe, leL, lLt, ltL, eqL, lEq, nM1, nM2, litLt0, one01, zero01, oneNe0, xupE, xupA, xupK, xI_I, xS_I, xF_I, xJ_I, xI_R, xS_R, xF_R, xJ_R, xI_L, xS_L, xF_L, xJ_L, xcat_s, le46, ge16, or_true, true_or, false_or, or_false, eq_self, Option.toList_some, Option.toList_none, List.cons_append, List.nil_append, true_and, and_true, not_false_eq_true, not_true_eq_false, if_true, if_false, B_145_199, ite_i]
      by_cases h0 : tW T 3 (avar T o l (oD F)) ≤ 0
      · rw [if_pos h0]
        rw [if_neg (fun z => z.2 h0)] at q
        exact q
      · rw [if_neg h0]
        rw [if_pos ⟨hc, h0⟩] at q
        exact q
theorem q_doesAnswer {M0 M : XM} {lv l o : Nat} {S : XS} {F : XO} {sd st : Int32} {Q : Option Value → XM → Prop} (h : RQ M0 lv S F sd st M) (hl : l < tN (zT S)) (ho : o < tN (zT S))
    (hQ : ∀ M' : XM, RQ M0 lv S F sd st M' → Q (some (.int (if ansb (zT S) (oD F) l o then 1 else 0))) M') :
    RG xprog 145 0 [some (.ref 439), some (.int (nI l)), some (.int (nI o))] [] M Q := r_doesAnswer h.2.1 hl ho fun M' e => hQ M' (h.stepL e)
def A_answers (S : XS) (x y : Int32) : Int32 := if isLb (tN (zT S)) x then (if isLb (tN (zT S)) y then (if tL (zT S) (cN x) 3 ≤ tL (zT S) (cN y) 3 then -1 else if tW (zT S) 3 (avar (zT S) (cN y) (cN x) (oD (zF S))) ≤ 0 then 0 else 1) else -1) else -1
theorem c_answers {M0 M : XM} {t : Nat} {S : XS} {x y : Int32} {Q : Option Value → XM → Prop} (h : CK M0 t S M)
    (hQ : ∀ M' : XM, CK M0 t S M' → Q (some (.int (A_answers S x y))) M') :
    RG xprog 143 0 [some (.ref 16), some (.int x), some (.int y)] [] M Q := by
  have n7 := h.1.tx.n7
  unfold A_answers at hQ
  rw [B_143_0]
  simp (disch := omega) only [h.1.d, c_isLetter h.1, B_143_5, lAdd, addL, lMul, mulL, nMul, nI_add, subL, lSub, nSub, nDec, nCl, lCl, nVp, lVp, nLe, nLt, nEq, lLe, leL, lLt, ltL, eqL, lEq, nM1, nM2, litLt0, one01, zero01, oneNe0, xupE, xupA, xupK, xI_I, xS_I, xF_I, xJ_I, xI_R, xS_R, xF_R, xJ_R, xI_L, xS_L, xF_L, xJ_L, xcat_s, le46, ge16, or_true, true_or, false_or, or_false, eq_self, Option.toList_some, Option.toList_none, List.cons_append, List.nil_append, true_and, and_true, not_false_eq_true, not_true_eq_false, if_true, if_false, B_143_13]
  by_cases hx : isLb (tN (zT S)) x
  · obtain ⟨l, hl, rfl⟩ := isLb_get hx (by omega)
    rw [if_pos hx, if_neg (by decide)]
    rw [if_pos hx, cN_n (by omega)] at hQ
    by_cases hy : isLb (tN (zT S)) y
    · obtain ⟨a, ha, rfl⟩ := isLb_get hy (by omega)
      rw [if_pos hy, if_neg (by decide)]
      rw [if_pos hy, cN_n (by omega)] at hQ
      simp (disch := omega) only [lAdd, addL, lMul, mulL, nMul, nI_add, subL, lSub, nSub, nDec, nCl, lCl, nVp, lVp, nLe, nLt, nEq, lLe, leL, lLt, ltL, eqL, lEq, nM1, nM2, litLt0, one01, zero01, oneNe0, xupE, xupA, xupK, xI_I, xS_I, xF_I, xJ_I, xI_R, xS_R, xF_R, xJ_R, xI_L, xS_L, xF_L, xJ_L, xcat_s, le46, ge16, or_true, true_or, false_or, or_false, eq_self, Option.toList_some, Option.toList_none, List.cons_append, List.nil_append, true_and, and_true, not_false_eq_true, not_true_eq_false, if_true, if_false, h.1.d, h.1.tx.f, h.1.of.f, h.1.of.v, c_cameEarlier h.1.tx (show a < 7 by omega) (show l < 7 by omega), B_143_25]
      by_cases hc : tL (zT S) l 3 ≤ tL (zT S) a 3
      · rw [if_pos hc, if_neg (fun q => q rfl)]
        rw [if_pos hc] at hQ
        exact hQ M h
      · rw [if_neg hc, if_pos (by decide)]
        rw [if_neg hc] at hQ
        refine c_isAnswered h.1.tx (by omega) (by omega) ?_
        intro M1 e1
        simp (disch := omega) only [lAdd, addL, lMul, mulL, nMul, nI_add, subL, lSub, nSub, nDec, nCl, lCl, nVp, lVp, nLe, nLt, nEq, lLe, leL, lLt, ltL, eqL, lEq, nM1, nM2, litLt0, one01, zero01, oneNe0, xupE, xupA, xupK, xI_I, xS_I, xF_I, xJ_I, xI_R, xS_R, xF_R, xJ_R, xI_L, xS_L, xF_L, xJ_L, xcat_s, le46, ge16, or_true, true_or, false_or, or_false, eq_self, Option.toList_some, Option.toList_none, List.cons_append, List.nil_append, true_and, and_true, not_false_eq_true, not_true_eq_false, if_true, if_false, B_143_46, ite01, ite_i]
        exact hQ M1 (h.stepX e1)
    · rw [if_neg hy, if_pos rfl]
      rw [if_neg hy] at hQ
      exact hQ M h
  · rw [if_neg hx, if_pos rfl]
    rw [if_neg hx] at hQ
    exact hQ M h
theorem ite10 {c : Prop} [Decidable c] : ((if c then (1 : Int32) else 0) = 0) = ¬ c := by
  by_cases h : c
  · rw [if_pos h]; exact propext ⟨fun q => absurd q (by decide), fun q => absurd h q⟩
  · rw [if_neg h]; exact propext ⟨fun _ => h, fun _ => rfl⟩
theorem r_answers {M0 M : XM} {lv B : Nat} {S : XS} {x y : Int32} {Q : Option Value → XM → Prop} (h : RK M0 lv S M) (hi : SInv B S) (hB : B ≤ 99999)
    (hQ : ∀ M' : XM, RK M0 lv S M' → Q (some (.int (A_answers S x y))) M') :
    RG xprog 146 0 [some (.ref 439), some (.int x), some (.int y)] [] M Q := by
  have n7 := h.1.1.n7
  unfold A_answers at hQ
  rw [B_146_0]
  simp (disch := omega) only [h.1.1.1.s, r_isLetter h.1.1, B_146_5, lAdd, addL, lMul, mulL, nMul, nI_add, subL, lSub, nSub, nDec, nCl, lCl, nVp, lVp, nLe, nLt, nEq, lLe, leL, lLt, ltL, eqL, lEq, nM1, nM2, litLt0, one01, zero01, oneNe0, xupE, xupA, xupK, xI_I, xS_I, xF_I, xJ_I, xI_R, xS_R, xF_R, xJ_R, xI_L, xS_L, xF_L, xJ_L, xcat_s, le46, ge16, or_true, true_or, false_or, or_false, eq_self, Option.toList_some, Option.toList_none, List.cons_append, List.nil_append, true_and, and_true, not_false_eq_true, not_true_eq_false, if_true, if_false, B_146_13]
  by_cases hx : isLb (tN (zT S)) x
  · obtain ⟨l, hl, rfl⟩ := isLb_get hx (by omega)
    rw [if_pos hx, if_neg (by decide)]
    rw [if_pos hx, cN_n (by omega)] at hQ
    by_cases hy : isLb (tN (zT S)) y
    · obtain ⟨a, ha, rfl⟩ := isLb_get hy (by omega)
      rw [if_pos hy, if_neg (by decide)]
      rw [if_pos hy, cN_n (by omega)] at hQ
      simp (disch := omega) only [lAdd, addL, lMul, mulL, nMul, nI_add, subL, lSub, nSub, nDec, nCl, lCl, nVp, lVp, nLe, nLt, nEq, lLe, leL, lLt, ltL, eqL, lEq, nM1, nM2, litLt0, one01, zero01, oneNe0, xupE, xupA, xupK, xI_I, xS_I, xF_I, xJ_I, xI_R, xS_R, xF_R, xJ_R, xI_L, xS_L, xF_L, xJ_L, xcat_s, le46, ge16, or_true, true_or, false_or, or_false, eq_self, Option.toList_some, Option.toList_none, List.cons_append, List.nil_append, true_and, and_true, not_false_eq_true, not_true_eq_false, if_true, if_false, h.1.1.1.s, r_isLater h.1.1 hl ha, B_146_22]
      by_cases hc : tL (zT S) l 3 ≤ tL (zT S) a 3
      · rw [if_pos hc, if_neg (fun q => q rfl)]
        rw [if_pos hc] at hQ
        exact hQ M h
      · rw [if_neg hc, if_pos (by decide)]
        rw [if_neg hc] at hQ
        refine r_copies h hi hB ?_
        intro M1 h1
        simp (disch := omega) only [lAdd, addL, lMul, mulL, nMul, nI_add, subL, lSub, nSub, nDec, nCl, lCl, nVp, lVp, nLe, nLt, nEq, lLe, leL, lLt, ltL, eqL, lEq, nM1, nM2, litLt0, one01, zero01, oneNe0, xupE, xupA, xupK, xI_I, xS_I, xF_I, xJ_I, xI_R, xS_R, xF_R, xJ_R, xI_L, xS_L, xF_L, xJ_L, xcat_s, le46, ge16, or_true, true_or, false_or, or_false, eq_self, Option.toList_some, Option.toList_none, List.cons_append, List.nil_append, true_and, and_true, not_false_eq_true, not_true_eq_false, if_true, if_false, B_146_31, h1.2.1.s.s]
        refine q_doesAnswer h1 hl ha ?_
        intro M2 h2
        have q := hQ M2 h2.1
        simp (disch := omega) only [lAdd, addL, lMul, mulL, nMul, nI_add, subL, lSub, nSub, nDec, nCl, lCl, nVp, lVp, nLe, nLt, nEq, lLe, leL, lLt, ltL, eqL, lEq, nM1, nM2, litLt0, one01, zero01, oneNe0, xupE, xupA, xupK, xI_I, xS_I, xF_I, xJ_I, xI_R, xS_R, xF_R, xJ_R, xI_L, xS_L, xF_L, xJ_L, xcat_s, le46, ge16, or_true, true_or, false_or, or_false, eq_self, Option.toList_some, Option.toList_none, List.cons_append, List.nil_append, true_and, and_true, not_false_eq_true, not_true_eq_false, if_true, if_false, B_146_37, ite10, ite_i]
        by_cases h0 : tW (zT S) 3 (avar (zT S) a l (oD (zF S))) ≤ 0
        · rw [if_pos (fun z => z.2 h0)]
          rw [if_pos h0] at q
          exact q
        · rw [if_neg (fun z => z ⟨hc, h0⟩)]
          rw [if_neg h0] at q
          exact q
    · rw [if_neg hy, if_pos rfl]
      rw [if_neg hy] at hQ
      exact hQ M h
  · rw [if_neg hx, if_pos rfl]
    rw [if_neg hx] at hQ
    exact hQ M h
def crowdF (T : XT) (F : XO) (l : Nat) (v : Int32) : Int32 := iter (fun a s => if lkv T F l a < v then s else s ||| ((1 : Int32) <<< (nI a &&& 31))) (tR T) 0
def A_crowd (S : XS) (x v : Int32) : Int32 := if isLb (tN (zT S)) x then (if inb v 1 99 then crowdF (zT S) (zF S) (cN x) v else -1) else -1
theorem le_nlt {x y : Int32} : (x ≤ y) = ¬ y < x := by rw [i32_le, i32_lt]; exact propext ⟨fun h => by omega, fun h => by omega⟩
theorem c_crowd {M0 M : XM} {t : Nat} {S : XS} {x v : Int32} {Q : Option Value → XM → Prop} (h : CK M0 t S M)
    (hQ : ∀ M' : XM, CK M0 t S M' → Q (some (.int (A_crowd S x v))) M') :
    RG xprog 218 0 [some (.ref 16), some (.int x), some (.int v), none, none] [] M Q := by
  have n7 := h.1.tx.n7
  have r6 := h.1.tx.r6
  unfold A_crowd at hQ
  rw [B_218_0]
  simp (disch := omega) only [h.1.d, c_isLetter h.1, B_218_5, lAdd, addL, lMul, mulL, nMul, nI_add, subL, lSub, nSub, nDec, nCl, lCl, nVp, lVp, nLe, nLt, nEq, lLe, leL, lLt, ltL, eqL, lEq, nM1, nM2, litLt0, one01, zero01, oneNe0, xupE, xupA, xupK, xI_I, xS_I, xF_I, xJ_I, xI_R, xS_R, xF_R, xJ_R, xI_L, xS_L, xF_L, xJ_L, xcat_s, le46, ge16, or_true, true_or, false_or, or_false, eq_self, Option.toList_some, Option.toList_none, List.cons_append, List.nil_append, true_and, and_true, not_false_eq_true, not_true_eq_false, if_true, if_false]
  by_cases hx : isLb (tN (zT S)) x
  · obtain ⟨l, hl, rfl⟩ := isLb_get hx (by omega)
    rw [if_pos hx, if_neg (by decide)]
    rw [if_pos hx, cN_n (by omega)] at hQ
    by_cases h1 : v < 1
    · rw [if_pos h1]
      rw [if_neg (fun q => q.1 h1)] at hQ
      exact hQ M h
    rw [if_neg h1]
    by_cases h2 : v ≤ 99
    · rw [if_pos h2]
      rw [if_pos ⟨h1, by rw [← le_nlt]; exact h2⟩] at hQ
      refine x_for (tR (zT S)) (fun i (s : XM × Int32) => CK M0 t S s.1 ∧ s.2 = iter (fun a s => if lkv (zT S) (zF S) l a < v then s else s ||| ((1 : Int32) <<< (nI a &&& 31))) i 0) (fun i s => RG xprog 218 26 [some (.ref 16), some (.int (nI l)), some (.int v), some (.int s.2), some (.int (nI i))] [] s.1 Q) ?_ ?_ 0 (M, 0) (by omega) ⟨h, rfl⟩
      · rintro ⟨M1, s⟩ ⟨k1, e1⟩
        dsimp only at k1 e1 ⊢
        rw [B_218_26]
        simp (disch := omega) only [k1.1.d, k1.1.tx.f, k1.1.tx.n, k1.1.tx.r, k1.1.of.f, k1.1.of.v, lAdd, addL, lMul, mulL, nMul, nI_add, subL, lSub, nSub, nDec, nCl, lCl, nVp, lVp, nLe, nLt, nEq, lLe, leL, lLt, ltL, eqL, lEq, nM1, nM2, litLt0, one01, zero01, oneNe0, xupE, xupA, xupK, xI_I, xS_I, xF_I, xJ_I, xI_R, xS_R, xF_R, xJ_R, xI_L, xS_L, xF_L, xJ_L, xcat_s, le46, ge16, or_true, true_or, false_or, or_false, eq_self, Option.toList_some, Option.toList_none, List.cons_append, List.nil_append, true_and, and_true, not_false_eq_true, not_true_eq_false, if_true, if_false, Nat.le_refl]
        rw [e1]
        exact hQ M1 k1
      · rintro i ⟨M1, s⟩ hi ⟨k1, e1⟩ ih
        dsimp only at k1 e1 ⊢
        rw [iter_s, ← e1] at ih
        rw [B_218_26]
        simp (disch := omega) only [k1.1.d, k1.1.tx.f, k1.1.tx.n, k1.1.tx.r, k1.1.of.f, k1.1.of.v, lAdd, addL, lMul, mulL, nMul, nI_add, subL, lSub, nSub, nDec, nCl, lCl, nVp, lVp, nLe, nLt, nEq, lLe, leL, lLt, ltL, eqL, lEq, nM1, nM2, litLt0, one01, zero01, oneNe0, xupE, xupA, xupK, xI_I, xS_I, xF_I, xJ_I, xI_R, xS_R, xF_R, xJ_R, xI_L, xS_L, xF_L, xJ_L, xcat_s, le46, ge16, or_true, true_or, false_or, or_false, eq_self, Option.toList_some, Option.toList_none, List.cons_append, List.nil_append, true_and, and_true, not_false_eq_true, not_true_eq_false, if_true, if_false, if_neg]
        refine c_likesNow k1 (by omega) (by omega) ?_
        intro M2 k2
        simp (disch := omega) only [lAdd, addL, lMul, mulL, nMul, nI_add, subL, lSub, nSub, nDec, nCl, lCl, nVp, lVp, nLe, nLt, nEq, lLe, leL, lLt, ltL, eqL, lEq, nM1, nM2, litLt0, one01, zero01, oneNe0, xupE, xupA, xupK, xI_I, xS_I, xF_I, xJ_I, xI_R, xS_R, xF_R, xJ_R, xI_L, xS_L, xF_L, xJ_L, xcat_s, le46, ge16, or_true, true_or, false_or, or_false, eq_self, Option.toList_some, Option.toList_none, List.cons_append, List.nil_append, true_and, and_true, not_false_eq_true, not_true_eq_false, if_true, if_false, B_218_45]
        split
        · rename_i hc
          rw [if_pos hc] at ih
          exact ih (M2, s) ⟨k2, rfl⟩
        · rename_i hc
          rw [if_neg hc] at ih
          exact ih (M2, _) ⟨k2, rfl⟩
    · rw [if_neg h2]
      rw [if_neg (fun q => h2 (by rw [le_nlt]; exact q.2))] at hQ
      exact hQ M h
  · rw [if_neg hx, if_pos rfl]
    rw [if_neg hx] at hQ
    exact hQ M h
theorem r_crowd {M0 M : XM} {lv B : Nat} {S : XS} {x v : Int32} {Q : Option Value → XM → Prop} (h : RK M0 lv S M) (hi : SInv B S) (hB : B ≤ 99999)
    (hQ : ∀ M' : XM, RK M0 lv S M' → Q (some (.int (A_crowd S x v))) M') :
    RG xprog 219 0 [some (.ref 439), some (.int x), some (.int v), none, none] [] M Q := by
  have n7 := h.1.1.n7
  have r6 := h.1.1.r6
  have l2 := h.1.1.lv2
  unfold A_crowd at hQ
  rw [B_219_0]
  simp (disch := omega) only [h.1.1.1.s, r_isLetter h.1.1, B_219_5, lAdd, addL, lMul, mulL, nMul, nI_add, subL, lSub, nSub, nDec, nCl, lCl, nVp, lVp, nLe, nLt, nEq, lLe, leL, lLt, ltL, eqL, lEq, nM1, nM2, litLt0, one01, zero01, oneNe0, xupE, xupA, xupK, xI_I, xS_I, xF_I, xJ_I, xI_R, xS_R, xF_R, xJ_R, xI_L, xS_L, xF_L, xJ_L, xcat_s, le46, ge16, or_true, true_or, false_or, or_false, eq_self, Option.toList_some, Option.toList_none, List.cons_append, List.nil_append, true_and, and_true, not_false_eq_true, not_true_eq_false, if_true, if_false, r_in, B_219_15]
  by_cases hx : isLb (tN (zT S)) x
  · obtain ⟨l, hl, rfl⟩ := isLb_get hx (by omega)
    rw [if_pos hx, if_neg (by decide)]
    rw [if_pos hx, cN_n (by omega)] at hQ
    by_cases hv : inb v 1 99
    · rw [if_pos hv, if_pos (by decide)]
      rw [if_pos hv] at hQ
      refine r_copies h hi hB ?_
      intro M1 h1
      simp (disch := omega) only [lAdd, addL, lMul, mulL, nMul, nI_add, subL, lSub, nSub, nDec, nCl, lCl, nVp, lVp, nLe, nLt, nEq, lLe, leL, lLt, ltL, eqL, lEq, nM1, nM2, litLt0, one01, zero01, oneNe0, xupE, xupA, xupK, xI_I, xS_I, xF_I, xJ_I, xI_R, xS_R, xF_R, xJ_R, xI_L, xS_L, xF_L, xJ_L, xcat_s, le46, ge16, or_true, true_or, false_or, or_false, eq_self, Option.toList_some, Option.toList_none, List.cons_append, List.nil_append, true_and, and_true, not_false_eq_true, not_true_eq_false, if_true, if_false, B_219_24]
      refine x_for (tR (zT S)) (fun i (s : XM × Int32) => RQ M0 lv S (zF S) (tS (zT S) 2) 0 s.1 ∧ s.2 = iter (fun a s => if lkv (zT S) (zF S) l a < v then s else s ||| ((1 : Int32) <<< (nI a &&& 31))) i 0) (fun i s => RG xprog 219 29 [some (.ref 439), some (.int (nI l)), some (.int v), some (.int s.2), some (.int (nI i))] [] s.1 Q) ?_ ?_ 0 (M1, 0) (by omega) ⟨h1, rfl⟩
      · rintro ⟨M2, s⟩ ⟨k1, e1⟩
        dsimp only at k1 e1 ⊢
        rw [B_219_29]
        simp (disch := omega) only [k1.2.1.s.s, k1.2.1.s.f, k1.2.1.v, k1.2.1.n, k1.2.1.r, lAdd, addL, lMul, mulL, nMul, nI_add, subL, lSub, nSub, nDec, nCl, lCl, nVp, lVp, nLe, nLt, nEq, lLe, leL, lLt, ltL, eqL, lEq, nM1, nM2, litLt0, one01, zero01, oneNe0, xupE, xupA, xupK, xI_I, xS_I, xF_I, xJ_I, xI_R, xS_R, xF_R, xJ_R, xI_L, xS_L, xF_L, xJ_L, xcat_s, le46, ge16, or_true, true_or, false_or, or_false, eq_self, Option.toList_some, Option.toList_none, List.cons_append, List.nil_append, true_and, and_true, not_false_eq_true, not_true_eq_false, if_true, if_false, Nat.le_refl]
        rw [e1]
        exact hQ M2 k1.1
      · rintro i ⟨M2, s⟩ hi ⟨k1, e1⟩ ih
        dsimp only at k1 e1 ⊢
        rw [iter_s, ← e1] at ih
        rw [B_219_29]
        simp (disch := omega) only [k1.2.1.s.s, k1.2.1.s.f, k1.2.1.v, k1.2.1.n, k1.2.1.r, lAdd, addL, lMul, mulL, nMul, nI_add, subL, lSub, nSub, nDec, nCl, lCl, nVp, lVp, nLe, nLt, nEq, lLe, leL, lLt, ltL, eqL, lEq, nM1, nM2, litLt0, one01, zero01, oneNe0, xupE, xupA, xupK, xI_I, xS_I, xF_I, xJ_I, xI_R, xS_R, xF_R, xJ_R, xI_L, xS_L, xF_L, xJ_L, xcat_s, le46, ge16, or_true, true_or, false_or, or_false, eq_self, Option.toList_some, Option.toList_none, List.cons_append, List.nil_append, true_and, and_true, not_false_eq_true, not_true_eq_false, if_true, if_false, if_neg]
        refine q_likesOf k1 hl hi ?_
        intro M3 k2
        simp (disch := omega) only [lAdd, addL, lMul, mulL, nMul, nI_add, subL, lSub, nSub, nDec, nCl, lCl, nVp, lVp, nLe, nLt, nEq, lLe, leL, lLt, ltL, eqL, lEq, nM1, nM2, litLt0, one01, zero01, oneNe0, xupE, xupA, xupK, xI_I, xS_I, xF_I, xJ_I, xI_R, xS_R, xF_R, xJ_R, xI_L, xS_L, xF_L, xJ_L, xcat_s, le46, ge16, or_true, true_or, false_or, or_false, eq_self, Option.toList_some, Option.toList_none, List.cons_append, List.nil_append, true_and, and_true, not_false_eq_true, not_true_eq_false, if_true, if_false, B_219_50]
        split
        · rename_i hc
          rw [if_pos hc] at ih
          exact ih (M3, s) ⟨k2, rfl⟩
        · rename_i hc
          rw [if_neg hc] at ih
          exact ih (M3, _) ⟨k2, rfl⟩
    · rw [if_neg hv, if_neg (by decide)]
      rw [if_neg hv] at hQ
      exact hQ M h
  · rw [if_neg hx, if_pos rfl]
    rw [if_neg hx] at hQ
    exact hQ M h
