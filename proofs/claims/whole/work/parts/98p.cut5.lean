/-! tokens: the reference's cutting -/
theorem rn_step {p : Nat → Bool} {n i : Nat} (hn : n ≤ 2000) (h : i < n ∧ p i = true) : rn p n 2000 i = rn p n 2000 (i + 1) := by
  rw [rn_fuel p n 2000 2001 i (by omega) (by omega), rn_s, if_pos h]
theorem rn_stay {p : Nat → Bool} {n i : Nat} (h : ¬ (i < n ∧ p i = true)) : rn p n 2000 i = i := by
  rw [show 2000 = 1999 + 1 from rfl, rn_s, if_neg h]
theorem r_cut {M : XM} {n : Nat} {c : Nat → Nat} {Q : Option Value → XM → Prop} (h : RB M n c)
    (hQ : ∀ (M' : XM) (m : Nat), E3 ctP ctJ noF M M' → RTk M' n c (m + 1) → m ≤ 400 → (∀ i, i < m → tpos n c i < n) → (m = 400 ∨ ¬ tpos n c m < n) → Q none M') :
    RG xprog 89 0 [some (.ref 439), none, none, none, none, none, none, none] [] M Q := by
  have hn := h.2.2.1
  have hc := h.2.2.2.2.1
  rw [B_89_0]
  simp (disch := omega) only [h.1.s, lAdd, addL, lMul, mulL, nMul, nI_add, subL, lSub, nSub, nDec, nCl, lCl, nVp, lVp, nLe, nLt, nEq, lLe, leL, lLt, ltL, eqL, lEq, nM1, nM2, litLt0, one01, zero01, oneNe0, xupE, xupA, xupK, xI_I, xS_I, xF_I, xJ_I, xI_R, xS_R, xF_R, xJ_R, xI_L, xS_L, xF_L, xJ_L, xcat_s, le46, ge16, or_true, true_or, false_or, or_false, eq_self, Option.toList_some, Option.toList_none, List.cons_append, List.nil_append, true_and, and_true, not_false_eq_true, not_true_eq_false, if_true, if_false]
  have e0 : E3 ctP ctJ noF M (xmI M 439 10 0) := (E3.refl _ _ _ _).wI _ (by unfold ctP; omega)
  have t0 : RTk (xmI M 439 10 0) n c 0 := ⟨by rw [xI_I, xupE]; rfl, fun i hi => by omega⟩
  have loop : ∀ f i m (M1 : XM) (z2 z3 z4 z6 z7 : Option Value), n + 1 ≤ i + f → i ≤ n → m ≤ 401 → E3 ctP ctJ noF M M1 → RTk M1 n c m → (∀ k, k < m → tpos n c k < n) → rn (isBl c) n 2000 i = tpos n c m → RG xprog 89 7 [some (.ref 439), some (.int (nI i)), z2, z3, z4, none, z6, z7] [] M1 Q := by
    intro f
    induction f with
    | zero => intro i m M1 z2 z3 z4 z6 z7 hf hi; omega
    | succ f ih =>
      intro i m M1 z2 z3 z4 z6 z7 hf hi hm e1 t1 p1 r1
      have h1 := h.e3 e1
      rw [B_89_7]
      simp (disch := omega) only [h1.1.s, t1.1, lAdd, addL, lMul, mulL, nMul, nI_add, subL, lSub, nSub, nDec, nCl, lCl, nVp, lVp, nLe, nLt, nEq, lLe, leL, lLt, ltL, eqL, lEq, nM1, nM2, litLt0, one01, zero01, oneNe0, xupE, xupA, xupK, xI_I, xS_I, xF_I, xJ_I, xI_R, xS_R, xF_R, xJ_R, xI_L, xS_L, xF_L, xJ_L, xcat_s, le46, ge16, or_true, true_or, false_or, or_false, eq_self, Option.toList_some, Option.toList_none, List.cons_append, List.nil_append, true_and, and_true, not_false_eq_true, not_true_eq_false, if_true, if_false]
      by_cases q : 400 < m
      · rw [if_pos q]
        have : m = 400 + 1 := by omega
        subst this
        exact hQ M1 400 e1 t1 (by omega) (fun k hk => p1 k (by omega)) (Or.inl rfl)
      · rw [if_neg q, r_byteAt h1 (by omega)]
        simp (disch := omega) only [lAdd, addL, lMul, mulL, nMul, nI_add, subL, lSub, nSub, nDec, nCl, lCl, nVp, lVp, nLe, nLt, nEq, lLe, leL, lLt, ltL, eqL, lEq, nM1, nM2, litLt0, one01, zero01, oneNe0, xupE, xupA, xupK, xI_I, xS_I, xF_I, xJ_I, xI_R, xS_R, xF_R, xJ_R, xI_L, xS_L, xF_L, xJ_L, xcat_s, le46, ge16, or_true, true_or, false_or, or_false, eq_self, Option.toList_some, Option.toList_none, List.cons_append, List.nil_append, true_and, and_true, not_false_eq_true, not_true_eq_false, if_true, if_false, B_89_22, h1.1.s, h1.2.1]
        by_cases qi : i < n
        · have eb : bya n c i = c i := if_pos qi
          have c6 := hc i
          have wd := isWd_i c i
          have dgi := isDg_i c i
          have bl := isBl_i c i
          rw [if_pos (c := i < n) qi, eb]
          simp (disch := omega) only [lAdd, addL, lMul, mulL, nMul, nI_add, subL, lSub, nSub, nDec, nCl, lCl, nVp, lVp, nLe, nLt, nEq, lLe, leL, lLt, ltL, eqL, lEq, nM1, nM2, litLt0, one01, zero01, oneNe0, xupE, xupA, xupK, xI_I, xS_I, xF_I, xJ_I, xI_R, xS_R, xF_R, xJ_R, xI_L, xS_L, xF_L, xJ_L, xcat_s, le46, ge16, or_true, true_or, false_or, or_false, eq_self, Option.toList_some, Option.toList_none, List.cons_append, List.nil_append, true_and, and_true, not_false_eq_true, not_true_eq_false, if_true, if_false]
          by_cases b : isBl c i = true
          · have nx : ∀ z2, RG xprog 89 7 [some (.ref 439), some (.int (nI (i + 1))), z2, z3, z4, none, z6, z7] [] M1 Q := fun z2 => ih (i + 1) m M1 z2 z3 z4 z6 z7 (by omega) (by omega) hm e1 t1 p1 (by rw [← rn_step hn ⟨qi, b⟩]; exact r1)
            by_cases b1 : c i = 9
            · rw [if_pos b1]; exact nx _
            rw [if_neg b1]
            by_cases b2 : c i = 10
            · rw [if_pos b2]; exact nx _
            rw [if_neg b2]
            by_cases b3 : c i = 13
            · rw [if_pos b3]; exact nx _
            rw [if_neg b3]
            have b4 : c i = 32 := by have := bl.mp b; omega
            rw [if_neg (fun z => z b4)]
            exact nx _
          · have nb : ¬ (c i = 9 ∨ c i = 10 ∨ c i = 13 ∨ c i = 32) := fun z => b (bl.mpr z)
            have tp : tpos n c m = i := by rw [← r1]; exact rn_stay (fun z => b z.2)
            rw [if_neg (show ¬ c i = 9 by omega), if_neg (show ¬ c i = 10 by omega), if_neg (show ¬ c i = 13 by omega), if_pos (show ¬ c i = 32 by omega)]
            have il := fun Q => r_isLetter' (M := M1) (n := n) (i := i) (c := c) (Q := Q) hc
            rw [eb] at il
            rw [il]
            simp (disch := omega) only [lAdd, addL, lMul, mulL, nMul, nI_add, subL, lSub, nSub, nDec, nCl, lCl, nVp, lVp, nLe, nLt, nEq, lLe, leL, lLt, ltL, eqL, lEq, nM1, nM2, litLt0, one01, zero01, oneNe0, xupE, xupA, xupK, xI_I, xS_I, xF_I, xJ_I, xI_R, xS_R, xF_R, xJ_R, xI_L, xS_L, xF_L, xJ_L, xcat_s, le46, ge16, or_true, true_or, false_or, or_false, eq_self, Option.toList_some, Option.toList_none, List.cons_append, List.nil_append, true_and, and_true, not_false_eq_true, not_true_eq_false, if_true, if_false, B_89_77]
            have pm : ∀ k, k < m + 1 → tpos n c k < n := fun k hk => by
              by_cases z : k = m
              · rw [z, tp]; exact qi
              · exact p1 k (by omega)
            have ps : ∀ e, tkE n c i = e → rn (isBl c) n 2000 e = tpos n c (m + 1) := fun e he => by
              show _ = rn (isBl c) n 2000 (tkE n c (tpos n c m))
              rw [tp, he]
            by_cases w : isWd c i = true
            · rw [if_pos (c := i < n ∧ isWd c i = true) ⟨qi, w⟩, if_neg (by decide)]
              refine r_letters h1 (by omega) ?_
              intro l hl
              have g1 := rn_ge (isWd c) n 2000 i
              have g2 := rn_le (isWd c) n 2000 i hi
              have g3 : i < rn (isWd c) n 2000 i := by
                have := rn_ge (isWd c) n 2000 (i + 1)
                rw [rn_step hn ⟨qi, w⟩]
                omega
              have eE : tkE n c i = i + l := by unfold tkE; rw [if_pos qi, if_pos w]; omega
              have tk : ∀ (k6 : Int32) (z7 : Option Value), k6 = nI (rkK n c i) → RG xprog 89 179 [some (.ref 439), some (.int (nI i)), some (.int (nI (c i))), some (.int (nI l)), some (.long (Int64.ofNat (nmv 27 c i l))), none, some (.int k6), z7] [] M1 Q := by
                intro k6 z7 hk6
                rw [B_89_179]
                simp (disch := omega) only [h1.1.s, lAdd, addL, lMul, mulL, nMul, nI_add, subL, lSub, nSub, nDec, nCl, lCl, nVp, lVp, nLe, nLt, nEq, lLe, leL, lLt, ltL, eqL, lEq, nM1, nM2, litLt0, one01, zero01, oneNe0, xupE, xupA, xupK, xI_I, xS_I, xF_I, xJ_I, xI_R, xS_R, xF_R, xJ_R, xI_L, xS_L, xF_L, xJ_L, xcat_s, le46, ge16, or_true, true_or, false_or, or_false, eq_self, Option.toList_some, Option.toList_none, List.cons_append, List.nil_append, true_and, and_true, not_false_eq_true, not_true_eq_false, if_true, if_false]
                refine r_token h1.1 t1 (by omega) ?_
                intro M2 e2 t2
                simp (disch := omega) only [lAdd, addL, lMul, mulL, nMul, nI_add, subL, lSub, nSub, nDec, nCl, lCl, nVp, lVp, nLe, nLt, nEq, lLe, leL, lLt, ltL, eqL, lEq, nM1, nM2, litLt0, one01, zero01, oneNe0, xupE, xupA, xupK, xI_I, xS_I, xF_I, xJ_I, xI_R, xS_R, xF_R, xJ_R, xI_L, xS_L, xF_L, xJ_L, xcat_s, le46, ge16, or_true, true_or, false_or, or_false, eq_self, Option.toList_some, Option.toList_none, List.cons_append, List.nil_append, true_and, and_true, not_false_eq_true, not_true_eq_false, if_true, if_false, B_89_189]
                refine ih (i + l) (m + 1) M2 _ _ _ _ _ (by omega) (by omega) (by omega) (e1.trans e2) (rtk_up t2 ?_ ?_ ?_ ?_) pm (ps _ eE)
                · rw [tp]; exact hk6
                · rw [tp]
                · rw [tp]; unfold rkV; rw [if_pos qi, if_pos w]; rfl
                · rw [tp]; unfold rkNm; rw [if_pos qi, if_pos w, ← hl]
              rw [B_89_95, if_pos rfl]
              simp (disch := omega) only [lAdd, addL, lMul, mulL, nMul, nI_add, subL, lSub, nSub, nDec, nCl, lCl, nVp, lVp, nLe, nLt, nEq, lLe, leL, lLt, ltL, eqL, lEq, nM1, nM2, litLt0, one01, zero01, oneNe0, xupE, xupA, xupK, xI_I, xS_I, xF_I, xJ_I, xI_R, xS_R, xF_R, xJ_R, xI_L, xS_L, xF_L, xJ_L, xcat_s, le46, ge16, or_true, true_or, false_or, or_false, eq_self, Option.toList_some, Option.toList_none, List.cons_append, List.nil_append, true_and, and_true, not_false_eq_true, not_true_eq_false, if_true, if_false]
              by_cases l8 : l ≤ 8
              · rw [if_pos l8, B_89_135]
                simp (disch := omega) only [lAdd, addL, lMul, mulL, nMul, nI_add, subL, lSub, nSub, nDec, nCl, lCl, nVp, lVp, nLe, nLt, nEq, lLe, leL, lLt, ltL, eqL, lEq, nM1, nM2, litLt0, one01, zero01, oneNe0, xupE, xupA, xupK, xI_I, xS_I, xF_I, xJ_I, xI_R, xS_R, xF_R, xJ_R, xI_L, xS_L, xF_L, xJ_L, xcat_s, le46, ge16, or_true, true_or, false_or, or_false, eq_self, Option.toList_some, Option.toList_none, List.cons_append, List.nil_append, true_and, and_true, not_false_eq_true, not_true_eq_false, if_true, if_false, if_neg]
                refine r_keys h1 ?_
                intro z7
                refine tk _ _ ?_
                unfold rkK
                rw [if_pos qi, if_pos w, ← hl, if_pos l8]
              · rw [if_neg l8, B_89_135]
                simp (disch := omega) only [lAdd, addL, lMul, mulL, nMul, nI_add, subL, lSub, nSub, nDec, nCl, lCl, nVp, lVp, nLe, nLt, nEq, lLe, leL, lLt, ltL, eqL, lEq, nM1, nM2, litLt0, one01, zero01, oneNe0, xupE, xupA, xupK, xI_I, xS_I, xF_I, xJ_I, xI_R, xS_R, xF_R, xJ_R, xI_L, xS_L, xF_L, xJ_L, xcat_s, le46, ge16, or_true, true_or, false_or, or_false, eq_self, Option.toList_some, Option.toList_none, List.cons_append, List.nil_append, true_and, and_true, not_false_eq_true, not_true_eq_false, if_true, if_false, if_pos]
                refine tk _ _ ?_
                unfold rkK
                rw [if_pos qi, if_pos w, ← hl, if_neg l8]
                rfl
            · rw [if_neg (c := i < n ∧ isWd c i = true) (fun z => w z.2), if_pos rfl]
              have id := fun Q => r_isDigit' (M := M1) (n := n) (i := i) (c := c) (Q := Q) hc
              rw [eb] at id
              rw [id]
              simp (disch := omega) only [lAdd, addL, lMul, mulL, nMul, nI_add, subL, lSub, nSub, nDec, nCl, lCl, nVp, lVp, nLe, nLt, nEq, lLe, leL, lLt, ltL, eqL, lEq, nM1, nM2, litLt0, one01, zero01, oneNe0, xupE, xupA, xupK, xI_I, xS_I, xF_I, xJ_I, xI_R, xS_R, xF_R, xJ_R, xI_L, xS_L, xF_L, xJ_L, xcat_s, le46, ge16, or_true, true_or, false_or, or_false, eq_self, Option.toList_some, Option.toList_none, List.cons_append, List.nil_append, true_and, and_true, not_false_eq_true, not_true_eq_false, if_true, if_false, B_89_200]
              by_cases d : isDg c i = true
              · rw [if_pos (c := i < n ∧ isDg c i = true) ⟨qi, d⟩, if_neg (by decide)]
                refine r_digits h1 (by omega) ?_
                intro l hl
                have g1 := rn_ge (isDg c) n 2000 i
                have g2 := rn_le (isDg c) n 2000 i hi
                have g3 : i < rn (isDg c) n 2000 i := by
                  have := rn_ge (isDg c) n 2000 (i + 1)
                  rw [rn_step hn ⟨qi, d⟩]
                  omega
                have eE : tkE n c i = i + l := by unfold tkE; rw [if_pos qi, if_neg w, if_pos d]; omega
                have tk : ∀ k6 : Int32, k6 = nI (rkK n c i) → RG xprog 89 261 [some (.ref 439), some (.int (nI i)), some (.int (nI (c i))), some (.int (nI l)), some (.int (nI (dgv c i l))), none, z6, z7] [.int k6, .ref 439] M1 Q := by
                  intro k6 hk6
                  rw [B_89_261]
                  simp (disch := omega) only [h1.1.s, lAdd, addL, lMul, mulL, nMul, nI_add, subL, lSub, nSub, nDec, nCl, lCl, nVp, lVp, nLe, nLt, nEq, lLe, leL, lLt, ltL, eqL, lEq, nM1, nM2, litLt0, one01, zero01, oneNe0, xupE, xupA, xupK, xI_I, xS_I, xF_I, xJ_I, xI_R, xS_R, xF_R, xJ_R, xI_L, xS_L, xF_L, xJ_L, xcat_s, le46, ge16, or_true, true_or, false_or, or_false, eq_self, Option.toList_some, Option.toList_none, List.cons_append, List.nil_append, true_and, and_true, not_false_eq_true, not_true_eq_false, if_true, if_false]
                  refine r_token h1.1 t1 (by omega) ?_
                  intro M2 e2 t2
                  simp (disch := omega) only [lAdd, addL, lMul, mulL, nMul, nI_add, subL, lSub, nSub, nDec, nCl, lCl, nVp, lVp, nLe, nLt, nEq, lLe, leL, lLt, ltL, eqL, lEq, nM1, nM2, litLt0, one01, zero01, oneNe0, xupE, xupA, xupK, xI_I, xS_I, xF_I, xJ_I, xI_R, xS_R, xF_R, xJ_R, xI_L, xS_L, xF_L, xJ_L, xcat_s, le46, ge16, or_true, true_or, false_or, or_false, eq_self, Option.toList_some, Option.toList_none, List.cons_append, List.nil_append, true_and, and_true, not_false_eq_true, not_true_eq_false, if_true, if_false, B_89_268]
                  refine ih (i + l) (m + 1) M2 _ _ _ _ _ (by omega) (by omega) (by omega) (e1.trans e2) (rtk_up t2 ?_ ?_ ?_ ?_) pm (ps _ eE)
                  · rw [tp]; exact hk6
                  · rw [tp]
                  · rw [tp]; unfold rkV; rw [if_pos qi, if_neg w, if_pos d, ← hl]
                  · rw [tp]; unfold rkNm; rw [if_pos qi, if_neg w]
                rw [B_89_218, if_pos rfl]
                simp (disch := omega) only [lAdd, addL, lMul, mulL, nMul, nI_add, subL, lSub, nSub, nDec, nCl, lCl, nVp, lVp, nLe, nLt, nEq, lLe, leL, lLt, ltL, eqL, lEq, nM1, nM2, litLt0, one01, zero01, oneNe0, xupE, xupA, xupK, xI_I, xS_I, xF_I, xJ_I, xI_R, xS_R, xF_R, xJ_R, xI_L, xS_L, xF_L, xJ_L, xcat_s, le46, ge16, or_true, true_or, false_or, or_false, eq_self, Option.toList_some, Option.toList_none, List.cons_append, List.nil_append, true_and, and_true, not_false_eq_true, not_true_eq_false, if_true, if_false]
                by_cases l8 : l ≤ 4
                · rw [if_pos l8]
                  refine tk _ ?_
                  unfold rkK
                  rw [if_pos qi, if_neg w, if_pos d, ← hl, if_pos l8]
                  rfl
                · rw [if_neg l8]
                  refine tk _ ?_
                  unfold rkK
                  rw [if_pos qi, if_neg w, if_pos d, ← hl, if_neg l8]
                  rfl
              · rw [if_neg (c := i < n ∧ isDg c i = true) (fun z => d z.2), if_pos rfl]
                simp (disch := omega) only [h1.1.s, lAdd, addL, lMul, mulL, nMul, nI_add, subL, lSub, nSub, nDec, nCl, lCl, nVp, lVp, nLe, nLt, nEq, lLe, leL, lLt, ltL, eqL, lEq, nM1, nM2, litLt0, one01, zero01, oneNe0, xupE, xupA, xupK, xI_I, xS_I, xF_I, xJ_I, xI_R, xS_R, xF_R, xJ_R, xI_L, xS_L, xF_L, xJ_L, xcat_s, le46, ge16, or_true, true_or, false_or, or_false, eq_self, Option.toList_some, Option.toList_none, List.cons_append, List.nil_append, true_and, and_true, not_false_eq_true, not_true_eq_false, if_true, if_false, r_byteAt h1 (show i + 1 ≤ 5000 by omega), B_89_286]
                have eE : tkE n c i = i + 1 := by unfold tkE; rw [if_pos qi, if_neg w, if_neg d]
                refine r_sign h1.1 t1 (by omega) c6 ?_
                intro M2 e2 t2
                simp (disch := omega) only [lAdd, addL, lMul, mulL, nMul, nI_add, subL, lSub, nSub, nDec, nCl, lCl, nVp, lVp, nLe, nLt, nEq, lLe, leL, lLt, ltL, eqL, lEq, nM1, nM2, litLt0, one01, zero01, oneNe0, xupE, xupA, xupK, xI_I, xS_I, xF_I, xJ_I, xI_R, xS_R, xF_R, xJ_R, xI_L, xS_L, xF_L, xJ_L, xcat_s, le46, ge16, or_true, true_or, false_or, or_false, eq_self, Option.toList_some, Option.toList_none, List.cons_append, List.nil_append, true_and, and_true, not_false_eq_true, not_true_eq_false, if_true, if_false, B_89_289]
                refine ih (i + 1) (m + 1) M2 _ _ _ _ _ (by omega) (by omega) (by omega) (e1.trans e2) (rtk_up t2 ?_ ?_ ?_ ?_) pm (ps _ eE)
                · rw [tp]; unfold rkK; rw [if_pos qi, if_neg w, if_neg d]
                · rw [tp]
                · rw [tp]; unfold rkV; rw [if_pos qi, if_neg w, if_neg d]; rfl
                · rw [tp]; unfold rkNm; rw [if_pos qi, if_neg w]
        · rw [if_neg (c := i < n) qi]
          have tp : tpos n c m = i := by rw [← r1]; exact rn_stay (fun z => qi z.1)
          have ein : i = n := by omega
          refine r_token h1.1 t1 (by omega) ?_
          intro M2 e2 t2
          simp (disch := omega) only [lAdd, addL, lMul, mulL, nMul, nI_add, subL, lSub, nSub, nDec, nCl, lCl, nVp, lVp, nLe, nLt, nEq, lLe, leL, lLt, ltL, eqL, lEq, nM1, nM2, litLt0, one01, zero01, oneNe0, xupE, xupA, xupK, xI_I, xS_I, xF_I, xJ_I, xI_R, xS_R, xF_R, xJ_R, xI_L, xS_L, xF_L, xJ_L, xcat_s, le46, ge16, or_true, true_or, false_or, or_false, eq_self, Option.toList_some, Option.toList_none, List.cons_append, List.nil_append, true_and, and_true, not_false_eq_true, not_true_eq_false, if_true, if_false, B_89_42]
          refine hQ M2 m (e1.trans e2) (rtk_up t2 ?_ ?_ ?_ ?_) (by omega) p1 (Or.inr (by rw [tp]; exact qi))
          · rw [tp]; unfold rkK; rw [if_neg qi]; rfl
          · rw [tp, ein]
          · rw [tp]; unfold rkV; rw [if_neg qi]; rfl
          · rw [tp]; unfold rkNm; rw [if_neg qi]
  exact loop (n + 1) 0 0 _ _ _ _ _ _ (by omega) (by omega) (by omega) e0 t0 (fun k hk => by omega) rfl
