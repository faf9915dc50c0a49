/-! chain: the reference -/
def RF (M : XM) (S : XS) (g : Nat → Nat) : Prop := (∀ x, x < tN (zT S) → xI M 480 x = nI (g x)) ∧ ∀ x, tN (zT S) ≤ x → x < 7 → xI M 480 x = 0
theorem HF_7 {T : XT} (F : XO) (n7 : tN T ≤ 7) : midH T F 7 0 0 = HF T F := by
  have := mr_more (dA_lt T F) (dA_n T) (h0A T F) (7 - tN T)
  rw [show tN T + (7 - tN T) = 7 by omega] at this
  unfold midH HF
  rw [iter_z, iter_z]
  exact this
theorem r_fillsRows {M0 M : XM} {lv B : Nat} {S : XS} {Q : Option Value → XM → Prop} (h : RK M0 lv S M) (hi : SInv B S) (hB : B ≤ 99999)
    (hQ : ∀ M' : XM, RQ M0 lv S (zF S) (tS (zT S) 2) 0 M' → RF M' S (HF (zT S) (zF S)) → Q none M') :
    RG xprog 226 0 [some (.ref 439), none, none, none] [] M Q := by
  have n7 := h.1.1.n7
  have l2 := h.1.1.lv2
  rw [B_226_0]
  simp (disch := omega) only [h.1.1.1.s, lAdd, addL, lMul, mulL, nMul, nI_add, subL, lSub, nSub, nDec, nCl, lCl, nVp, lVp, nLe, nLt, nEq, lLe, leL, lLt, ltL, eqL, lEq, nM1, nM2, litLt0, one01, zero01, oneNe0, xupE, xupA, xupK, xI_I, xS_I, xF_I, xJ_I, xI_R, xS_R, xF_R, xJ_R, xI_L, xS_L, xF_L, xJ_L, xcat_s, le46, ge16, or_true, true_or, false_or, or_false, eq_self, Option.toList_some, Option.toList_none, List.cons_append, List.nil_append, true_and, and_true, not_false_eq_true, not_true_eq_false, if_true, if_false]
  refine r_copies h hi hB ?_
  intro M1 h1
  simp (disch := omega) only [lAdd, addL, lMul, mulL, nMul, nI_add, subL, lSub, nSub, nDec, nCl, lCl, nVp, lVp, nLe, nLt, nEq, lLe, leL, lLt, ltL, eqL, lEq, nM1, nM2, litLt0, one01, zero01, oneNe0, xupE, xupA, xupK, xI_I, xS_I, xF_I, xJ_I, xI_R, xS_R, xF_R, xJ_R, xI_L, xS_L, xF_L, xJ_L, xcat_s, le46, ge16, or_true, true_or, false_or, or_false, eq_self, Option.toList_some, Option.toList_none, List.cons_append, List.nil_append, true_and, and_true, not_false_eq_true, not_true_eq_false, if_true, if_false, B_226_4]
  refine x_for 7 (fun i M2 => RQ M0 lv S (zF S) (tS (zT S) 2) 0 M2 ∧ ∀ x, x < i → xI M2 480 x = nI (h0A (zT S) (zF S) x)) (fun i M2 => RG xprog 226 6 [some (.ref 439), some (.int (nI i)), none, none] [] M2 Q) ?_ ?_ 0 M1 (by omega) ⟨h1, fun x hx => by omega⟩
  · intro M2 ⟨k2, f2⟩
    rw [B_226_6]
    simp (disch := omega) only [lAdd, addL, lMul, mulL, nMul, nI_add, subL, lSub, nSub, nDec, nCl, lCl, nVp, lVp, nLe, nLt, nEq, lLe, leL, lLt, ltL, eqL, lEq, nM1, nM2, litLt0, one01, zero01, oneNe0, xupE, xupA, xupK, xI_I, xS_I, xF_I, xJ_I, xI_R, xS_R, xF_R, xJ_R, xI_L, xS_L, xF_L, xJ_L, xcat_s, le46, ge16, or_true, true_or, false_or, or_false, eq_self, Option.toList_some, Option.toList_none, List.cons_append, List.nil_append, true_and, and_true, not_false_eq_true, not_true_eq_false, if_true, if_false, if_pos]
    have z0 : ∀ x, tN (zT S) ≤ x → h0A (zT S) (zF S) x = 0 := fun x hx => by
      unfold h0A
      rw [if_neg]
      intro z
      have := ((thN_iff (zT S) (zF S) x).mp z).1
      omega
    refine x_for 7 (fun k (s : XM × Option Value × Option Value) => RQ M0 lv S (zF S) (tS (zT S) 2) 0 s.1 ∧ RF s.1 S (midH (zT S) (zF S) k 0 0)) (fun k s => RG xprog 226 54 [some (.ref 439), some (.int (nI k)), s.2.1, s.2.2] [] s.1 Q) ?_ ?_ 0 (M2, none, none) (by omega) ⟨k2, fun x hx => by rw [mid_0]; exact f2 x (by omega), fun x hx h7 => by have := f2 x h7; rw [z0 x hx] at this; exact this⟩
    · rintro ⟨M3, z1, z2⟩ ⟨k3, f3⟩
      dsimp only at k3 f3 ⊢
      rw [B_226_54]
      simp (disch := omega) only [lAdd, addL, lMul, mulL, nMul, nI_add, subL, lSub, nSub, nDec, nCl, lCl, nVp, lVp, nLe, nLt, nEq, lLe, leL, lLt, ltL, eqL, lEq, nM1, nM2, litLt0, one01, zero01, oneNe0, xupE, xupA, xupK, xI_I, xS_I, xF_I, xJ_I, xI_R, xS_R, xF_R, xJ_R, xI_L, xS_L, xF_L, xJ_L, xcat_s, le46, ge16, or_true, true_or, false_or, or_false, eq_self, Option.toList_some, Option.toList_none, List.cons_append, List.nil_append, true_and, and_true, not_false_eq_true, not_true_eq_false, if_true, if_false, if_pos]
      rw [HF_7 _ n7] at f3
      exact hQ M3 k3 f3
    · rintro k ⟨M3, z1, z2⟩ hk ⟨k3, f3⟩ ih
      dsimp only at k3 f3 ⊢
      rw [B_226_54]
      simp (disch := omega) only [lAdd, addL, lMul, mulL, nMul, nI_add, subL, lSub, nSub, nDec, nCl, lCl, nVp, lVp, nLe, nLt, nEq, lLe, leL, lLt, ltL, eqL, lEq, nM1, nM2, litLt0, one01, zero01, oneNe0, xupE, xupA, xupK, xI_I, xS_I, xF_I, xJ_I, xI_R, xS_R, xF_R, xJ_R, xI_L, xS_L, xF_L, xJ_L, xcat_s, le46, ge16, or_true, true_or, false_or, or_false, eq_self, Option.toList_some, Option.toList_none, List.cons_append, List.nil_append, true_and, and_true, not_false_eq_true, not_true_eq_false, if_true, if_false, if_neg]
      refine x_for (tN (zT S)) (fun l (s : XM × Option Value) => RQ M0 lv S (zF S) (tS (zT S) 2) 0 s.1 ∧ RF s.1 S (midH (zT S) (zF S) k l 0)) (fun l s => RG xprog 226 62 [some (.ref 439), some (.int (nI k)), some (.int (nI l)), s.2] [] s.1 Q) ?_ ?_ 0 (M3, z2) (by omega) ⟨k3, f3⟩
      · rintro ⟨M4, z3⟩ ⟨k4, f4⟩
        dsimp only at k4 f4 ⊢
        rw [B_226_62]
        simp (disch := omega) only [k4.2.1.s.s, k4.2.1.s.f, k4.2.1.v, k4.2.1.n, k4.2.1.r, lAdd, addL, lMul, mulL, nMul, nI_add, subL, lSub, nSub, nDec, nCl, lCl, nVp, lVp, nLe, nLt, nEq, lLe, leL, lLt, ltL, eqL, lEq, nM1, nM2, litLt0, one01, zero01, oneNe0, xupE, xupA, xupK, xI_I, xS_I, xF_I, xJ_I, xI_R, xS_R, xF_R, xJ_R, xI_L, xS_L, xF_L, xJ_L, xcat_s, le46, ge16, or_true, true_or, false_or, or_false, eq_self, Option.toList_some, Option.toList_none, List.cons_append, List.nil_append, true_and, and_true, not_false_eq_true, not_true_eq_false, if_true, if_false, Nat.le_refl]
        rw [← mid_k] at f4
        exact ih (M4, _, _) ⟨k4, f4⟩
      · rintro l ⟨M4, z3⟩ hl ⟨k4, f4⟩ ih2
        dsimp only at k4 f4 ⊢
        rw [B_226_62]
        simp (disch := omega) only [k4.2.1.s.s, k4.2.1.s.f, k4.2.1.v, k4.2.1.n, k4.2.1.r, lAdd, addL, lMul, mulL, nMul, nI_add, subL, lSub, nSub, nDec, nCl, lCl, nVp, lVp, nLe, nLt, nEq, lLe, leL, lLt, ltL, eqL, lEq, nM1, nM2, litLt0, one01, zero01, oneNe0, xupE, xupA, xupK, xI_I, xS_I, xF_I, xJ_I, xI_R, xS_R, xF_R, xJ_R, xI_L, xS_L, xF_L, xJ_L, xcat_s, le46, ge16, or_true, true_or, false_or, or_false, eq_self, Option.toList_some, Option.toList_none, List.cons_append, List.nil_append, true_and, and_true, not_false_eq_true, not_true_eq_false, if_true, if_false, if_neg]
        refine x_for (tN (zT S)) (fun o M5 => RQ M0 lv S (zF S) (tS (zT S) 2) 0 M5 ∧ RF M5 S (midH (zT S) (zF S) k l o)) (fun o M5 => RG xprog 226 77 [some (.ref 439), some (.int (nI k)), some (.int (nI l)), some (.int (nI o))] [] M5 Q) ?_ ?_ 0 M4 (by omega) ⟨k4, f4⟩
        · intro M5 ⟨k5, f5⟩
          rw [B_226_77]
          simp (disch := omega) only [k5.2.1.s.s, k5.2.1.s.f, k5.2.1.v, k5.2.1.n, k5.2.1.r, lAdd, addL, lMul, mulL, nMul, nI_add, subL, lSub, nSub, nDec, nCl, lCl, nVp, lVp, nLe, nLt, nEq, lLe, leL, lLt, ltL, eqL, lEq, nM1, nM2, litLt0, one01, zero01, oneNe0, xupE, xupA, xupK, xI_I, xS_I, xF_I, xJ_I, xI_R, xS_R, xF_R, xJ_R, xI_L, xS_L, xF_L, xJ_L, xcat_s, le46, ge16, or_true, true_or, false_or, or_false, eq_self, Option.toList_some, Option.toList_none, List.cons_append, List.nil_append, true_and, and_true, not_false_eq_true, not_true_eq_false, if_true, if_false, Nat.le_refl]
          rw [← mid_l] at f5
          exact ih2 (M5, _) ⟨k5, f5⟩
        · intro o M5 ho ⟨k5, f5⟩ ih3
          have b1 := mid_b (T := zT S) (F := zF S) n7 (k := k) (l := l) (o := o) (x := l) (by omega) (by omega) (Or.inl hl) hl
          have b2 := mid_b (T := zT S) (F := zF S) n7 (k := k) (l := l) (o := o) (x := o) (by omega) (by omega) (Or.inl hl) ho
          have tl := midH_t (zT S) (zF S) k l o l
          have to := midH_t (zT S) (zF S) k l o o
          rw [mid_o] at ih3
          unfold mst at ih3
          rw [B_226_77]
          simp (disch := omega) only [k5.2.1.s.s, k5.2.1.s.f, k5.2.1.v, k5.2.1.n, k5.2.1.r, lAdd, addL, lMul, mulL, nMul, nI_add, subL, lSub, nSub, nDec, nCl, lCl, nVp, lVp, nLe, nLt, nEq, lLe, leL, lLt, ltL, eqL, lEq, nM1, nM2, litLt0, one01, zero01, oneNe0, xupE, xupA, xupK, xI_I, xS_I, xF_I, xJ_I, xI_R, xS_R, xF_R, xJ_R, xI_L, xS_L, xF_L, xJ_L, xcat_s, le46, ge16, or_true, true_or, false_or, or_false, eq_self, Option.toList_some, Option.toList_none, List.cons_append, List.nil_append, true_and, and_true, not_false_eq_true, not_true_eq_false, if_true, if_false, if_neg, f5.1 l hl, f5.1 o ho]
          by_cases c1 : midH (zT S) (zF S) k l o l ≤ 0
          · rw [if_pos c1]
            rw [if_neg (fun z => by
              have := tl.mpr ((pA_iff _ _ _ _).mp z.1).2.1
              omega)] at ih3
            exact ih3 M5 ⟨k5, f5⟩
          rw [if_neg c1]
          by_cases c2 : midH (zT S) (zF S) k l o o < midH (zT S) (zF S) k l o l
          · rw [if_pos c2]
            rw [if_neg (fun z => by omega)] at ih3
            exact ih3 M5 ⟨k5, f5⟩
          rw [if_neg c2]
          refine r_doesAnswer k5.2.1 ho hl ?_
          intro M6 e6
          have k6 := k5.stepL e6
          have f6 : RF M6 S (midH (zT S) (zF S) k l o) := ⟨fun x hx => by rw [e6.I (by unfold rL; omega)]; exact f5.1 x hx, fun x hx h7 => by rw [e6.I (by unfold rL; omega)]; exact f5.2 x hx h7⟩
          simp (disch := omega) only [lAdd, addL, lMul, mulL, nMul, nI_add, subL, lSub, nSub, nDec, nCl, lCl, nVp, lVp, nLe, nLt, nEq, lLe, leL, lLt, ltL, eqL, lEq, nM1, nM2, litLt0, one01, zero01, oneNe0, xupE, xupA, xupK, xI_I, xS_I, xF_I, xJ_I, xI_R, xS_R, xF_R, xJ_R, xI_L, xS_L, xF_L, xJ_L, xcat_s, le46, ge16, or_true, true_or, false_or, or_false, eq_self, Option.toList_some, Option.toList_none, List.cons_append, List.nil_append, true_and, and_true, not_false_eq_true, not_true_eq_false, if_true, if_false, B_226_120, k6.2.1.s.s, k6.2.1.s.f, k6.2.1.v, k6.2.1.n, k6.2.1.r, f6.1 o ho]
          by_cases ha : ansb (zT S) (oD (zF S)) o l
          · rw [if_pos ha, if_neg (by decide)]
            have hp : pA (zT S) (zF S) o l = true := (pA_iff _ _ _ _).mpr ⟨ho, tl.mp (by omega), to.mp (by omega), ha⟩
            rw [if_pos ⟨hp, by omega⟩] at ih3
            refine ih3 _ ⟨k6.wE _ (by omega), fun x hx => ?_, fun x hx h7 => ?_⟩
            · rw [xI_I, xo_at]
              by_cases q : x = l
              · rw [q, xupE, if_pos rfl]
              · rw [xupK _ _ q, if_neg q]; exact f6.1 x hx
            · rw [xI_I, xupK _ _ (by omega)]; exact f6.2 x hx h7
          · rw [if_neg ha, if_pos rfl]
            rw [if_neg (fun z => ha ((pA_iff _ _ _ _).mp z.1).2.2.2)] at ih3
            exact ih3 M6 ⟨k6, f6⟩
  · intro i M2 hi' ⟨k2, f2⟩ ih
    have put : ∀ x : Nat, x = h0A (zT S) (zF S) i → RG xprog 226 45 [some (.ref 439), some (.int (nI i)), none, none] [.int (nI x), .int (nI i), .ref 480] M2 Q := by
      intro x hx
      rw [B_226_45]
      simp (disch := omega) only [k2.2.1.s.s, k2.2.1.s.f, k2.2.1.v, k2.2.1.n, k2.2.1.r, lAdd, addL, lMul, mulL, nMul, nI_add, subL, lSub, nSub, nDec, nCl, lCl, nVp, lVp, nLe, nLt, nEq, lLe, leL, lLt, ltL, eqL, lEq, nM1, nM2, litLt0, one01, zero01, oneNe0, xupE, xupA, xupK, xI_I, xS_I, xF_I, xJ_I, xI_R, xS_R, xF_R, xJ_R, xI_L, xS_L, xF_L, xJ_L, xcat_s, le46, ge16, or_true, true_or, false_or, or_false, eq_self, Option.toList_some, Option.toList_none, List.cons_append, List.nil_append, true_and, and_true, not_false_eq_true, not_true_eq_false, if_true, if_false]
      refine ih _ ⟨k2.wE _ (by omega), fun j hj => ?_⟩
      rw [xI_I]
      by_cases q : j = i
      · rw [q, xupE, hx]
      · rw [xupK _ _ q]; exact f2 j (by omega)
    have tb := thN_iff (zT S) (zF S) i
    rw [B_226_6]
    simp (disch := omega) only [k2.2.1.s.s, k2.2.1.s.f, k2.2.1.v, k2.2.1.n, k2.2.1.r, lAdd, addL, lMul, mulL, nMul, nI_add, subL, lSub, nSub, nDec, nCl, lCl, nVp, lVp, nLe, nLt, nEq, lLe, leL, lLt, ltL, eqL, lEq, nM1, nM2, litLt0, one01, zero01, oneNe0, xupE, xupA, xupK, xI_I, xS_I, xF_I, xJ_I, xI_R, xS_R, xF_R, xJ_R, xI_L, xS_L, xF_L, xJ_L, xcat_s, le46, ge16, or_true, true_or, false_or, or_false, eq_self, Option.toList_some, Option.toList_none, List.cons_append, List.nil_append, true_and, and_true, not_false_eq_true, not_true_eq_false, if_true, if_false, if_neg, k2.2.1.l hi']
    by_cases c1 : tN (zT S) ≤ i
    · rw [if_pos c1]
      exact put 0 (by unfold h0A; rw [if_neg (fun z => by have := (tb.mp z).1; omega)])
    · rw [if_neg c1]
      by_cases c2 : oW (zF S) i = 3
      · rw [if_pos c2]
        exact put 0 (by unfold h0A; rw [if_neg (fun z => (tb.mp z).2 c2)])
      · rw [if_neg c2]
        exact put 1 (by unfold h0A; rw [if_pos (tb.mpr ⟨by omega, c2⟩)])
theorem mx_z {g h : Nat → Nat} {n : Nat} (h1 : ∀ x, x < n → g x = h x) (h2 : ∀ x, n ≤ x → g x = 0) : ∀ k, mxN g (n + k) = mxN h n
  | 0 => by
    have : ∀ m, m ≤ n → mxN g m = mxN h m := by
      intro m
      induction m with
      | zero => intro _; rfl
      | succ m ih => intro hm; rw [mxN_s, mxN_s, ih (by omega), h1 m (by omega)]
    exact this n (Nat.le_refl _)
  | k + 1 => by
    rw [show n + (k + 1) = (n + k) + 1 by omega, mxN_s, mx_z h1 h2 k, h2 (n + k) (by omega), if_neg (by omega)]
theorem r_chain {M0 M : XM} {lv B : Nat} {S : XS} {x : Int32} {Q : Option Value → XM → Prop} (h : RK M0 lv S M) (hi : SInv B S) (hB : B ≤ 99999)
    (hQ : ∀ M' : XM, RK M0 lv S M' → Q (some (.int (A_chain S x))) M') :
    RG xprog 227 0 [some (.ref 439), some (.int x), none, none, none, none] [] M Q := by
  have n7 := h.1.1.n7
  have l2 := h.1.1.lv2
  have m7 := mxF_le (F := zF S) n7
  have cp := chN_p (HF_J (zT S) (zF S)) (HF_W (zT S) (zF S))
  unfold A_chain at hQ
  rw [B_227_0]
  by_cases hx : (-1 : Int32) ≤ x
  · rw [if_pos hx]
    rw [if_pos hx] at hQ
    simp (disch := omega) only [h.1.1.1.s, lAdd, addL, lMul, mulL, nMul, nI_add, subL, lSub, nSub, nDec, nCl, lCl, nVp, lVp, nLe, nLt, nEq, lLe, leL, lLt, ltL, eqL, lEq, nM1, nM2, litLt0, one01, zero01, oneNe0, xupE, xupA, xupK, xI_I, xS_I, xF_I, xJ_I, xI_R, xS_R, xF_R, xJ_R, xI_L, xS_L, xF_L, xJ_L, xcat_s, le46, ge16, or_true, true_or, false_or, or_false, eq_self, Option.toList_some, Option.toList_none, List.cons_append, List.nil_append, true_and, and_true, not_false_eq_true, not_true_eq_false, if_true, if_false]
    refine r_fillsRows h hi hB ?_
    intro M1 h1 f1
    simp (disch := omega) only [lAdd, addL, lMul, mulL, nMul, nI_add, subL, lSub, nSub, nDec, nCl, lCl, nVp, lVp, nLe, nLt, nEq, lLe, leL, lLt, ltL, eqL, lEq, nM1, nM2, litLt0, one01, zero01, oneNe0, xupE, xupA, xupK, xI_I, xS_I, xF_I, xJ_I, xI_R, xS_R, xF_R, xJ_R, xI_L, xS_L, xF_L, xJ_L, xcat_s, le46, ge16, or_true, true_or, false_or, or_false, eq_self, Option.toList_some, Option.toList_none, List.cons_append, List.nil_append, true_and, and_true, not_false_eq_true, not_true_eq_false, if_true, if_false, B_227_11]
    generalize hg : (fun x => if x < tN (zT S) then HF (zT S) (zF S) x else 0) = g
    have g1 : ∀ x, x < tN (zT S) → g x = HF (zT S) (zF S) x := fun x hx => by rw [← hg]; exact if_pos hx
    have g2 : ∀ x, tN (zT S) ≤ x → g x = 0 := fun x hx => by rw [← hg]; exact if_neg (by omega)
    have gr : ∀ x, x < 7 → xI M1 480 x = nI (g x) := fun x hx => by
      rcases Nat.lt_or_ge x (tN (zT S)) with z | z
      · rw [g1 x z]; exact f1.1 x z
      · rw [g2 x z]; exact f1.2 x z hx
    have gb : ∀ x, g x ≤ 7 := fun x => by
      rcases Nat.lt_or_ge x (tN (zT S)) with z | z
      · rw [g1 x z]; exact mid_b n7 (k := tN (zT S)) (l := 0) (o := 0) (by omega) (by omega) (Or.inr rfl) z
      · rw [g2 x z]; omega
    have gm : mxN g 7 = mxF (zT S) (zF S) := by
      have := mx_z g1 g2 (7 - tN (zT S))
      rw [show tN (zT S) + (7 - tN (zT S)) = 7 by omega] at this
      exact this
    have mb : ∀ i, mxN g i ≤ 7 := fun i => by
      rcases (mxN_p g i).2 with q | ⟨l, q1, q2⟩
      · omega
      · rw [← q2]; exact gb l
    refine x_for 7 (fun i (_ : Nat) => True) (fun i _ => RG xprog 227 15 [some (.ref 439), some (.int x), some (.int (nI (mxN g i))), some (.int (nI i)), none, none] [] M1 Q) ?_ ?_ 0 0 (by omega) trivial
    · intro _ _
      rw [gm, B_227_15]
      simp (disch := omega) only [lAdd, addL, lMul, mulL, nMul, nI_add, subL, lSub, nSub, nDec, nCl, lCl, nVp, lVp, nLe, nLt, nEq, lLe, leL, lLt, ltL, eqL, lEq, nM1, nM2, litLt0, one01, zero01, oneNe0, xupE, xupA, xupK, xI_I, xS_I, xF_I, xJ_I, xI_R, xS_R, xF_R, xJ_R, xI_L, xS_L, xF_L, xJ_L, xcat_s, le46, ge16, or_true, true_or, false_or, or_false, eq_self, Option.toList_some, Option.toList_none, List.cons_append, List.nil_append, true_and, and_true, not_false_eq_true, not_true_eq_false, if_true, if_false, if_pos]
      have q := hQ M1 h1.1
      by_cases hx1 : x = -1
      · rw [if_neg (fun z => z hx1)]
        rw [if_pos hx1] at q
        exact q
      rw [if_pos hx1]
      rw [if_neg hx1] at q hQ
      by_cases hx2 : nI (mxF (zT S) (zF S)) ≤ x
      · rw [if_pos hx2] at q
        rw [if_neg (by rw [le_nlt] at hx2; exact hx2)]
        exact q
      rw [if_neg hx2] at hQ
      rw [if_pos (Classical.not_not.mp (by rw [← le_nlt]; exact hx2))]
      have h0 : ¬ x < 0 := by
        rw [i32_le] at hx
        have e1 : (-1 : Int32).toInt = -1 := rfl
        have e0 : (0 : Int32).toInt = 0 := rfl
        rw [i32_lt, e0]
        have : x.toInt ≠ -1 := fun z => hx1 (Int32.toInt_inj.mp (by rw [z, e1]))
        omega
      obtain ⟨i, hi2, rfl⟩ := nOf h0 hx2 (by omega)
      rw [cN_n (by omega)] at hQ
      clear q
      -- behind the k-th
      have walk : ∀ j k (M2 : XM) (z : Option Value), k + j = i → RQ M0 lv S (zF S) (tS (zT S) 2) 0 M2 → (∀ x, x < 7 → xI M2 480 x = nI (g x)) → RG xprog 227 79 [some (.ref 439), some (.int (nI i)), some (.int (nI (mxF (zT S) (zF S)))), some (.int (nI (chF (zT S) (zF S) k))), some (.int (nI (k + 1))), z] [] M2 Q := by
        intro j
        induction j with
        | zero =>
          intro k M2 z hk k2 r2
          have : k = i := by omega
          subst this
          rw [B_227_79]
          simp (disch := omega) only [lAdd, addL, lMul, mulL, nMul, nI_add, subL, lSub, nSub, nDec, nCl, lCl, nVp, lVp, nLe, nLt, nEq, lLe, leL, lLt, ltL, eqL, lEq, nM1, nM2, litLt0, one01, zero01, oneNe0, xupE, xupA, xupK, xI_I, xS_I, xF_I, xJ_I, xI_R, xS_R, xF_R, xJ_R, xI_L, xS_L, xF_L, xJ_L, xcat_s, le46, ge16, or_true, true_or, false_or, or_false, eq_self, Option.toList_some, Option.toList_none, List.cons_append, List.nil_append, true_and, and_true, not_false_eq_true, not_true_eq_false, if_true, if_false, if_pos]
          exact hQ M2 k2.1
        | succ j ih =>
          intro k M2 z hk k2 r2
          obtain ⟨a1, a2⟩ := cp k (show k < mxF (zT S) (zF S) by omega)
          have a1' : chF (zT S) (zF S) k < tN (zT S) := a1
          have a2' : HF (zT S) (zF S) (chF (zT S) (zF S) k) = mxF (zT S) (zF S) - k := a2
          obtain ⟨b1, b2⟩ := cp (k + 1) (show k + 1 < mxF (zT S) (zF S) by omega)
          have b1' : chF (zT S) (zF S) (k + 1) < tN (zT S) := b1
          rw [B_227_79]
          simp (disch := omega) only [lAdd, addL, lMul, mulL, nMul, nI_add, subL, lSub, nSub, nDec, nCl, lCl, nVp, lVp, nLe, nLt, nEq, lLe, leL, lLt, ltL, eqL, lEq, nM1, nM2, litLt0, one01, zero01, oneNe0, xupE, xupA, xupK, xI_I, xS_I, xF_I, xJ_I, xI_R, xS_R, xF_R, xJ_R, xI_L, xS_L, xF_L, xJ_L, xcat_s, le46, ge16, or_true, true_or, false_or, or_false, eq_self, Option.toList_some, Option.toList_none, List.cons_append, List.nil_append, true_and, and_true, not_false_eq_true, not_true_eq_false, if_true, if_false, if_neg]
          have find : ∀ r o (M3 : XM), o + r = tN (zT S) → fstN (fun o => decide (HF (zT S) (zF S) o = mxF (zT S) (zF S) - (k + 1)) && pA (zT S) (zF S) o (chF (zT S) (zF S) k)) r o = chF (zT S) (zF S) (k + 1) → RQ M0 lv S (zF S) (tS (zT S) 2) 0 M3 → (∀ x, x < 7 → xI M3 480 x = nI (g x)) → RG xprog 227 88 [some (.ref 439), some (.int (nI i)), some (.int (nI (mxF (zT S) (zF S)))), some (.int (nI (chF (zT S) (zF S) k))), some (.int (nI (k + 1))), some (.int (nI o))] [] M3 Q := by
            intro r
            induction r with
            | zero =>
              intro o M3 ho hf k3 r3
              have : o = chF (zT S) (zF S) (k + 1) := hf
              omega
            | succ r ih2 =>
              intro o M3 ho hf k3 r3
              have hol : o < tN (zT S) := by omega
              have go := g1 o hol
              have gb' := gb o
              rw [fstN_s] at hf
              rw [B_227_88]
              simp (disch := omega) only [k3.2.1.s.s, k3.2.1.s.f, k3.2.1.v, k3.2.1.n, k3.2.1.r, lAdd, addL, lMul, mulL, nMul, nI_add, subL, lSub, nSub, nDec, nCl, lCl, nVp, lVp, nLe, nLt, nEq, lLe, leL, lLt, ltL, eqL, lEq, nM1, nM2, litLt0, one01, zero01, oneNe0, xupE, xupA, xupK, xI_I, xS_I, xF_I, xJ_I, xI_R, xS_R, xF_R, xJ_R, xI_L, xS_L, xF_L, xJ_L, xcat_s, le46, ge16, or_true, true_or, false_or, or_false, eq_self, Option.toList_some, Option.toList_none, List.cons_append, List.nil_append, true_and, and_true, not_false_eq_true, not_true_eq_false, if_true, if_false, r3 o (show o < 7 by omega), go]
              by_cases he : HF (zT S) (zF S) o = mxF (zT S) (zF S) - (k + 1)
              · rw [if_neg (fun z => z (by rw [← he]))]
                refine r_doesAnswer k3.2.1 hol a1' ?_
                intro M4 e4
                have k4 := k3.stepL e4
                have r4 : ∀ x, x < 7 → xI M4 480 x = nI (g x) := fun x hx => by rw [e4.I (by unfold rL; omega)]; exact r3 x hx
                simp (disch := omega) only [lAdd, addL, lMul, mulL, nMul, nI_add, subL, lSub, nSub, nDec, nCl, lCl, nVp, lVp, nLe, nLt, nEq, lLe, leL, lLt, ltL, eqL, lEq, nM1, nM2, litLt0, one01, zero01, oneNe0, xupE, xupA, xupK, xI_I, xS_I, xF_I, xJ_I, xI_R, xS_R, xF_R, xJ_R, xI_L, xS_L, xF_L, xJ_L, xcat_s, le46, ge16, or_true, true_or, false_or, or_false, eq_self, Option.toList_some, Option.toList_none, List.cons_append, List.nil_append, true_and, and_true, not_false_eq_true, not_true_eq_false, if_true, if_false, B_227_109]
                have to := midH_t (zT S) (zF S) (tN (zT S)) 0 0 o
                have ta := midH_t (zT S) (zF S) (tN (zT S)) 0 0 (chF (zT S) (zF S) k)
                rw [← HF_mid] at to ta
                by_cases ha : ansb (zT S) (oD (zF S)) o (chF (zT S) (zF S) k)
                · rw [if_pos ha, if_pos (by decide)]
                  have hp : pA (zT S) (zF S) o (chF (zT S) (zF S) k) = true := (pA_iff _ _ _ _).mpr ⟨hol, ta.mp (by omega), to.mp (by omega), ha⟩
                  rw [if_pos (by rw [decide_eq_true he, hp]; rfl)] at hf
                  rw [hf]
                  exact ih (k + 1) M4 _ (by omega) k4 r4
                · rw [if_neg ha, if_neg (by decide)]
                  have hp : ¬ pA (zT S) (zF S) o (chF (zT S) (zF S) k) = true := fun z => ha ((pA_iff _ _ _ _).mp z).2.2.2
                  rw [if_neg (by simp only [Bool.not_eq_true] at hp; rw [hp]; simp)] at hf
                  exact ih2 (o + 1) M4 (by omega) hf k4 r4
              · rw [if_pos he]
                rw [if_neg (by rw [decide_eq_false he]; simp)] at hf
                exact ih2 (o + 1) M3 (by omega) hf k3 r3
          exact find (tN (zT S)) 0 M2 (by omega) rfl k2 r2
      obtain ⟨c1, c2⟩ := cp 0 (show 0 < mxF (zT S) (zF S) by omega)
      have c1' : chF (zT S) (zF S) 0 < tN (zT S) := c1
      have find0 : ∀ r o, o + r = tN (zT S) → fstN (fun l => decide (HF (zT S) (zF S) l = mxF (zT S) (zF S))) r o = chF (zT S) (zF S) 0 → RG xprog 227 60 [some (.ref 439), some (.int (nI i)), some (.int (nI (mxF (zT S) (zF S)))), some (.int (nI o)), none, none] [] M1 Q := by
        intro r
        induction r with
        | zero =>
          intro o ho hf
          have : o = chF (zT S) (zF S) 0 := hf
          omega
        | succ r ih2 =>
          intro o ho hf
          have hol : o < tN (zT S) := by omega
          have go := g1 o hol
          have gb' := gb o
          rw [fstN_s] at hf
          rw [B_227_60]
          simp (disch := omega) only [h1.2.1.s.s, h1.2.1.s.f, h1.2.1.v, h1.2.1.n, h1.2.1.r, lAdd, addL, lMul, mulL, nMul, nI_add, subL, lSub, nSub, nDec, nCl, lCl, nVp, lVp, nLe, nLt, nEq, lLe, leL, lLt, ltL, eqL, lEq, nM1, nM2, litLt0, one01, zero01, oneNe0, xupE, xupA, xupK, xI_I, xS_I, xF_I, xJ_I, xI_R, xS_R, xF_R, xJ_R, xI_L, xS_L, xF_L, xJ_L, xcat_s, le46, ge16, or_true, true_or, false_or, or_false, eq_self, Option.toList_some, Option.toList_none, List.cons_append, List.nil_append, true_and, and_true, not_false_eq_true, not_true_eq_false, if_true, if_false, gr o (show o < 7 by omega), go]
          by_cases he : HF (zT S) (zF S) o = mxF (zT S) (zF S)
          · rw [if_pos he]
            rw [if_pos (decide_eq_true he)] at hf
            rw [hf]
            exact walk i 0 M1 none (by omega) h1 gr
          · rw [if_neg he]
            rw [if_neg (by rw [decide_eq_false he]; simp)] at hf
            exact ih2 (o + 1) (by omega) hf
      exact find0 (tN (zT S)) 0 (by omega) rfl
    · intro i _ hi' _ ih
      have e := ih 0 trivial
      rw [mxN_s] at e
      have b1 := mb i
      have b2 := gb i
      rw [B_227_15]
      simp (disch := omega) only [h1.2.1.s.s, h1.2.1.s.f, h1.2.1.v, h1.2.1.n, h1.2.1.r, lAdd, addL, lMul, mulL, nMul, nI_add, subL, lSub, nSub, nDec, nCl, lCl, nVp, lVp, nLe, nLt, nEq, lLe, leL, lLt, ltL, eqL, lEq, nM1, nM2, litLt0, one01, zero01, oneNe0, xupE, xupA, xupK, xI_I, xS_I, xF_I, xJ_I, xI_R, xS_R, xF_R, xJ_R, xI_L, xS_L, xF_L, xJ_L, xcat_s, le46, ge16, or_true, true_or, false_or, or_false, eq_self, Option.toList_some, Option.toList_none, List.cons_append, List.nil_append, true_and, and_true, not_false_eq_true, not_true_eq_false, if_true, if_false, if_neg, gr i hi']
      by_cases hc : g i ≤ mxN g i
      · rw [if_pos hc]
        rw [if_neg (by omega)] at e
        exact e
      · rw [if_neg hc]
        rw [if_pos (by omega)] at e
        exact e
  · rw [if_neg hx]
    rw [if_neg hx] at hQ
    exact hQ M h
