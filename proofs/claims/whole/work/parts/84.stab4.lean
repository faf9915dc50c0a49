/-! stable: the class, asking -/
theorem c_isLikedMore {M0 M : XM} {t l o a : Nat} {S : XS} {Q : Option Value → XM → Prop} (h : CK M0 t S M) (hd : DL M S) (hl : l < tN (zT S)) (ho : o < tN (zT S)) (ha : a < tR (zT S)) :
    RG xprog 204 0 [some (.ref 406), some (.int (nI l)), some (.int (nI o)), some (.int (nI a)), none] [] M Q = Q (some (.int (if btr (tbF (zT S) (zF S)) a l o then 1 else 0))) M := by
  have n7 := h.1.tx.n7
  have r6 := h.1.tx.r6
  obtain ⟨i, hi1, hi2⟩ := tab_nat (zT S) (zF S) l a
  obtain ⟨j, hj1, hj2⟩ := tab_nat (zT S) (zF S) o a
  have hb : btr (tbF (zT S) (zF S)) a l o ↔ (j < i ∨ (i = j ∧ l < o)) := by
    unfold btr tbF
    rw [hi2, hj2, nI_tI (by omega), nI_tI (by omega)]
    omega
  obtain ⟨s1, s2⟩ := sub100 ⟨i, hi1⟩ ⟨j, hj1⟩
  dsimp only at s1 s2
  rw [B_204_0]
  simp (disch := omega) only [h.1.dl, h.1.dl1 (show l < 7 by omega), h.1.dl1 (show o < 7 by omega), hd l a hl ha, hd o a ho ha, hi2, hj2, lAdd, addL, lMul, mulL, nMul, nI_add, subL, lSub, nSub, nDec, nCl, lCl, nVp, lVp, nLe, nLt, nEq, lLe, leL, lLt, ltL, eqL, lEq, nM1, nM2, litLt0, one01, zero01, oneNe0, xupE, xupA, xupK, xI_I, xS_I, xF_I, xJ_I, xI_R, xS_R, xF_R, xJ_R, xI_L, xS_L, xF_L, xJ_L, xcat_s, le46, ge16, or_true, true_or, false_or, or_false, eq_self, Option.toList_some, Option.toList_none, List.cons_append, List.nil_append, true_and, and_true, not_false_eq_true, not_true_eq_false, if_true, if_false, ite_i]
  congr 3
  by_cases c1 : j < i
  · rw [if_pos (s1.mpr c1), if_pos (hb.mpr (Or.inl c1))]
  · rw [if_neg (fun q => c1 (s1.mp q))]
    by_cases c2 : i = j
    · rw [if_neg (fun q => q (s2.mpr c2))]
      by_cases c3 : o ≤ l
      · rw [if_pos c3, if_neg (fun q => by have := hb.mp q; omega)]
      · rw [if_neg c3, if_pos (hb.mpr (by omega))]
    · rw [if_pos (fun q => c2 (s2.mp q)), if_neg (fun q => by have := hb.mp q; omega)]
theorem cm_next {M M' : XM} {S : XS} {s : XST} {l a : Nat} (n7 : tN (zT S) ≤ 7) (hm : CM M S s) (e : Ex (fun b k => (b = 432 ∧ k = l) ∨ (b = 433 ∧ k = a) ∨ b = 434) M M')
    (u : xI M' 432 l = nI (bn (opn (tbF (zT S) (zF S)) (sAsk (tbF (zT S) (zF S)) s l a) l) (tR (zT S)))) (k : xI M' 433 a = onv ((sAsk (tbF (zT S) (zF S)) s l a).2 a)) (w : WHs (tR (zT S)) (tN (zT S)) (xI M' 434) (sAsk (tbF (zT S) (zF S)) s l a)) : CM M' S (sAsk (tbF (zT S) (zF S)) s l a) := by
  obtain ⟨m1, m2, m3, m4, m5⟩ := hm
  refine ⟨m1.ex e n7 (by intro b k z1 z2; omega), ?_, ?_, ?_, w⟩
  · intro x y hx hy hp
    rw [e.I (by omega)]
    exact m2 x y hx hy hp
  · intro x hx
    by_cases q : x = l
    · rw [q]; exact u
    · rw [e.I (by omega), m3 x hx]
      congr 1
      exact bn_congr _ fun i _ => (opn_askn _ s q i).symm
  · intro y hy
    by_cases q : y = a
    · rw [q]; exact k
    · rw [e.I (by omega), m4 y hy]
      congr 1
      exact (if_neg q : (sAsk (tbF (zT S) (zF S)) s l a).2 y = _).symm
theorem c_ask {M0 M : XM} {t l a : Nat} {S : XS} {s : XST} {Q : Option Value → XM → Prop} (h : CK M0 t S M) (hm : CM M S s) (hg : GoodF (zT S) (zF S) s) (hl : l < tN (zT S)) (hf : fre (tR (zT S)) s l) (hx : nxt (tbF (zT S) (zF S)) (raF (zT S) (zF S)) s l (tR (zT S)) = some a)
    (hQ : ∀ M' : XM, CK M0 t S M' → CM M' S (sAsk (tbF (zT S) (zF S)) s l a) → Q none M') :
    RG xprog 205 0 [some (.ref 406), some (.int (nI l)), some (.int (nI a)), none] [] M Q := by
  have n7 := h.1.tx.n7
  have r6 := h.1.tx.r6
  have ha := (nxt_some hx).1
  have m3 := hm.2.2.1
  have m4 := hm.2.2.2.1
  have m5 := hm.2.2.2.2
  rw [B_205_0]
  simp (disch := omega) only [h.1.dl, nM1, lAdd, addL, lMul, mulL, nMul, nI_add, subL, lSub, nSub, nDec, nCl, lCl, nVp, lVp, nLe, nLt, nEq, lLe, leL, lLt, ltL, eqL, lEq, nM1, nM2, litLt0, one01, zero01, oneNe0, xupE, xupA, xupK, xI_I, xS_I, xF_I, xJ_I, xI_R, xS_R, xF_R, xJ_R, xI_L, xS_L, xF_L, xJ_L, xcat_s, le46, ge16, or_true, true_or, false_or, or_false, eq_self, Option.toList_some, Option.toList_none, List.cons_append, List.nil_append, true_and, and_true, not_false_eq_true, not_true_eq_false, if_true, if_false, if_pos, m3 l hl]
  rw [bn_ask _ ha (by omega), bn_congr (q := opn (tbF (zT S) (zF S)) (sAsk (tbF (zT S) (zF S)) s l a) l) _ fun i _ => (opn_ask _ s l a i).symm]
  generalize hu : nI (bn (opn (tbF (zT S) (zF S)) (sAsk (tbF (zT S) (zF S)) s l a) l) (tR (zT S))) = u
  have k1 : CK M0 t S (xmI M 432 l u) := h.wD _ (by unfold dP; omega)
  have e1 : Ex (fun b k => (b = 432 ∧ k = l) ∨ (b = 433 ∧ k = a) ∨ b = 434) M (xmI M 432 l u) := (Ex.refl _ _).wr _ (Or.inl ⟨rfl, rfl⟩)
  have u1 : xI (xmI M 432 l u) 432 l = u := by rw [xI_I, xupE]
  have d1 : DL (xmI M 432 l u) S := hm.1.ex e1 n7 (by intro b k z1 z2; omega)
  have v1 : xI (xmI M 432 l u) 433 a = onv (s.2 a) := by rw [xI_I, xupA _ _ _ _ (by omega)]; exact m4 a ha
  have w1 : ∀ x, xI (xmI M 432 l u) 434 x = xI M 434 x := fun x => by rw [xI_I, xupA _ _ _ _ (by omega)]
  generalize xmI M 432 l u = M1 at k1 e1 u1 d1 v1 w1 ⊢
  rw [B_205_20]
  simp (disch := omega) only [k1.1.dl, v1, lAdd, addL, lMul, mulL, nMul, nI_add, subL, lSub, nSub, nDec, nCl, lCl, nVp, lVp, nLe, nLt, nEq, lLe, leL, lLt, ltL, eqL, lEq, nM1, nM2, litLt0, one01, zero01, oneNe0, xupE, xupA, xupK, xI_I, xS_I, xF_I, xJ_I, xI_R, xS_R, xF_R, xJ_R, xI_L, xS_L, xF_L, xJ_L, xcat_s, le46, ge16, or_true, true_or, false_or, or_false, eq_self, Option.toList_some, Option.toList_none, List.cons_append, List.nil_append, true_and, and_true, not_false_eq_true, not_true_eq_false, if_true, if_false]
  cases hk : s.2 a with
  | none =>
    rw [if_neg (fun q => q rfl), B_205_81]
    refine hQ _ ((k1.wD _ (by unfold dP; omega)).wD _ (by unfold dP; omega)) (cm_next n7 hm ((e1.wr _ (Or.inr (Or.inl ⟨rfl, rfl⟩))).wr _ (Or.inr (Or.inr rfl))) ?_ ?_ ?_)
    · rw [xI_I, xupA _ _ _ _ (by omega), xI_I, xupA _ _ _ _ (by omega), u1, hu]
    · rw [xI_I, xupA _ _ _ _ (by omega), xI_I, xupE]
      have e3 : (sAsk (tbF (zT S) (zF S)) s l a).2 a = some l := (if_pos rfl : (sAsk (tbF (zT S) (zF S)) s l a).2 a = _).trans (by rw [hk])
      rw [e3]; rfl
    · refine wh_none ha hk m5 ?_ ?_ hf
      · rw [xI_I, xupE]
      · intro x hxl
        rw [xI_I, xupK _ _ hxl, xI_I, xupA _ _ _ _ (by omega), w1]
  | some o =>
    have ho := (good_kr hg hk).1
    rw [show onv (some o) = nI o from rfl, if_pos (by rw [nM1 (by omega)]; exact fun z => z), c_isLikedMore k1 d1 hl ho ha]
    simp (disch := omega) only [lAdd, addL, lMul, mulL, nMul, nI_add, subL, lSub, nSub, nDec, nCl, lCl, nVp, lVp, nLe, nLt, nEq, lLe, leL, lLt, ltL, eqL, lEq, nM1, nM2, litLt0, one01, zero01, oneNe0, xupE, xupA, xupK, xI_I, xS_I, xF_I, xJ_I, xI_R, xS_R, xF_R, xJ_R, xI_L, xS_L, xF_L, xJ_L, xcat_s, le46, ge16, or_true, true_or, false_or, or_false, eq_self, Option.toList_some, Option.toList_none, List.cons_append, List.nil_append, true_and, and_true, not_false_eq_true, not_true_eq_false, if_true, if_false, B_205_56, k1.1.dl]
    by_cases hb : btr (tbF (zT S) (zF S)) a l o
    · rw [if_pos hb, if_neg (by decide), B_205_81]
      refine hQ _ (((k1.wD _ (by unfold dP; omega)).wD _ (by unfold dP; omega)).wD _ (by unfold dP; omega)) (cm_next n7 hm (((e1.wr _ (Or.inr (Or.inr rfl))).wr _ (Or.inr (Or.inl ⟨rfl, rfl⟩))).wr _ (Or.inr (Or.inr rfl))) ?_ ?_ ?_)
      · rw [xI_I, xupA _ _ _ _ (by omega), xI_I, xupA _ _ _ _ (by omega), xI_I, xupA _ _ _ _ (by omega), u1, hu]
      · rw [xI_I, xupA _ _ _ _ (by omega), xI_I, xupE]
        have e3 : (sAsk (tbF (zT S) (zF S)) s l a).2 a = some l := (if_pos rfl : (sAsk (tbF (zT S) (zF S)) s l a).2 a = _).trans (by rw [hk]; exact if_pos hb)
        rw [e3]; rfl
      · have hol : o ≠ l := fun z => hf a ha (by rw [hk, z])
        refine wh_more hg ha hk hb m5 ?_ ?_ ?_ hf
        · rw [xI_I, xupK _ _ hol, xI_I, xupA _ _ _ _ (by omega), xI_I, xupE]
        · rw [xI_I, xupE]
        · intro x hxl hxo
          rw [xI_I, xupK _ _ hxl, xI_I, xupA _ _ _ _ (by omega), xI_I, xupK _ _ hxo, w1]
    · rw [if_neg hb, if_pos rfl, B_205_81]
      have e3 := ask_less hk hb
      refine hQ _ k1 (cm_next n7 hm e1 ?_ ?_ ?_)
      · rw [u1, hu]
      · rw [v1, e3]
      · refine wh_same (s := s) ?_ e3
        intro x hx2
        rw [w1]
        exact m5 x hx2
theorem c_dealByAsking {M0 M : XM} {t : Nat} {S : XS} {Q : Option Value → XM → Prop} (h : CK M0 t S M)
    (hQ : ∀ M' : XM, CK M0 t S M' → (∀ l, l < tN (zT S) → xI M' 434 l = stV (zT S) (zF S) l) → Q none M') :
    RG xprog 206 0 [some (.ref 406), some (.ref t), some (.ref 84), none, none] [] M Q := by
  have n7 := h.1.tx.n7
  have r6 := h.1.tx.r6
  have t2 := h.1.t2
  have nr : tN (zT S) * tR (zT S) ≤ 42 := Nat.mul_le_mul n7 r6
  rw [B_206_0]
  simp (disch := omega) only [h.1.dl, lAdd, addL, lMul, mulL, nMul, nI_add, subL, lSub, nSub, nDec, nCl, lCl, nVp, lVp, nLe, nLt, nEq, lLe, leL, lLt, ltL, eqL, lEq, nM1, nM2, litLt0, one01, zero01, oneNe0, xupE, xupA, xupK, xI_I, xS_I, xF_I, xJ_I, xI_R, xS_R, xF_R, xJ_R, xI_L, xS_L, xF_L, xJ_L, xcat_s, le46, ge16, or_true, true_or, false_or, or_false, eq_self, Option.toList_some, Option.toList_none, List.cons_append, List.nil_append, true_and, and_true, not_false_eq_true, not_true_eq_false, if_true, if_false]
  refine c_weigh h ?_
  intro M1 k1 d1 w1
  simp (disch := omega) only [lAdd, addL, lMul, mulL, nMul, nI_add, subL, lSub, nSub, nDec, nCl, lCl, nVp, lVp, nLe, nLt, nEq, lLe, leL, lLt, ltL, eqL, lEq, nM1, nM2, litLt0, one01, zero01, oneNe0, xupE, xupA, xupK, xI_I, xS_I, xF_I, xJ_I, xI_R, xS_R, xF_R, xJ_R, xI_L, xS_L, xF_L, xJ_L, xcat_s, le46, ge16, or_true, true_or, false_or, or_false, eq_self, Option.toList_some, Option.toList_none, List.cons_append, List.nil_append, true_and, and_true, not_false_eq_true, not_true_eq_false, if_true, if_false, B_206_6]
  refine x_for (tN (zT S)) (fun i (M2 : XM) => CK M0 t S M2 ∧ DL M2 S ∧ (∀ l a, l < i → a < tR (zT S) → 0 < tbF (zT S) (zF S) l a → xI M2 (425 + l) a = rav (zT S) (zF S) l a) ∧ (∀ l, l < i → xI M2 432 l = nI (bn (fun a => decide (0 < tbF (zT S) (zF S) l a)) (tR (zT S)))) ∧ ∀ l, l < tN (zT S) → xI M2 434 l = -2) (fun i M2 => RG xprog 206 8 [some (.ref 406), some (.ref t), some (.ref 84), some (.int (nI i)), none] [] M2 Q) ?_ ?_ 0 M1 (by omega) ⟨k1, d1, fun l a hl => by omega, fun l hl => by omega, w1⟩
  · intro M2 ⟨k2, d2, f2, u2, w2⟩
    rw [B_206_8]
    simp (disch := omega) only [k2.1.d, k2.1.tx.f, k2.1.tx.n, k2.1.tx.r, k2.1.of.f, k2.1.of.v, k2.1.dl, lAdd, addL, lMul, mulL, nMul, nI_add, subL, lSub, nSub, nDec, nCl, lCl, nVp, lVp, nLe, nLt, nEq, lLe, leL, lLt, ltL, eqL, lEq, nM1, nM2, litLt0, one01, zero01, oneNe0, xupE, xupA, xupK, xI_I, xS_I, xF_I, xJ_I, xI_R, xS_R, xF_R, xJ_R, xI_L, xS_L, xF_L, xJ_L, xcat_s, le46, ge16, or_true, true_or, false_or, or_false, eq_self, Option.toList_some, Option.toList_none, List.cons_append, List.nil_append, true_and, and_true, not_false_eq_true, not_true_eq_false, if_true, if_false, Nat.le_refl]
    refine c_fill k2.1.dl.2.2.2.2.2.2.2.2.2.2.2.1 (by omega) (by omega) ?_
    intro M3 e3 f3
    have k3 : CK M0 t S M3 := k2.stepD (e3.mono fun a k q => by unfold dP; omega)
    simp (disch := omega) only [lAdd, addL, lMul, mulL, nMul, nI_add, subL, lSub, nSub, nDec, nCl, lCl, nVp, lVp, nLe, nLt, nEq, lLe, leL, lLt, ltL, eqL, lEq, nM1, nM2, litLt0, one01, zero01, oneNe0, xupE, xupA, xupK, xI_I, xS_I, xF_I, xJ_I, xI_R, xS_R, xF_R, xJ_R, xI_L, xS_L, xF_L, xJ_L, xcat_s, le46, ge16, or_true, true_or, false_or, or_false, eq_self, Option.toList_some, Option.toList_none, List.cons_append, List.nil_append, true_and, and_true, not_false_eq_true, not_true_eq_false, if_true, if_false, B_206_37]
    have m0 : CM M3 S s0A := by
      refine ⟨d2.ex e3 n7 (by intro a k z1 z2; omega), ?_, ?_, ?_, ?_⟩
      · intro l a hl ha hp
        rw [e3.I (by omega)]; exact f2 l a hl ha hp
      · intro l hl
        rw [e3.I (by omega), u2 l hl]
        congr 1
        exact bn_congr _ fun i _ => by
          have e : opn (tbF (zT S) (zF S)) s0A l i = (decide (0 < tbF (zT S) (zF S) l i) && !false) := rfl
          rw [e, Bool.not_false, Bool.and_true]
      · intro a ha
        rw [f3 a (by omega)]; rfl
      · intro l hl
        rw [e3.I (by omega), w2 l hl]
        exact ⟨fun a _ hk => absurd hk (s0A_k a l), fun _ => rfl⟩
    have loop : ∀ j i (M4 : XM) (z : Option Value) (s : XST), i + j = 42 → CK M0 t S M4 → CM M4 S s → GoodF (zT S) (zF S) s → LeastF (zT S) (zF S) s → nAsk s (tR (zT S)) (tN (zT S)) = i → RG xprog 206 39 [some (.ref 406), some (.ref t), some (.ref 84), some (.int (nI i)), z] [] M4 Q := by
      intro j
      induction j with
      | zero =>
        intro i M4 z s hi k4 m4 g4 l4 n4
        rw [B_206_39]
        simp (disch := omega) only [lAdd, addL, lMul, mulL, nMul, nI_add, subL, lSub, nSub, nDec, nCl, lCl, nVp, lVp, nLe, nLt, nEq, lLe, leL, lLt, ltL, eqL, lEq, nM1, nM2, litLt0, one01, zero01, oneNe0, xupE, xupA, xupK, xI_I, xS_I, xF_I, xJ_I, xI_R, xS_R, xF_R, xJ_R, xI_L, xS_L, xF_L, xJ_L, xcat_s, le46, ge16, or_true, true_or, false_or, or_false, eq_self, Option.toList_some, Option.toList_none, List.cons_append, List.nil_append, true_and, and_true, not_false_eq_true, not_true_eq_false, if_true, if_false, if_pos]
        exact hQ M4 k4 fun l hl => stV_eq g4 l4 (fin_all (by omega)) m4.2.2.2.2 hl
      | succ j ih =>
        intro i M4 z s hi k4 m4 g4 l4 n4
        rw [B_206_39]
        simp (disch := omega) only [k4.1.d, k4.1.tx.f, k4.1.tx.n, k4.1.tx.r, k4.1.of.f, k4.1.of.v, k4.1.dl, lAdd, addL, lMul, mulL, nMul, nI_add, subL, lSub, nSub, nDec, nCl, lCl, nVp, lVp, nLe, nLt, nEq, lLe, leL, lLt, ltL, eqL, lEq, nM1, nM2, litLt0, one01, zero01, oneNe0, xupE, xupA, xupK, xI_I, xS_I, xF_I, xJ_I, xI_R, xS_R, xF_R, xJ_R, xI_L, xS_L, xF_L, xJ_L, xcat_s, le46, ge16, or_true, true_or, false_or, or_false, eq_self, Option.toList_some, Option.toList_none, List.cons_append, List.nil_append, true_and, and_true, not_false_eq_true, not_true_eq_false, if_true, if_false, if_neg]
        refine c_whoAsks k4 (w := xI M4 434) (u := fun l => bn (opn (tbF (zT S) (zF S)) s l) (tR (zT S))) (fun l _ => rfl) m4.2.2.1 (fun l => bn128 _ (by omega)) ?_ ?_
        · intro hn
          simp (disch := omega) only [lAdd, addL, lMul, mulL, nMul, nI_add, subL, lSub, nSub, nDec, nCl, lCl, nVp, lVp, nLe, nLt, nEq, lLe, leL, lLt, ltL, eqL, lEq, nM1, nM2, litLt0, one01, zero01, oneNe0, xupE, xupA, xupK, xI_I, xS_I, xF_I, xJ_I, xI_R, xS_R, xF_R, xJ_R, xI_L, xS_L, xF_L, xJ_L, xcat_s, le46, ge16, or_true, true_or, false_or, or_false, eq_self, Option.toList_some, Option.toList_none, List.cons_append, List.nil_append, true_and, and_true, not_false_eq_true, not_true_eq_false, if_true, if_false, B_206_53]
          refine hQ M4 k4 fun l hl => stV_eq g4 l4 ?_ m4.2.2.2.2 hl
          intro x hx
          by_cases q : ∃ a, a < tR (zT S) ∧ s.2 a = some x
          · exact Or.inl q
          · refine Or.inr fun a ha => ?_
            have hw := (m4.2.2.2.2 x hx).2 fun a ha hk => q ⟨a, ha, hk⟩
            have h0 : bn (opn (tbF (zT S) (zF S)) s x) (tR (zT S)) = 0 := Classical.byContradiction fun hc => hn x hx ⟨hw, hc⟩
            have := bn_test (opn (tbF (zT S) (zF S)) s x) a (tR (zT S))
            rw [h0, Nat.zero_testBit, decide_eq_true ha, Bool.true_and] at this
            exact this.symm
        · intro l hl hw hu
          have hf : fre (tR (zT S)) s l := fun a ha hk => by
            rw [(m4.2.2.2.2 l hl).1 a ha hk, nM2 (by omega)] at hw
            exact hw
          simp (disch := omega) only [lAdd, addL, lMul, mulL, nMul, nI_add, subL, lSub, nSub, nDec, nCl, lCl, nVp, lVp, nLe, nLt, nEq, lLe, leL, lLt, ltL, eqL, lEq, nM1, nM2, litLt0, one01, zero01, oneNe0, xupE, xupA, xupK, xI_I, xS_I, xF_I, xJ_I, xI_R, xS_R, xF_R, xJ_R, xI_L, xS_L, xF_L, xJ_L, xcat_s, le46, ge16, or_true, true_or, false_or, or_false, eq_self, Option.toList_some, Option.toList_none, List.cons_append, List.nil_append, true_and, and_true, not_false_eq_true, not_true_eq_false, if_true, if_false, B_206_53, nM1, if_pos, k4.1.dl, k4.1.d, k4.1.tx.f, k4.1.tx.n, k4.1.tx.r, k4.1.of.f, k4.1.of.v]
          refine c_whom k4 m4 hl ?_
          simp (disch := omega) only [lAdd, addL, lMul, mulL, nMul, nI_add, subL, lSub, nSub, nDec, nCl, lCl, nVp, lVp, nLe, nLt, nEq, lLe, leL, lLt, ltL, eqL, lEq, nM1, nM2, litLt0, one01, zero01, oneNe0, xupE, xupA, xupK, xI_I, xS_I, xF_I, xJ_I, xI_R, xS_R, xF_R, xJ_R, xI_L, xS_L, xF_L, xJ_L, xcat_s, le46, ge16, or_true, true_or, false_or, or_false, eq_self, Option.toList_some, Option.toList_none, List.cons_append, List.nil_append, true_and, and_true, not_false_eq_true, not_true_eq_false, if_true, if_false, B_206_75, k4.1.dl]
          cases hx : nxt (tbF (zT S) (zF S)) (raF (zT S) (zF S)) s l (tR (zT S)) with
          | none =>
            exfalso
            apply hu
            apply Nat.eq_of_testBit_eq
            intro b
            rw [bn_test, Nat.zero_testBit]
            by_cases hb : b < tR (zT S)
            · rw [nxt_none hx b hb, Bool.and_false]
            · rw [decide_eq_false hb, Bool.false_and]
          | some a =>
            rw [show onv (some a) = nI a from rfl]
            refine c_ask k4 m4 g4 hl hf hx ?_
            intro M5 k5 m5
            simp (disch := omega) only [lAdd, addL, lMul, mulL, nMul, nI_add, subL, lSub, nSub, nDec, nCl, lCl, nVp, lVp, nLe, nLt, nEq, lLe, leL, lLt, ltL, eqL, lEq, nM1, nM2, litLt0, one01, zero01, oneNe0, xupE, xupA, xupK, xI_I, xS_I, xF_I, xJ_I, xI_R, xS_R, xF_R, xJ_R, xI_L, xS_L, xF_L, xJ_L, xcat_s, le46, ge16, or_true, true_or, false_or, or_false, eq_self, Option.toList_some, Option.toList_none, List.cons_append, List.nil_append, true_and, and_true, not_false_eq_true, not_true_eq_false, if_true, if_false, B_206_78]
            exact ih (i + 1) M5 _ _ (by omega) k5 m5 (good_ask g4 hl hf hx) (least_ask g4 l4 hl hf hx) (by rw [nAsk_1 hl hx]; omega)
    refine loop 42 0 M3 none s0A (by omega) k3 m0 (good0 _ _ _ _) (least0 _ _ _ _) ?_
    have : ∀ n, nAsk s0A (tR (zT S)) n = 0 := by
      intro n
      induction n with
      | zero => rfl
      | succ n ih =>
        rw [nAsk_s, ih]
        have : ∀ r, cnt (fun a => s0A.1 n a) r = 0 := by
          intro r
          induction r with
          | zero => rfl
          | succ r ih => rw [cnt_s, ih]; rfl
        rw [this]
    exact this _
  · intro l M2 hl ⟨k2, d2, f2, u2, w2⟩ ih
    rw [B_206_8]
    simp (disch := omega) only [k2.1.d, k2.1.tx.f, k2.1.tx.n, k2.1.tx.r, k2.1.of.f, k2.1.of.v, k2.1.dl, lAdd, addL, lMul, mulL, nMul, nI_add, subL, lSub, nSub, nDec, nCl, lCl, nVp, lVp, nLe, nLt, nEq, lLe, leL, lLt, ltL, eqL, lEq, nM1, nM2, litLt0, one01, zero01, oneNe0, xupE, xupA, xupK, xI_I, xS_I, xF_I, xJ_I, xI_R, xS_R, xF_R, xJ_R, xI_L, xS_L, xF_L, xJ_L, xcat_s, le46, ge16, or_true, true_or, false_or, or_false, eq_self, Option.toList_some, Option.toList_none, List.cons_append, List.nil_append, true_and, and_true, not_false_eq_true, not_true_eq_false, if_true, if_false, if_neg]
    refine c_startAsking k2 d2 hl ?_
    intro M3 k3 e3 u3 f3
    simp (disch := omega) only [lAdd, addL, lMul, mulL, nMul, nI_add, subL, lSub, nSub, nDec, nCl, lCl, nVp, lVp, nLe, nLt, nEq, lLe, leL, lLt, ltL, eqL, lEq, nM1, nM2, litLt0, one01, zero01, oneNe0, xupE, xupA, xupK, xI_I, xS_I, xF_I, xJ_I, xI_R, xS_R, xF_R, xJ_R, xI_L, xS_L, xF_L, xJ_L, xcat_s, le46, ge16, or_true, true_or, false_or, or_false, eq_self, Option.toList_some, Option.toList_none, List.cons_append, List.nil_append, true_and, and_true, not_false_eq_true, not_true_eq_false, if_true, if_false, B_206_23]
    refine ih M3 ⟨k3, d2.ex e3 n7 (by intro a k z1 z2; unfold tX; omega), ?_, ?_, ?_⟩
    · intro x a hx ha hp
      by_cases q : x = l
      · rw [q] at hp ⊢; exact f3 a ha hp
      · rw [e3.I (by unfold tX; omega)]; exact f2 x a (by omega) ha hp
    · intro x hx
      by_cases q : x = l
      · rw [q]; exact u3
      · rw [e3.I (by unfold tX; omega)]; exact u2 x (by omega)
    · intro x hx
      rw [e3.I (by unfold tX; omega)]; exact w2 x hx
theorem c_stable {M0 M : XM} {t : Nat} {S : XS} {x : Int32} {Q : Option Value → XM → Prop} (h : CK M0 t S M)
    (hQ : ∀ M' : XM, CK M0 t S M' → Q (some (.int (A_stable S x))) M') :
    RG xprog 207 0 [some (.ref 16), some (.int x)] [] M Q := by
  have n7 := h.1.tx.n7
  unfold A_stable at hQ
  rw [B_207_0]
  simp (disch := omega) only [h.1.d, c_isLetter h.1, B_207_5, lAdd, addL, lMul, mulL, nMul, nI_add, subL, lSub, nSub, nDec, nCl, lCl, nVp, lVp, nLe, nLt, nEq, lLe, leL, lLt, ltL, eqL, lEq, nM1, nM2, litLt0, one01, zero01, oneNe0, xupE, xupA, xupK, xI_I, xS_I, xF_I, xJ_I, xI_R, xS_R, xF_R, xJ_R, xI_L, xS_L, xF_L, xJ_L, xcat_s, le46, ge16, or_true, true_or, false_or, or_false, eq_self, Option.toList_some, Option.toList_none, List.cons_append, List.nil_append, true_and, and_true, not_false_eq_true, not_true_eq_false, if_true, if_false]
  by_cases h2 : isLb (tN (zT S)) x
  · rw [if_pos h2, if_pos (by decide)]
    rw [if_pos h2] at hQ
    obtain ⟨l, hl, rfl⟩ := isLb_get h2 (by omega)
    rw [cN_n (by omega)] at hQ
    simp (disch := omega) only [h.1.d, h.1.tx.f, h.1.tx.n, h.1.tx.r, h.1.of.f, h.1.of.v, h.1.dl, lAdd, addL, lMul, mulL, nMul, nI_add, subL, lSub, nSub, nDec, nCl, lCl, nVp, lVp, nLe, nLt, nEq, lLe, leL, lLt, ltL, eqL, lEq, nM1, nM2, litLt0, one01, zero01, oneNe0, xupE, xupA, xupK, xI_I, xS_I, xF_I, xJ_I, xI_R, xS_R, xF_R, xJ_R, xI_L, xS_L, xF_L, xJ_L, xcat_s, le46, ge16, or_true, true_or, false_or, or_false, eq_self, Option.toList_some, Option.toList_none, List.cons_append, List.nil_append, true_and, and_true, not_false_eq_true, not_true_eq_false, if_true, if_false]
    refine c_dealByAsking h ?_
    intro M1 k1 f1
    simp (disch := omega) only [lAdd, addL, lMul, mulL, nMul, nI_add, subL, lSub, nSub, nDec, nCl, lCl, nVp, lVp, nLe, nLt, nEq, lLe, leL, lLt, ltL, eqL, lEq, nM1, nM2, litLt0, one01, zero01, oneNe0, xupE, xupA, xupK, xI_I, xS_I, xF_I, xJ_I, xI_R, xS_R, xF_R, xJ_R, xI_L, xS_L, xF_L, xJ_L, xcat_s, le46, ge16, or_true, true_or, false_or, or_false, eq_self, Option.toList_some, Option.toList_none, List.cons_append, List.nil_append, true_and, and_true, not_false_eq_true, not_true_eq_false, if_true, if_false, B_207_25, k1.1.d, k1.1.tx.f, k1.1.tx.n, k1.1.tx.r, k1.1.of.f, k1.1.of.v, k1.1.dl, f1 l hl]
    exact hQ M1 k1
  · rw [if_neg h2, if_neg (by decide)]
    rw [if_neg h2] at hQ
    exact hQ M h
