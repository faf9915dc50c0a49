/-! what is done and undone -/
theorem RowIs.congr {T : XT} {f g : Nat → Int32} {F : XO} (h : RowIs T g F) (hr : tR T ≤ 6) (e : ∀ k, k < 34 → f k = g k) : RowIs T f F := by
  obtain ⟨q1, q2, q3, q4⟩ := h
  refine ⟨fun l hl => ?_, fun a ha => ?_, fun a ha => ?_, ?_⟩
  · rw [e l (by omega), e (7 + l) (by omega), e (14 + l) (by omega)]; exact q1 l hl
  · rw [e (21 + a) (by omega)]; exact q2 a ha
  · rw [e (27 + a) (by omega)]; exact q3 a ha
  · rw [e 33 (by omega)]; exact q4
def pushH (S : XS) : Nat × (Nat → XO) := (if zHn S + 1 ≤ 40 then zHn S + 1 else 40, fun i => if i = 0 then zF S else zH S (i - 1))
def S_do (S : XS) (G : XO) : XS := setF (setH S (pushH S)) G
theorem i_do {B B' : Nat} {S : XS} {G : XO} (hi : SInv B S) (hB : B ≤ B') (h1 : OInv (zT S) G) (h2 : DB B' G) : SInv B' (S_do S G) := by
  have db : ∀ F, DB B F → DB B' F := fun F ⟨d, q1, q2⟩ => ⟨d, by omega, q2⟩
  obtain ⟨a1, a2, a3, a4, a5, a6, a7, a8, a9⟩ := hi
  refine ⟨a1, h1, h2, a4, ?_, ?_, fun i hi G hG => ⟨(a7 i hi G hG).1, db _ (a7 i hi G hG).2⟩, a8, a9⟩
  · show (if zHn S + 1 ≤ 40 then zHn S + 1 else 40) ≤ 40
    split <;> omega
  · intro i hi'
    have hi2 : i < (if zHn S + 1 ≤ 40 then zHn S + 1 else 40) := hi'
    show OInv (zT S) (if i = 0 then zF S else zH S (i - 1)) ∧ DB B' (if i = 0 then zF S else zH S (i - 1))
    by_cases q : i = 0
    · rw [if_pos q]; exact ⟨a2, db _ a3⟩
    · rw [if_neg q]
      have : i - 1 < zHn S := by split at hi2 <;> omega
      exact ⟨(a6 _ this).1, db _ (a6 _ this).2⟩
theorem rem40 : ∀ x : Fin 80, nI x.val - nI x.val / 40 * 40 = nI (x.val % 40) := by decide
theorem c_remember {M : XM} {t B : Nat} {S : XS} {Q : Option Value → XM → Prop} (h : CW M t S) (hi : SInv B S)
    (hQ : ∀ M' : XM, Ex cR M M' → CW M' t (setH S (pushH S)) → Q none M') :
    RG xprog 149 0 [some (.ref 120), some (.ref 84)] [] M Q := by
  have n40 := hi.2.2.2.2.1
  obtain ⟨w, w40, hw, hsl⟩ := h.2.2.2.2.2.2.2.1.2.1
  have hcl := h.2.2.2.2.2.2.2.1.2.2
  have r40 := rem40 ⟨w + 1, by omega⟩
  dsimp only at r40
  have rf : ∀ i, i < 40 → xF M 121 i = 122 + 7 * i := h.1.2.2.2.2.1.2.2.2
  rw [B_149_0]
  have hn : (w + 1) % 40 < 40 := Nat.mod_lt _ (by omega)
  obtain ⟨A, hA, cA'⟩ := (hcl _ hn).is
  simp (disch := omega) only [h.hs, hw, lAdd, addL, lMul, mulL, nMul, nI_add, subL, lSub, nSub, nDec, nCl, lCl, nVp, lVp, nLe, nLt, nEq, lLe, leL, lLt, ltL, eqL, lEq, nM1, nM2, litLt0, one01, zero01, oneNe0, xupE, xupA, xupK, xI_I, xS_I, xF_I, xJ_I, xI_R, xS_R, xF_R, xJ_R, xI_L, xS_L, xF_L, xJ_L, xcat_s, le46, ge16, or_true, true_or, false_or, or_false, eq_self, Option.toList_some, Option.toList_none, List.cons_append, List.nil_append, true_and, and_true, not_false_eq_true, not_true_eq_false, if_true, if_false]
  have r40' : nI (w + 1) - nI (w + 1) / 40 * 40 = nI ((w + 1) % 40) := r40
  rw [r40']
  simp (disch := omega) only [h.hs, lAdd, addL, lMul, mulL, nMul, nI_add, subL, lSub, nSub, nDec, nCl, lCl, nVp, lVp, nLe, nLt, nEq, lLe, leL, lLt, ltL, eqL, lEq, nM1, nM2, litLt0, one01, zero01, oneNe0, xupE, xupA, xupK, xI_I, xS_I, xF_I, xJ_I, xI_R, xS_R, xF_R, xJ_R, xI_L, xS_L, xF_L, xJ_L, xcat_s, le46, ge16, or_true, true_or, false_or, or_false, eq_self, Option.toList_some, Option.toList_none, List.cons_append, List.nil_append, true_and, and_true, not_false_eq_true, not_true_eq_false, if_true, if_false, rf _ hn, hA.f, show ¬ (40 : Int32) = 0 by decide]
  have e1 : Ex (fun a k => a = 120 ∧ k = 1) M (xmI M 120 1 (nI ((w + 1) % 40))) := (Ex.refl _ _).wr _ ⟨rfl, rfl⟩
  refine c_copyFrom (hA.exR e1 (by intro a k z1 z2; omega)) (h.of.exR e1 (by intro a k z1 z2; omega)) cA' hi.2.1.2.2.2.2.2 (by omega) ?_
  intro M2 e2 f2
  have e2' : Ex (fun a k => (a = 120 ∧ (k = 1 ∨ k = 2)) ∨ (122 + 7 * ((w + 1) % 40) ≤ a ∧ a < 122 + 7 * ((w + 1) % 40) + 7)) M M2 := (e1.mono fun a k q => Or.inl ⟨q.1, Or.inl q.2⟩).trans (e2.mono fun a k q => Or.inr q)
  have k2 : xI M2 120 2 = nI (zHn S) := by rw [e2.I (by unfold oP; omega), xI_I, xupK _ _ (by omega)]; exact h.hs.2.2.2
  have k1 : xI M2 120 1 = nI ((w + 1) % 40) := by rw [e2.I (by unfold oP; omega), xI_I, xupE]
  have s2 : xS M2 120 = (2, 0) := by rw [e2'.S]; exact h.hs.1
  simp (disch := omega) only [lAdd, addL, lMul, mulL, nMul, nI_add, subL, lSub, nSub, nDec, nCl, lCl, nVp, lVp, nLe, nLt, nEq, lLe, leL, lLt, ltL, eqL, lEq, nM1, nM2, litLt0, one01, zero01, oneNe0, xupE, xupA, xupK, xI_I, xS_I, xF_I, xJ_I, xI_R, xS_R, xF_R, xJ_R, xI_L, xS_L, xF_L, xJ_L, xcat_s, le46, ge16, or_true, true_or, false_or, or_false, eq_self, Option.toList_some, Option.toList_none, List.cons_append, List.nil_append, true_and, and_true, not_false_eq_true, not_true_eq_false, if_true, if_false, B_149_26, k2, s2]
  have en : (if 40 < zHn S + 1 then (40 : Int32) else nI (zHn S + 1)) = nI (if zHn S + 1 ≤ 40 then zHn S + 1 else 40) := by
    by_cases q : zHn S + 1 ≤ 40
    · rw [if_pos q, if_neg (by omega)]
    · rw [if_neg q, if_pos (by omega)]; rfl
  rw [en]
  have e3 := e2'.wr (a := 120) (k := 2) (nI (if zHn S + 1 ≤ 40 then zHn S + 1 else 40)) (Or.inl ⟨rfl, Or.inr rfl⟩)
  have e3w : Ex (fun a k => a = 120 ∧ k = 2) M2 (xmI M2 120 2 (nI (if zHn S + 1 ≤ 40 then zHn S + 1 else 40))) := (Ex.refl _ _).wr _ ⟨rfl, rfl⟩
  have f3 := f2.exR e3w (by intro a k z1 z2; omega)
  refine hQ _ (e3.mono fun a k q => by unfold cR; omega) ⟨h.1.ex e3, h.k_tx e3 (by intro a k z1 z2; omega), h.2.2.1.ex e3, h.k_of e3 (by intro a k z1 z2; omega), h.k_ah e3 (by intro a k z1 z2; omega), h.k_tp e3 ⟨by omega, fun k => by omega⟩, h.k_pl e3 (by omega), ?_, h.k_sl e3 ⟨by omega, by intro a k z1 z2; omega⟩, h.k_td e3 ⟨by omega, by intro a k z1 z2; omega⟩⟩
  refine ⟨by simp (disch := omega) only [lAdd, addL, lMul, mulL, nMul, nI_add, subL, lSub, nSub, nDec, nCl, lCl, nVp, lVp, nLe, nLt, nEq, lLe, leL, lLt, ltL, eqL, lEq, nM1, nM2, litLt0, one01, zero01, oneNe0, xupE, xupA, xupK, xI_I, xS_I, xF_I, xJ_I, xI_R, xS_R, xF_R, xJ_R, xI_L, xS_L, xF_L, xJ_L, xcat_s, le46, ge16, or_true, true_or, false_or, or_false, eq_self, Option.toList_some, Option.toList_none, List.cons_append, List.nil_append, true_and, and_true, not_false_eq_true, not_true_eq_false, if_true, if_false]; rfl, ⟨(w + 1) % 40, hn, by simp (disch := omega) only [lAdd, addL, lMul, mulL, nMul, nI_add, subL, lSub, nSub, nDec, nCl, lCl, nVp, lVp, nLe, nLt, nEq, lLe, leL, lLt, ltL, eqL, lEq, nM1, nM2, litLt0, one01, zero01, oneNe0, xupE, xupA, xupK, xI_I, xS_I, xF_I, xJ_I, xI_R, xS_R, xF_R, xJ_R, xI_L, xS_L, xF_L, xJ_L, xcat_s, le46, ge16, or_true, true_or, false_or, or_false, eq_self, Option.toList_some, Option.toList_none, List.cons_append, List.nil_append, true_and, and_true, not_false_eq_true, not_true_eq_false, if_true, if_false, k1], ?_⟩, ?_⟩
  · intro i hi'
    have hi2 : i < (if zHn S + 1 ≤ 40 then zHn S + 1 else 40) := hi'
    show OffIs _ _ (if i = 0 then zF S else zH S (i - 1))
    by_cases q : i = 0
    · subst q
      rw [if_pos rfl, show ((w + 1) % 40 + 40 - 0) % 40 = (w + 1) % 40 by omega]
      exact f3
    · have i1 : i - 1 < zHn S := by split at hi2 <;> omega
      have i40 : i < 40 := by split at hi2 <;> omega
      rw [if_neg q, show ((w + 1) % 40 + 40 - i) % 40 = (w + 40 - (i - 1)) % 40 by omega]
      refine (hsl (i - 1) i1).exR e3 ?_
      intro a k z1 z2
      omega
  · intro i hi'
    by_cases q : i = (w + 1) % 40
    · rw [q]
      exact f3.c hi.2.1.2.2.2.2.2
    · refine (hcl i hi').exR e3 ?_
      intro a k z1 z2
      omega
theorem CW.setOf {M M' : XM} {t : Nat} {S : XS} {G : XO} (h : CW M t S) (e : Ex (oX 84 t) M M') (f : OffIs M' 84 G) : CW M' t (setF S G) := by
  have t2 := h.t2
  have np : ∀ a k, (a < 26 ∨ 91 ≤ a) → ¬ oX 84 t a k := fun a k q z => by unfold oX at z; omega
  refine ⟨h.1.ex e, h.tx.ex e ?_, h.2.2.1.ex e, f, h.k_ah e (fun a k z1 z2 => np a k (by omega)), h.k_tp e ⟨np _ _ (by omega), fun k => np _ _ (by omega)⟩, h.k_pl e (np _ _ (by omega)), h.k_hs e (fun a k z => np a k (by omega)), h.k_sl e ⟨np _ _ (by omega), fun a k z1 z2 => np a k (by omega)⟩, h.k_td e ⟨np _ _ (by omega), fun a k z1 z2 => np a k (by omega)⟩⟩
  intro a k q
  unfold oX at q
  omega
theorem oX_cR {t : Nat} (ht : t = 26 ∨ t = 55) : ∀ a k, oX 84 t a k → cR a k := fun a k q => by unfold oX at q; unfold cR; omega
abbrev okSd (S : XS) (x y : Int32) : Prop := isAt S 1 x ∧ isLb (tR (zT S)) y ∧ oS (zF S) (cN y) = -2
def S_send (S : XS) (x y : Int32) : XS := S_do S (giveF (zF S) (cN x) (cN y))
theorem c_send {M : XM} {t B : Nat} {S : XS} {x y : Int32} {Q : Option Value → XM → Prop} (h : CW M t S) (hi : SInv B S)
    (hQ : ∀ M' : XM, Ex cR M M' → CW M' t (if okSd S x y then S_send S x y else S) → Q (some (.int (if okSd S x y then 1 else 0))) M') :
    RG xprog 151 0 [some (.ref 16), some (.int x), some (.int y)] [] M Q := by
  have n7 := h.tx.n7
  have r6 := h.tx.r6
  rw [B_151_0]
  simp (disch := omega) only [h.d, c_isOnShelf h, c_isReader h, B_151_5, B_151_13, lAdd, addL, lMul, mulL, nMul, nI_add, subL, lSub, nSub, nDec, nCl, lCl, nVp, lVp, nLe, nLt, nEq, lLe, leL, lLt, ltL, eqL, lEq, nM1, nM2, litLt0, one01, zero01, oneNe0, xupE, xupA, xupK, xI_I, xS_I, xF_I, xJ_I, xI_R, xS_R, xF_R, xJ_R, xI_L, xS_L, xF_L, xJ_L, xcat_s, le46, ge16, or_true, true_or, false_or, or_false, eq_self, Option.toList_some, Option.toList_none, List.cons_append, List.nil_append, true_and, and_true, not_false_eq_true, not_true_eq_false, if_true, if_false]
  by_cases hx : isAt S 1 x
  · rw [if_pos hx, if_neg (by decide)]
    by_cases hy : isLb (tR (zT S)) y
    · rw [if_pos hy, if_neg (by decide)]
      obtain ⟨l, hl, rfl⟩ := isLb_get hx.1 (by omega)
      obtain ⟨a, ha, rfl⟩ := isLb_get hy (by omega)
      have ea : cN (nI a) = a := cN_n (by omega)
      simp (disch := omega) only [h.d, h.of.f, h.of.v, h.hs, lAdd, addL, lMul, mulL, nMul, nI_add, subL, lSub, nSub, nDec, nCl, lCl, nVp, lVp, nLe, nLt, nEq, lLe, leL, lLt, ltL, eqL, lEq, nM1, nM2, litLt0, one01, zero01, oneNe0, xupE, xupA, xupK, xI_I, xS_I, xF_I, xJ_I, xI_R, xS_R, xF_R, xJ_R, xI_L, xS_L, xF_L, xJ_L, xcat_s, le46, ge16, or_true, true_or, false_or, or_false, eq_self, Option.toList_some, Option.toList_none, List.cons_append, List.nil_append, true_and, and_true, not_false_eq_true, not_true_eq_false, if_true, if_false]
      by_cases hs : oS (zF S) a = -2
      · rw [if_pos hs]
        have ok : okSd S (nI l) (nI a) := ⟨hx, hy, by rw [ea]; exact hs⟩
        rw [if_pos ok, if_pos ok] at hQ
        unfold S_send at hQ
        rw [cN_n (by omega), ea] at hQ
        refine c_remember h hi ?_
        intro M1 e1 h1
        simp (disch := omega) only [lAdd, addL, lMul, mulL, nMul, nI_add, subL, lSub, nSub, nDec, nCl, lCl, nVp, lVp, nLe, nLt, nEq, lLe, leL, lLt, ltL, eqL, lEq, nM1, nM2, litLt0, one01, zero01, oneNe0, xupE, xupA, xupK, xI_I, xS_I, xF_I, xJ_I, xI_R, xS_R, xF_R, xJ_R, xI_L, xS_L, xF_L, xJ_L, xcat_s, le46, ge16, or_true, true_or, false_or, or_false, eq_self, Option.toList_some, Option.toList_none, List.cons_append, List.nil_append, true_and, and_true, not_false_eq_true, not_true_eq_false, if_true, if_false, B_151_43, h1.d, h1.of.f]
        refine c_giveTo h1.of (by omega) (by omega) ?_
        intro M2 e2 f2
        simp (disch := omega) only [lAdd, addL, lMul, mulL, nMul, nI_add, subL, lSub, nSub, nDec, nCl, lCl, nVp, lVp, nLe, nLt, nEq, lLe, leL, lLt, ltL, eqL, lEq, nM1, nM2, litLt0, one01, zero01, oneNe0, xupE, xupA, xupK, xI_I, xS_I, xF_I, xJ_I, xI_R, xS_R, xF_R, xJ_R, xI_L, xS_L, xF_L, xJ_L, xcat_s, le46, ge16, or_true, true_or, false_or, or_false, eq_self, Option.toList_some, Option.toList_none, List.cons_append, List.nil_append, true_and, and_true, not_false_eq_true, not_true_eq_false, if_true, if_false, B_151_52]
        have e2' : Ex (oX 84 t) M1 M2 := e2.mono fun a k q => Or.inl q
        exact hQ M2 (e1.trans (e2'.mono (oX_cR h.t2))) (h1.setOf e2' f2)
      · rw [if_neg hs]
        have nok : ¬ okSd S (nI l) (nI a) := fun q => hs (by have := q.2.2; rw [ea] at this; exact this)
        rw [if_neg nok, if_neg nok] at hQ
        exact hQ M (Ex.refl _ _) h
    · rw [if_neg hy, if_pos rfl]
      have nok : ¬ okSd S x y := fun q => hy q.2.1
      rw [if_neg nok, if_neg nok] at hQ
      exact hQ M (Ex.refl _ _) h
  · rw [if_neg hx, if_pos rfl]
    have nok : ¬ okSd S x y := fun q => hx q.1
    rw [if_neg nok, if_neg nok] at hQ
    exact hQ M (Ex.refl _ _) h
theorem r_keepsRow {M : XM} {Q : Option Value → XM → Prop} (h : RSh M)
    (hQ : ∀ M' : XM, Ex (fun a _ => a = 472) M M' → (∀ k, k < 34 → xI M' 472 k = xI M 473 k) → Q none M') :
    RG xprog 29 0 [some (.ref 439), none] [] M Q := by
  rw [B_29_0]
  refine x_for 34 (fun i M1 => Ex (fun a _ => a = 472) M M1 ∧ ∀ k, k < i → xI M1 472 k = xI M 473 k) (fun i M1 => RG xprog 29 2 [some (.ref 439), some (.int (nI i))] [] M1 Q) ?_ ?_ 0 M (by omega) ⟨Ex.refl _ _, fun k hk => by omega⟩
  · intro M1 ⟨e1, f1⟩
    rw [B_29_2]
    simp (disch := omega) only [lAdd, addL, lMul, mulL, nMul, nI_add, subL, lSub, nSub, nDec, nCl, lCl, nVp, lVp, nLe, nLt, nEq, lLe, leL, lLt, ltL, eqL, lEq, nM1, nM2, litLt0, one01, zero01, oneNe0, xupE, xupA, xupK, xI_I, xS_I, xF_I, xJ_I, xI_R, xS_R, xF_R, xJ_R, xI_L, xS_L, xF_L, xJ_L, xcat_s, le46, ge16, or_true, true_or, false_or, or_false, eq_self, Option.toList_some, Option.toList_none, List.cons_append, List.nil_append, true_and, and_true, not_false_eq_true, not_true_eq_false, if_true, if_false, if_pos]
    exact hQ M1 e1 f1
  · intro i M1 hi ⟨e1, f1⟩ ih
    have s1 := h.ex e1
    rw [B_29_2]
    simp (disch := omega) only [s1.s, s1.f, lAdd, addL, lMul, mulL, nMul, nI_add, subL, lSub, nSub, nDec, nCl, lCl, nVp, lVp, nLe, nLt, nEq, lLe, leL, lLt, ltL, eqL, lEq, nM1, nM2, litLt0, one01, zero01, oneNe0, xupE, xupA, xupK, xI_I, xS_I, xF_I, xJ_I, xI_R, xS_R, xF_R, xJ_R, xI_L, xS_L, xF_L, xJ_L, xcat_s, le46, ge16, or_true, true_or, false_or, or_false, eq_self, Option.toList_some, Option.toList_none, List.cons_append, List.nil_append, true_and, and_true, not_false_eq_true, not_true_eq_false, if_true, if_false, if_neg]
    refine ih _ ⟨e1.wr _ rfl, ?_⟩
    intro k hk
    rw [xI_I]
    by_cases q : k = i
    · rw [q, xupE, e1.I (by omega)]
    · rw [xupK _ _ q]; exact f1 k (by omega)
theorem q_records {M0 M : XM} {lv B : Nat} {S : XS} {G : XO} {sd st : Int32} {Q : Option Value → XM → Prop} (h : RQ M0 lv S G sd st M) (hi : SInv B S)
    (hQ : ∀ M' : XM, Ex rR M0 M' → RWd M' lv (S_do S G) → Q none M') :
    RG xprog 153 0 [some (.ref 439), none] [] M Q := by
  have n40 := hi.2.2.2.2.1
  have hw := h.1.1
  have r6 := hw.1.r6
  have l2 := hw.1.lv2
  obtain ⟨k55, hh⟩ := hw.2.2.2.2.1
  -- the second half: m rows stand, each where it belongs behind the new one
  have half : ∀ (M1 : XM) (m : Nat), m < 40 → (if zHn S + 1 ≤ 40 then zHn S + 1 else 40) = m + 1 → Ex (fun a k => a = 475 ∨ (a = 439 ∧ k = 55)) M M1 → xI M1 439 55 = nI m → (∀ i, 0 < i → i < m + 1 → RowIs (zT S) (fun k => xI M1 475 (34 * (m - i) + k)) (zH S (i - 1))) → RG xprog 153 51 [some (.ref 439), some (.int 0)] [] M1 Q := by
    intro M1 m hm hme e1 u1 r1
    refine x_for 34 (fun i M2 => Ex (fun a k => a = 475 ∨ (a = 439 ∧ k = 55)) M M2 ∧ xI M2 439 55 = nI m ∧ (∀ j, j < 34 * m → xI M2 475 j = xI M1 475 j) ∧ ∀ j, j < i → xI M2 475 (34 * m + j) = xI M 472 j) (fun i M2 => RG xprog 153 51 [some (.ref 439), some (.int (nI i))] [] M2 Q) ?_ ?_ 0 M1 (by omega) ⟨e1, u1, fun j hj => rfl, fun j hj => by omega⟩
    · intro M2 ⟨e2, u2, a2, b2⟩
      have s2 := h.2.1.s.ex e2
      rw [B_153_51]
      simp (disch := omega) only [s2.s, s2.f, u2, lAdd, addL, lMul, mulL, nMul, nI_add, subL, lSub, nSub, nDec, nCl, lCl, nVp, lVp, nLe, nLt, nEq, lLe, leL, lLt, ltL, eqL, lEq, nM1, nM2, litLt0, one01, zero01, oneNe0, xupE, xupA, xupK, xI_I, xS_I, xF_I, xJ_I, xI_R, xS_R, xF_R, xJ_R, xI_L, xS_L, xF_L, xJ_L, xcat_s, le46, ge16, or_true, true_or, false_or, or_false, eq_self, Option.toList_some, Option.toList_none, List.cons_append, List.nil_append, true_and, and_true, not_false_eq_true, not_true_eq_false, if_true, if_false, if_pos]
      have e3 := e2.wr (a := 439) (k := 55) (nI (m + 1)) (Or.inr ⟨rfl, rfl⟩)
      refine r_keepsRow (h.2.1.s.ex e3) ?_
      intro M4 e4 f4
      simp (disch := omega) only [lAdd, addL, lMul, mulL, nMul, nI_add, subL, lSub, nSub, nDec, nCl, lCl, nVp, lVp, nLe, nLt, nEq, lLe, leL, lLt, ltL, eqL, lEq, nM1, nM2, litLt0, one01, zero01, oneNe0, xupE, xupA, xupK, xI_I, xS_I, xF_I, xJ_I, xI_R, xS_R, xF_R, xJ_R, xI_L, xS_L, xF_L, xJ_L, xcat_s, le46, ge16, or_true, true_or, false_or, or_false, eq_self, Option.toList_some, Option.toList_none, List.cons_append, List.nil_append, true_and, and_true, not_false_eq_true, not_true_eq_false, if_true, if_false, B_153_97]
      have e5 : Ex (fun a k => a = 475 ∨ (a = 439 ∧ k = 55) ∨ a = 472) M M4 := (e3.mono fun a k q => by omega).trans (e4.mono fun a k q => by omega)
      refine hQ M4 (h.1.2.trans (e5.mono fun a k q => by unfold rR; omega)) ⟨hw.k_w e5 (by intro a k z; unfold rNT; omega), ?_, hw.k_tp e5 ⟨by omega, by intro k; omega⟩, hw.k_pl e5 (by omega), ?_, hw.k_sl e5 (by intro k; omega), hw.k_td e5 ⟨by omega, by intro k; omega⟩⟩
      · refine (h.2.1.2.1).congr r6 fun k hk => ?_
        rw [f4 k hk, xI_I, xupA _ _ _ _ (by omega), e2.I (by omega)]
      · have em : zHn (S_do S G) = m + 1 := hme
        rw [em]
        refine ⟨by rw [e4.I (by omega), xI_I, xupE], ?_⟩
        intro i hi'
        have r475 : xI M4 475 = xI M2 475 := by rw [e4.row (by intro k; omega), xI_I, xupR _ _ _ (by omega)]
        show RowIs (zT S) (fun k => xI M4 475 (34 * (m + 1 - 1 - i) + k)) (if i = 0 then zF S else zH S (i - 1))
        rw [r475]
        by_cases q : i = 0
        · subst q
          rw [if_pos rfl]
          refine hw.2.1.congr r6 fun k hk => ?_
          show xI M2 475 (34 * (m + 1 - 1 - 0) + k) = _
          rw [show 34 * (m + 1 - 1 - 0) + k = 34 * m + k by omega]
          exact b2 k hk
        · rw [if_neg q]
          refine (r1 i (by omega) hi').congr r6 fun k hk => ?_
          show xI M2 475 (34 * (m + 1 - 1 - i) + k) = _
          rw [show 34 * (m + 1 - 1 - i) + k = 34 * (m - i) + k by omega]
          exact a2 _ (by omega)
    · intro i M2 hi' ⟨e2, u2, a2, b2⟩ ih
      have s2 := h.2.1.s.ex e2
      rw [B_153_51]
      simp (disch := omega) only [s2.s, s2.f, u2, lAdd, addL, lMul, mulL, nMul, nI_add, subL, lSub, nSub, nDec, nCl, lCl, nVp, lVp, nLe, nLt, nEq, lLe, leL, lLt, ltL, eqL, lEq, nM1, nM2, litLt0, one01, zero01, oneNe0, xupE, xupA, xupK, xI_I, xS_I, xF_I, xJ_I, xI_R, xS_R, xF_R, xJ_R, xI_L, xS_L, xF_L, xJ_L, xcat_s, le46, ge16, or_true, true_or, false_or, or_false, eq_self, Option.toList_some, Option.toList_none, List.cons_append, List.nil_append, true_and, and_true, not_false_eq_true, not_true_eq_false, if_true, if_false, if_neg]
      refine ih _ ⟨e2.wr _ (Or.inl rfl), by simp (disch := omega) only [lAdd, addL, lMul, mulL, nMul, nI_add, subL, lSub, nSub, nDec, nCl, lCl, nVp, lVp, nLe, nLt, nEq, lLe, leL, lLt, ltL, eqL, lEq, nM1, nM2, litLt0, one01, zero01, oneNe0, xupE, xupA, xupK, xI_I, xS_I, xF_I, xJ_I, xI_R, xS_R, xF_R, xJ_R, xI_L, xS_L, xF_L, xJ_L, xcat_s, le46, ge16, or_true, true_or, false_or, or_false, eq_self, Option.toList_some, Option.toList_none, List.cons_append, List.nil_append, true_and, and_true, not_false_eq_true, not_true_eq_false, if_true, if_false, u2], ?_, ?_⟩
      · intro j hj
        rw [xI_I, xupK _ _ (by omega)]
        exact a2 j hj
      · intro j hj
        rw [xI_I]
        by_cases q : j = i
        · rw [q, xupE, e2.I (by omega)]
        · rw [xupK _ _ (by omega)]; exact b2 j (by omega)
  rw [B_153_0]
  simp (disch := omega) only [h.2.1.s.s, k55, lAdd, addL, lMul, mulL, nMul, nI_add, subL, lSub, nSub, nDec, nCl, lCl, nVp, lVp, nLe, nLt, nEq, lLe, leL, lLt, ltL, eqL, lEq, nM1, nM2, litLt0, one01, zero01, oneNe0, xupE, xupA, xupK, xI_I, xS_I, xF_I, xJ_I, xI_R, xS_R, xF_R, xJ_R, xI_L, xS_L, xF_L, xJ_L, xcat_s, le46, ge16, or_true, true_or, false_or, or_false, eq_self, Option.toList_some, Option.toList_none, List.cons_append, List.nil_append, true_and, and_true, not_false_eq_true, not_true_eq_false, if_true, if_false]
  by_cases q : zHn S = 40
  · rw [if_neg (fun z => z q)]
    refine x_for 1326 (fun i M1 => Ex (fun a k => a = 475 ∨ (a = 439 ∧ k = 55)) M M1 ∧ xI M1 439 55 = nI 40 ∧ (∀ j, j < i → xI M1 475 j = xI M 475 (j + 34)) ∧ ∀ j, i ≤ j → xI M1 475 j = xI M 475 j) (fun i M1 => RG xprog 153 11 [some (.ref 439), some (.int (nI i))] [] M1 Q) ?_ ?_ 0 M (by omega) ⟨Ex.refl _ _, by rw [k55, q], fun j hj => by omega, fun j _ => rfl⟩
    · intro M1 ⟨e1, u1, a1, b1⟩
      have s1 := h.2.1.s.ex e1
      rw [B_153_11]
      simp (disch := omega) only [s1.s, u1, lAdd, addL, lMul, mulL, nMul, nI_add, subL, lSub, nSub, nDec, nCl, lCl, nVp, lVp, nLe, nLt, nEq, lLe, leL, lLt, ltL, eqL, lEq, nM1, nM2, litLt0, one01, zero01, oneNe0, xupE, xupA, xupK, xI_I, xS_I, xF_I, xJ_I, xI_R, xS_R, xF_R, xJ_R, xI_L, xS_L, xF_L, xJ_L, xcat_s, le46, ge16, or_true, true_or, false_or, or_false, eq_self, Option.toList_some, Option.toList_none, List.cons_append, List.nil_append, true_and, and_true, not_false_eq_true, not_true_eq_false, if_true, if_false, if_pos]
      refine half _ 39 (by omega) (by rw [q, if_neg (by omega)]) (e1.wr _ (Or.inr ⟨rfl, rfl⟩)) (by simp (disch := omega) only [lAdd, addL, lMul, mulL, nMul, nI_add, subL, lSub, nSub, nDec, nCl, lCl, nVp, lVp, nLe, nLt, nEq, lLe, leL, lLt, ltL, eqL, lEq, nM1, nM2, litLt0, one01, zero01, oneNe0, xupE, xupA, xupK, xI_I, xS_I, xF_I, xJ_I, xI_R, xS_R, xF_R, xJ_R, xI_L, xS_L, xF_L, xJ_L, xcat_s, le46, ge16, or_true, true_or, false_or, or_false, eq_self, Option.toList_some, Option.toList_none, List.cons_append, List.nil_append, true_and, and_true, not_false_eq_true, not_true_eq_false, if_true, if_false]) ?_
      intro i i0 i40
      rw [xI_I, xupR _ _ _ (by omega)]
      have := hh (i - 1) (by omega)
      refine this.congr r6 fun k hk => ?_
      show xI M1 475 (34 * (39 - i) + k) = xI M 475 (34 * (zHn S - 1 - (i - 1)) + k)
      rw [a1 _ (by omega)]
      congr 1
      omega
    · intro i M1 hi' ⟨e1, u1, a1, b1⟩ ih
      have s1 := h.2.1.s.ex e1
      rw [B_153_11]
      simp (disch := omega) only [s1.s, s1.f, lAdd, addL, lMul, mulL, nMul, nI_add, subL, lSub, nSub, nDec, nCl, lCl, nVp, lVp, nLe, nLt, nEq, lLe, leL, lLt, ltL, eqL, lEq, nM1, nM2, litLt0, one01, zero01, oneNe0, xupE, xupA, xupK, xI_I, xS_I, xF_I, xJ_I, xI_R, xS_R, xF_R, xJ_R, xI_L, xS_L, xF_L, xJ_L, xcat_s, le46, ge16, or_true, true_or, false_or, or_false, eq_self, Option.toList_some, Option.toList_none, List.cons_append, List.nil_append, true_and, and_true, not_false_eq_true, not_true_eq_false, if_true, if_false, if_neg]
      refine ih _ ⟨e1.wr _ (Or.inl rfl), by simp (disch := omega) only [lAdd, addL, lMul, mulL, nMul, nI_add, subL, lSub, nSub, nDec, nCl, lCl, nVp, lVp, nLe, nLt, nEq, lLe, leL, lLt, ltL, eqL, lEq, nM1, nM2, litLt0, one01, zero01, oneNe0, xupE, xupA, xupK, xI_I, xS_I, xF_I, xJ_I, xI_R, xS_R, xF_R, xJ_R, xI_L, xS_L, xF_L, xJ_L, xcat_s, le46, ge16, or_true, true_or, false_or, or_false, eq_self, Option.toList_some, Option.toList_none, List.cons_append, List.nil_append, true_and, and_true, not_false_eq_true, not_true_eq_false, if_true, if_false, u1], ?_, ?_⟩
      · intro j hj
        rw [xI_I]
        by_cases z : j = i
        · rw [z, xupE, b1 _ (by omega)]
        · rw [xupK _ _ z]; exact a1 j (by omega)
      · intro j hj
        rw [xI_I, xupK _ _ (by omega)]
        exact b1 j (by omega)
  · rw [if_pos q]
    refine half M (zHn S) (by omega) (by rw [if_pos (by omega)]) (Ex.refl _ _) k55 ?_
    intro i i0 i40
    have := hh (i - 1) (by omega)
    refine this.congr r6 fun k hk => ?_
    show xI M 475 (34 * (zHn S - i) + k) = xI M 475 (34 * (zHn S - 1 - (i - 1)) + k)
    congr 1
    omega
