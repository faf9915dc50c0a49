/-! read of the reference: its end; what the law wants of read -/
theorem rd_tok {n : Nat} {c : Nat → Nat} {M : XM} {sd : Nat} {C : YC} {mm : Nat × Int32} {a r : Nat} {nm : Nat → Nat} {L R : Nat → Nat → Int32} {S : Nat → Int32} {W : Nat → YL} {k : Nat × YL × (Nat × (Nat → Nat)) × Nat} (h : RD n c M sd (mm, a, r, nm, L, R, S)) (h0 : mm.1 = 0) : TOk (yT (C, (mm, a, r, nm, L, R, S), (W, k))) := by
  obtain ⟨⟨d1, d2, d3, d4⟩, d5, d6, d7, d8⟩ := h
  refine ⟨d2, d4, fun l hl => ?_, fun l hl k hk => ?_, ?_⟩
  · have hl' : l < a := hl
    have e : tL (yT (C, (mm, a, r, nm, L, R, S), (W, k))) l = L l := if_pos (by omega)
    rw [e]
    exact (d6 l hl').2.2.2.2 h0
  · have hl' : l < r := hl
    have e : ∀ q, tM (yT (C, (mm, a, r, nm, L, R, S), (W, q))) l = R l := fun q => if_pos (by omega)
    rw [e]
    exact (d7 l hl').2.2.2 h0 k hk
  · exact d8.2.2.2 h0
theorem rd_rtx {n : Nat} {c : Nat → Nat} {M N : XM} {sd t : Nat} {C : YC} {mm : Nat × Int32} {a r : Nat} {nm : Nat → Nat} {L R : Nat → Nat → Int32} {S : Nat → Int32} {W : Nat → YL} {k : Nat × YL × (Nat × (Nat → Nat)) × Nat} (hs : sd < 2) (ht : t ≤ 400) (h : RD n c M sd (mm, a, r, nm, L, R, S)) (lt : LT M sd t W) (e : ∀ b, 448 ≤ b → b ≤ 468 → xI N b = xI M b) (h18 : xI N 439 18 = nI sd) : RTx (xI N) sd (yT (C, (mm, a, r, nm, L, R, S), (W, k))) := by
  obtain ⟨⟨d1, d2, d3, d4⟩, d5, d6, d7, d8⟩ := h
  obtain ⟨_, _, q, cd, _, _, a5, a6, a7, a8, a9⟩ := lt
  refine ⟨hs, h18, by rw [e 448 (by omega) (by omega)]; exact d1, by rw [e 453 (by omega) (by omega)]; exact d3, fun l hl => ?_, fun l hl => ?_, ?_, fun j hj => ?_⟩
  · have hl' : l < a := hl
    have ee : tL (yT (C, (mm, a, r, nm, L, R, S), (W, k))) l = L l := if_pos (by omega)
    rw [ee, e 449 (by omega) (by omega), e 450 (by omega) (by omega), e 451 (by omega) (by omega), e 452 (by omega) (by omega)]
    obtain ⟨l1, l2, l3, l4, _⟩ := d6 l hl'
    exact ⟨l1, l2, l3, l4⟩
  · have hl' : l < r := hl
    have ee : tM (yT (C, (mm, a, r, nm, L, R, S), (W, k))) l = R l := if_pos (by omega)
    rw [ee, e 454 (by omega) (by omega), e 455 (by omega) (by omega), e 456 (by omega) (by omega)]
    obtain ⟨l1, l2, l3, _⟩ := d7 l hl'
    exact ⟨l1, l2, l3⟩
  · rw [e 457 (by omega) (by omega), e 458 (by omega) (by omega), e 459 (by omega) (by omega)]
    exact ⟨d8.1, d8.2.1, d8.2.2.1⟩
  · have ee : tW (yT (C, (mm, a, r, nm, L, R, S), (W, k))) j = lawv (W j).1 (W j).2 := if_pos hj
    rw [ee]
    exact (lk_law hs (by omega) (by omega) (a9 j hj)).ex (fun b h1 h2 => (e b (by omega) (by omega)).symm)
def hiP : Nat → Nat → Prop := fun a _ => 439 ≤ a
def hiJ : Nat → Nat → Prop := fun a _ => a = 445 ∨ a = 447
theorem r_read {M : XM} {lv n : Nat} {S : XS} {c : Nat → Nat} {L0 R0 : Nat → Nat → Int32} {S0 : Nat → Int32} {W0 : Nat → YL} {O : Nat × Int32 × YS} {Q : Option Value → XM → Prop} (hO : yOut n c 401 0 (y0 L0 R0 S0 W0) = O) (h : RWd M lv S) (hj : ∀ i, i < 21 → xJ M 446 i = kL.getD i 0) (hn : zPn S = n) (n2 : n ≤ 2000) (hb : ∀ i, i < n → zP S i &&& 255 = nI (c i)) (hc : ∀ i, c i < 256) (s0 : ∀ i, i < 3 → S0 i = 0) (w0 : ∀ k, k < 4 → ∀ v, lawv (W0 k).1 (W0 k).2 v = plv k v)
    (hF : ∀ M' : XM, O.1 ≠ 0 → E3 hiP hiJ noF M M' → RWd M' lv (S_fail S O.2.1) → Q (some (.int (nI O.1))) M') (hG : ∀ M' : XM, O.1 = 0 → E3 hiP hiJ noF M M' → RWd M' (1 - lv) (S0of (yT O.2.2)) → TOk (yT O.2.2) → Q (some (.int (nI O.1))) M') :
    RG xprog 107 0 [some (.ref 439), none] [] M Q := by
  have l2 := h.1.lv2
  have up : ∀ {M2 : XM}, E3 (gR' (1 - lv)) gRJ noF M M2 → E3 hiP hiJ noF M M2 := fun e => e.mono (fun a k q => by unfold gR' gT at q; unfold hiP; omega) (fun a k q => q) (fun _ _ q => q)
  refine r_read1 (L0 := L0) (R0 := R0) (S0 := S0) (W0 := W0) h hj hn n2 hb hc s0 w0 ?_ ?_
  · intro M1 t m y hm e1 z1 tl k0
    rw [hO] at tl
    obtain ⟨tk, fd, ifs, ne, pe, ⟨mm, a, r, nm, L, R, S'⟩, W, l, z, sk, ra, rd, wm, lt⟩ := tl
    have t4 : t ≤ 400 := by have := ra.2.2.1; have := hm.1; omega
    have ho := ra.out hm
    have ys : yst n c t ((0, tk, fd, ifs, ne, pe), (mm, a, r, nm, L, R, S'), (W, 4, l, z, sk)) = (1, ((0, tk, fd, ifs, ne, pe), (mm, a, r, nm, L, R, S'), (W, 4, l, z, sk))) := by
      rw [yst_0, k0]; rfl
    rw [ys, if_neg (by omega), if_pos k0] at ho
    obtain ⟨w1, w2, w3, w4⟩ := wm
    have w1' : xI M1 439 15 = nI mm.1 := w1
    have w2' : mm.1 ≤ 5 := w2
    have hS := ra.1
    rw [B_107_134]
    by_cases m0 : mm.1 = 0
    · have O1 : O.1 = 0 := by rw [ho]; exact m0
      have O2 : O.2.2 = ((0, tk, fd, ifs, ne, pe), (mm, a, r, nm, L, R, S'), (W, 4, l, z, sk)) := by rw [ho]
      have rf := hG
      rw [O2] at rf
      have tok : TOk (yT ((0, tk, fd, ifs, ne, pe), (mm, a, r, nm, L, R, S'), (W, 4, l, z, sk))) := rd_tok rd m0
      have n19 := lt.1
      rw [m0] at w1'
      simp (disch := omega) only [lAdd, addL, lMul, mulL, nMul, nI_add, subL, lSub, nSub, nDec, nCl, lCl, nVp, lVp, nLe, nLt, nEq, lLe, leL, lLt, ltL, eqL, lEq, nM1, nM2, litLt0, one01, zero01, oneNe0, xupE, xupA, xupK, xI_I, xS_I, xF_I, xJ_I, xI_R, xS_R, xF_R, xJ_R, xI_L, xS_L, xF_L, xJ_L, xcat_s, le46, ge16, or_true, true_or, false_or, or_false, eq_self, Option.toList_some, Option.toList_none, List.cons_append, List.nil_append, true_and, and_true, not_false_eq_true, not_true_eq_false, if_true, if_false, hS.s, ra.2.2.2.2.1, w1', if_pos]
      rw [B_107_164]
      simp (disch := omega) only [lAdd, addL, lMul, mulL, nMul, nI_add, subL, lSub, nSub, nDec, nCl, lCl, nVp, lVp, nLe, nLt, nEq, lLe, leL, lLt, ltL, eqL, lEq, nM1, nM2, litLt0, one01, zero01, oneNe0, xupE, xupA, xupK, xI_I, xS_I, xF_I, xJ_I, xI_R, xS_R, xF_R, xJ_R, xI_L, xS_L, xF_L, xJ_L, xcat_s, le46, ge16, or_true, true_or, false_or, or_false, eq_self, Option.toList_some, Option.toList_none, List.cons_append, List.nil_append, true_and, and_true, not_false_eq_true, not_true_eq_false, if_true, if_false, hS.s, ra.2.2.2.2.1, w1', if_pos, n19]
      have e2 : E3 (fun b k => b = 439 ∧ (k = 17 ∨ k = 18)) noF noF M1 (xmI (xmI M1 439 17 (-1)) 439 18 (nI (1 - lv))) := ((E3.refl _ _ _ _).wI _ (by omega)).wI _ (by omega)
      have f2 : xI (xmI (xmI M1 439 17 (-1)) 439 18 (nI (1 - lv))) 439 18 = nI (1 - lv) ∧ xI (xmI (xmI M1 439 17 (-1)) 439 18 (nI (1 - lv))) 439 17 = -1 := ⟨by simp (disch := omega) only [lAdd, addL, lMul, mulL, nMul, nI_add, subL, lSub, nSub, nDec, nCl, lCl, nVp, lVp, nLe, nLt, nEq, lLe, leL, lLt, ltL, eqL, lEq, nM1, nM2, litLt0, one01, zero01, oneNe0, xupE, xupA, xupK, xI_I, xS_I, xF_I, xJ_I, xI_R, xS_R, xF_R, xJ_R, xI_L, xS_L, xF_L, xJ_L, xcat_s, le46, ge16, or_true, true_or, false_or, or_false, eq_self, Option.toList_some, Option.toList_none, List.cons_append, List.nil_append, true_and, and_true, not_false_eq_true, not_true_eq_false, if_true, if_false], by simp (disch := omega) only [lAdd, addL, lMul, mulL, nMul, nI_add, subL, lSub, nSub, nDec, nCl, lCl, nVp, lVp, nLe, nLt, nEq, lLe, leL, lLt, ltL, eqL, lEq, nM1, nM2, litLt0, one01, zero01, oneNe0, xupE, xupA, xupK, xI_I, xS_I, xF_I, xJ_I, xI_R, xS_R, xF_R, xJ_R, xI_L, xS_L, xF_L, xJ_L, xcat_s, le46, ge16, or_true, true_or, false_or, or_false, eq_self, Option.toList_some, Option.toList_none, List.cons_append, List.nil_append, true_and, and_true, not_false_eq_true, not_true_eq_false, if_true, if_false]⟩
      generalize xmI (xmI M1 439 17 (-1)) 439 18 (nI (1 - lv)) = N2 at e2 f2
      have rw2 : RW N2 (1 - lv) (yT ((0, tk, fd, ifs, ne, pe), (mm, a, r, nm, L, R, S'), (W, 4, l, z, sk))) := ⟨hS.e3 e2, rd_rtx (by omega) t4 rd lt (fun b h1 h2 => e2.rowI fun k q => by omega) f2.1, tok⟩
      generalize yT ((0, tk, fd, ifs, ne, pe), (mm, a, r, nm, L, R, S'), (W, 4, l, z, sk)) = T at *
      refine r_begins rw2 ?_
      intro N3 e3 row3
      have rw3 := rw2.ex e3 (by intro a k q; unfold rNT; omega)
      simp (disch := omega) only [lAdd, addL, lMul, mulL, nMul, nI_add, subL, lSub, nSub, nDec, nCl, lCl, nVp, lVp, nLe, nLt, nEq, lLe, leL, lLt, ltL, eqL, lEq, nM1, nM2, litLt0, one01, zero01, oneNe0, xupE, xupA, xupK, xI_I, xS_I, xF_I, xJ_I, xI_R, xS_R, xF_R, xJ_R, xI_L, xS_L, xF_L, xJ_L, xcat_s, le46, ge16, or_true, true_or, false_or, or_false, eq_self, Option.toList_some, Option.toList_none, List.cons_append, List.nil_append, true_and, and_true, not_false_eq_true, not_true_eq_false, if_true, if_false, B_107_203, rw3.1.s]
      refine r_keepsRow rw3.1 ?_
      intro N4 e4 f4
      have rw4 := rw3.ex e4 (by intro a k q; unfold rNT; omega)
      simp (disch := omega) only [lAdd, addL, lMul, mulL, nMul, nI_add, subL, lSub, nSub, nDec, nCl, lCl, nVp, lVp, nLe, nLt, nEq, lLe, leL, lLt, ltL, eqL, lEq, nM1, nM2, litLt0, one01, zero01, oneNe0, xupE, xupA, xupK, xI_I, xS_I, xF_I, xJ_I, xI_R, xS_R, xF_R, xJ_R, xI_L, xS_L, xF_L, xJ_L, xcat_s, le46, ge16, or_true, true_or, false_or, or_false, eq_self, Option.toList_some, Option.toList_none, List.cons_append, List.nil_append, true_and, and_true, not_false_eq_true, not_true_eq_false, if_true, if_false, B_107_207, rw4.1.s]
      have e5 : Ex (fun b k => b = 439 ∧ (k = 55 ∨ k = 62)) N4 (xmI (xmI N4 439 55 0) 439 62 0) := ((Ex.refl _ _).wr _ (by omega)).wr _ (by omega)
      have f5 : xI (xmI (xmI N4 439 55 0) 439 62 0) 439 55 = nI 0 ∧ xI (xmI (xmI N4 439 55 0) 439 62 0) 439 62 = nI 0 := ⟨by simp (disch := omega) only [lAdd, addL, lMul, mulL, nMul, nI_add, subL, lSub, nSub, nDec, nCl, lCl, nVp, lVp, nLe, nLt, nEq, lLe, leL, lLt, ltL, eqL, lEq, nM1, nM2, litLt0, one01, zero01, oneNe0, xupE, xupA, xupK, xI_I, xS_I, xF_I, xJ_I, xI_R, xS_R, xF_R, xJ_R, xI_L, xS_L, xF_L, xJ_L, xcat_s, le46, ge16, or_true, true_or, false_or, or_false, eq_self, Option.toList_some, Option.toList_none, List.cons_append, List.nil_append, true_and, and_true, not_false_eq_true, not_true_eq_false, if_true, if_false], by simp (disch := omega) only [lAdd, addL, lMul, mulL, nMul, nI_add, subL, lSub, nSub, nDec, nCl, lCl, nVp, lVp, nLe, nLt, nEq, lLe, leL, lLt, ltL, eqL, lEq, nM1, nM2, litLt0, one01, zero01, oneNe0, xupE, xupA, xupK, xI_I, xS_I, xF_I, xJ_I, xI_R, xS_R, xF_R, xJ_R, xI_L, xS_L, xF_L, xJ_L, xcat_s, le46, ge16, or_true, true_or, false_or, or_false, eq_self, Option.toList_some, Option.toList_none, List.cons_append, List.nil_append, true_and, and_true, not_false_eq_true, not_true_eq_false, if_true, if_false]⟩
      generalize xmI (xmI N4 439 55 0) 439 62 0 = N5 at e5 f5
      have rw5 := rw4.ex e5 (by intro a k q; unfold rNT; omega)
      refine x_for 3 (fun i (N6 : XM) => Ex (fun b k => b = 484) N5 N6 ∧ ∀ k, k < i → xI N6 484 k = 0) (fun i N6 => RG xprog 107 219 [some (.ref 439), some (.int (nI i))] [] N6 _) ?_ ?_ 0 N5 (by omega) ⟨Ex.refl _ _, fun k hk => by omega⟩
      · intro N6 ⟨e6, f6⟩
        have rw6 := rw5.ex e6 (by intro a k q; unfold rNT; omega)
        rw [B_107_219]
        simp (disch := omega) only [lAdd, addL, lMul, mulL, nMul, nI_add, subL, lSub, nSub, nDec, nCl, lCl, nVp, lVp, nLe, nLt, nEq, lLe, leL, lLt, ltL, eqL, lEq, nM1, nM2, litLt0, one01, zero01, oneNe0, xupE, xupA, xupK, xI_I, xS_I, xF_I, xJ_I, xI_R, xS_R, xF_R, xJ_R, xI_L, xS_L, xF_L, xJ_L, xcat_s, le46, ge16, or_true, true_or, false_or, or_false, eq_self, Option.toList_some, Option.toList_none, List.cons_append, List.nil_append, true_and, and_true, not_false_eq_true, not_true_eq_false, if_true, if_false, if_pos]
        have E6 : E3 hiP hiJ noF M N6 := (((((up e1).trans (e2.mono (fun a k q => by unfold hiP; omega) (fun _ _ q => absurd q id) (fun _ _ q => q))).trans (E3.ofEx (e3.mono fun a k q => by unfold hiP; omega))).trans (E3.ofEx (e4.mono fun a k q => by unfold hiP; omega))).trans (E3.ofEx (e5.mono fun a k q => by unfold hiP; omega))).trans (E3.ofEx (e6.mono fun a k q => by unfold hiP; omega))
        have fin := rf N6 O1 E6 ⟨rw6, ?_, ⟨?_, fun i hi => absurd hi (Nat.not_lt_zero _)⟩, ?_, ⟨?_, fun i hi => absurd hi (Nat.not_lt_zero _)⟩, fun i hi => ⟨f6 i hi, fun G hG => ?_⟩, ?_, fun i hi => absurd hi (Nat.not_lt_zero _)⟩ tok
        · rw [O1] at fin; exact fin
        · refine row3.congr tok.2.1 fun k hk => ?_
          rw [e6.row (fun k q => by omega), e5.row (fun k q => by omega)]
          exact f4 k hk
        · show xI N6 439 2 = nI 0
          rw [e6.I (by omega), e5.I (by omega), e4.I (by omega), e3.I (by omega), e2.I (by omega)]; exact z1
        · show xI N6 439 17 = -1
          rw [e6.I (by omega), e5.I (by omega), e4.I (by omega), e3.I (by omega)]; exact f2.2
        · show xI N6 439 55 = nI 0
          rw [e6.I (by omega)]; exact f5.1
        · have : (none : Option XO) = some G := hG
          cases this
        · show xI N6 439 62 = nI 0
          rw [e6.I (by omega)]; exact f5.2
      · intro i N6 hi ⟨e6, f6⟩ ih
        have rw6 := rw5.ex e6 (by intro a k q; unfold rNT; omega)
        rw [B_107_219]
        simp (disch := omega) only [lAdd, addL, lMul, mulL, nMul, nI_add, subL, lSub, nSub, nDec, nCl, lCl, nVp, lVp, nLe, nLt, nEq, lLe, leL, lLt, ltL, eqL, lEq, nM1, nM2, litLt0, one01, zero01, oneNe0, xupE, xupA, xupK, xI_I, xS_I, xF_I, xJ_I, xI_R, xS_R, xF_R, xJ_R, xI_L, xS_L, xF_L, xJ_L, xcat_s, le46, ge16, or_true, true_or, false_or, or_false, eq_self, Option.toList_some, Option.toList_none, List.cons_append, List.nil_append, true_and, and_true, not_false_eq_true, not_true_eq_false, if_true, if_false, rw6.1.s, rw6.1.f, n4241, false_and, nar01, if_neg]
        refine ⟨by omega, ih _ ⟨e6.wr _ rfl, fun k hk => ?_⟩⟩
        rw [xI_I]
        by_cases q : k = i
        · rw [q, xupE]
        · rw [xupK _ _ q]; exact f6 k (by omega)
    · obtain ⟨q, g1, g2, g3, g4⟩ := w4 m0
      have O1 : O.1 = mm.1 := by rw [ho]
      have O2 : O.2.1 = mm.2 := by rw [ho]
      simp (disch := omega) only [lAdd, addL, lMul, mulL, nMul, nI_add, subL, lSub, nSub, nDec, nCl, lCl, nVp, lVp, nLe, nLt, nEq, lLe, leL, lLt, ltL, eqL, lEq, nM1, nM2, litLt0, one01, zero01, oneNe0, xupE, xupA, xupK, xI_I, xS_I, xF_I, xJ_I, xI_R, xS_R, xF_R, xJ_R, xI_L, xS_L, xF_L, xJ_L, xcat_s, le46, ge16, or_true, true_or, false_or, or_false, eq_self, Option.toList_some, Option.toList_none, List.cons_append, List.nil_append, true_and, and_true, not_false_eq_true, not_true_eq_false, if_true, if_false, hS.s, ra.2.2.2.2.1, w1', if_pos, if_neg, g2]
      rw [B_107_164]
      simp (disch := omega) only [lAdd, addL, lMul, mulL, nMul, nI_add, subL, lSub, nSub, nDec, nCl, lCl, nVp, lVp, nLe, nLt, nEq, lLe, leL, lLt, ltL, eqL, lEq, nM1, nM2, litLt0, one01, zero01, oneNe0, xupE, xupA, xupK, xI_I, xS_I, xF_I, xJ_I, xI_R, xS_R, xF_R, xJ_R, xI_L, xS_L, xF_L, xJ_L, xcat_s, le46, ge16, or_true, true_or, false_or, or_false, eq_self, Option.toList_some, Option.toList_none, List.cons_append, List.nil_append, true_and, and_true, not_false_eq_true, not_true_eq_false, if_true, if_false, hS.s, ra.2.2.2.2.1, w1', if_pos, if_neg]
      have fin := h.fail (x := nI q) e1 z1
      have g1' : O.2.1 = nI q := by rw [O2]; exact g1
      rw [← O1]
      rw [← g1'] at fin ⊢
      refine hF _ (by rw [O1]; exact m0) ((up e1).wI _ (by unfold hiP; omega)) fin
  · intro M1 y e1 z1 fa
    rw [hO] at fa
    obtain ⟨s1, f, g2, g3, g4, g5⟩ := fa
    rw [B_107_134]
    simp (disch := omega) only [lAdd, addL, lMul, mulL, nMul, nI_add, subL, lSub, nSub, nDec, nCl, lCl, nVp, lVp, nLe, nLt, nEq, lLe, leL, lLt, ltL, eqL, lEq, nM1, nM2, litLt0, one01, zero01, oneNe0, xupE, xupA, xupK, xI_I, xS_I, xF_I, xJ_I, xI_R, xS_R, xF_R, xJ_R, xI_L, xS_L, xF_L, xJ_L, xcat_s, le46, ge16, or_true, true_or, false_or, or_false, eq_self, Option.toList_some, Option.toList_none, List.cons_append, List.nil_append, true_and, and_true, not_false_eq_true, not_true_eq_false, if_true, if_false, s1.s, g3, if_neg, g5]
    rw [B_107_164]
    simp (disch := omega) only [lAdd, addL, lMul, mulL, nMul, nI_add, subL, lSub, nSub, nDec, nCl, lCl, nVp, lVp, nLe, nLt, nEq, lLe, leL, lLt, ltL, eqL, lEq, nM1, nM2, litLt0, one01, zero01, oneNe0, xupE, xupA, xupK, xI_I, xS_I, xF_I, xJ_I, xI_R, xS_R, xF_R, xJ_R, xI_L, xS_L, xF_L, xJ_L, xcat_s, le46, ge16, or_true, true_or, false_or, or_false, eq_self, Option.toList_some, Option.toList_none, List.cons_append, List.nil_append, true_and, and_true, not_false_eq_true, not_true_eq_false, if_true, if_false, s1.s, g3, if_neg]
    rw [← g4]
    exact hF _ (by omega) ((up e1).wI _ (by unfold hiP; omega)) (h.fail (x := O.2.1) e1 z1)
