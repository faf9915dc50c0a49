/-! the reference's reading: settings, laws, a tell -/
def LK (M : XM) (sd q cd k : Nat) (l : YL) : Prop := (xI M 460 (4 * sd + k) = nI 0 ∧ xI M 461 (4 * sd + k) = nI 0 ∧ ∀ v, lawv l.1 l.2 v = plv k v) ∨ (∃ p q', 130 * sd ≤ p ∧ q' ≤ q ∧ LW M (420 * sd) cd p q' (4 * sd + k) l ∧ l.1 ≤ 400)
def LT (M : XM) (sd t : Nat) (W : Nat → YL) : Prop := xI M 439 19 = nI sd ∧ xI M 439 12 = nI 0 ∧ ∃ q cd, xI M 439 36 = nI q ∧ xI M 439 42 = nI cd ∧ 130 * sd ≤ q ∧ 4 * q ≤ t + 520 * sd ∧ 420 * sd ≤ cd ∧ cd ≤ 420 * sd + t ∧ ∀ k, k < 4 → LK M sd q cd k (W k)
/-- between two tells -/
def TL (n : Nat) (c : Nat → Nat) (m : Nat) (O : Nat × Int32 × YS) (M : XM) (sd t : Nat) : Prop := ∃ tk fd ifs ne pe X W l z sk, RA n c m O M t ((0, tk, fd, ifs, ne, pe), X, (W, 4, l, z, sk)) ∧ RD n c M sd X ∧ WM M (tpos n c t) 0 X.1 ∧ LT M sd t W
theorem BrE.cg {I I' : Nat → Nat → Int32} {s s' : Nat → Int32} {lo hi hi' b a a' : Nat} (h : BrE I s lo hi b a a') (hh : hi ≤ hi') (hb : ∀ r, 462 ≤ r → r ≤ 466 → I' r b = I r b) (hc : ∀ k, k < hi → I' 467 k = I 467 k ∧ I' 468 k = I 468 k) (hs : ∀ i, i < a' → s' i = s i) : BrE I' s' lo hi' b a a' := by
  obtain ⟨x, n3, h1, h2, h3, h4, h5⟩ := h
  refine ⟨x, n3, h1, by omega, ?_, h4.c (fun i hi => hs _ (by omega)) (fun i hi => hc _ (by omega)), h5⟩
  rw [hb 462 (by omega) (by omega), hb 465 (by omega) (by omega), hb 466 (by omega) (by omega)]; exact h3
theorem LW.cg {M M' : XM} {lo hi hi' p q ix : Nat} {l : YL} (h : LW M lo hi p q ix l) (hh : hi ≤ hi') (h60 : xI M' 460 ix = xI M 460 ix ∧ xI M' 461 ix = xI M 461 ix) (hb : ∀ r j, 462 ≤ r → r ≤ 466 → j < q → xI M' r j = xI M r j) (hc : ∀ k, k < hi → xI M' 467 k = xI M 467 k ∧ xI M' 468 k = xI M 468 k) : LW M' lo hi' p q ix l := by
  obtain ⟨h1, h2, h3, a, h4, h5⟩ := h
  exact ⟨by rw [h60.1]; exact h1, by rw [h60.2]; exact h2, h3, a, BL.c hh hc _ _ (fun r j b1 b2 b3 => hb r j b1 b2 (by omega)) (fun _ _ => rfl) h4, h5.cg hh (fun r b1 b2 => hb r _ b1 b2 (by omega)) hc (fun _ _ => rfl)⟩
theorem tpos_ne {n : Nat} {c : Nat → Nat} {t : Nat} (h : ¬ tkK n c (tpos n c t) = 0) : tpos n c t < tpos n c (t + 1) := tpos_lt (Decidable.byContradiction fun q => h (tkK_0.mpr q))
theorem yst_0 {n : Nat} {c : Nat → Nat} {t tk fd ifs ne pe : Nat} {X : YX} {w : YW} : yst n c t ((0, tk, fd, ifs, ne, pe), X, w) = ytell (tkK n c (tpos n c t)) ((0, tk, fd, ifs, ne, pe), X, w) := rfl
section XRM
variable {n : Nat} {c : Nat → Nat} {m : Nat} {O : Nat × Int32 × YS} {M M' : XM} {t : Nat} {Q : Option Value → XM → Prop} {sd tk tk0 fd ifs ne pe : Nat} {mm : Nat × Int32} {a r : Nat} {nm : Nat → Nat} {L R : Nat → Nat → Int32} {S : Nat → Int32} {w : YW} {P J : Nat → Nat → Prop}
theorem LT.up {t' : Nat} {W : Nat → YL} (h : LT M sd t W) (ht : t ≤ t') (h1 : ∀ k, k = 12 ∨ k = 19 ∨ k = 36 ∨ k = 42 → xI M' 439 k = xI M 439 k) (h2 : ∀ b, 460 ≤ b → b ≤ 469 → xI M' b = xI M b) : LT M' sd t' W := by
  obtain ⟨a1, a2, q, cd, a3, a4, a5, a6, a7, a8, a9⟩ := h
  refine ⟨by rw [h1 _ (by omega)]; exact a1, by rw [h1 _ (by omega)]; exact a2, q, cd, by rw [h1 _ (by omega)]; exact a3, by rw [h1 _ (by omega)]; exact a4, a5, by omega, a7, by omega, fun k hk => ?_⟩
  rcases a9 k hk with ⟨b1, b2, b3⟩ | ⟨p, q', b1, b2, b3, b4⟩
  · exact Or.inl ⟨by rw [h2 _ (by omega) (by omega)]; exact b1, by rw [h2 _ (by omega) (by omega)]; exact b2, b3⟩
  · exact Or.inr ⟨p, q', b1, b2, b3.cg (Nat.le_refl _) ⟨by rw [h2 _ (by omega) (by omega)], by rw [h2 _ (by omega) (by omega)]⟩ (fun r j h3 h4 _ => by rw [h2 _ (by omega) (by omega)]) (fun k _ => ⟨by rw [h2 _ (by omega) (by omega)], by rw [h2 _ (by omega) (by omega)]⟩), b4⟩
theorem r_toldF {y : Int32} (h : FA O M) (hQ : Q (some (.int 0)) M) : RG xprog 99 4 [some (.ref 439), some (.int 0), some (.int y), none] [] M Q := by
  rw [B_99_4, r_boundedF h]
  simp (disch := omega) only [lAdd, addL, lMul, mulL, nMul, nI_add, subL, lSub, nSub, nDec, nCl, lCl, nVp, lVp, nLe, nLt, nEq, lLe, leL, lLt, ltL, eqL, lEq, nM1, nM2, litLt0, one01, zero01, oneNe0, xupE, xupA, xupK, xI_I, xS_I, xF_I, xJ_I, xI_R, xS_R, xF_R, xJ_R, xI_L, xS_L, xF_L, xJ_L, xcat_s, le46, ge16, or_true, true_or, false_or, or_false, eq_self, Option.toList_some, Option.toList_none, List.cons_append, List.nil_append, true_and, and_true, not_false_eq_true, not_true_eq_false, if_true, if_false, h.1.s, B_99_10]
  rw [r_mustF h]
  simp (disch := omega) only [lAdd, addL, lMul, mulL, nMul, nI_add, subL, lSub, nSub, nDec, nCl, lCl, nVp, lVp, nLe, nLt, nEq, lLe, leL, lLt, ltL, eqL, lEq, nM1, nM2, litLt0, one01, zero01, oneNe0, xupE, xupA, xupK, xI_I, xS_I, xF_I, xJ_I, xI_R, xS_R, xF_R, xJ_R, xI_L, xS_L, xF_L, xJ_L, xcat_s, le46, ge16, or_true, true_or, false_or, or_false, eq_self, Option.toList_some, Option.toList_none, List.cons_append, List.nil_append, true_and, and_true, not_false_eq_true, not_true_eq_false, if_true, if_false, B_99_16]
  exact hQ
theorem r_told {y : Int32} (hm : MT n c m) (ht : 19 ≤ tk ∧ tk ≤ 21) (hk : tkK n c (tpos n c t) = tk) (h : RA n c m O M t ((0, tk0, fd, ifs, ne, pe), (mm, a, r, nm, L, R, S), w)) (hy : y = nI (ylim tk (tk - 19))) (hw : WM M (tpos n c t) 0 mm)
    (hQ : ∀ (M' : XM) (mm' : Nat × Int32) (v t' : Nat) (C : Nat × Nat × Nat × Nat × Nat), E3 g2 noF noF M M' → RA n c m O M' t' ((0, C), (mm', a, r, nm, L, R, xone S (tk - 19) (nI v)), w) → WM M' (tpos n c t') 0 mm' → t < t' → (mm'.1 = 0 → mm.1 = 0 ∧ v ≤ ylim tk (tk - 19)) → Q (some (.int (nI v))) M') (hF : ∀ (M' : XM) (x : Int32), E3 g2 noF noF M M' → FA O M' → Q (some (.int x)) M') :
    RG xprog 99 0 [some (.ref 439), some (.int 0), some (.int y), none] [] M Q := by
  have tl : ylast tk = tk - 19 := by unfold ylast; rw [if_neg (by omega), if_neg (by omega)]
  obtain ⟨W, lw, l, z, sk⟩ := w
  have ys : yst n c t ((0, tk0, fd, ifs, ne, pe), (mm, a, r, nm, L, R, S), (W, lw, l, z, sk)) = (1, ((2, tk, tk - 19, ifs, ne, pe), (mm, a, r, nm, L, R, S), (W, lw, l, z, sk))) := by
    rw [yst_0, hk]
    unfold ytell
    dsimp only
    rw [if_neg (by omega), if_neg (by omega), if_neg (by omega), if_neg (by omega), if_pos (by omega)]
  rw [B_99_0, h.1.s.1]
  refine ⟨rfl, ?_⟩
  refine r_goesOn hm h (by rw [ys]) (by omega) ?_ ?_
  · intro M1 e1 a1
    rw [ys] at a1
    have w1 : WM M1 (tpos n c (t + 1)) 0 mm := (hw.e3 e1 (fun a k q => by unfold g1 at q; omega)).up (tpos_ne (by omega))
    simp (disch := omega) only [lAdd, addL, lMul, mulL, nMul, nI_add, subL, lSub, nSub, nDec, nCl, lCl, nVp, lVp, nLe, nLt, nEq, lLe, leL, lLt, ltL, eqL, lEq, nM1, nM2, litLt0, one01, zero01, oneNe0, xupE, xupA, xupK, xI_I, xS_I, xF_I, xJ_I, xI_R, xS_R, xF_R, xJ_R, xI_L, xS_L, xF_L, xJ_L, xcat_s, le46, ge16, or_true, true_or, false_or, or_false, eq_self, Option.toList_some, Option.toList_none, List.cons_append, List.nil_append, true_and, and_true, not_false_eq_true, not_true_eq_false, if_true, if_false, B_99_4, a1.1.s]
    refine r_bnd hm a1 hy w1 ?_ ?_
    · intro M2 mm2 v e2 a2 w2 z2
      rw [if_pos tl.symm, if_neg (by omega), if_neg (by omega), if_pos (by omega)] at a2
      simp (disch := omega) only [lAdd, addL, lMul, mulL, nMul, nI_add, subL, lSub, nSub, nDec, nCl, lCl, nVp, lVp, nLe, nLt, nEq, lLe, leL, lLt, ltL, eqL, lEq, nM1, nM2, litLt0, one01, zero01, oneNe0, xupE, xupA, xupK, xI_I, xS_I, xF_I, xJ_I, xI_R, xS_R, xF_R, xJ_R, xI_L, xS_L, xF_L, xJ_L, xcat_s, le46, ge16, or_true, true_or, false_or, or_false, eq_self, Option.toList_some, Option.toList_none, List.cons_append, List.nil_append, true_and, and_true, not_false_eq_true, not_true_eq_false, if_true, if_false, B_99_10, a2.1.s]
      have ys2 : yst n c (t + 1 + 1) ((3, tk, tk - 19 + 1, ifs, ne, pe), (mm2, a, r, nm, L, R, xone S (tk - 19) (nI v)), (W, lw, l, z, sk)) = (if tkK n c (tpos n c (t + 1 + 1)) = 4 then 1 else 0, ((0, tk, tk - 19 + 1, ifs, ne, pe), (mm2, a, r, nm, L, R, xone S (tk - 19) (nI v)), (W, lw, l, z, sk))) := rfl
      refine r_must (q := 4) hm a2 rfl (by omega) (by omega) (fun q => by rw [ys2]; exact if_pos q) (fun q => by rw [ys2]; exact if_neg q) ?_ ?_
      · intro M3 e3 k3 a3
        rw [ys2] at a3
        simp (disch := omega) only [lAdd, addL, lMul, mulL, nMul, nI_add, subL, lSub, nSub, nDec, nCl, lCl, nVp, lVp, nLe, nLt, nEq, lLe, leL, lLt, ltL, eqL, lEq, nM1, nM2, litLt0, one01, zero01, oneNe0, xupE, xupA, xupK, xI_I, xS_I, xF_I, xJ_I, xI_R, xS_R, xF_R, xJ_R, xI_L, xS_L, xF_L, xJ_L, xcat_s, le46, ge16, or_true, true_or, false_or, or_false, eq_self, Option.toList_some, Option.toList_none, List.cons_append, List.nil_append, true_and, and_true, not_false_eq_true, not_true_eq_false, if_true, if_false, B_99_16]
        exact hQ M3 mm2 v (t + 1 + 1 + 1) _ (((g1_2 e1).trans e2).trans (g1_2 e3)) a3 ((w2.e3 e3 (fun a k q => by unfold g1 at q; omega)).up (tpos_ne (by omega))) (by omega) z2
      · intro M3 e3 f3
        simp (disch := omega) only [lAdd, addL, lMul, mulL, nMul, nI_add, subL, lSub, nSub, nDec, nCl, lCl, nVp, lVp, nLe, nLt, nEq, lLe, leL, lLt, ltL, eqL, lEq, nM1, nM2, litLt0, one01, zero01, oneNe0, xupE, xupA, xupK, xI_I, xS_I, xF_I, xJ_I, xI_R, xS_R, xF_R, xJ_R, xI_L, xS_L, xF_L, xJ_L, xcat_s, le46, ge16, or_true, true_or, false_or, or_false, eq_self, Option.toList_some, Option.toList_none, List.cons_append, List.nil_append, true_and, and_true, not_false_eq_true, not_true_eq_false, if_true, if_false, B_99_16]
        exact hF M3 _ (((g1_2 e1).trans e2).trans (g1_2 e3)) f3
    · intro M2 x e2 f2
      simp (disch := omega) only [lAdd, addL, lMul, mulL, nMul, nI_add, subL, lSub, nSub, nDec, nCl, lCl, nVp, lVp, nLe, nLt, nEq, lLe, leL, lLt, ltL, eqL, lEq, nM1, nM2, litLt0, one01, zero01, oneNe0, xupE, xupA, xupK, xI_I, xS_I, xF_I, xJ_I, xI_R, xS_R, xF_R, xJ_R, xI_L, xS_L, xF_L, xJ_L, xcat_s, le46, ge16, or_true, true_or, false_or, or_false, eq_self, Option.toList_some, Option.toList_none, List.cons_append, List.nil_append, true_and, and_true, not_false_eq_true, not_true_eq_false, if_true, if_false, B_99_10, f2.1.s]
      rw [r_mustF f2]
      simp (disch := omega) only [lAdd, addL, lMul, mulL, nMul, nI_add, subL, lSub, nSub, nDec, nCl, lCl, nVp, lVp, nLe, nLt, nEq, lLe, leL, lLt, ltL, eqL, lEq, nM1, nM2, litLt0, one01, zero01, oneNe0, xupE, xupA, xupK, xI_I, xS_I, xF_I, xJ_I, xI_R, xS_R, xF_R, xJ_R, xI_L, xS_L, xF_L, xJ_L, xcat_s, le46, ge16, or_true, true_or, false_or, or_false, eq_self, Option.toList_some, Option.toList_none, List.cons_append, List.nil_append, true_and, and_true, not_false_eq_true, not_true_eq_false, if_true, if_false, B_99_16]
      exact hF M2 x ((g1_2 e1).trans e2) f2
  · intro M1 e1 f1
    simp (disch := omega) only [lAdd, addL, lMul, mulL, nMul, nI_add, subL, lSub, nSub, nDec, nCl, lCl, nVp, lVp, nLe, nLt, nEq, lLe, leL, lLt, ltL, eqL, lEq, nM1, nM2, litLt0, one01, zero01, oneNe0, xupE, xupA, xupK, xI_I, xS_I, xF_I, xJ_I, xI_R, xS_R, xF_R, xJ_R, xI_L, xS_L, xF_L, xJ_L, xcat_s, le46, ge16, or_true, true_or, false_or, or_false, eq_self, Option.toList_some, Option.toList_none, List.cons_append, List.nil_append, true_and, and_true, not_false_eq_true, not_true_eq_false, if_true, if_false]
    exact r_toldF f1 (hF M1 0 (g1_2 e1) f1)
end XRM
