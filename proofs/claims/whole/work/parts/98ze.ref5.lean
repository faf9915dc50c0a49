/-! the reference's reading: units and expressions -/
section XRE
variable {n : Nat} {c : Nat → Nat} {m : Nat} {O : Nat × Int32 × YS} {M : XM} {t : Nat} {Q : Option Value → XM → Prop} {st tk fd ifs ne pe lw sk c0 l0 cm : Nat} {X : YX} {W : Nat → YL} {l : YL} {z : Nat × (Nat → Nat)} {a1 a2 : Int32}
theorem yst_unit (hst : st = 6 ∨ (st = 5 ∧ ¬ tkK n c (tpos n c t) = 22)) : yst n c t ((st, tk, fd, ifs, ne, pe), X, (W, lw, l, z, sk)) = yunit (tkK n c (tpos n c t)) (tkV n c (tpos n c t)) ((st, tk, fd, ifs, ne, pe), X, (W, lw, l, z, sk)) := by
  rcases hst with q | ⟨q, y⟩
  · subst q; rfl
  · subst q
    show (if 5 = 5 ∧ tkK n c (tpos n c t) = 22 then _ else _) = _
    rw [if_neg (fun z => y z.2)]
    rfl
theorem yst_7 : yst n c t ((7, tk, fd, ifs, ne, pe), X, (W, lw, l, z, sk)) = ybeh (tkK n c (tpos n c t)) ((7, tk, fd, ifs, ne, pe), X, (W, lw, l, z, sk)) := rfl
theorem r_unitF (h : FA O M) : RG xprog 101 0 [some (.ref 439)] [] M Q = Q none M := by
  have hh := h
  obtain ⟨s1, f, h2, h3, h4, h5⟩ := h
  rw [B_101_0, r_isF hh]
  simp (disch := omega) only [lAdd, addL, lMul, mulL, nMul, nI_add, subL, lSub, nSub, nDec, nCl, lCl, nVp, lVp, nLe, nLt, nEq, lLe, leL, lLt, ltL, eqL, lEq, nM1, nM2, litLt0, one01, zero01, oneNe0, xupE, xupA, xupK, xI_I, xS_I, xF_I, xJ_I, xI_R, xS_R, xF_R, xJ_R, xI_L, xS_L, xF_L, xJ_L, xcat_s, le46, ge16, or_true, true_or, false_or, or_false, eq_self, Option.toList_some, Option.toList_none, List.cons_append, List.nil_append, true_and, and_true, not_false_eq_true, not_true_eq_false, if_true, if_false, B_101_5, s1.s, h3, if_pos]
  rw [B_101_88]
  simp (disch := omega) only [lAdd, addL, lMul, mulL, nMul, nI_add, subL, lSub, nSub, nDec, nCl, lCl, nVp, lVp, nLe, nLt, nEq, lLe, leL, lLt, ltL, eqL, lEq, nM1, nM2, litLt0, one01, zero01, oneNe0, xupE, xupA, xupK, xI_I, xS_I, xF_I, xJ_I, xI_R, xS_R, xF_R, xJ_R, xI_L, xS_L, xF_L, xJ_L, xcat_s, le46, ge16, or_true, true_or, false_or, or_false, eq_self, Option.toList_some, Option.toList_none, List.cons_append, List.nil_append, true_and, and_true, not_false_eq_true, not_true_eq_false, if_true, if_false, s1.s, r_failF hh, B_101_93]
theorem k2r_hi {k : Nat} (h : 25 ≤ k) (h2 : k ≤ 33) : k2r k = k + 7 := by
  unfold k2r; rw [if_neg (by omega)]; omega
theorem k2r_lo {k : Nat} (h : k < 25) : k2r k < 32 := by
  have : ∀ k : Fin 25, k2r k.val < 32 := by decide
  exact this ⟨k, h⟩
theorem EX.em {ne : Nat} {k v x : Int32} (h : EX M c0 l0 l z ne) (hl : l.1 < 400) (hs : Sy x k v) : EX (emM M (c0 + (l.1 - l0)) k v) c0 l0 (yadd l x) z ne := by
  obtain ⟨h1, h2, h3, h4⟩ := h
  refine ⟨h1.emit hl hs, ?_, fun i hi => ?_, ?_⟩
  · unfold emM; simp (disch := omega) only [lAdd, addL, lMul, mulL, nMul, nI_add, subL, lSub, nSub, nDec, nCl, lCl, nVp, lVp, nLe, nLt, nEq, lLe, leL, lLt, ltL, eqL, lEq, nM1, nM2, litLt0, one01, zero01, oneNe0, xupE, xupA, xupK, xI_I, xS_I, xF_I, xJ_I, xI_R, xS_R, xF_R, xJ_R, xI_L, xS_L, xF_L, xJ_L, xcat_s, le46, ge16, or_true, true_or, false_or, or_false, eq_self, Option.toList_some, Option.toList_none, List.cons_append, List.nil_append, true_and, and_true, not_false_eq_true, not_true_eq_false, if_true, if_false]; exact h2
  · unfold emM; simp (disch := omega) only [lAdd, addL, lMul, mulL, nMul, nI_add, subL, lSub, nSub, nDec, nCl, lCl, nVp, lVp, nLe, nLt, nEq, lLe, leL, lLt, ltL, eqL, lEq, nM1, nM2, litLt0, one01, zero01, oneNe0, xupE, xupA, xupK, xI_I, xS_I, xF_I, xJ_I, xI_R, xS_R, xF_R, xJ_R, xI_L, xS_L, xF_L, xJ_L, xcat_s, le46, ge16, or_true, true_or, false_or, or_false, eq_self, Option.toList_some, Option.toList_none, List.cons_append, List.nil_append, true_and, and_true, not_false_eq_true, not_true_eq_false, if_true, if_false]; exact h3 i hi
  · unfold emM; simp (disch := omega) only [lAdd, addL, lMul, mulL, nMul, nI_add, subL, lSub, nSub, nDec, nCl, lCl, nVp, lVp, nLe, nLt, nEq, lLe, leL, lLt, ltL, eqL, lEq, nM1, nM2, litLt0, one01, zero01, oneNe0, xupE, xupA, xupK, xI_I, xS_I, xF_I, xJ_I, xI_R, xS_R, xF_R, xJ_R, xI_L, xS_L, xF_L, xJ_L, xcat_s, le46, ge16, or_true, true_or, false_or, or_false, eq_self, Option.toList_some, Option.toList_none, List.cons_append, List.nil_append, true_and, and_true, not_false_eq_true, not_true_eq_false, if_true, if_false]; exact h4
theorem r_unit (hm : MT n c m) (hst : st = 6 ∨ (st = 5 ∧ ¬ tkK n c (tpos n c t) = 22)) (h : RA n c m O M t ((st, tk, fd, ifs, ne, pe), X, (W, lw, l, z, sk))) (ex : EX M c0 l0 l z ne) (k11 : ¬ tkK n c (tpos n c t) = 11) (hl : l.1 < 400) (hc : c0 + (l.1 - l0) < cm) (hcm : cm ≤ 840)
    (hQ : ∀ (M' : XM) (x : Int32), E3 (gx c0 cm) noF noF M M' → yun x → RA n c m O M' (t + 1) ((7, tk, fd, ifs, ne, pe), X, (W, lw, yadd l x, z, sk)) → EX M' c0 l0 (yadd l x) z ne → Q none M') (hF : ∀ M' : XM, E3 (gx c0 cm) noF noF M M' → FA O M' → Q none M') : RG xprog 101 0 [some (.ref 439)] [] M Q := by
  have t4 : t ≤ 400 := by have := h.2.2.1; have := hm.1; omega
  have k33 := tkK_le (n := n) (c := c) (j := tpos n c t)
  have kd := h.kind hm
  have ys := yst_unit (tk := tk) (fd := fd) (ifs := ifs) (ne := ne) (pe := pe) (X := X) (W := W) (lw := lw) (l := l) (z := z) (sk := sk) hst
  unfold yunit at ys
  dsimp only at ys
  rw [if_neg k11] at ys
  have fin : ∀ (k v x : Int32), Sy x k v → yun x → ¬ tkK n c (tpos n c t) = 0 → yst n c t ((st, tk, fd, ifs, ne, pe), X, (W, lw, l, z, sk)) = (1, ((7, tk, fd, ifs, ne, pe), X, (W, lw, yadd l x, z, sk))) → ∀ Q' : Option Value → XM → Prop, (∀ M', Q none M' → Q' none M') → RG xprog 92 0 [some (.ref 439)] [] (emM M (c0 + (l.1 - l0)) k v) Q' := by
    intro k v x hs hx k0 hy Q' hq
    have e1 : E3 (go c0 cm) noF noF M (emM M (c0 + (l.1 - l0)) k v) := emM_e (by omega) hc
    have a1 := h.e3 e1 (fun a k q => by unfold go at q; omega) (fun _ _ q => absurd q id)
    refine r_goesOn hm a1 (by rw [hy]) k0 ?_ ?_
    · intro M2 e2 a2
      rw [hy] at a2
      exact hq M2 (hQ M2 x ((go_x e1).trans (g1_x e2)) hx a2 ((ex.em hl hs).gg e2))
    · intro M2 e2 f2
      exact hq M2 (hF M2 ((go_x e1).trans (g1_x e2)) f2)
  rw [B_101_0, h.1.s.1]
  refine ⟨rfl, ?_⟩
  rw [r_is (q := 3) (x := 2) hm h rfl (by omega)]
  by_cases k3 : tkK n c (tpos n c t) = 3
  · rw [if_pos k3]
    rw [if_pos k3] at ys
    obtain ⟨d1, d2, d3, d4⟩ := tkK_3 k3
    have vl := tkV_le k3
    have vv : xI M 444 t = nI (tkV n c (tpos n c t)) := by
      rw [(h.2.1.2 t (by have := h.2.2.1; omega)).2.2.1]
      show nI (rkV n c (tpos n c t)) = _
      unfold rkV tkV tkE
      rw [if_pos d1, if_neg d2, if_pos d3, if_pos d1, if_neg d2, if_pos d3]
    simp (disch := omega) only [lAdd, addL, lMul, mulL, nMul, nI_add, subL, lSub, nSub, nDec, nCl, lCl, nVp, lVp, nLe, nLt, nEq, lLe, leL, lLt, ltL, eqL, lEq, nM1, nM2, litLt0, one01, zero01, oneNe0, xupE, xupA, xupK, xI_I, xS_I, xF_I, xJ_I, xI_R, xS_R, xF_R, xJ_R, xI_L, xS_L, xF_L, xJ_L, xcat_s, le46, ge16, or_true, true_or, false_or, or_false, eq_self, Option.toList_some, Option.toList_none, List.cons_append, List.nil_append, true_and, and_true, not_false_eq_true, not_true_eq_false, if_true, if_false, B_101_5, h.1.s, h.1.f, h.2.2.2.1, vv, if_neg]
    rw [r_emit h.1 ex.1.2.1 (by omega)]
    simp (disch := omega) only [lAdd, addL, lMul, mulL, nMul, nI_add, subL, lSub, nSub, nDec, nCl, lCl, nVp, lVp, nLe, nLt, nEq, lLe, leL, lLt, ltL, eqL, lEq, nM1, nM2, litLt0, one01, zero01, oneNe0, xupE, xupA, xupK, xI_I, xS_I, xF_I, xJ_I, xI_R, xS_R, xF_R, xJ_R, xI_L, xS_L, xF_L, xJ_L, xcat_s, le46, ge16, or_true, true_or, false_or, or_false, eq_self, Option.toList_some, Option.toList_none, List.cons_append, List.nil_append, true_and, and_true, not_false_eq_true, not_true_eq_false, if_true, if_false, B_101_22, emM, h.1.s]
    refine fin 0 (nI (tkV n c (tpos n c t))) (nI (tkV n c (tpos n c t))) (Or.inl ⟨_, vl, rfl, rfl, rfl⟩) (Or.inl ⟨_, vl, rfl⟩) (by omega) ys _ ?_
    intro M' hq
    simp (disch := omega) only [lAdd, addL, lMul, mulL, nMul, nI_add, subL, lSub, nSub, nDec, nCl, lCl, nVp, lVp, nLe, nLt, nEq, lLe, leL, lLt, ltL, eqL, lEq, nM1, nM2, litLt0, one01, zero01, oneNe0, xupE, xupA, xupK, xI_I, xS_I, xF_I, xJ_I, xI_R, xS_R, xF_R, xJ_R, xI_L, xS_L, xF_L, xJ_L, xcat_s, le46, ge16, or_true, true_or, false_or, or_false, eq_self, Option.toList_some, Option.toList_none, List.cons_append, List.nil_append, true_and, and_true, not_false_eq_true, not_true_eq_false, if_true, if_false, B_101_26, B_101_93]
    exact hq
  · rw [if_neg k3]
    rw [if_neg k3] at ys
    by_cases k25 : 25 ≤ tkK n c (tpos n c t)
    · rw [if_pos ⟨k25, k33⟩] at ys
      rw [k2r_hi k25 k33] at kd
      simp (disch := omega) only [lAdd, addL, lMul, mulL, nMul, nI_add, subL, lSub, nSub, nDec, nCl, lCl, nVp, lVp, nLe, nLt, nEq, lLe, leL, lLt, ltL, eqL, lEq, nM1, nM2, litLt0, one01, zero01, oneNe0, xupE, xupA, xupK, xI_I, xS_I, xF_I, xJ_I, xI_R, xS_R, xF_R, xJ_R, xI_L, xS_L, xF_L, xJ_L, xcat_s, le46, ge16, or_true, true_or, false_or, or_false, eq_self, Option.toList_some, Option.toList_none, List.cons_append, List.nil_append, true_and, and_true, not_false_eq_true, not_true_eq_false, if_true, if_false, B_101_5, h.1.s, h.1.f, h.2.2.2.1, h.2.2.2.2.1, kd, if_neg, if_pos]
      rw [r_emit h.1 ex.1.2.1 (by omega)]
      simp (disch := omega) only [lAdd, addL, lMul, mulL, nMul, nI_add, subL, lSub, nSub, nDec, nCl, lCl, nVp, lVp, nLe, nLt, nEq, lLe, leL, lLt, ltL, eqL, lEq, nM1, nM2, litLt0, one01, zero01, oneNe0, xupE, xupA, xupK, xI_I, xS_I, xF_I, xJ_I, xI_R, xS_R, xF_R, xJ_R, xI_L, xS_L, xF_L, xJ_L, xcat_s, le46, ge16, or_true, true_or, false_or, or_false, eq_self, Option.toList_some, Option.toList_none, List.cons_append, List.nil_append, true_and, and_true, not_false_eq_true, not_true_eq_false, if_true, if_false, B_101_81, emM, h.1.s]
      rw [show tkK n c (tpos n c t) + 7 - 32 = tkK n c (tpos n c t) - 25 by omega]
      refine fin 1 (nI (tkK n c (tpos n c t) - 25)) (-1 - nI (tkK n c (tpos n c t) - 25)) (Or.inr (Or.inl ⟨_, by omega, rfl, rfl, rfl⟩)) (Or.inr ⟨_, by omega, rfl⟩) (by omega) ys _ ?_
      intro M' hq
      simp (disch := omega) only [lAdd, addL, lMul, mulL, nMul, nI_add, subL, lSub, nSub, nDec, nCl, lCl, nVp, lVp, nLe, nLt, nEq, lLe, leL, lLt, ltL, eqL, lEq, nM1, nM2, litLt0, one01, zero01, oneNe0, xupE, xupA, xupK, xI_I, xS_I, xF_I, xJ_I, xI_R, xS_R, xF_R, xJ_R, xI_L, xS_L, xF_L, xJ_L, xcat_s, le46, ge16, or_true, true_or, false_or, or_false, eq_self, Option.toList_some, Option.toList_none, List.cons_append, List.nil_append, true_and, and_true, not_false_eq_true, not_true_eq_false, if_true, if_false, B_101_85, B_101_93]
      exact hq
    · have kl := k2r_lo (show tkK n c (tpos n c t) < 25 by omega)
      rw [if_neg (by omega)] at ys
      simp (disch := omega) only [lAdd, addL, lMul, mulL, nMul, nI_add, subL, lSub, nSub, nDec, nCl, lCl, nVp, lVp, nLe, nLt, nEq, lLe, leL, lLt, ltL, eqL, lEq, nM1, nM2, litLt0, one01, zero01, oneNe0, xupE, xupA, xupK, xI_I, xS_I, xF_I, xJ_I, xI_R, xS_R, xF_R, xJ_R, xI_L, xS_L, xF_L, xJ_L, xcat_s, le46, ge16, or_true, true_or, false_or, or_false, eq_self, Option.toList_some, Option.toList_none, List.cons_append, List.nil_append, true_and, and_true, not_false_eq_true, not_true_eq_false, if_true, if_false, B_101_5, h.1.s, h.1.f, h.2.2.2.1, h.2.2.2.2.1, kd, if_neg, if_pos]
      rw [B_101_88, h.1.s.1]
      refine ⟨rfl, ?_⟩
      refine r_fail0 hm h rfl (by rw [ys]) ?_
      intro M1 e1 f1
      simp (disch := omega) only [lAdd, addL, lMul, mulL, nMul, nI_add, subL, lSub, nSub, nDec, nCl, lCl, nVp, lVp, nLe, nLt, nEq, lLe, leL, lLt, ltL, eqL, lEq, nM1, nM2, litLt0, one01, zero01, oneNe0, xupE, xupA, xupK, xI_I, xS_I, xF_I, xJ_I, xI_R, xS_R, xF_R, xJ_R, xI_L, xS_L, xF_L, xJ_L, xcat_s, le46, ge16, or_true, true_or, false_or, or_false, eq_self, Option.toList_some, Option.toList_none, List.cons_append, List.nil_append, true_and, and_true, not_false_eq_true, not_true_eq_false, if_true, if_false, B_101_93]
      exact hF M1 (g1_x e1) f1
theorem fa23 (h : FA O M) (hQ : Q none M) : RG xprog 103 23 [some (.ref 439), some (.int a1), some (.int a2)] [] M Q := by
  have hh := h
  obtain ⟨s1, f, h2, h3, h4, h5⟩ := h
  rw [B_103_23, r_isF hh]
  simp (disch := omega) only [lAdd, addL, lMul, mulL, nMul, nI_add, subL, lSub, nSub, nDec, nCl, lCl, nVp, lVp, nLe, nLt, nEq, lLe, leL, lLt, ltL, eqL, lEq, nM1, nM2, litLt0, one01, zero01, oneNe0, xupE, xupA, xupK, xI_I, xS_I, xF_I, xJ_I, xI_R, xS_R, xF_R, xJ_R, xI_L, xS_L, xF_L, xJ_L, xcat_s, le46, ge16, or_true, true_or, false_or, or_false, eq_self, Option.toList_some, Option.toList_none, List.cons_append, List.nil_append, true_and, and_true, not_false_eq_true, not_true_eq_false, if_true, if_false, B_103_29, s1.s, if_pos]
  rw [r_unitF hh]
  simp (disch := omega) only [lAdd, addL, lMul, mulL, nMul, nI_add, subL, lSub, nSub, nDec, nCl, lCl, nVp, lVp, nLe, nLt, nEq, lLe, leL, lLt, ltL, eqL, lEq, nM1, nM2, litLt0, one01, zero01, oneNe0, xupE, xupA, xupK, xI_I, xS_I, xF_I, xJ_I, xI_R, xS_R, xF_R, xJ_R, xI_L, xS_L, xF_L, xJ_L, xcat_s, le46, ge16, or_true, true_or, false_or, or_false, eq_self, Option.toList_some, Option.toList_none, List.cons_append, List.nil_append, true_and, and_true, not_false_eq_true, not_true_eq_false, if_true, if_false, B_103_88, s1.s, h3, if_neg]
  exact hQ
theorem fa60 {w : Nat} (h : FA O M) (hw : xI M 439 46 = nI w) (h6 : w < 64) (hQ : ∀ M' : XM, E3 (gx c0 cm) noF noF M M' → FA O M' → Q none M') : RG xprog 103 60 [some (.ref 439), some (.int a1), some (.int a2)] [] M Q := by
  have e : E3 (fun a k => a = 469 ∨ (a = 439 ∧ k = 46)) noF noF M (xmI (xmI M 469 w 6) 439 46 (nI (w + 1))) := ((E3.refl _ _ _ _).wI _ (Or.inl rfl)).wI _ (Or.inr ⟨rfl, rfl⟩)
  have f1 : FA O (xmI (xmI M 469 w 6) 439 46 (nI (w + 1))) := h.e3 e (fun a k q => by omega)
  rw [B_103_60]
  simp (disch := omega) only [lAdd, addL, lMul, mulL, nMul, nI_add, subL, lSub, nSub, nDec, nCl, lCl, nVp, lVp, nLe, nLt, nEq, lLe, leL, lLt, ltL, eqL, lEq, nM1, nM2, litLt0, one01, zero01, oneNe0, xupE, xupA, xupK, xI_I, xS_I, xF_I, xJ_I, xI_R, xS_R, xF_R, xJ_R, xI_L, xS_L, xF_L, xJ_L, xcat_s, le46, ge16, or_true, true_or, false_or, or_false, eq_self, Option.toList_some, Option.toList_none, List.cons_append, List.nil_append, true_and, and_true, not_false_eq_true, not_true_eq_false, if_true, if_false, h.1.s, h.1.f, hw, B_103_81]
  exact fa23 f1 (hQ _ (e.mono (fun a k q => by unfold gx; omega) (fun _ _ q => q) (fun _ _ q => q)) f1)
theorem fa46 {w : Nat} (h : FA O M) (hw : xI M 439 46 = nI w) (h6 : w < 64) (hQ : ∀ M' : XM, E3 (gx c0 cm) noF noF M M' → FA O M' → Q none M') : RG xprog 103 46 [some (.ref 439), some (.int a1), some (.int a2)] [] M Q := by
  have e : E3 (fun a k => a = 439 ∧ k = 12) noF noF M (xmI M 439 12 (xI M 439 12 + 1)) := (E3.refl _ _ _ _).wI _ ⟨rfl, rfl⟩
  have f1 : FA O (xmI M 439 12 (xI M 439 12 + 1)) := h.e3 e (fun a k q => by omega)
  rw [B_103_46]
  simp (disch := omega) only [lAdd, addL, lMul, mulL, nMul, nI_add, subL, lSub, nSub, nDec, nCl, lCl, nVp, lVp, nLe, nLt, nEq, lLe, leL, lLt, ltL, eqL, lEq, nM1, nM2, litLt0, one01, zero01, oneNe0, xupE, xupA, xupK, xI_I, xS_I, xF_I, xJ_I, xI_R, xS_R, xF_R, xJ_R, xI_L, xS_L, xF_L, xJ_L, xcat_s, le46, ge16, or_true, true_or, false_or, or_false, eq_self, Option.toList_some, Option.toList_none, List.cons_append, List.nil_append, true_and, and_true, not_false_eq_true, not_true_eq_false, if_true, if_false, h.1.s]
  refine r_goesOnF f1 ?_
  intro M2 e2 f2
  simp (disch := omega) only [lAdd, addL, lMul, mulL, nMul, nI_add, subL, lSub, nSub, nDec, nCl, lCl, nVp, lVp, nLe, nLt, nEq, lLe, leL, lLt, ltL, eqL, lEq, nM1, nM2, litLt0, one01, zero01, oneNe0, xupE, xupA, xupK, xI_I, xS_I, xF_I, xJ_I, xI_R, xS_R, xF_R, xJ_R, xI_L, xS_L, xF_L, xJ_L, xcat_s, le46, ge16, or_true, true_or, false_or, or_false, eq_self, Option.toList_some, Option.toList_none, List.cons_append, List.nil_append, true_and, and_true, not_false_eq_true, not_true_eq_false, if_true, if_false]
  refine fa60 (c0 := c0) (cm := cm) f2 (by rw [e2.I (by unfold g1; omega), e.I (by omega)]; exact hw) h6 ?_
  intro M3 e3 f3
  exact hQ M3 (((e.mono (fun a k q => by unfold gx; omega) (fun _ _ q => q) (fun _ _ q => q)).trans (g1_x e2)).trans e3) f3
theorem fa204 (h : FA O M) (ex : EX M c0 l0 l z ne) (hz : ∀ i, i < z.1 → (6 ≤ z.2 i ∧ z.2 i ≤ 9) ∨ z.2 i = 11) (h1 : c0 + (l.1 - l0) + z.1 ≤ cm) (hcm : cm ≤ 840) (h2 : l.1 + z.1 ≤ 400) (h3 : z.1 ≤ 60) (hQ : ∀ M' : XM, E3 (gx c0 cm) noF noF M M' → FA O M' → Q none M') : RG xprog 103 204 [some (.ref 439), some (.int a1), some (.int a2)] [] M Q := by
  rw [B_103_204, h.1.s.1]
  refine ⟨rfl, ?_⟩
  refine r_comesOut (lr := 1) (Or.inl ⟨rfl, rfl⟩) hcm z.1 l z.2 M _ h.1 ex hz h1 h2 h3 ?_
  intro M1 e1 x1
  simp (disch := omega) only [lAdd, addL, lMul, mulL, nMul, nI_add, subL, lSub, nSub, nDec, nCl, lCl, nVp, lVp, nLe, nLt, nEq, lLe, leL, lLt, ltL, eqL, lEq, nM1, nM2, litLt0, one01, zero01, oneNe0, xupE, xupA, xupK, xI_I, xS_I, xF_I, xJ_I, xI_R, xS_R, xF_R, xJ_R, xI_L, xS_L, xF_L, xJ_L, xcat_s, le46, ge16, or_true, true_or, false_or, or_false, eq_self, Option.toList_some, Option.toList_none, List.cons_append, List.nil_append, true_and, and_true, not_false_eq_true, not_true_eq_false, if_true, if_false, B_103_209]
  exact hQ M1 (go_x e1) (h.e3 e1 (fun a k q => by unfold go at q; omega))
theorem fa96 (h : FA O M) (ex : EX M c0 l0 l z ne) (hz : ∀ i, i < z.1 → (6 ≤ z.2 i ∧ z.2 i ≤ 9) ∨ z.2 i = 11) (h1 : c0 + (l.1 - l0) + z.1 ≤ cm) (hcm : cm ≤ 840) (h2 : l.1 + z.1 ≤ 400) (h3 : z.1 ≤ 60) (hQ : ∀ M' : XM, E3 (gx c0 cm) noF noF M M' → FA O M' → Q none M') : RG xprog 103 96 [some (.ref 439), some (.int a1), some (.int a2)] [] M Q := by
  have s1 := h.1
  have fin : ∀ a3 : Int32, RG xprog 103 204 [some (.ref 439), some (.int a1), some (.int a3)] [] M Q := fun a3 => fa204 h ex hz h1 hcm h2 h3 hQ
  rw [B_103_96, r_isF h]
  simp (disch := omega) only [lAdd, addL, lMul, mulL, nMul, nI_add, subL, lSub, nSub, nDec, nCl, lCl, nVp, lVp, nLe, nLt, nEq, lLe, leL, lLt, ltL, eqL, lEq, nM1, nM2, litLt0, one01, zero01, oneNe0, xupE, xupA, xupK, xI_I, xS_I, xF_I, xJ_I, xI_R, xS_R, xF_R, xJ_R, xI_L, xS_L, xF_L, xJ_L, xcat_s, le46, ge16, or_true, true_or, false_or, or_false, eq_self, Option.toList_some, Option.toList_none, List.cons_append, List.nil_append, true_and, and_true, not_false_eq_true, not_true_eq_false, if_true, if_false, B_103_102, s1.s, if_pos]
  rw [B_103_145, r_isF h]
  simp (disch := omega) only [lAdd, addL, lMul, mulL, nMul, nI_add, subL, lSub, nSub, nDec, nCl, lCl, nVp, lVp, nLe, nLt, nEq, lLe, leL, lLt, ltL, eqL, lEq, nM1, nM2, litLt0, one01, zero01, oneNe0, xupE, xupA, xupK, xI_I, xS_I, xF_I, xJ_I, xI_R, xS_R, xF_R, xJ_R, xI_L, xS_L, xF_L, xJ_L, xcat_s, le46, ge16, or_true, true_or, false_or, or_false, eq_self, Option.toList_some, Option.toList_none, List.cons_append, List.nil_append, true_and, and_true, not_false_eq_true, not_true_eq_false, if_true, if_false, B_103_151, s1.s, if_neg]
  rw [r_isF h]
  simp (disch := omega) only [lAdd, addL, lMul, mulL, nMul, nI_add, subL, lSub, nSub, nDec, nCl, lCl, nVp, lVp, nLe, nLt, nEq, lLe, leL, lLt, ltL, eqL, lEq, nM1, nM2, litLt0, one01, zero01, oneNe0, xupE, xupA, xupK, xI_I, xS_I, xF_I, xJ_I, xI_R, xS_R, xF_R, xJ_R, xI_L, xS_L, xF_L, xJ_L, xcat_s, le46, ge16, or_true, true_or, false_or, or_false, eq_self, Option.toList_some, Option.toList_none, List.cons_append, List.nil_append, true_and, and_true, not_false_eq_true, not_true_eq_false, if_true, if_false, B_103_160, s1.s, if_neg]
  rw [r_isF h]
  simp (disch := omega) only [lAdd, addL, lMul, mulL, nMul, nI_add, subL, lSub, nSub, nDec, nCl, lCl, nVp, lVp, nLe, nLt, nEq, lLe, leL, lLt, ltL, eqL, lEq, nM1, nM2, litLt0, one01, zero01, oneNe0, xupE, xupA, xupK, xI_I, xS_I, xF_I, xJ_I, xI_R, xS_R, xF_R, xJ_R, xI_L, xS_L, xF_L, xJ_L, xcat_s, le46, ge16, or_true, true_or, false_or, or_false, eq_self, Option.toList_some, Option.toList_none, List.cons_append, List.nil_append, true_and, and_true, not_false_eq_true, not_true_eq_false, if_true, if_false, B_103_169, s1.s, if_neg]
  rw [r_isF h]
  simp (disch := omega) only [lAdd, addL, lMul, mulL, nMul, nI_add, subL, lSub, nSub, nDec, nCl, lCl, nVp, lVp, nLe, nLt, nEq, lLe, leL, lLt, ltL, eqL, lEq, nM1, nM2, litLt0, one01, zero01, oneNe0, xupE, xupA, xupK, xI_I, xS_I, xF_I, xJ_I, xI_R, xS_R, xF_R, xJ_R, xI_L, xS_L, xF_L, xJ_L, xcat_s, le46, ge16, or_true, true_or, false_or, or_false, eq_self, Option.toList_some, Option.toList_none, List.cons_append, List.nil_append, true_and, and_true, not_false_eq_true, not_true_eq_false, if_true, if_false, B_103_178, s1.s, if_pos]
  rw [B_103_186]
  simp (disch := omega) only [lAdd, addL, lMul, mulL, nMul, nI_add, subL, lSub, nSub, nDec, nCl, lCl, nVp, lVp, nLe, nLt, nEq, lLe, leL, lLt, ltL, eqL, lEq, nM1, nM2, litLt0, one01, zero01, oneNe0, xupE, xupA, xupK, xI_I, xS_I, xF_I, xJ_I, xI_R, xS_R, xF_R, xJ_R, xI_L, xS_L, xF_L, xJ_L, xcat_s, le46, ge16, or_true, true_or, false_or, or_false, eq_self, Option.toList_some, Option.toList_none, List.cons_append, List.nil_append, true_and, and_true, not_false_eq_true, not_true_eq_false, if_true, if_false, s1.s, if_neg]
  by_cases y : xI M 439 12 ≤ a1
  · rw [if_pos y]; exact fin 0
  · rw [if_neg y, r_failF h]
    simp (disch := omega) only [lAdd, addL, lMul, mulL, nMul, nI_add, subL, lSub, nSub, nDec, nCl, lCl, nVp, lVp, nLe, nLt, nEq, lLe, leL, lLt, ltL, eqL, lEq, nM1, nM2, litLt0, one01, zero01, oneNe0, xupE, xupA, xupK, xI_I, xS_I, xF_I, xJ_I, xI_R, xS_R, xF_R, xJ_R, xI_L, xS_L, xF_L, xJ_L, xcat_s, le46, ge16, or_true, true_or, false_or, or_false, eq_self, Option.toList_some, Option.toList_none, List.cons_append, List.nil_append, true_and, and_true, not_false_eq_true, not_true_eq_false, if_true, if_false]
    exact fin 0
end XRE
