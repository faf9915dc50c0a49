/-! the reference's reading: one tell -/
section XRN
variable {n : Nat} {c : Nat → Nat} {m : Nat} {O : Nat × Int32 × YS} {M : XM} {t : Nat} {Q : Option Value → XM → Prop} {sd : Nat}
theorem t_letter (hm : MT n c m) (hs : sd < 2) (h : TL n c m O M sd t) (hk : tkK n c (tpos n c t) = 13) (hQ : ∀ (M' : XM) (t' : Nat), E3 (gT sd) gJ noF M M' → TL n c m O M' sd t' → t < t' → Q none M') (hF : ∀ M' : XM, E3 (gT sd) gJ noF M M' → FA O M' → Q none M') : RG xprog 106 0 [some (.ref 439), none, none] [] M Q := by
  obtain ⟨tk, fd, ifs, ne, pe, ⟨mm, a, r, nm, L, R, S⟩, W, l, z, sk, ra, rd, wm, lt⟩ := h
  have t4 : t ≤ 400 := by have := ra.2.2.1; have := hm.1; omega
  have kd := ra.kind hm
  rw [hk] at kd
  have kd' : xI M 442 t = nI 20 := kd
  have ys : yst n c t ((0, tk, fd, ifs, ne, pe), (mm, a, r, nm, L, R, S), (W, 4, l, z, sk)) = (if 7 ≤ a then 2 else 1, ((1, 13, fd, ifs, ne, pe), (mm, a, r, nm, L, R, S), (W, 4, l, z, sk))) := by
    rw [yst_0, hk]; rfl
  have d1 := rd.1.1
  have d2 := rd.1.2.1
  have h19 := lt.1
  rw [B_106_0]
  simp (disch := omega) only [lAdd, addL, lMul, mulL, nMul, nI_add, subL, lSub, nSub, nDec, nCl, lCl, nVp, lVp, nLe, nLt, nEq, lLe, leL, lLt, ltL, eqL, lEq, nM1, nM2, litLt0, one01, zero01, oneNe0, xupE, xupA, xupK, xI_I, xS_I, xF_I, xJ_I, xI_R, xS_R, xF_R, xJ_R, xI_L, xS_L, xF_L, xJ_L, xcat_s, le46, ge16, or_true, true_or, false_or, or_false, eq_self, Option.toList_some, Option.toList_none, List.cons_append, List.nil_append, true_and, and_true, not_false_eq_true, not_true_eq_false, if_true, if_false, ra.1.s, ra.1.f, ra.2.2.2.1, kd', if_pos, h19, d1]
  refine r_roomFor (most := 7) hm ra rfl rfl d2 (by omega) (by omega) (by rw [ys]) ?_ ?_
  · intro M1 e1 a7 a1
    rw [ys] at a1
    simp (disch := omega) only [lAdd, addL, lMul, mulL, nMul, nI_add, subL, lSub, nSub, nDec, nCl, lCl, nVp, lVp, nLe, nLt, nEq, lLe, leL, lLt, ltL, eqL, lEq, nM1, nM2, litLt0, one01, zero01, oneNe0, xupE, xupA, xupK, xI_I, xS_I, xF_I, xJ_I, xI_R, xS_R, xF_R, xJ_R, xI_L, xS_L, xF_L, xJ_L, xcat_s, le46, ge16, or_true, true_or, false_or, or_false, eq_self, Option.toList_some, Option.toList_none, List.cons_append, List.nil_append, true_and, and_true, not_false_eq_true, not_true_eq_false, if_true, if_false]
    have w1 : WM M1 (tpos n c (t + 1)) 0 mm := (wm.e3 e1 (fun a k q => by unfold g1 at q; omega)).up (tpos_ne (by omega))
    refine r_le hm hs (by rw [e1.I (by unfold g1; omega)]; exact h19) a7 a1 (rd.e3 e1 (fun a k q => by unfold g1 at q; omega) (fun _ _ q => absurd q id) id) w1 ?_ ?_
    · intro M2 t2 mm2 nm2 L2 fd2 e2 a2 rd2 w2 t12 c2 b2
      refine hQ M2 t2 ((g1_T e1).trans e2) ⟨13, fd2, ifs, ne, pe, _, W, l, z, sk, a2, rd2, w2, ?_⟩ (by omega)
      exact lt.up (by omega) (fun k hk => by rw [c2 k hk, e1.I (by unfold g1; omega)]) (fun b h1 h2 => by rw [b2 b h1 h2, e1.rowI (fun k q => by unfold g1 at q; omega)])
    · intro M2 e2 f2
      exact hF M2 ((g1_T e1).trans e2) f2
  · intro M1 e1 f1
    have ff := f1
    obtain ⟨s1, f', g2', g3', g4', g5'⟩ := f1
    simp (disch := omega) only [lAdd, addL, lMul, mulL, nMul, nI_add, subL, lSub, nSub, nDec, nCl, lCl, nVp, lVp, nLe, nLt, nEq, lLe, leL, lLt, ltL, eqL, lEq, nM1, nM2, litLt0, one01, zero01, oneNe0, xupE, xupA, xupK, xI_I, xS_I, xF_I, xJ_I, xI_R, xS_R, xF_R, xJ_R, xI_L, xS_L, xF_L, xJ_L, xcat_s, le46, ge16, or_true, true_or, false_or, or_false, eq_self, Option.toList_some, Option.toList_none, List.cons_append, List.nil_append, true_and, and_true, not_false_eq_true, not_true_eq_false, if_true, if_false, B_106_75, s1.s, g3', if_neg]
    exact hF M1 (g1_T e1) ff
theorem t_reader (hm : MT n c m) (hs : sd < 2) (h : TL n c m O M sd t) (hk : tkK n c (tpos n c t) = 14) (hQ : ∀ (M' : XM) (t' : Nat), E3 (gT sd) gJ noF M M' → TL n c m O M' sd t' → t < t' → Q none M') (hF : ∀ M' : XM, E3 (gT sd) gJ noF M M' → FA O M' → Q none M') : RG xprog 106 0 [some (.ref 439), none, none] [] M Q := by
  obtain ⟨tk, fd, ifs, ne, pe, ⟨mm, a, r, nm, L, R, S⟩, W, l, z, sk, ra, rd, wm, lt⟩ := h
  have t4 : t ≤ 400 := by have := ra.2.2.1; have := hm.1; omega
  have kd := ra.kind hm
  rw [hk] at kd
  have kd' : xI M 442 t = nI 21 := kd
  have ys : yst n c t ((0, tk, fd, ifs, ne, pe), (mm, a, r, nm, L, R, S), (W, 4, l, z, sk)) = (if 6 ≤ r then 2 else 1, ((1, 14, fd, ifs, ne, pe), (mm, a, r, nm, L, R, S), (W, 4, l, z, sk))) := by
    rw [yst_0, hk]; rfl
  have d1 := rd.1.2.2.1
  have d2 := rd.1.2.2.2
  have h19 := lt.1
  rw [B_106_0]
  simp (disch := omega) only [lAdd, addL, lMul, mulL, nMul, nI_add, subL, lSub, nSub, nDec, nCl, lCl, nVp, lVp, nLe, nLt, nEq, lLe, leL, lLt, ltL, eqL, lEq, nM1, nM2, litLt0, one01, zero01, oneNe0, xupE, xupA, xupK, xI_I, xS_I, xF_I, xJ_I, xI_R, xS_R, xF_R, xJ_R, xI_L, xS_L, xF_L, xJ_L, xcat_s, le46, ge16, or_true, true_or, false_or, or_false, eq_self, Option.toList_some, Option.toList_none, List.cons_append, List.nil_append, true_and, and_true, not_false_eq_true, not_true_eq_false, if_true, if_false, ra.1.s, ra.1.f, ra.2.2.2.1, kd', if_pos, if_neg, h19, d1]
  refine r_roomFor (most := 6) hm ra rfl rfl d2 (by omega) (by omega) (by rw [ys]) ?_ ?_
  · intro M1 e1 a7 a1
    rw [ys] at a1
    simp (disch := omega) only [lAdd, addL, lMul, mulL, nMul, nI_add, subL, lSub, nSub, nDec, nCl, lCl, nVp, lVp, nLe, nLt, nEq, lLe, leL, lLt, ltL, eqL, lEq, nM1, nM2, litLt0, one01, zero01, oneNe0, xupE, xupA, xupK, xI_I, xS_I, xF_I, xJ_I, xI_R, xS_R, xF_R, xJ_R, xI_L, xS_L, xF_L, xJ_L, xcat_s, le46, ge16, or_true, true_or, false_or, or_false, eq_self, Option.toList_some, Option.toList_none, List.cons_append, List.nil_append, true_and, and_true, not_false_eq_true, not_true_eq_false, if_true, if_false]
    have w1 : WM M1 (tpos n c (t + 1)) 0 mm := (wm.e3 e1 (fun a k q => by unfold g1 at q; omega)).up (tpos_ne (by omega))
    refine r_re hm hs (by rw [e1.I (by unfold g1; omega)]; exact h19) a7 a1 (rd.e3 e1 (fun a k q => by unfold g1 at q; omega) (fun _ _ q => absurd q id) id) w1 ?_ ?_
    · intro M2 t2 mm2 nm2 L2 fd2 e2 a2 rd2 w2 t12 c2 b2
      refine hQ M2 t2 ((g1_T e1).trans e2) ⟨14, fd2, ifs, ne, pe, _, W, l, z, sk, a2, rd2, w2, ?_⟩ (by omega)
      exact lt.up (by omega) (fun k hk => by rw [c2 k hk, e1.I (by unfold g1; omega)]) (fun b h1 h2 => by rw [b2 b h1 h2, e1.rowI (fun k q => by unfold g1 at q; omega)])
    · intro M2 e2 f2
      exact hF M2 ((g1_T e1).trans e2) f2
  · intro M1 e1 f1
    have ff := f1
    obtain ⟨s1, f', g2', g3', g4', g5'⟩ := f1
    simp (disch := omega) only [lAdd, addL, lMul, mulL, nMul, nI_add, subL, lSub, nSub, nDec, nCl, lCl, nVp, lVp, nLe, nLt, nEq, lLe, leL, lLt, ltL, eqL, lEq, nM1, nM2, litLt0, one01, zero01, oneNe0, xupE, xupA, xupK, xI_I, xS_I, xF_I, xJ_I, xI_R, xS_R, xF_R, xJ_R, xI_L, xS_L, xF_L, xJ_L, xcat_s, le46, ge16, or_true, true_or, false_or, or_false, eq_self, Option.toList_some, Option.toList_none, List.cons_append, List.nil_append, true_and, and_true, not_false_eq_true, not_true_eq_false, if_true, if_false, B_106_201, s1.s, g3', if_neg]
    exact hF M1 (g1_T e1) ff
end XRN
