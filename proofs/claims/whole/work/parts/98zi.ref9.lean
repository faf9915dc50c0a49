/-! the reference's reading: one branch of a law -/
def gb (c0 cm b : Nat) : Nat → Nat → Prop := fun a k => gx c0 cm a k ∨ (462 ≤ a ∧ a ≤ 466 ∧ k = b) ∨ (a = 439 ∧ k = 36)
theorem gx_b {c0 c1 cm b : Nat} {M M' : XM} (h : c0 ≤ c1) (e : E3 (gx c1 cm) noF noF M M') : E3 (gb c0 cm b) noF noF M M' := e.mono (fun a k q => by unfold gb; unfold gx at q ⊢; omega) (fun _ _ q => q) (fun _ _ q => q)
theorem g1_b {c0 cm b : Nat} {M M' : XM} (e : E3 g1 noF noF M M') : E3 (gb c0 cm b) noF noF M M' := e.mono (fun a k q => by unfold g1 at q; unfold gb gx; omega) (fun _ _ q => q) (fun _ _ q => q)
theorem gb_l {c0 cm b b0 bm c1 : Nat} {M M' : XM} (h : b0 ≤ b ∧ b < bm) (hc : c1 ≤ c0) (e : E3 (gb c0 cm b) noF noF M M') : E3 (gl b0 bm c1 cm) noF noF M M' := e.mono (fun a k q => by unfold gb gx at q; unfold gl gx; omega) (fun _ _ q => q) (fun _ _ q => q)
section XRI
variable {n : Nat} {c : Nat → Nat} {m : Nat} {O : Nat × Int32 × YS} {M M' : XM} {t t0 : Nat} {Q : Option Value → XM → Prop} {st tk fd ifs ne pe lw sk c0 l0 cm b b0 bm : Nat} {X : YX} {W : Nat → YL} {l : YL} {z : Nat × (Nat → Nat)} {a1 a2 a3 : Int32} {P R : Nat → Nat → Prop} {sb : Nat → Int32}
theorem xe_0 (h : XE sb n c m O M t t0 c0 l0 cm tk fd ifs pe lw sk X W l z) (q : ¬ tkK n c (tpos n c t) = pe) : (yst n c t ((7, tk, fd, ifs, 0, pe), X, (W, lw, l, z, sk))).1 = 0 := by
  rw [yst_7]
  unfold ybeh
  dsimp only
  rw [if_neg h.2.2.2.2.2.2.2.1, if_neg (by omega), if_neg (fun y => q y.1)]
theorem xe_10 (h : XE sb n c m O M t t0 c0 l0 cm tk fd ifs 10 lw sk X W l z) (q : tkK n c (tpos n c t) = 10) : yst n c t ((7, tk, fd, ifs, 0, 10), X, (W, lw, l, z, sk)) = (1, ((6, tk, fd, ifs, 0, 23), X, (W, lw, (yrel 1 z.2 z.1 l).2, (0, z.2), sk))) := by
  rw [yst_7]
  unfold ybeh
  dsimp only
  rw [q, if_neg (by omega), if_neg (by omega), if_pos ⟨rfl, rfl⟩, if_pos rfl, h.2.1]
theorem xe_23 (h : XE sb n c m O M t t0 c0 l0 cm tk fd ifs 23 lw sk X W l z) (q : tkK n c (tpos n c t) = 23) : yst n c t ((7, tk, fd, ifs, 0, 23), X, (W, lw, l, z, sk)) = (1, ((6, tk, fd, ifs, 0, 24), X, (W, lw, yadd (yrel 1 z.2 z.1 l).2 (-100), (0, z.2), (yrel 1 z.2 z.1 l).2.1))) := by
  rw [yst_7]
  unfold ybeh
  dsimp only
  rw [q, if_neg (by omega), if_neg (by omega), if_pos ⟨rfl, rfl⟩, if_neg (by omega), if_pos rfl, h.2.1]
theorem xe_24 (h : XE sb n c m O M t t0 c0 l0 cm tk fd ifs 24 lw sk X W l z) (q : tkK n c (tpos n c t) = 24) : yst n c t ((7, tk, fd, ifs, 0, 24), X, (W, lw, l, z, sk)) = (1, ((5, tk, fd, ifs, 0, 4), X, (W, lw, yskip (yadd (yrel 1 z.2 z.1 l).2 (-14)) sk, (0, z.2), sk))) := by
  rw [yst_7]
  unfold ybeh
  dsimp only
  rw [q, if_neg (by omega), if_neg (by omega), if_pos ⟨rfl, rfl⟩, if_neg (by omega), if_neg (by omega), if_pos rfl, h.2.1]
theorem xe_4 (h : XE sb n c m O M t t0 c0 l0 cm tk fd ifs 4 lw sk X W l z) (q : tkK n c (tpos n c t) = 4) : yst n c t ((7, tk, fd, ifs, 0, 4), X, (W, lw, l, z, sk)) = (1, ((0, tk, fd, ifs, 0, 4), X, (fun i => if i = lw then (yrel 1 z.2 z.1 l).2 else W i, 4, (yrel 1 z.2 z.1 l).2, (0, z.2), sk))) := by
  rw [yst_7]
  unfold ybeh
  dsimp only
  rw [q, if_neg (by omega), if_neg (by omega), if_pos ⟨rfl, rfl⟩, if_neg (by omega), if_neg (by omega), if_neg (by omega), h.2.1]
theorem yskip_l {y : YL} {sk : Nat} (h : y.1 < 400) (hs : sk < y.1 + 1) : yskip (yadd y (-14)) sk = (y.1 + 1, xone (xone y.2 y.1 (-14)) sk (-100 - nI (y.1 - sk))) := by
  rw [yadd_l h]
  unfold yskip
  dsimp only
  rw [if_pos hs, show y.1 + 1 - sk - 1 = y.1 - sk by omega]
theorem r_branch {zf : Nat → Nat} (hm : MT n c m) (hcm : cm ≤ 840) (h : RA n c m O M t ((6, tk, fd, ifs, 0, 10), X, (W, lw, l, (0, zf), sk))) (h36 : xI M 439 36 = nI b) (h42 : xI M 439 42 = nI c0) (h12 : xI M 439 12 = nI 0) (hl : l.1 + 2 ≤ t) (hc : c0 + 420 ≤ cm + t) (hb : b0 ≤ b ∧ b + 1 < bm ∧ bm ≤ 260)
    (hN : ∀ (M' : XM) (t' : Nat) (l' : YL) (zf' : Nat → Nat) (sk' c1 : Nat), E3 (gb c0 cm b) noF noF M M' → RA n c m O M' t' ((5, tk, fd, ifs, 0, 4), X, (W, lw, l', (0, zf'), sk')) → xI M' 439 36 = nI (b + 1) → xI M' 439 42 = nI c1 → xI M' 439 12 = nI 0 → (∀ i, i < l.1 → l'.2 i = l.2 i) → c0 ≤ c1 → BrT (xI M') l'.2 c0 c1 b l.1 l'.1 → l'.1 + 2 ≤ t' → c1 + 420 ≤ cm + t' → t + 6 ≤ t' → RG xprog 105 12 [some (.ref 439), some (.int a1), some (.int a2), some (.int a3)] [] M' Q)
    (hF : ∀ M' : XM, E3 (gl b0 bm c0 cm) noF noF M M' → FA O M' → Q none M') :
    RG xprog 105 53 [some (.ref 439), some (.int a1), some (.int a2), some (.int a3)] [] M Q := by
  have m4 := hm.1
  have e1 : E3 (fun a k => (a = 462 ∨ a = 463) ∧ k = b) noF noF M (xmI (xmI M 462 b 1) 463 b (nI c0)) := ((E3.refl _ _ _ _).wI _ (by omega)).wI _ (by omega)
  have A1 := h.e3 e1 (fun a k q => by omega) (fun _ _ q => absurd q id)
  have f62 : xI (xmI (xmI M 462 b 1) 463 b (nI c0)) 462 b = 1 ∧ xI (xmI (xmI M 462 b 1) 463 b (nI c0)) 463 b = nI c0 := ⟨by simp (disch := omega) only [lAdd, addL, lMul, mulL, nMul, nI_add, subL, lSub, nSub, nDec, nCl, lCl, nVp, lVp, nLe, nLt, nEq, lLe, leL, lLt, ltL, eqL, lEq, nM1, nM2, litLt0, one01, zero01, oneNe0, xupE, xupA, xupK, xI_I, xS_I, xF_I, xJ_I, xI_R, xS_R, xF_R, xJ_R, xI_L, xS_L, xF_L, xJ_L, xcat_s, le46, ge16, or_true, true_or, false_or, or_false, eq_self, Option.toList_some, Option.toList_none, List.cons_append, List.nil_append, true_and, and_true, not_false_eq_true, not_true_eq_false, if_true, if_false], by simp (disch := omega) only [lAdd, addL, lMul, mulL, nMul, nI_add, subL, lSub, nSub, nDec, nCl, lCl, nVp, lVp, nLe, nLt, nEq, lLe, leL, lLt, ltL, eqL, lEq, nM1, nM2, litLt0, one01, zero01, oneNe0, xupE, xupA, xupK, xI_I, xS_I, xF_I, xJ_I, xI_R, xS_R, xF_R, xJ_R, xI_L, xS_L, xF_L, xJ_L, xcat_s, le46, ge16, or_true, true_or, false_or, or_false, eq_self, Option.toList_some, Option.toList_none, List.cons_append, List.nil_append, true_and, and_true, not_false_eq_true, not_true_eq_false, if_true, if_false]⟩
  rw [tl53 h.1 h36 (by omega), h42]
  generalize xmI (xmI M 462 b 1) 463 b (nI c0) = N1 at e1 A1 f62
  have E1 : E3 (gb c0 cm b) noF noF M N1 := e1.mono (fun a k q => by unfold gb; omega) (fun _ _ q => q) (fun _ _ q => q)
  have i36 : xI N1 439 36 = nI b := by rw [e1.I (by omega)]; exact h36
  rw [B_105_76, A1.1.s.1]
  refine ⟨rfl, ?_⟩
  refine r_expression (cm := cm) (c0 := c0) hm hcm (Or.inl rfl) A1 (by rw [e1.I (by omega)]; exact h42) (by rw [e1.I (by omega)]; exact h12) hl hc ?_ ?_
  · intro N2 t2 l1 z1 e2 xe
    obtain ⟨g1', g2', g3', g4'⟩ := xe_seg xe
    have u1 := xe_0 xe
    have u2 := xe_10 xe
    obtain ⟨ra, _, _, _, bl, bc, bt, _, b12⟩ := xe
    generalize (yrel 1 z1.2 z1.1 l1).2 = y1 at *
    have E2 : E3 (gb c0 cm b) noF noF M N2 := E1.trans (gx_b (Nat.le_refl _) e2)
    simp (disch := omega) only [lAdd, addL, lMul, mulL, nMul, nI_add, subL, lSub, nSub, nDec, nCl, lCl, nVp, lVp, nLe, nLt, nEq, lLe, leL, lLt, ltL, eqL, lEq, nM1, nM2, litLt0, one01, zero01, oneNe0, xupE, xupA, xupK, xI_I, xS_I, xF_I, xJ_I, xI_R, xS_R, xF_R, xJ_R, xI_L, xS_L, xF_L, xJ_L, xcat_s, le46, ge16, or_true, true_or, false_or, or_false, eq_self, Option.toList_some, Option.toList_none, List.cons_append, List.nil_append, true_and, and_true, not_false_eq_true, not_true_eq_false, if_true, if_false, B_105_80, ra.1.s]
    refine r_must (q := 10) hm ra rfl (by omega) (by omega) (fun q => by rw [u2 q]) (fun q => u1 q) ?_ ?_
    · intro N3 e3 k3 a3'
      rw [u2 k3] at a3'
      have E3' : E3 (gb c0 cm b) noF noF M N3 := E2.trans (g1_b e3)
      have j36 : xI N3 439 36 = nI b := by rw [e3.I (by unfold g1; omega), e2.I (by unfold gx; omega)]; exact i36
      have j42 : xI N3 439 42 = nI (c0 + (y1.1 - l.1)) := by rw [e3.I (by unfold g1; omega)]; exact g4'
      simp (disch := omega) only [lAdd, addL, lMul, mulL, nMul, nI_add, subL, lSub, nSub, nDec, nCl, lCl, nVp, lVp, nLe, nLt, nEq, lLe, leL, lLt, ltL, eqL, lEq, nM1, nM2, litLt0, one01, zero01, oneNe0, xupE, xupA, xupK, xI_I, xS_I, xF_I, xJ_I, xI_R, xS_R, xF_R, xJ_R, xI_L, xS_L, xF_L, xJ_L, xcat_s, le46, ge16, or_true, true_or, false_or, or_false, eq_self, Option.toList_some, Option.toList_none, List.cons_append, List.nil_append, true_and, and_true, not_false_eq_true, not_true_eq_false, if_true, if_false, B_105_86, a3'.1.s, a3'.1.f, j36, j42, a3'.2.2.2.2.1, if_neg]
      have e4 : E3 (fun a k => a = 464 ∧ k = b) noF noF N3 (xmI N3 464 b (nI (c0 + (y1.1 - l.1)))) := (E3.refl _ _ _ _).wI _ ⟨rfl, rfl⟩
      have f64 : xI (xmI N3 464 b (nI (c0 + (y1.1 - l.1)))) 464 b = nI (c0 + (y1.1 - l.1)) := by simp (disch := omega) only [lAdd, addL, lMul, mulL, nMul, nI_add, subL, lSub, nSub, nDec, nCl, lCl, nVp, lVp, nLe, nLt, nEq, lLe, leL, lLt, ltL, eqL, lEq, nM1, nM2, litLt0, one01, zero01, oneNe0, xupE, xupA, xupK, xI_I, xS_I, xF_I, xJ_I, xI_R, xS_R, xF_R, xJ_R, xI_L, xS_L, xF_L, xJ_L, xcat_s, le46, ge16, or_true, true_or, false_or, or_false, eq_self, Option.toList_some, Option.toList_none, List.cons_append, List.nil_append, true_and, and_true, not_false_eq_true, not_true_eq_false, if_true, if_false]
      generalize xmI N3 464 b (nI (c0 + (y1.1 - l.1))) = N4 at e4 f64
      have A4 := a3'.e3 e4 (fun a k q => by omega) (fun _ _ q => absurd q id)
      have E4 : E3 (gb c0 cm b) noF noF M N4 := E3'.trans (e4.mono (fun a k q => by unfold gb; omega) (fun _ _ q => q) (fun _ _ q => q))
      have k36 : xI N4 439 36 = nI b := by rw [e4.I (by omega)]; exact j36
      refine r_expression (cm := cm) (c0 := c0 + (y1.1 - l.1)) hm hcm (Or.inl rfl) A4 (by rw [e4.I (by omega)]; exact j42) (by rw [e4.I (by omega), e3.I (by unfold g1; omega)]; exact b12) (by omega) (by omega) ?_ ?_
      · intro N5 t5 l2 z2 e5 xe2
        obtain ⟨p1, p2, p3, p4⟩ := xe_seg xe2
        have v1 := xe_0 xe2
        have v2 := xe_23 xe2
        obtain ⟨rb, _, _, _, cl, cc, ct, _, c12⟩ := xe2
        generalize (yrel 1 z2.2 z2.1 l2).2 = y2 at *
        have E5 : E3 (gb c0 cm b) noF noF M N5 := E4.trans (gx_b (by omega) e5)
        simp (disch := omega) only [lAdd, addL, lMul, mulL, nMul, nI_add, subL, lSub, nSub, nDec, nCl, lCl, nVp, lVp, nLe, nLt, nEq, lLe, leL, lLt, ltL, eqL, lEq, nM1, nM2, litLt0, one01, zero01, oneNe0, xupE, xupA, xupK, xI_I, xS_I, xF_I, xJ_I, xI_R, xS_R, xF_R, xJ_R, xI_L, xS_L, xF_L, xJ_L, xcat_s, le46, ge16, or_true, true_or, false_or, or_false, eq_self, Option.toList_some, Option.toList_none, List.cons_append, List.nil_append, true_and, and_true, not_false_eq_true, not_true_eq_false, if_true, if_false, B_105_110, rb.1.s]
        refine r_must (q := 23) hm rb rfl (by omega) (by omega) (fun q => by rw [v2 q]) (fun q => v1 q) ?_ ?_
        · intro N6 e6 k6 a6
          rw [v2 k6] at a6
          have E6 : E3 (gb c0 cm b) noF noF M N6 := E5.trans (g1_b e6)
          have t5m := rb.2.2.1
          have ya : yadd y2 (-100) = (y2.1 + 1, xone y2.2 y2.1 (-100)) := yadd_l (by omega)
          rw [ya] at a6
          have m36 : xI N6 439 36 = nI b := by rw [e6.I (by unfold g1; omega), e5.I (by unfold gx; omega)]; exact k36
          have m42 : xI N6 439 42 = nI (c0 + (y1.1 - l.1) + (y2.1 - y1.1)) := by rw [e6.I (by unfold g1; omega)]; exact p4
          simp (disch := omega) only [lAdd, addL, lMul, mulL, nMul, nI_add, subL, lSub, nSub, nDec, nCl, lCl, nVp, lVp, nLe, nLt, nEq, lLe, leL, lLt, ltL, eqL, lEq, nM1, nM2, litLt0, one01, zero01, oneNe0, xupE, xupA, xupK, xI_I, xS_I, xF_I, xJ_I, xI_R, xS_R, xF_R, xJ_R, xI_L, xS_L, xF_L, xJ_L, xcat_s, le46, ge16, or_true, true_or, false_or, or_false, eq_self, Option.toList_some, Option.toList_none, List.cons_append, List.nil_append, true_and, and_true, not_false_eq_true, not_true_eq_false, if_true, if_false, B_105_116, a6.1.s]
          refine r_term (cm := cm) (b0 := b0) (bm := bm) hm hcm (Or.inl rfl) a6 m42 (by rw [e6.I (by unfold g1; omega)]; exact c12) (by show y2.1 + 1 + 2 ≤ t5 + 1; omega) (by omega) m36 (by omega) ?_ ?_
          · intro N7 t7 l3 z3 e7 xe3 w65 w66 w36
            obtain ⟨q1, q2, q3, q4⟩ := xe_seg xe3
            have x1 := xe_0 xe3
            have x2 := xe_24 xe3
            obtain ⟨rc, _, _, _, dl, dc, dt, _, d12⟩ := xe3
            generalize (yrel 1 z3.2 z3.1 l3).2 = y3 at *
            have E7 : E3 (gb c0 cm b) noF noF M N7 := E6.trans (e7.mono (fun a k q => by unfold gb; unfold gx at q ⊢; omega) (fun _ _ q => q) (fun _ _ q => q))
            simp (disch := omega) only [lAdd, addL, lMul, mulL, nMul, nI_add, subL, lSub, nSub, nDec, nCl, lCl, nVp, lVp, nLe, nLt, nEq, lLe, leL, lLt, ltL, eqL, lEq, nM1, nM2, litLt0, one01, zero01, oneNe0, xupE, xupA, xupK, xI_I, xS_I, xF_I, xJ_I, xI_R, xS_R, xF_R, xJ_R, xI_L, xS_L, xF_L, xJ_L, xcat_s, le46, ge16, or_true, true_or, false_or, or_false, eq_self, Option.toList_some, Option.toList_none, List.cons_append, List.nil_append, true_and, and_true, not_false_eq_true, not_true_eq_false, if_true, if_false, B_105_120, rc.1.s]
            refine r_must (q := 24) hm rc rfl (by omega) (by omega) (fun q => by rw [x2 q]) (fun q => x1 q) ?_ ?_
            · intro N8 e8 k8 a8
              have t7m := rc.2.2.1
              have q2' : y2.1 + 1 ≤ y3.1 := q2
              rw [x2 k8, yskip_l (by omega) (by omega)] at a8
              simp (disch := omega) only [lAdd, addL, lMul, mulL, nMul, nI_add, subL, lSub, nSub, nDec, nCl, lCl, nVp, lVp, nLe, nLt, nEq, lLe, leL, lLt, ltL, eqL, lEq, nM1, nM2, litLt0, one01, zero01, oneNe0, xupE, xupA, xupK, xI_I, xS_I, xF_I, xJ_I, xI_R, xS_R, xF_R, xJ_R, xI_L, xS_L, xF_L, xJ_L, xcat_s, le46, ge16, or_true, true_or, false_or, or_false, eq_self, Option.toList_some, Option.toList_none, List.cons_append, List.nil_append, true_and, and_true, not_false_eq_true, not_true_eq_false, if_true, if_false, B_105_126]
              have o36 : xI N8 439 36 = nI (b + 1) := by rw [e8.I (by unfold g1; omega)]; exact w36
              have o42 : xI N8 439 42 = nI (c0 + (y1.1 - l.1) + (y2.1 - y1.1) + (y3.1 - (y2.1 + 1))) := by rw [e8.I (by unfold g1; omega)]; exact q4
              have s3 : ∀ i, i < y2.1 → xone (xone y3.2 y3.1 (-14)) y2.1 (-100 - nI (y3.1 - y2.1)) i = y2.2 i := fun i hi => by
                rw [xone_n _ _ (by omega), xone_n _ _ (by omega), q3 i (by show i < y2.1 + 1; omega)]
                exact xone_n _ _ (by omega)
              have s2 : ∀ i, i < y1.1 → xone (xone y3.2 y3.1 (-14)) y2.1 (-100 - nI (y3.1 - y2.1)) i = y1.2 i := fun i hi => by
                rw [s3 i (by omega), p3 i hi]
              refine hN N8 (t7 + 1) _ z3.2 y2.1 (c0 + (y1.1 - l.1) + (y2.1 - y1.1) + (y3.1 - (y2.1 + 1))) (E7.trans (g1_b e8)) a8 o36 o42 (by rw [e8.I (by unfold g1; omega)]; exact d12) (fun i hi => by show xone (xone y3.2 y3.1 (-14)) y2.1 (-100 - nI (y3.1 - y2.1)) i = l.2 i; rw [s2 i (by omega), g3' i hi]) (by omega) ?_ (by show y3.1 + 1 + 2 ≤ t7 + 1; omega) (by omega) (by omega)
              have r7 : ∀ r, 462 ≤ r → r ≤ 464 → xI N8 r b = xI N4 r b := fun r h1 h2 => by rw [e8.I (by unfold g1; omega), e7.I (by unfold gx; omega), e6.I (by unfold g1; omega), e5.I (by unfold gx; omega)]
              have r4 : ∀ r, 462 ≤ r → r ≤ 463 → xI N4 r b = xI N1 r b := fun r h1 h2 => by rw [e4.I (by omega), e3.I (by unfold g1; omega), e2.I (by unfold gx; omega)]
              have code1 : ∀ r k, r = 467 ∨ r = 468 → k < c0 + (y1.1 - l.1) → xI N8 r k = xI N2 r k := fun r k h1 h2 => by rw [e8.I (by unfold g1; omega), e7.I (by unfold gx; omega), e6.I (by unfold g1; omega), e5.I (by unfold gx; omega), e4.I (by omega), e3.I (by unfold g1; omega)]
              have code2 : ∀ r k, r = 467 ∨ r = 468 → k < c0 + (y1.1 - l.1) + (y2.1 - y1.1) → xI N8 r k = xI N5 r k := fun r k h1 h2 => by rw [e8.I (by unfold g1; omega), e7.I (by unfold gx; omega), e6.I (by unfold g1; omega)]
              refine ⟨c0, y1.1 - l.1, y2.1 - y1.1, y3.1 - (y2.1 + 1), Nat.le_refl _, Nat.le_refl _, ⟨?_, ?_, ?_, ?_, ?_⟩, ?_, ?_, ?_, ?_, ?_, ?_⟩
              · rw [r7 462 (by omega) (by omega), r4 462 (by omega) (by omega)]; exact f62.1
              · rw [r7 463 (by omega) (by omega), r4 463 (by omega) (by omega)]; exact f62.2
              · rw [r7 464 (by omega) (by omega)]; exact f64
              · rw [e8.I (by unfold g1; omega)]; exact w65
              · rw [e8.I (by unfold g1; omega)]; exact w66
              · exact g1'.c (fun i hi => s2 _ (by omega)) (fun i hi => ⟨code1 467 _ (Or.inl rfl) (by omega), code1 468 _ (Or.inr rfl) (by omega)⟩)
              · rw [show l.1 + (y1.1 - l.1) = y1.1 by omega]
                exact p1.c (fun i hi => s3 _ (by omega)) (fun i hi => ⟨code2 467 _ (Or.inl rfl) (by omega), code2 468 _ (Or.inr rfl) (by omega)⟩)
              · rw [show l.1 + (y1.1 - l.1) + (y2.1 - y1.1) = y2.1 by omega]
                show xone (xone y3.2 y3.1 (-14)) y2.1 (-100 - nI (y3.1 - y2.1)) y2.1 = _
                rw [xone_s, show y3.1 - (y2.1 + 1) + 1 = y3.1 - y2.1 by omega]
              · rw [show l.1 + (y1.1 - l.1) + (y2.1 - y1.1) + 1 = y2.1 + 1 by omega]
                refine Seg.c q1 (fun i hi => ?_) (fun i hi => ⟨by rw [e8.I (by unfold g1; omega)], by rw [e8.I (by unfold g1; omega)]⟩)
                show xone (xone y3.2 y3.1 (-14)) y2.1 (-100 - nI (y3.1 - y2.1)) (y2.1 + 1 + i) = y3.2 (y2.1 + 1 + i)
                rw [xone_n _ _ (by omega), xone_n _ _ (by omega)]
              · rw [show l.1 + (y1.1 - l.1) + (y2.1 - y1.1) + 1 + (y3.1 - (y2.1 + 1)) = y3.1 by omega]
                show xone (xone y3.2 y3.1 (-14)) y2.1 (-100 - nI (y3.1 - y2.1)) y3.1 = -14
                rw [xone_n _ _ (by omega), xone_s]
              · show y3.1 + 1 = _
                omega
            · intro N8 e8 f8
              simp (disch := omega) only [lAdd, addL, lMul, mulL, nMul, nI_add, subL, lSub, nSub, nDec, nCl, lCl, nVp, lVp, nLe, nLt, nEq, lLe, leL, lLt, ltL, eqL, lEq, nM1, nM2, litLt0, one01, zero01, oneNe0, xupE, xupA, xupK, xI_I, xS_I, xF_I, xJ_I, xI_R, xS_R, xF_R, xJ_R, xI_L, xS_L, xF_L, xJ_L, xcat_s, le46, ge16, or_true, true_or, false_or, or_false, eq_self, Option.toList_some, Option.toList_none, List.cons_append, List.nil_append, true_and, and_true, not_false_eq_true, not_true_eq_false, if_true, if_false, B_105_126]
              refine tf12 (b := b + 1) (b0 := b0) (bm := bm) (c0 := c0) (cm := cm) f8 (by rw [e8.I (by unfold g1; omega)]; exact w36) (by omega) fun M3 e3 f3 => hF M3 ((gb_l (by omega) (Nat.le_refl _) (E7.trans (g1_b e8))).trans e3) f3
          · intro N7 e7 f7 w36
            simp (disch := omega) only [lAdd, addL, lMul, mulL, nMul, nI_add, subL, lSub, nSub, nDec, nCl, lCl, nVp, lVp, nLe, nLt, nEq, lLe, leL, lLt, ltL, eqL, lEq, nM1, nM2, litLt0, one01, zero01, oneNe0, xupE, xupA, xupK, xI_I, xS_I, xF_I, xJ_I, xI_R, xS_R, xF_R, xJ_R, xI_L, xS_L, xF_L, xJ_L, xcat_s, le46, ge16, or_true, true_or, false_or, or_false, eq_self, Option.toList_some, Option.toList_none, List.cons_append, List.nil_append, true_and, and_true, not_false_eq_true, not_true_eq_false, if_true, if_false]
            refine tf120 (b := b + 1) (b0 := b0) (bm := bm) (c0 := c0) (cm := cm) f7 w36 (by omega) fun M3 e3 f3 => hF M3 (((gb_l (by omega) (Nat.le_refl _) E6).trans (e7.mono (fun a k q => by unfold gl gx at q; unfold gl gx; omega) (fun _ _ q => q) (fun _ _ q => q))).trans e3) f3
        · intro N6 e6 f6
          simp (disch := omega) only [lAdd, addL, lMul, mulL, nMul, nI_add, subL, lSub, nSub, nDec, nCl, lCl, nVp, lVp, nLe, nLt, nEq, lLe, leL, lLt, ltL, eqL, lEq, nM1, nM2, litLt0, one01, zero01, oneNe0, xupE, xupA, xupK, xI_I, xS_I, xF_I, xJ_I, xI_R, xS_R, xF_R, xJ_R, xI_L, xS_L, xF_L, xJ_L, xcat_s, le46, ge16, or_true, true_or, false_or, or_false, eq_self, Option.toList_some, Option.toList_none, List.cons_append, List.nil_append, true_and, and_true, not_false_eq_true, not_true_eq_false, if_true, if_false]
          refine tf116 (b := b) (b0 := b0) (bm := bm) (c0 := c0) (cm := cm) f6 (by rw [e6.I (by unfold g1; omega), e5.I (by unfold gx; omega)]; exact k36) (by omega) fun M3 e3 f3 => hF M3 ((gb_l (by omega) (Nat.le_refl _) (E5.trans (g1_b e6))).trans e3) f3
      · intro N5 e5 f5
        simp (disch := omega) only [lAdd, addL, lMul, mulL, nMul, nI_add, subL, lSub, nSub, nDec, nCl, lCl, nVp, lVp, nLe, nLt, nEq, lLe, leL, lLt, ltL, eqL, lEq, nM1, nM2, litLt0, one01, zero01, oneNe0, xupE, xupA, xupK, xI_I, xS_I, xF_I, xJ_I, xI_R, xS_R, xF_R, xJ_R, xI_L, xS_L, xF_L, xJ_L, xcat_s, le46, ge16, or_true, true_or, false_or, or_false, eq_self, Option.toList_some, Option.toList_none, List.cons_append, List.nil_append, true_and, and_true, not_false_eq_true, not_true_eq_false, if_true, if_false]
        refine tf110 (b := b) (b0 := b0) (bm := bm) (c0 := c0) (cm := cm) f5 (by rw [e5.I (by unfold gx; omega)]; exact k36) (by omega) fun M3 e3 f3 => hF M3 ((gb_l (by omega) (Nat.le_refl _) (E4.trans (gx_b (by omega) e5))).trans e3) f3
    · intro N3 e3 f3
      simp (disch := omega) only [lAdd, addL, lMul, mulL, nMul, nI_add, subL, lSub, nSub, nDec, nCl, lCl, nVp, lVp, nLe, nLt, nEq, lLe, leL, lLt, ltL, eqL, lEq, nM1, nM2, litLt0, one01, zero01, oneNe0, xupE, xupA, xupK, xI_I, xS_I, xF_I, xJ_I, xI_R, xS_R, xF_R, xJ_R, xI_L, xS_L, xF_L, xJ_L, xcat_s, le46, ge16, or_true, true_or, false_or, or_false, eq_self, Option.toList_some, Option.toList_none, List.cons_append, List.nil_append, true_and, and_true, not_false_eq_true, not_true_eq_false, if_true, if_false]
      refine tf86 (b := b) (b0 := b0) (bm := bm) (c0 := c0) (cm := cm) f3 (by rw [e3.I (by unfold g1; omega), e2.I (by unfold gx; omega)]; exact i36) (by omega) fun M3 e4 f4 => hF M3 ((gb_l (by omega) (Nat.le_refl _) (E2.trans (g1_b e3))).trans e4) f4
  · intro N2 e2 f2
    simp (disch := omega) only [lAdd, addL, lMul, mulL, nMul, nI_add, subL, lSub, nSub, nDec, nCl, lCl, nVp, lVp, nLe, nLt, nEq, lLe, leL, lLt, ltL, eqL, lEq, nM1, nM2, litLt0, one01, zero01, oneNe0, xupE, xupA, xupK, xI_I, xS_I, xF_I, xJ_I, xI_R, xS_R, xF_R, xJ_R, xI_L, xS_L, xF_L, xJ_L, xcat_s, le46, ge16, or_true, true_or, false_or, or_false, eq_self, Option.toList_some, Option.toList_none, List.cons_append, List.nil_append, true_and, and_true, not_false_eq_true, not_true_eq_false, if_true, if_false]
    refine tf80 (b := b) (b0 := b0) (bm := bm) (c0 := c0) (cm := cm) f2 (by rw [e2.I (by unfold gx; omega)]; exact i36) (by omega) fun M3 e3 f3 => hF M3 ((gb_l (by omega) (Nat.le_refl _) (E1.trans (gx_b (Nat.le_refl _) e2))).trans e3) f3
end XRI
