/-! the reference's reading: one tell -/
section XRN
variable {n : Nat} {c : Nat → Nat} {m : Nat} {O : Nat × Int32 × YS} {M : XM} {t : Nat} {Q : Option Value → XM → Prop} {sd : Nat}
theorem t_law (hm : MT n c m) (hs : sd < 2) (h : TL n c m O M sd t) (hk : 15 ≤ tkK n c (tpos n c t) ∧ tkK n c (tpos n c t) ≤ 18) (hQ : ∀ (M' : XM) (t' : Nat), E3 (gT sd) gJ noF M M' → TL n c m O M' sd t' → t < t' → Q none M') (hF : ∀ M' : XM, E3 (gT sd) gJ noF M M' → FA O M' → Q none M') : RG xprog 106 393 [some (.ref 439), some (.int (nI (tkK n c (tpos n c t) - 15))), none] [] M Q := by
  obtain ⟨tk, fd, ifs, ne, pe, ⟨mm, a, r, nm, L, R, S⟩, W, l, z, sk, ra, rd, wm, lt⟩ := h
  have t4 : t ≤ 400 := by have := ra.2.2.1; have := hm.1; omega
  obtain ⟨a1, a2, q, cd, a3, a4, a5, a6, a7, a8, a9⟩ := lt
  generalize hK : tkK n c (tpos n c t) = K at hk
  have ys : yst n c t ((0, tk, fd, ifs, ne, pe), (mm, a, r, nm, L, R, S), (W, 4, l, z, sk)) = (1, ((4, K, fd, 0, 0, 4), (mm, a, r, nm, L, R, S), (W, K - 15, (0, (W (K - 15)).2), (0, z.2), 0))) := by
    rw [yst_0, hK]
    unfold ytell
    dsimp only
    rw [if_neg (by omega), if_neg (by omega), if_neg (by omega), if_pos hk]
  rw [B_106_393]
  simp (disch := omega) only [lAdd, addL, lMul, mulL, nMul, nI_add, subL, lSub, nSub, nDec, nCl, lCl, nVp, lVp, nLe, nLt, nEq, lLe, leL, lLt, ltL, eqL, lEq, nM1, nM2, litLt0, one01, zero01, oneNe0, xupE, xupA, xupK, xI_I, xS_I, xF_I, xJ_I, xI_R, xS_R, xF_R, xJ_R, xI_L, xS_L, xF_L, xJ_L, xcat_s, le46, ge16, or_true, true_or, false_or, or_false, eq_self, Option.toList_some, Option.toList_none, List.cons_append, List.nil_append, true_and, and_true, not_false_eq_true, not_true_eq_false, if_true, if_false, ra.1.s, ra.2.2.2.2.1, if_pos]
  have gT1 : ∀ {M1 M2 : XM}, E3 (gw q (130 * sd + 130) cd (420 * sd + 420) (4 * sd + (K - 15))) noF noF M1 M2 → E3 (gT sd) gJ noF M1 M2 := fun e => e.mono (fun a k q => by unfold gw gl gx at q; unfold gT; omega) (fun _ _ q => absurd q id) (fun _ _ q => q)
  refine r_goesOn hm ra (by rw [ys]) (by omega) ?_ ?_
  · intro M1 e1 A1
    rw [ys] at A1
    have I1 : ∀ b k, ¬ g1 b k → xI M1 b k = xI M b k := fun b k q => e1.I q
    simp (disch := omega) only [lAdd, addL, lMul, mulL, nMul, nI_add, subL, lSub, nSub, nDec, nCl, lCl, nVp, lVp, nLe, nLt, nEq, lLe, leL, lLt, ltL, eqL, lEq, nM1, nM2, litLt0, one01, zero01, oneNe0, xupE, xupA, xupK, xI_I, xS_I, xF_I, xJ_I, xI_R, xS_R, xF_R, xJ_R, xI_L, xS_L, xF_L, xJ_L, xcat_s, le46, ge16, or_true, true_or, false_or, or_false, eq_self, Option.toList_some, Option.toList_none, List.cons_append, List.nil_append, true_and, and_true, not_false_eq_true, not_true_eq_false, if_true, if_false, B_106_405, A1.1.s]
    refine r_tellLaw (cm := 420 * sd + 420) (lo := 420 * sd) (bm := 130 * sd + 130) (b00 := 130 * sd) (sd := sd) (p := q) (cd := cd) (k := 0) (ifs := 0) hm (by omega) (by omega) (by omega) hs (by rw [I1 _ _ (by unfold g1; omega)]; exact a1) a5 a7 A1 rfl (by rw [I1 _ _ (by unfold g1; omega)]; exact a3) (by rw [I1 _ _ (by unfold g1; omega)]; exact a4) (by rw [I1 _ _ (by unfold g1; omega)]; exact a2) (by omega) (by omega) (by omega) ?_ ?_
    · intro M2 t2 q2 c2 l2 e2 le
      obtain ⟨⟨ifs2, zf2, sk2, A2⟩, b1, b2, b3, b4, b5, b6, b7, b8, b9⟩ := le
      simp (disch := omega) only [lAdd, addL, lMul, mulL, nMul, nI_add, subL, lSub, nSub, nDec, nCl, lCl, nVp, lVp, nLe, nLt, nEq, lLe, leL, lLt, ltL, eqL, lEq, nM1, nM2, litLt0, one01, zero01, oneNe0, xupE, xupA, xupK, xI_I, xS_I, xF_I, xJ_I, xI_R, xS_R, xF_R, xJ_R, xI_L, xS_L, xF_L, xJ_L, xcat_s, le46, ge16, or_true, true_or, false_or, or_false, eq_self, Option.toList_some, Option.toList_none, List.cons_append, List.nil_append, true_and, and_true, not_false_eq_true, not_true_eq_false, if_true, if_false, B_106_410]
      refine hQ M2 t2 ((g1_T e1).trans (gT1 e2)) ⟨K, fd, ifs2, 0, 4, _, _, l2, (0, zf2), sk2, A2, ?_, ?_, ?_⟩ (by omega)
      · exact (rd.e3 (mm' := mm) e1 (fun a k q => by unfold g1 at q; omega) (fun _ _ q => absurd q id) id).e3 e2 (fun a k q => by unfold gw gl gx at q; omega) (fun _ _ q => absurd q id) id
      · have tn := A2.2.2.1
        have : tpos n c t < tpos n c t2 := by
          have mono : ∀ j, t + 1 + j ≤ m → tpos n c (t + 1) ≤ tpos n c (t + 1 + j) := by
            intro j
            induction j with
            | zero => intro _; exact Nat.le_refl _
            | succ j ih =>
              intro hj
              have h1 := ih (by omega)
              have h2 := tpos_lt (c := c) (hm.2.1 (t + 1 + j) (by omega))
              have h3 : t + 1 + (j + 1) = t + 1 + j + 1 := by omega
              rw [h3]; omega
          have h1 := tpos_ne (n := n) (c := c) (t := t) (by omega)
          have h2 := mono (t2 - (t + 1)) (by omega)
          rw [show t + 1 + (t2 - (t + 1)) = t2 by omega] at h2
          omega
        exact ((wm.e3 e1 (fun a k q => by unfold g1 at q; omega)).e3 e2 (fun a k q => by unfold gw gl gx at q; omega)).up this
      · have pq := b4.2.2.1
        refine ⟨by rw [e2.I (by unfold gw gl gx; omega), I1 _ _ (by unfold g1; omega)]; exact a1, b3, q2, c2, b1, b2, by omega, by omega, by omega, by omega, fun k hk' => ?_⟩
        show LK M2 sd q2 c2 k (if k = K - 15 then l2 else W k)
        by_cases y : k = K - 15
        · rw [if_pos y]
          exact Or.inr ⟨q, q2, a5, Nat.le_refl _, by rw [y]; exact b4, b9⟩
        · rw [if_neg y]
          rcases a9 k hk' with ⟨u1, u2, u3⟩ | ⟨p, q', u1, u2, u3, u4⟩
          · exact Or.inl ⟨by rw [e2.I (by unfold gw gl gx; omega), I1 _ _ (by unfold g1; omega)]; exact u1, by rw [e2.I (by unfold gw gl gx; omega), I1 _ _ (by unfold g1; omega)]; exact u2, u3⟩
          · refine Or.inr ⟨p, q', u1, by omega, u3.cg b5 ⟨?_, ?_⟩ (fun r j h1 h2 h3 => ?_) (fun k hk => ⟨?_, ?_⟩), u4⟩
            · rw [e2.I (by unfold gw gl gx; omega), I1 _ _ (by unfold g1; omega)]
            · rw [e2.I (by unfold gw gl gx; omega), I1 _ _ (by unfold g1; omega)]
            · rw [e2.I (by unfold gw gl gx; omega), I1 _ _ (by unfold g1; omega)]
            · rw [e2.I (by unfold gw gl gx; omega), I1 _ _ (by unfold g1; omega)]
            · rw [e2.I (by unfold gw gl gx; omega), I1 _ _ (by unfold g1; omega)]
    · intro M2 e2 f2
      simp (disch := omega) only [lAdd, addL, lMul, mulL, nMul, nI_add, subL, lSub, nSub, nDec, nCl, lCl, nVp, lVp, nLe, nLt, nEq, lLe, leL, lLt, ltL, eqL, lEq, nM1, nM2, litLt0, one01, zero01, oneNe0, xupE, xupA, xupK, xI_I, xS_I, xF_I, xJ_I, xI_R, xS_R, xF_R, xJ_R, xI_L, xS_L, xF_L, xJ_L, xcat_s, le46, ge16, or_true, true_or, false_or, or_false, eq_self, Option.toList_some, Option.toList_none, List.cons_append, List.nil_append, true_and, and_true, not_false_eq_true, not_true_eq_false, if_true, if_false, B_106_410]
      exact hF M2 ((g1_T e1).trans (gT1 e2)) f2
  · intro M1 e1 f1
    simp (disch := omega) only [lAdd, addL, lMul, mulL, nMul, nI_add, subL, lSub, nSub, nDec, nCl, lCl, nVp, lVp, nLe, nLt, nEq, lLe, leL, lLt, ltL, eqL, lEq, nM1, nM2, litLt0, one01, zero01, oneNe0, xupE, xupA, xupK, xI_I, xS_I, xF_I, xJ_I, xI_R, xS_R, xF_R, xJ_R, xI_L, xS_L, xF_L, xJ_L, xcat_s, le46, ge16, or_true, true_or, false_or, or_false, eq_self, Option.toList_some, Option.toList_none, List.cons_append, List.nil_append, true_and, and_true, not_false_eq_true, not_true_eq_false, if_true, if_false, B_106_405, f1.1.s]
    rw [B_105_0, r_mustF f1]
    have i36 : xI M1 439 36 = nI q := by rw [e1.I (by unfold g1; omega)]; exact a3
    simp (disch := omega) only [lAdd, addL, lMul, mulL, nMul, nI_add, subL, lSub, nSub, nDec, nCl, lCl, nVp, lVp, nLe, nLt, nEq, lLe, leL, lLt, ltL, eqL, lEq, nM1, nM2, litLt0, one01, zero01, oneNe0, xupE, xupA, xupK, xI_I, xS_I, xF_I, xJ_I, xI_R, xS_R, xF_R, xJ_R, xI_L, xS_L, xF_L, xJ_L, xcat_s, le46, ge16, or_true, true_or, false_or, or_false, eq_self, Option.toList_some, Option.toList_none, List.cons_append, List.nil_append, true_and, and_true, not_false_eq_true, not_true_eq_false, if_true, if_false, f1.1.s, B_105_5, i36]
    refine tf12 (b := q) (b0 := q) (bm := 130 * sd + 130) (c0 := cd) (cm := 420 * sd + 420) f1 i36 (by omega) ?_
    intro M2 e2 f2
    simp (disch := omega) only [lAdd, addL, lMul, mulL, nMul, nI_add, subL, lSub, nSub, nDec, nCl, lCl, nVp, lVp, nLe, nLt, nEq, lLe, leL, lLt, ltL, eqL, lEq, nM1, nM2, litLt0, one01, zero01, oneNe0, xupE, xupA, xupK, xI_I, xS_I, xF_I, xJ_I, xI_R, xS_R, xF_R, xJ_R, xI_L, xS_L, xF_L, xJ_L, xcat_s, le46, ge16, or_true, true_or, false_or, or_false, eq_self, Option.toList_some, Option.toList_none, List.cons_append, List.nil_append, true_and, and_true, not_false_eq_true, not_true_eq_false, if_true, if_false, B_106_410]
    exact hF M2 ((g1_T e1).trans (gT1 (gl_w e2))) f2
end XRN
