/-! the reference's reading: one tell -/
section XRN
variable {n : Nat} {c : Nat → Nat} {m : Nat} {O : Nat × Int32 × YS} {M : XM} {t : Nat} {Q : Option Value → XM → Prop} {sd : Nat}
/-- what a setting does -/
theorem t_setting {M1 : XM} {mm mm' : Nat × Int32} {a r : Nat} {nm : Nat → Nat} {L R : Nat → Nat → Int32} {S : Nat → Int32} {tk v t' : Nat} {W : Nat → YL} {C : Nat × Nat × Nat × Nat × Nat} {l : YL} {z : Nat × (Nat → Nat)} {sk : Nat} (hs : sd < 2) (ht : 19 ≤ tk ∧ tk ≤ 21) (rd : RD n c M sd (mm, a, r, nm, L, R, S)) (lt : LT M sd t W) (e1 : E3 g2 noF noF M M1) (a1 : RA n c m O M1 t' ((0, C), (mm', a, r, nm, L, R, xone S (tk - 19) (nI v)), (W, 4, l, z, sk))) (w1 : WM M1 (tpos n c t') 0 mm') (tt : t < t') (zz : mm'.1 = 0 → mm.1 = 0 ∧ v ≤ ylim tk (tk - 19)) : TL n c m O (xmI M1 (457 + (tk - 19)) sd (nI v)) sd t' ∧ E3 (gT sd) gJ noF M (xmI M1 (457 + (tk - 19)) sd (nI v)) := by
  obtain ⟨tk', fd', ifs', ne', pe'⟩ := C
  have e2 : E3 (fun b k => b = 457 + (tk - 19) ∧ k = sd) noF noF M1 (xmI M1 (457 + (tk - 19)) sd (nI v)) := (E3.refl _ _ _ _).wI _ ⟨rfl, rfl⟩
  have y2 : xI (xmI M1 (457 + (tk - 19)) sd (nI v)) (457 + (tk - 19)) sd = nI v := by rw [xI_I, xupE]
  generalize xmI M1 (457 + (tk - 19)) sd (nI v) = M2 at e2 y2
  have fr : ∀ b k, ¬ g2 b k → b ≠ 457 + (tk - 19) → xI M2 b k = xI M b k := fun b k q1 q2 => by rw [e2.I (by omega), e1.I q1]
  refine ⟨⟨tk', fd', ifs', ne', pe', _, W, l, z, sk, a1.e3 e2 (fun b k q => by omega) (fun _ _ q => absurd q id), ?_, w1.e3 e2 (fun b k q => by omega), ?_⟩, (g2_T e1).trans (e2.mono (fun b k q => by unfold gT; omega) (fun _ _ q => absurd q id) (fun _ _ q => q))⟩
  · have rd1 := rd.e3 (mm' := mm') e1 (fun a k q => by unfold g2 at q; omega) (fun _ _ q => absurd q id) (fun q => (zz q).1)
    obtain ⟨⟨d1, d2, d3, d4⟩, d5, d6, d7, d8⟩ := rd1
    refine ⟨⟨by rw [e2.I (by omega)]; exact d1, d2, by rw [e2.I (by omega)]; exact d3, d4⟩, ⟨by rw [e2.I (by omega)]; exact d5.1, fun i hi => by rw [e2.J id]; exact d5.2 i hi⟩, fun i hi => (d6 i hi).e3 e2 (fun b k q => by omega) id, fun i hi => (d7 i hi).e3 e2 (fun b k q => by omega) id, ?_⟩
    obtain ⟨s1, s2, s3, s4⟩ := d8
    have : tk = 19 ∨ tk = 20 ∨ tk = 21 := by omega
    rcases this with q | q | q
    · subst q
      refine ⟨y2, by rw [e2.I (by omega)]; exact s2, by rw [e2.I (by omega)]; exact s3, fun q => ⟨⟨v, ?_, rfl⟩, (s4 q).2⟩⟩
      have := (zz q).2
      exact Nat.lt_of_le_of_lt this (by decide)
    · subst q
      refine ⟨by rw [e2.I (by omega)]; exact s1, y2, by rw [e2.I (by omega)]; exact s3, fun q => ⟨(s4 q).1, ⟨v, ?_, rfl⟩, (s4 q).2.2⟩⟩
      exact (zz q).2
    · subst q
      refine ⟨by rw [e2.I (by omega)]; exact s1, by rw [e2.I (by omega)]; exact s2, y2, fun q => ⟨(s4 q).1, (s4 q).2.1, v, ?_, rfl⟩⟩
      have := (zz q).2
      exact Nat.lt_of_le_of_lt this (by decide)
  · exact lt.up (by omega) (fun k hk => fr _ _ (by unfold g2; omega) (by omega)) (fun b h1 h2 => funext fun k => fr _ _ (by unfold g2; omega) (by omega))
theorem t_sets (hm : MT n c m) (hs : sd < 2) (h : TL n c m O M sd t) (hk : tkK n c (tpos n c t) = 19 ∨ tkK n c (tpos n c t) = 20 ∨ tkK n c (tpos n c t) = 21) (hQ : ∀ (M' : XM) (t' : Nat), E3 (gT sd) gJ noF M M' → TL n c m O M' sd t' → t < t' → Q none M') (hF : ∀ M' : XM, E3 (gT sd) gJ noF M M' → FA O M' → Q none M') : RG xprog 106 0 [some (.ref 439), none, none] [] M Q := by
  obtain ⟨tk, fd, ifs, ne, pe, ⟨mm, a, r, nm, L, R, S⟩, W, l, z, sk, ra, rd, wm, lt⟩ := h
  have t4 : t ≤ 400 := by have := ra.2.2.1; have := hm.1; omega
  have kd := ra.kind hm
  have h19 := lt.1
  rw [B_106_0]
  have fa : ∀ (row : Nat) (M1 : XM) (x : Int32), 457 ≤ row ∧ row ≤ 459 → E3 g2 noF noF M M1 → FA O M1 → Q none (xmI M1 row sd x) := fun row M1 x hr e1 f1 => hF _ ((g2_T e1).trans (ew (by unfold gT; omega))) (fw f1 (by omega))
  rcases hk with hk | hk | hk
  · rw [hk] at kd
    have kd' : xI M 442 t = nI 26 := kd
    simp (disch := omega) only [lAdd, addL, lMul, mulL, nMul, nI_add, subL, lSub, nSub, nDec, nCl, lCl, nVp, lVp, nLe, nLt, nEq, lLe, leL, lLt, ltL, eqL, lEq, nM1, nM2, litLt0, one01, zero01, oneNe0, xupE, xupA, xupK, xI_I, xS_I, xF_I, xJ_I, xI_R, xS_R, xF_R, xJ_R, xI_L, xS_L, xF_L, xJ_L, xcat_s, le46, ge16, or_true, true_or, false_or, or_false, eq_self, Option.toList_some, Option.toList_none, List.cons_append, List.nil_append, true_and, and_true, not_false_eq_true, not_true_eq_false, if_true, if_false, ra.1.s, ra.1.f, ra.2.2.2.1, kd', if_pos, if_neg, h19]
    refine r_told (tk := 19) hm (by omega) hk ra rfl wm ?_ ?_
    · intro M1 mm1 v t1 C e1 a1 w1 tt zz
      simp (disch := omega) only [lAdd, addL, lMul, mulL, nMul, nI_add, subL, lSub, nSub, nDec, nCl, lCl, nVp, lVp, nLe, nLt, nEq, lLe, leL, lLt, ltL, eqL, lEq, nM1, nM2, litLt0, one01, zero01, oneNe0, xupE, xupA, xupK, xI_I, xS_I, xF_I, xJ_I, xI_R, xS_R, xF_R, xJ_R, xI_L, xS_L, xF_L, xJ_L, xcat_s, le46, ge16, or_true, true_or, false_or, or_false, eq_self, Option.toList_some, Option.toList_none, List.cons_append, List.nil_append, true_and, and_true, not_false_eq_true, not_true_eq_false, if_true, if_false, B_106_314, a1.1.s, B_106_410]
      have := t_setting (M := M) (tk := 19) hs (by omega) rd lt e1 a1 w1 tt zz
      exact hQ _ t1 this.2 this.1 tt
    · intro M1 x e1 f1
      simp (disch := omega) only [lAdd, addL, lMul, mulL, nMul, nI_add, subL, lSub, nSub, nDec, nCl, lCl, nVp, lVp, nLe, nLt, nEq, lLe, leL, lLt, ltL, eqL, lEq, nM1, nM2, litLt0, one01, zero01, oneNe0, xupE, xupA, xupK, xI_I, xS_I, xF_I, xJ_I, xI_R, xS_R, xF_R, xJ_R, xI_L, xS_L, xF_L, xJ_L, xcat_s, le46, ge16, or_true, true_or, false_or, or_false, eq_self, Option.toList_some, Option.toList_none, List.cons_append, List.nil_append, true_and, and_true, not_false_eq_true, not_true_eq_false, if_true, if_false, B_106_314, f1.1.s, B_106_410]
      exact fa 457 M1 x (by omega) e1 f1
  · rw [hk] at kd
    have kd' : xI M 442 t = nI 27 := kd
    simp (disch := omega) only [lAdd, addL, lMul, mulL, nMul, nI_add, subL, lSub, nSub, nDec, nCl, lCl, nVp, lVp, nLe, nLt, nEq, lLe, leL, lLt, ltL, eqL, lEq, nM1, nM2, litLt0, one01, zero01, oneNe0, xupE, xupA, xupK, xI_I, xS_I, xF_I, xJ_I, xI_R, xS_R, xF_R, xJ_R, xI_L, xS_L, xF_L, xJ_L, xcat_s, le46, ge16, or_true, true_or, false_or, or_false, eq_self, Option.toList_some, Option.toList_none, List.cons_append, List.nil_append, true_and, and_true, not_false_eq_true, not_true_eq_false, if_true, if_false, ra.1.s, ra.1.f, ra.2.2.2.1, kd', if_pos, if_neg, h19]
    refine r_told (tk := 20) hm (by omega) hk ra rfl wm ?_ ?_
    · intro M1 mm1 v t1 C e1 a1 w1 tt zz
      simp (disch := omega) only [lAdd, addL, lMul, mulL, nMul, nI_add, subL, lSub, nSub, nDec, nCl, lCl, nVp, lVp, nLe, nLt, nEq, lLe, leL, lLt, ltL, eqL, lEq, nM1, nM2, litLt0, one01, zero01, oneNe0, xupE, xupA, xupK, xI_I, xS_I, xF_I, xJ_I, xI_R, xS_R, xF_R, xJ_R, xI_L, xS_L, xF_L, xJ_L, xcat_s, le46, ge16, or_true, true_or, false_or, or_false, eq_self, Option.toList_some, Option.toList_none, List.cons_append, List.nil_append, true_and, and_true, not_false_eq_true, not_true_eq_false, if_true, if_false, B_106_333, a1.1.s, B_106_410]
      have := t_setting (M := M) (tk := 20) hs (by omega) rd lt e1 a1 w1 tt zz
      exact hQ _ t1 this.2 this.1 tt
    · intro M1 x e1 f1
      simp (disch := omega) only [lAdd, addL, lMul, mulL, nMul, nI_add, subL, lSub, nSub, nDec, nCl, lCl, nVp, lVp, nLe, nLt, nEq, lLe, leL, lLt, ltL, eqL, lEq, nM1, nM2, litLt0, one01, zero01, oneNe0, xupE, xupA, xupK, xI_I, xS_I, xF_I, xJ_I, xI_R, xS_R, xF_R, xJ_R, xI_L, xS_L, xF_L, xJ_L, xcat_s, le46, ge16, or_true, true_or, false_or, or_false, eq_self, Option.toList_some, Option.toList_none, List.cons_append, List.nil_append, true_and, and_true, not_false_eq_true, not_true_eq_false, if_true, if_false, B_106_333, f1.1.s, B_106_410]
      exact fa 458 M1 x (by omega) e1 f1
  · rw [hk] at kd
    have kd' : xI M 442 t = nI 28 := kd
    simp (disch := omega) only [lAdd, addL, lMul, mulL, nMul, nI_add, subL, lSub, nSub, nDec, nCl, lCl, nVp, lVp, nLe, nLt, nEq, lLe, leL, lLt, ltL, eqL, lEq, nM1, nM2, litLt0, one01, zero01, oneNe0, xupE, xupA, xupK, xI_I, xS_I, xF_I, xJ_I, xI_R, xS_R, xF_R, xJ_R, xI_L, xS_L, xF_L, xJ_L, xcat_s, le46, ge16, or_true, true_or, false_or, or_false, eq_self, Option.toList_some, Option.toList_none, List.cons_append, List.nil_append, true_and, and_true, not_false_eq_true, not_true_eq_false, if_true, if_false, ra.1.s, ra.1.f, ra.2.2.2.1, kd', if_pos, if_neg, h19]
    refine r_told (tk := 21) hm (by omega) hk ra rfl wm ?_ ?_
    · intro M1 mm1 v t1 C e1 a1 w1 tt zz
      simp (disch := omega) only [lAdd, addL, lMul, mulL, nMul, nI_add, subL, lSub, nSub, nDec, nCl, lCl, nVp, lVp, nLe, nLt, nEq, lLe, leL, lLt, ltL, eqL, lEq, nM1, nM2, litLt0, one01, zero01, oneNe0, xupE, xupA, xupK, xI_I, xS_I, xF_I, xJ_I, xI_R, xS_R, xF_R, xJ_R, xI_L, xS_L, xF_L, xJ_L, xcat_s, le46, ge16, or_true, true_or, false_or, or_false, eq_self, Option.toList_some, Option.toList_none, List.cons_append, List.nil_append, true_and, and_true, not_false_eq_true, not_true_eq_false, if_true, if_false, B_106_353, a1.1.s, B_106_410]
      have := t_setting (M := M) (tk := 21) hs (by omega) rd lt e1 a1 w1 tt zz
      exact hQ _ t1 this.2 this.1 tt
    · intro M1 x e1 f1
      simp (disch := omega) only [lAdd, addL, lMul, mulL, nMul, nI_add, subL, lSub, nSub, nDec, nCl, lCl, nVp, lVp, nLe, nLt, nEq, lLe, leL, lLt, ltL, eqL, lEq, nM1, nM2, litLt0, one01, zero01, oneNe0, xupE, xupA, xupK, xI_I, xS_I, xF_I, xJ_I, xI_R, xS_R, xF_R, xJ_R, xI_L, xS_L, xF_L, xJ_L, xcat_s, le46, ge16, or_true, true_or, false_or, or_false, eq_self, Option.toList_some, Option.toList_none, List.cons_append, List.nil_append, true_and, and_true, not_false_eq_true, not_true_eq_false, if_true, if_false, B_106_353, f1.1.s, B_106_410]
      exact fa 459 M1 x (by omega) e1 f1
end XRN
