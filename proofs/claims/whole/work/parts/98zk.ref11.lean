/-! the reference's reading: letters and readers -/
/-- all that telling changes, on the side sd -/
def gT (sd : Nat) : Nat → Nat → Prop := fun a k => (a = 439 ∧ ((11 ≤ k ∧ k ≤ 16) ∨ k = 20 ∨ k = 36 ∨ k = 42 ∨ k = 46)) ∨ ((a = 448 ∨ a = 453 ∨ (457 ≤ a ∧ a ≤ 459)) ∧ k = sd) ∨ (449 ≤ a ∧ a ≤ 452 ∧ 7 * sd ≤ k ∧ k < 7 * sd + 7) ∨ (454 ≤ a ∧ a ≤ 456 ∧ 6 * sd ≤ k ∧ k < 6 * sd + 6) ∨ ((a = 460 ∨ a = 461) ∧ 4 * sd ≤ k ∧ k < 4 * sd + 4) ∨ (462 ≤ a ∧ a ≤ 466 ∧ 130 * sd ≤ k ∧ k < 130 * sd + 130) ∨ ((a = 467 ∨ a = 468) ∧ 420 * sd ≤ k ∧ k < 420 * sd + 420) ∨ a = 469
def gJ : Nat → Nat → Prop := fun a _ => a = 447
theorem g2_T {sd : Nat} {M M' : XM} (e : E3 g2 noF noF M M') : E3 (gT sd) gJ noF M M' := e.mono (fun a k q => by unfold g2 at q; unfold gT; omega) (fun _ _ q => absurd q id) (fun _ _ q => q)
theorem g1_T {sd : Nat} {M M' : XM} (e : E3 g1 noF noF M M') : E3 (gT sd) gJ noF M M' := g2_T (g1_2 e)
def RLe (M : XM) (sd : Nat) (mm : Nat × Int32) (i : Nat) (L : Nat → Int32) : Prop := xI M 449 (7 * sd + i) = L 0 ∧ xI M 450 (7 * sd + i) = L 1 ∧ xI M 451 (7 * sd + i) = L 2 ∧ xI M 452 (7 * sd + i) = L 3 ∧ (mm.1 = 0 → (∀ k, k < 3 → ∃ w, w < 10 ∧ L k = nI w) ∧ ∃ w, w < 100 ∧ L 3 = nI w)
def RRe (M : XM) (sd : Nat) (mm : Nat × Int32) (i : Nat) (L : Nat → Int32) : Prop := xI M 454 (6 * sd + i) = L 0 ∧ xI M 455 (6 * sd + i) = L 1 ∧ xI M 456 (6 * sd + i) = L 2 ∧ (mm.1 = 0 → ∀ k, k < 3 → ∃ w, w < 10 ∧ L k = nI w)
def RSe (M : XM) (sd : Nat) (mm : Nat × Int32) (S : Nat → Int32) : Prop := xI M 457 sd = S 0 ∧ xI M 458 sd = S 1 ∧ xI M 459 sd = S 2 ∧ (mm.1 = 0 → (∃ x, x < 100 ∧ S 0 = nI x) ∧ (∃ x, x ≤ 100 ∧ S 1 = nI x) ∧ ∃ x, x < 10000 ∧ S 2 = nI x)
/-- the text so far, in the reference's rows -/
def RD (n : Nat) (c : Nat → Nat) (M : XM) (sd : Nat) : YX → Prop
  | (mm, a, r, nm, L, R, S) => (xI M 448 sd = nI a ∧ a ≤ 7 ∧ xI M 453 sd = nI r ∧ r ≤ 6) ∧ NMs n c M (a + r) nm ∧ (∀ i, i < a → RLe M sd mm i (L i)) ∧ (∀ i, i < r → RRe M sd mm i (R i)) ∧ RSe M sd mm S
section XRK
variable {n : Nat} {c : Nat → Nat} {m : Nat} {O : Nat × Int32 × YS} {M M' : XM} {t : Nat} {Q : Option Value → XM → Prop} {sd tk fd ifs ne pe : Nat} {mm mm' : Nat × Int32} {a r : Nat} {nm : Nat → Nat} {L R : Nat → Nat → Int32} {S : Nat → Int32} {w : YW} {P J : Nat → Nat → Prop}
theorem RLe.e3 {F : Nat → Nat → Prop} {i : Nat} {L : Nat → Int32} (h : RLe M sd mm i L) (e : E3 P J F M M') (hp : ∀ a k, P a k → ¬ (449 ≤ a ∧ a ≤ 452 ∧ k = 7 * sd + i)) (hm : mm'.1 = 0 → mm.1 = 0) : RLe M' sd mm' i L := by
  obtain ⟨h1, h2, h3, h4, h5⟩ := h
  have I : ∀ a, 449 ≤ a → a ≤ 452 → xI M' a (7 * sd + i) = xI M a (7 * sd + i) := fun a b1 b2 => e.I fun q => hp _ _ q ⟨b1, b2, rfl⟩
  exact ⟨by rw [I 449 (by omega) (by omega)]; exact h1, by rw [I 450 (by omega) (by omega)]; exact h2, by rw [I 451 (by omega) (by omega)]; exact h3, by rw [I 452 (by omega) (by omega)]; exact h4, fun q => h5 (hm q)⟩
theorem RRe.e3 {F : Nat → Nat → Prop} {i : Nat} {L : Nat → Int32} (h : RRe M sd mm i L) (e : E3 P J F M M') (hp : ∀ a k, P a k → ¬ (454 ≤ a ∧ a ≤ 456 ∧ k = 6 * sd + i)) (hm : mm'.1 = 0 → mm.1 = 0) : RRe M' sd mm' i L := by
  obtain ⟨h1, h2, h3, h4⟩ := h
  have I : ∀ a, 454 ≤ a → a ≤ 456 → xI M' a (6 * sd + i) = xI M a (6 * sd + i) := fun a b1 b2 => e.I fun q => hp _ _ q ⟨b1, b2, rfl⟩
  exact ⟨by rw [I 454 (by omega) (by omega)]; exact h1, by rw [I 455 (by omega) (by omega)]; exact h2, by rw [I 456 (by omega) (by omega)]; exact h3, fun q => h4 (hm q)⟩
theorem RSe.e3 {F : Nat → Nat → Prop} (h : RSe M sd mm S) (e : E3 P J F M M') (hp : ∀ a k, P a k → ¬ (457 ≤ a ∧ a ≤ 459)) (hm : mm'.1 = 0 → mm.1 = 0) : RSe M' sd mm' S := by
  obtain ⟨h1, h2, h3, h4⟩ := h
  have I : ∀ a, 457 ≤ a → a ≤ 459 → xI M' a sd = xI M a sd := fun a b1 b2 => e.I fun q => hp _ _ q ⟨b1, b2⟩
  exact ⟨by rw [I 457 (by omega) (by omega)]; exact h1, by rw [I 458 (by omega) (by omega)]; exact h2, by rw [I 459 (by omega) (by omega)]; exact h3, fun q => h4 (hm q)⟩
theorem RD.e3 (h : RD n c M sd (mm, a, r, nm, L, R, S)) (e : E3 P J noF M M') (hp : ∀ a k, P a k → ¬ (448 ≤ a ∧ a ≤ 459) ∧ ¬ (a = 439 ∧ k = 20)) (hj : ∀ a k, J a k → a ≠ 447) (hm : mm'.1 = 0 → mm.1 = 0) : RD n c M' sd (mm', a, r, nm, L, R, S) := by
  obtain ⟨⟨h1, h2, h3, h4⟩, h5, h6, h7, h8⟩ := h
  refine ⟨⟨by rw [e.I fun q => by have := hp _ _ q; omega]; exact h1, h2, by rw [e.I fun q => by have := hp _ _ q; omega]; exact h3, h4⟩, ⟨by rw [e.I fun q => by have := hp _ _ q; omega]; exact h5.1, fun i hi => by rw [e.J fun q => hj _ _ q rfl]; exact h5.2 i hi⟩, fun i hi => (h6 i hi).e3 e (fun a k q => by have := hp a k q; omega) hm, fun i hi => (h7 i hi).e3 e (fun a k q => by have := hp a k q; omega) hm, h8.e3 e (fun a k q => by have := hp a k q; omega) hm⟩
theorem ynote_0 {f u : Nat} {b : Bool} (hf : f ≠ 0) (h : (ynote f u b mm).1 = 0) : mm.1 = 0 ∧ b = false := by
  unfold ynote at h
  cases b
  · rw [if_neg (by decide)] at h; exact ⟨h, rfl⟩
  · rw [if_pos rfl] at h
    by_cases q : mm.1 = 0
    · rw [if_pos q] at h; exact absurd h hf
    · rw [if_neg q] at h; exact absurd h q
theorem r_roomFor {has most : Nat} {x y : Int32} {p : YS} (hm : MT n c m) (h : RA n c m O M t p) (hx : x = nI has) (hy : y = nI most) (h1 : has ≤ most) (hmo : most ≤ 7) (hk : ¬ tkK n c (tpos n c t) = 0) (ys : (yst n c t p).1 = if most ≤ has then 2 else 1)
    (hQ : ∀ M' : XM, E3 g1 noF noF M M' → has < most → RA n c m O M' (t + 1) (yst n c t p).2 → Q none M') (hF : ∀ M' : XM, E3 g1 noF noF M M' → FA O M' → Q none M') : RG xprog 93 0 [some (.ref 439), some (.int x), some (.int y)] [] M Q := by
  rw [B_93_0, hx, hy]
  by_cases q : has = most
  · rw [if_pos (by omega)] at ys
    subst q
    simp (disch := omega) only [lAdd, addL, lMul, mulL, nMul, nI_add, subL, lSub, nSub, nDec, nCl, lCl, nVp, lVp, nLe, nLt, nEq, lLe, leL, lLt, ltL, eqL, lEq, nM1, nM2, litLt0, one01, zero01, oneNe0, xupE, xupA, xupK, xI_I, xS_I, xF_I, xJ_I, xI_R, xS_R, xF_R, xJ_R, xI_L, xS_L, xF_L, xJ_L, xcat_s, le46, ge16, or_true, true_or, false_or, or_false, eq_self, Option.toList_some, Option.toList_none, List.cons_append, List.nil_append, true_and, and_true, not_false_eq_true, not_true_eq_false, if_true, if_false, if_neg, h.1.s]
    refine r_fail2 hm h rfl ys hk ?_
    intro M1 e1 f1
    have ff := f1
    obtain ⟨s1, f', g2', g3', g4', g5'⟩ := f1
    simp (disch := omega) only [lAdd, addL, lMul, mulL, nMul, nI_add, subL, lSub, nSub, nDec, nCl, lCl, nVp, lVp, nLe, nLt, nEq, lLe, leL, lLt, ltL, eqL, lEq, nM1, nM2, litLt0, one01, zero01, oneNe0, xupE, xupA, xupK, xI_I, xS_I, xF_I, xJ_I, xI_R, xS_R, xF_R, xJ_R, xI_L, xS_L, xF_L, xJ_L, xcat_s, le46, ge16, or_true, true_or, false_or, or_false, eq_self, Option.toList_some, Option.toList_none, List.cons_append, List.nil_append, true_and, and_true, not_false_eq_true, not_true_eq_false, if_true, if_false, B_93_10, s1.s, g3', if_pos, B_93_21]
    exact hF M1 e1 ff
  · rw [if_neg (by omega)] at ys
    simp (disch := omega) only [lAdd, addL, lMul, mulL, nMul, nI_add, subL, lSub, nSub, nDec, nCl, lCl, nVp, lVp, nLe, nLt, nEq, lLe, leL, lLt, ltL, eqL, lEq, nM1, nM2, litLt0, one01, zero01, oneNe0, xupE, xupA, xupK, xI_I, xS_I, xF_I, xJ_I, xI_R, xS_R, xF_R, xJ_R, xI_L, xS_L, xF_L, xJ_L, xcat_s, le46, ge16, or_true, true_or, false_or, or_false, eq_self, Option.toList_some, Option.toList_none, List.cons_append, List.nil_append, true_and, and_true, not_false_eq_true, not_true_eq_false, if_true, if_false, if_pos, if_neg, B_93_10, h.1.s, h.2.2.2.2.1]
    refine r_goesOn hm h ys hk ?_ ?_
    · intro M1 e1 a1
      simp (disch := omega) only [lAdd, addL, lMul, mulL, nMul, nI_add, subL, lSub, nSub, nDec, nCl, lCl, nVp, lVp, nLe, nLt, nEq, lLe, leL, lLt, ltL, eqL, lEq, nM1, nM2, litLt0, one01, zero01, oneNe0, xupE, xupA, xupK, xI_I, xS_I, xF_I, xJ_I, xI_R, xS_R, xF_R, xJ_R, xI_L, xS_L, xF_L, xJ_L, xcat_s, le46, ge16, or_true, true_or, false_or, or_false, eq_self, Option.toList_some, Option.toList_none, List.cons_append, List.nil_append, true_and, and_true, not_false_eq_true, not_true_eq_false, if_true, if_false, B_93_21]
      exact hQ M1 e1 (by omega) a1
    · intro M1 e1 a1
      simp (disch := omega) only [lAdd, addL, lMul, mulL, nMul, nI_add, subL, lSub, nSub, nDec, nCl, lCl, nVp, lVp, nLe, nLt, nEq, lLe, leL, lLt, ltL, eqL, lEq, nM1, nM2, litLt0, one01, zero01, oneNe0, xupE, xupA, xupK, xI_I, xS_I, xF_I, xJ_I, xI_R, xS_R, xF_R, xJ_R, xI_L, xS_L, xF_L, xJ_L, xcat_s, le46, ge16, or_true, true_or, false_or, or_false, eq_self, Option.toList_some, Option.toList_none, List.cons_append, List.nil_append, true_and, and_true, not_false_eq_true, not_true_eq_false, if_true, if_false, B_93_21]
      exact hF M1 e1 a1
theorem r_nam (hm : MT n c m) (h : RA n c m O M t ((1, tk, fd, ifs, ne, pe), (mm, a, r, nm, L, R, S), w)) (hq : a + r ≤ 13) (hn : NMs n c M (a + r) nm) (hw : WM M (tpos n c t) 0 mm)
    (hQ : ∀ (M' : XM) (mm' : Nat × Int32), E3 g2 noF noF M M' → tkK n c (tpos n c t) = 2 → RA n c m O M' (t + 1) ((2, tk, 0, ifs, ne, pe), (mm', if tk = 13 then a + 1 else a, if tk = 13 then r else r + 1, xone nm (a + r) (tpos n c t), L, R, S), w) → WM M' (tpos n c (t + 1)) 0 mm' → (mm'.1 = 0 → mm.1 = 0) → Q (some (.int (nI t))) M') (hF : ∀ M' : XM, E3 g2 noF noF M M' → FA O M' → Q (some (.int (nI t))) M') :
    RG xprog 96 0 [some (.ref 439), none, none] [] M Q := by
  have ys : yst n c t ((1, tk, fd, ifs, ne, pe), (mm, a, r, nm, L, R, S), w) = if tkK n c (tpos n c t) = 2 then yname (tkS n c) (tpos n c t) ((1, tk, fd, ifs, ne, pe), (mm, a, r, nm, L, R, S), w) else (0, ((1, tk, fd, ifs, ne, pe), (mm, a, r, nm, L, R, S), w)) := rfl
  refine r_named hm h (fun q => by rw [ys, if_pos q]; rfl) (fun q => by rw [ys, if_neg q]) hq hn hw ?_ hF
  intro M1 e1 k2 a1 w1
  rw [ys, if_pos k2] at a1
  exact hQ M1 _ e1 k2 a1 (w1.up (tpos_lt (tkK_2 k2).1)) (fun q => (ynote_0 (by omega) q).1)
theorem r_bnd {y : Int32} (hm : MT n c m) (h : RA n c m O M t ((2, tk, fd, ifs, ne, pe), (mm, a, r, nm, L, R, S), w)) (hy : y = nI (ylim tk fd)) (hw : WM M (tpos n c t) 0 mm)
    (hQ : ∀ (M' : XM) (mm' : Nat × Int32) (v : Nat), E3 g2 noF noF M M' → RA n c m O M' (t + 1) ((if fd = ylast tk then 3 else 2, tk, fd + 1, ifs, ne, pe), (mm', a, r, nm, if tk = 13 then yset L (a - 1) fd v else L, if tk = 14 then yset R (r - 1) fd v else R, if 19 ≤ tk then xone S fd (nI v) else S), w) → WM M' (tpos n c (t + 1)) 0 mm' → (mm'.1 = 0 → mm.1 = 0 ∧ v ≤ ylim tk fd) → Q (some (.int (nI v))) M') (hF : ∀ (M' : XM) (x : Int32), E3 g2 noF noF M M' → FA O M' → Q (some (.int x)) M') :
    RG xprog 97 0 [some (.ref 439), some (.int 0), some (.int y), none] [] M Q := by
  have ys : yst n c t ((2, tk, fd, ifs, ne, pe), (mm, a, r, nm, L, R, S), w) = if tkK n c (tpos n c t) = 3 then yint (tkV n c (tpos n c t)) (tpos n c t) ((2, tk, fd, ifs, ne, pe), (mm, a, r, nm, L, R, S), w) else (0, ((2, tk, fd, ifs, ne, pe), (mm, a, r, nm, L, R, S), w)) := rfl
  refine r_bounded hm h (fun q => by rw [ys, if_pos q]; rfl) (fun q => by rw [ys, if_neg q]) hy (ylim_le _ _) hw ?_ hF
  intro M1 e1 k3 a1 w1
  rw [ys, if_pos k3] at a1
  refine hQ M1 _ _ e1 a1 (w1.up (tpos_lt (tkK_3 k3).1)) (fun q => ?_)
  obtain ⟨q1, q2⟩ := ynote_0 (by omega) q
  exact ⟨q1, Nat.le_of_not_lt (of_decide_eq_false q2)⟩
theorem r_endsNameF {x : Int32} (h : FA O M) : RG xprog 98 0 [some (.ref 439), some (.int x)] [] M Q = Q none M := by
  have hh := h
  obtain ⟨s1, f', g2', g3', g4', g5'⟩ := h
  rw [B_98_0, r_mustF hh]
  simp (disch := omega) only [lAdd, addL, lMul, mulL, nMul, nI_add, subL, lSub, nSub, nDec, nCl, lCl, nVp, lVp, nLe, nLt, nEq, lLe, leL, lLt, ltL, eqL, lEq, nM1, nM2, litLt0, one01, zero01, oneNe0, xupE, xupA, xupK, xI_I, xS_I, xF_I, xJ_I, xI_R, xS_R, xF_R, xJ_R, xI_L, xS_L, xF_L, xJ_L, xcat_s, le46, ge16, or_true, true_or, false_or, or_false, eq_self, Option.toList_some, Option.toList_none, List.cons_append, List.nil_append, true_and, and_true, not_false_eq_true, not_true_eq_false, if_true, if_false, s1.s, B_98_5, g3', if_neg]
theorem r_endsName {q t1 : Nat} {X : YX} (hm : MT n c m) (h : RA n c m O M t ((3, tk, fd, ifs, ne, pe), X, w)) (h20 : xI M 439 20 = nI q) (hq : q < 13) (ht1 : t1 ≤ m)
    (hQ : ∀ M' : XM, E3 (fun a k => g1 a k ∨ (a = 439 ∧ k = 20)) (fun a k => a = 447 ∧ k = q) noF M M' → RA n c m O M' (t + 1) ((0, tk, fd, ifs, ne, pe), X, w) → ¬ tkK n c (tpos n c t) = 0 → xI M' 439 20 = nI (q + 1) → xJ M' 447 q = rkNm n c (tpos n c t1) → Q none M') (hF : ∀ M' : XM, E3 g1 noF noF M M' → FA O M' → Q none M') :
    RG xprog 98 0 [some (.ref 439), some (.int (nI t1))] [] M Q := by
  have m4 := hm.1
  have ys : yst n c t ((3, tk, fd, ifs, ne, pe), X, w) = (if tkK n c (tpos n c t) = 4 then 1 else 0, ((0, tk, fd, ifs, ne, pe), X, w)) := rfl
  rw [B_98_0, h.1.s.1]
  refine ⟨rfl, ?_⟩
  refine r_must (q := 4) hm h rfl (by omega) (by omega) (fun q => by rw [ys]; exact if_pos q) (fun q => by rw [ys]; exact if_neg q) ?_ ?_
  · intro M1 e1 k4 a1
    rw [ys] at a1
    have i20 : xI M1 439 20 = nI q := by rw [e1.I (by unfold g1; omega)]; exact h20
    have nt : xJ M1 445 t1 = rkNm n c (tpos n c t1) := (a1.2.1.2 t1 (by omega)).2.2.2
    simp (disch := omega) only [lAdd, addL, lMul, mulL, nMul, nI_add, subL, lSub, nSub, nDec, nCl, lCl, nVp, lVp, nLe, nLt, nEq, lLe, leL, lLt, ltL, eqL, lEq, nM1, nM2, litLt0, one01, zero01, oneNe0, xupE, xupA, xupK, xI_I, xS_I, xF_I, xJ_I, xI_R, xS_R, xF_R, xJ_R, xI_L, xS_L, xF_L, xJ_L, xcat_s, le46, ge16, or_true, true_or, false_or, or_false, eq_self, Option.toList_some, Option.toList_none, List.cons_append, List.nil_append, true_and, and_true, not_false_eq_true, not_true_eq_false, if_true, if_false, B_98_5, a1.1.s, a1.1.f, a1.2.2.2.2.1, if_pos, i20, nt, B_98_38]
    have e2 : E3 (fun a k => a = 439 ∧ k = 20) (fun a k => a = 447 ∧ k = q) noF M1 (xmI (xmL M1 447 q (rkNm n c (tpos n c t1))) 439 20 (nI (q + 1))) := ((E3.refl _ _ _ _).wJ _ (by omega)).wI _ (by omega)
    exact hQ _ ((e1.mono (fun a k q => Or.inl q) (fun _ _ q => absurd q id) (fun _ _ q => q)).trans (e2.mono (fun a k q => Or.inr q) (fun _ _ q => q) (fun _ _ q => q))) (a1.e3 e2 (fun a k q => by omega) (fun a k q => by omega)) (by omega) (by simp (disch := omega) only [lAdd, addL, lMul, mulL, nMul, nI_add, subL, lSub, nSub, nDec, nCl, lCl, nVp, lVp, nLe, nLt, nEq, lLe, leL, lLt, ltL, eqL, lEq, nM1, nM2, litLt0, one01, zero01, oneNe0, xupE, xupA, xupK, xI_I, xS_I, xF_I, xJ_I, xI_R, xS_R, xF_R, xJ_R, xI_L, xS_L, xF_L, xJ_L, xcat_s, le46, ge16, or_true, true_or, false_or, or_false, eq_self, Option.toList_some, Option.toList_none, List.cons_append, List.nil_append, true_and, and_true, not_false_eq_true, not_true_eq_false, if_true, if_false]) (by simp (disch := omega) only [lAdd, addL, lMul, mulL, nMul, nI_add, subL, lSub, nSub, nDec, nCl, lCl, nVp, lVp, nLe, nLt, nEq, lLe, leL, lLt, ltL, eqL, lEq, nM1, nM2, litLt0, one01, zero01, oneNe0, xupE, xupA, xupK, xI_I, xS_I, xF_I, xJ_I, xI_R, xS_R, xF_R, xJ_R, xI_L, xS_L, xF_L, xJ_L, xcat_s, le46, ge16, or_true, true_or, false_or, or_false, eq_self, Option.toList_some, Option.toList_none, List.cons_append, List.nil_append, true_and, and_true, not_false_eq_true, not_true_eq_false, if_true, if_false])
  · intro M1 e1 f1
    have ff := f1
    obtain ⟨s1, f', g2', g3', g4', g5'⟩ := f1
    simp (disch := omega) only [lAdd, addL, lMul, mulL, nMul, nI_add, subL, lSub, nSub, nDec, nCl, lCl, nVp, lVp, nLe, nLt, nEq, lLe, leL, lLt, ltL, eqL, lEq, nM1, nM2, litLt0, one01, zero01, oneNe0, xupE, xupA, xupK, xI_I, xS_I, xF_I, xJ_I, xI_R, xS_R, xF_R, xJ_R, xI_L, xS_L, xF_L, xJ_L, xcat_s, le46, ge16, or_true, true_or, false_or, or_false, eq_self, Option.toList_some, Option.toList_none, List.cons_append, List.nil_append, true_and, and_true, not_false_eq_true, not_true_eq_false, if_true, if_false, B_98_5, s1.s, g3', if_neg]
    exact hF M1 e1 ff
end XRK
