/-! the reference's reading: a law -/
theorem BrT.lo {I : Nat → Nat → Int32} {s : Nat → Int32} {lo lo' hi b a a' : Nat} (h : BrT I s lo hi b a a') (hl : lo' ≤ lo) : BrT I s lo' hi b a a' := by
  obtain ⟨x, n1, n2, n3, h1, h2⟩ := h
  exact ⟨x, n1, n2, n3, by omega, h2⟩
/-- a law of the reference's rows, its branches p to q, as the class's steps l -/
def LW (M : XM) (lo hi p q ix : Nat) (l : YL) : Prop := xI M 460 ix = nI p ∧ xI M 461 ix = nI q ∧ p < q ∧ ∃ a, BL (xI M) l.2 lo hi p (q - 1 - p) a ∧ BrE (xI M) l.2 lo hi (q - 1) a l.1
section XRJ
variable {n : Nat} {c : Nat → Nat} {m : Nat} {O : Nat × Int32 × YS} {Q : Option Value → XM → Prop} {tk fd lw cm bm lo cs p sd b00 t0 : Nat} {X : YX} {W : Nat → YL} {M0 : XM}
/-- the end of a law -/
def LE (n : Nat) (c : Nat → Nat) (m : Nat) (O : Nat × Int32 × YS) (M' : XM) (t0 tk fd lw cm lo cs p sd b00 : Nat) (X : YX) (W : Nat → YL) (t' q c1 : Nat) (l' : YL) : Prop :=
  (∃ ifs zf sk, RA n c m O M' t' ((0, tk, fd, ifs, 0, 4), X, (fun i => if i = lw then l' else W i, 4, l', (0, zf), sk))) ∧ xI M' 439 36 = nI q ∧ xI M' 439 42 = nI c1 ∧ xI M' 439 12 = nI 0 ∧ LW M' lo c1 p q (4 * sd + lw) l' ∧ cs ≤ c1 ∧ c1 + 420 ≤ cm + t' ∧ 4 * q ≤ t' + 4 * b00 ∧ t0 < t' ∧ l'.1 ≤ 400
def gw (p bm cs cm ix : Nat) : Nat → Nat → Prop := fun a k => gl p bm cs cm a k ∨ ((a = 460 ∨ a = 461) ∧ k = ix)
theorem gl_w {p bm cs cm ix : Nat} {M M' : XM} (e : E3 (gl p bm cs cm) noF noF M M') : E3 (gw p bm cs cm ix) noF noF M M' := e.mono (fun _ _ q => Or.inl q) (fun _ _ q => q) (fun _ _ q => q)
theorem last {ifs t cd sk : Nat} {M : XM} {l : YL} {zf : Nat → Nat} (hm : MT n c m) (hcm : cm = lo + 420 ∧ cm ≤ 840) (hbm : bm = b00 + 130 ∧ bm ≤ 260) (hlw : lw < 4) (hsd : sd < 2) (h19 : xI M 439 19 = nI sd) (hp : b00 ≤ p) (hlo : lo ≤ cs)
    (hQ : ∀ (M' : XM) (t' q c1 : Nat) (l' : YL), E3 (gw p bm cs cm (4 * sd + lw)) noF noF M0 M' → LE n c m O M' t0 tk fd lw cm lo cs p sd b00 X W t' q c1 l' → Q none M') (hF : ∀ M' : XM, E3 (gw p bm cs cm (4 * sd + lw)) noF noF M0 M' → FA O M' → Q none M')
    (hi : ifs ≤ 4) (k22 : ¬ tkK n c (tpos n c t) = 22) (h : RA n c m O M t ((5, tk, fd, ifs, 0, 4), X, (W, lw, l, (0, zf), sk))) (h36 : xI M 439 36 = nI (p + ifs)) (h42 : xI M 439 42 = nI cd) (h12 : xI M 439 12 = nI 0) (bl : BL (xI M) l.2 lo cd p ifs l.1) (hcd : cs ≤ cd) (hc : cd + 420 ≤ cm + t) (hl : l.1 + 2 ≤ t) (hbt : 4 * (p + ifs) + 2 ≤ t + 4 * b00) (ht : t0 ≤ t) (e0 : E3 (gl p bm cs cm) noF noF M0 M) :
      RG xprog 105 129 [some (.ref 439), some (.int (nI lw)), some (.int (nI p)), some (.int (nI ifs))] [] M Q := by
  have t4 : t ≤ 400 := by have := h.2.2.1; have := hm.1; omega
  have m4 := hm.1
  have e1 : E3 (fun a k => a = 462 ∧ k = p + ifs) noF noF M (xmI M 462 (p + ifs) 0) := (E3.refl _ _ _ _).wI _ ⟨rfl, rfl⟩
  have f62 : xI (xmI M 462 (p + ifs) 0) 462 (p + ifs) = 0 := by simp (disch := omega) only [lAdd, addL, lMul, mulL, nMul, nI_add, subL, lSub, nSub, nDec, nCl, lCl, nVp, lVp, nLe, nLt, nEq, lLe, leL, lLt, ltL, eqL, lEq, nM1, nM2, litLt0, one01, zero01, oneNe0, xupE, xupA, xupK, xI_I, xS_I, xF_I, xJ_I, xI_R, xS_R, xF_R, xJ_R, xI_L, xS_L, xF_L, xJ_L, xcat_s, le46, ge16, or_true, true_or, false_or, or_false, eq_self, Option.toList_some, Option.toList_none, List.cons_append, List.nil_append, true_and, and_true, not_false_eq_true, not_true_eq_false, if_true, if_false]
  rw [tl129 h.1 h36 (by omega)]
  generalize xmI M 462 (p + ifs) 0 = N1 at e1 f62
  have E1 : E3 (gl p bm cs cm) noF noF M0 N1 := e0.trans (e1.mono (fun a k q => by unfold gl; omega) (fun _ _ q => q) (fun _ _ q => q))
  have A1 := h.e3 e1 (fun a k q => by omega) (fun _ _ q => absurd q id)
  refine r_term (cm := cm) (c0 := cd) (b := p + ifs) (b0 := p) (bm := bm) hm hcm.2 (Or.inr ⟨rfl, k22⟩) A1 (by rw [e1.I (by omega)]; exact h42) (by rw [e1.I (by omega)]; exact h12) hl hc (by rw [e1.I (by omega)]; exact h36) (by omega) ?_ ?_
  · intro N2 t2 l1 z1 e2 xe w65 w66 w36
    obtain ⟨q1, q2, q3, q4⟩ := xe_seg xe
    have x1 := xe_0 xe
    have x2 := xe_4 xe
    obtain ⟨rc, _, _, _, dl, dc, dt, _, d12⟩ := xe
    have t2m := rc.2.2.1
    generalize (yrel 1 z1.2 z1.1 l1).2 = y at *
    have E2 : E3 (gl p bm cs cm) noF noF M0 N2 := E1.trans (e2.mono (fun a k q => by unfold gx at q; unfold gl gx; omega) (fun _ _ q => q) (fun _ _ q => q))
    simp (disch := omega) only [lAdd, addL, lMul, mulL, nMul, nI_add, subL, lSub, nSub, nDec, nCl, lCl, nVp, lVp, nLe, nLt, nEq, lLe, leL, lLt, ltL, eqL, lEq, nM1, nM2, litLt0, one01, zero01, oneNe0, xupE, xupA, xupK, xI_I, xS_I, xF_I, xJ_I, xI_R, xS_R, xF_R, xJ_R, xI_L, xS_L, xF_L, xJ_L, xcat_s, le46, ge16, or_true, true_or, false_or, or_false, eq_self, Option.toList_some, Option.toList_none, List.cons_append, List.nil_append, true_and, and_true, not_false_eq_true, not_true_eq_false, if_true, if_false, B_105_143, rc.1.s]
    refine r_must (q := 4) hm rc rfl (by omega) (by omega) (fun q => by rw [x2 q]) (fun q => x1 q) ?_ ?_
    · intro N3 e3 k3 a3
      rw [x2 k3] at a3
      have j36 : xI N3 439 36 = nI (p + ifs + 1) := by rw [e3.I (by unfold g1; omega)]; exact w36
      have j42 : xI N3 439 42 = nI (cd + (y.1 - l.1)) := by rw [e3.I (by unfold g1; omega)]; exact q4
      have j19 : xI N3 439 19 = nI sd := by rw [e3.I (by unfold g1; omega), e2.I (by unfold gx; omega), e1.I (by omega)]; exact h19
      simp (disch := omega) only [lAdd, addL, lMul, mulL, nMul, nI_add, subL, lSub, nSub, nDec, nCl, lCl, nVp, lVp, nLe, nLt, nEq, lLe, leL, lLt, ltL, eqL, lEq, nM1, nM2, litLt0, one01, zero01, oneNe0, xupE, xupA, xupK, xI_I, xS_I, xF_I, xJ_I, xI_R, xS_R, xF_R, xJ_R, xI_L, xS_L, xF_L, xJ_L, xcat_s, le46, ge16, or_true, true_or, false_or, or_false, eq_self, Option.toList_some, Option.toList_none, List.cons_append, List.nil_append, true_and, and_true, not_false_eq_true, not_true_eq_false, if_true, if_false, B_105_148, a3.1.s, a3.1.f, a3.2.2.2.2.1, if_pos, j19, j36, B_105_187]
      have e4 : E3 (fun a k => (a = 460 ∨ a = 461) ∧ k = 4 * sd + lw) noF noF N3 (xmI (xmI N3 460 (4 * sd + lw) (nI p)) 461 (4 * sd + lw) (nI (p + ifs + 1))) := ((E3.refl _ _ _ _).wI _ (by omega)).wI _ (by omega)
      have f60 : xI (xmI (xmI N3 460 (4 * sd + lw) (nI p)) 461 (4 * sd + lw) (nI (p + ifs + 1))) 460 (4 * sd + lw) = nI p ∧ xI (xmI (xmI N3 460 (4 * sd + lw) (nI p)) 461 (4 * sd + lw) (nI (p + ifs + 1))) 461 (4 * sd + lw) = nI (p + ifs + 1) := ⟨by simp (disch := omega) only [lAdd, addL, lMul, mulL, nMul, nI_add, subL, lSub, nSub, nDec, nCl, lCl, nVp, lVp, nLe, nLt, nEq, lLe, leL, lLt, ltL, eqL, lEq, nM1, nM2, litLt0, one01, zero01, oneNe0, xupE, xupA, xupK, xI_I, xS_I, xF_I, xJ_I, xI_R, xS_R, xF_R, xJ_R, xI_L, xS_L, xF_L, xJ_L, xcat_s, le46, ge16, or_true, true_or, false_or, or_false, eq_self, Option.toList_some, Option.toList_none, List.cons_append, List.nil_append, true_and, and_true, not_false_eq_true, not_true_eq_false, if_true, if_false], by simp (disch := omega) only [lAdd, addL, lMul, mulL, nMul, nI_add, subL, lSub, nSub, nDec, nCl, lCl, nVp, lVp, nLe, nLt, nEq, lLe, leL, lLt, ltL, eqL, lEq, nM1, nM2, litLt0, one01, zero01, oneNe0, xupE, xupA, xupK, xI_I, xS_I, xF_I, xJ_I, xI_R, xS_R, xF_R, xJ_R, xI_L, xS_L, xF_L, xJ_L, xcat_s, le46, ge16, or_true, true_or, false_or, or_false, eq_self, Option.toList_some, Option.toList_none, List.cons_append, List.nil_append, true_and, and_true, not_false_eq_true, not_true_eq_false, if_true, if_false]⟩
      generalize xmI (xmI N3 460 (4 * sd + lw) (nI p)) 461 (4 * sd + lw) (nI (p + ifs + 1)) = N4 at e4 f60
      refine hQ N4 (t2 + 1) (p + ifs + 1) (cd + (y.1 - l.1)) y ((gl_w (E2.trans (g1_l e3))).trans (e4.mono (fun a k q => Or.inr q) (fun _ _ q => q) (fun _ _ q => q))) ⟨⟨ifs, z1.2, sk, a3.e3 e4 (fun a k q => by omega) (fun _ _ q => absurd q id)⟩, by rw [e4.I (by omega)]; exact j36, by rw [e4.I (by omega)]; exact j42, by rw [e4.I (by omega), e3.I (by unfold g1; omega)]; exact d12, ⟨f60.1, f60.2, by omega, l.1, ?_, ?_⟩, by omega, by omega, by omega, by omega, by omega⟩
      · rw [show p + ifs + 1 - 1 - p = ifs by omega]
        refine BL.c (by omega) (fun k hk => ⟨?_, ?_⟩) ifs l.1 (fun r j h1 h2 h3 => ?_) q3 bl
        · rw [e4.I (by omega), e3.I (by unfold g1; omega), e2.I (by unfold gx; omega), e1.I (by omega)]
        · rw [e4.I (by omega), e3.I (by unfold g1; omega), e2.I (by unfold gx; omega), e1.I (by omega)]
        · rw [e4.I (by omega), e3.I (by unfold g1; omega), e2.I (by unfold gx; omega), e1.I (by omega)]
      · rw [show p + ifs + 1 - 1 = p + ifs by omega]
        refine ⟨cd, y.1 - l.1, by omega, Nat.le_refl _, ⟨?_, ?_, ?_⟩, q1.c (fun i hi => rfl) (fun i hi => ⟨?_, ?_⟩), by omega⟩
        · rw [e4.I (by omega), e3.I (by unfold g1; omega), e2.I (by unfold gx; omega)]; exact f62
        · rw [e4.I (by omega), e3.I (by unfold g1; omega)]; exact w65
        · rw [e4.I (by omega), e3.I (by unfold g1; omega)]; exact w66
        · rw [e4.I (by omega), e3.I (by unfold g1; omega)]
        · rw [e4.I (by omega), e3.I (by unfold g1; omega)]
    · intro N3 e3 f3
      have ff := f3
      obtain ⟨s1, f', g2', g3', g4', g5'⟩ := f3
      simp (disch := omega) only [lAdd, addL, lMul, mulL, nMul, nI_add, subL, lSub, nSub, nDec, nCl, lCl, nVp, lVp, nLe, nLt, nEq, lLe, leL, lLt, ltL, eqL, lEq, nM1, nM2, litLt0, one01, zero01, oneNe0, xupE, xupA, xupK, xI_I, xS_I, xF_I, xJ_I, xI_R, xS_R, xF_R, xJ_R, xI_L, xS_L, xF_L, xJ_L, xcat_s, le46, ge16, or_true, true_or, false_or, or_false, eq_self, Option.toList_some, Option.toList_none, List.cons_append, List.nil_append, true_and, and_true, not_false_eq_true, not_true_eq_false, if_true, if_false, B_105_148, s1.s, g3', if_neg]
      exact hF N3 (gl_w (E2.trans (g1_l e3))) ff
  · intro N2 e2 f2 w36
    simp (disch := omega) only [lAdd, addL, lMul, mulL, nMul, nI_add, subL, lSub, nSub, nDec, nCl, lCl, nVp, lVp, nLe, nLt, nEq, lLe, leL, lLt, ltL, eqL, lEq, nM1, nM2, litLt0, one01, zero01, oneNe0, xupE, xupA, xupK, xI_I, xS_I, xF_I, xJ_I, xI_R, xS_R, xF_R, xJ_R, xI_L, xS_L, xF_L, xJ_L, xcat_s, le46, ge16, or_true, true_or, false_or, or_false, eq_self, Option.toList_some, Option.toList_none, List.cons_append, List.nil_append, true_and, and_true, not_false_eq_true, not_true_eq_false, if_true, if_false]
    exact tf143 f2 (hF N2 (gl_w (E1.trans (e2.mono (fun a k q => by unfold gl gx at q; unfold gl gx; omega) (fun _ _ q => q) (fun _ _ q => q)))) f2)
theorem r_law_if (hm : MT n c m) (hcm : cm = lo + 420 ∧ cm ≤ 840) (hbm : bm = b00 + 130 ∧ bm ≤ 260) (hlw : lw < 4) (hsd : sd < 2) (h19 : xI M0 439 19 = nI sd) (hp : b00 ≤ p) (hlo : lo ≤ cs)
    (hQ : ∀ (M' : XM) (t' q c1 : Nat) (l' : YL), E3 (gw p bm cs cm (4 * sd + lw)) noF noF M0 M' → LE n c m O M' t0 tk fd lw cm lo cs p sd b00 X W t' q c1 l' → Q none M') (hF : ∀ M' : XM, E3 (gw p bm cs cm (4 * sd + lw)) noF noF M0 M' → FA O M' → Q none M') :
    ∀ (f ifs : Nat) (M : XM) (t cd sk : Nat) (l : YL) (zf : Nat → Nat), ifs + f = 4 → RA n c m O M t ((5, tk, fd, ifs, 0, 4), X, (W, lw, l, (0, zf), sk)) → xI M 439 36 = nI (p + ifs) → xI M 439 42 = nI cd → xI M 439 12 = nI 0 → BL (xI M) l.2 lo cd p ifs l.1 → cs ≤ cd → cd + 420 ≤ cm + t → l.1 + 2 ≤ t → 4 * (p + ifs) + 2 ≤ t + 4 * b00 → t0 ≤ t → E3 (gl p bm cs cm) noF noF M0 M →
      RG xprog 105 12 [some (.ref 439), some (.int (nI lw)), some (.int (nI p)), some (.int (nI ifs))] [] M Q := by
  intro f
  induction f with
  | zero =>
    intro ifs M t cd sk l zf hf h h36 h42 h12 bl hcd hc hl hbt ht e0
    have t4 : t ≤ 400 := by have := h.2.2.1; have := hm.1; omega
    have k33 := tkK_le (n := n) (c := c) (j := tpos n c t)
    have ys : yst n c t ((5, tk, fd, ifs, 0, 4), X, (W, lw, l, (0, zf), sk)) = if 5 = 5 ∧ tkK n c (tpos n c t) = 22 then (if 4 ≤ ifs then 2 else 1, ((6, tk, fd, ifs + 1, 0, 10), X, (W, lw, l, (0, zf), sk))) else yunit (tkK n c (tpos n c t)) (tkV n c (tpos n c t)) ((5, tk, fd, ifs, 0, 4), X, (W, lw, l, (0, zf), sk)) := rfl
    have h19' : xI M 439 19 = nI sd := by rw [e0.I (by unfold gl gx; omega)]; exact h19
    rw [B_105_12]
    simp (disch := omega) only [lAdd, addL, lMul, mulL, nMul, nI_add, subL, lSub, nSub, nDec, nCl, lCl, nVp, lVp, nLe, nLt, nEq, lLe, leL, lLt, ltL, eqL, lEq, nM1, nM2, litLt0, one01, zero01, oneNe0, xupE, xupA, xupK, xI_I, xS_I, xF_I, xJ_I, xI_R, xS_R, xF_R, xJ_R, xI_L, xS_L, xF_L, xJ_L, xcat_s, le46, ge16, or_true, true_or, false_or, or_false, eq_self, Option.toList_some, Option.toList_none, List.cons_append, List.nil_append, true_and, and_true, not_false_eq_true, not_true_eq_false, if_true, if_false, h.1.s, h.2.2.2.2.1, if_neg]
    rw [r_is (q := 22) (x := 29) hm h rfl (by omega)]
    by_cases k22 : tkK n c (tpos n c t) = 22
    case neg =>
      rw [if_neg k22]
      simp (disch := omega) only [lAdd, addL, lMul, mulL, nMul, nI_add, subL, lSub, nSub, nDec, nCl, lCl, nVp, lVp, nLe, nLt, nEq, lLe, leL, lLt, ltL, eqL, lEq, nM1, nM2, litLt0, one01, zero01, oneNe0, xupE, xupA, xupK, xI_I, xS_I, xF_I, xJ_I, xI_R, xS_R, xF_R, xJ_R, xI_L, xS_L, xF_L, xJ_L, xcat_s, le46, ge16, or_true, true_or, false_or, or_false, eq_self, Option.toList_some, Option.toList_none, List.cons_append, List.nil_append, true_and, and_true, not_false_eq_true, not_true_eq_false, if_true, if_false, B_105_25, if_pos]
      exact last hm hcm hbm hlw hsd h19' hp hlo hQ hF (by omega) k22 h h36 h42 h12 bl hcd hc hl hbt ht e0
    rw [if_pos ⟨rfl, k22⟩] at ys
    rw [if_pos k22]
    have i4 : ifs = 4 := by omega
    subst i4
    rw [if_pos (by omega)] at ys
    simp (disch := omega) only [lAdd, addL, lMul, mulL, nMul, nI_add, subL, lSub, nSub, nDec, nCl, lCl, nVp, lVp, nLe, nLt, nEq, lLe, leL, lLt, ltL, eqL, lEq, nM1, nM2, litLt0, one01, zero01, oneNe0, xupE, xupA, xupK, xI_I, xS_I, xF_I, xJ_I, xI_R, xS_R, xF_R, xJ_R, xI_L, xS_L, xF_L, xJ_L, xcat_s, le46, ge16, or_true, true_or, false_or, or_false, eq_self, Option.toList_some, Option.toList_none, List.cons_append, List.nil_append, true_and, and_true, not_false_eq_true, not_true_eq_false, if_true, if_false, B_105_25, if_neg, h.1.s]
    refine r_fail2 hm h rfl (by rw [ys]) (by omega) ?_
    intro M1 e1 f1
    have ff := f1
    obtain ⟨s1, f', g2', g3', g4', g5'⟩ := f1
    simp (disch := omega) only [lAdd, addL, lMul, mulL, nMul, nI_add, subL, lSub, nSub, nDec, nCl, lCl, nVp, lVp, nLe, nLt, nEq, lLe, leL, lLt, ltL, eqL, lEq, nM1, nM2, litLt0, one01, zero01, oneNe0, xupE, xupA, xupK, xI_I, xS_I, xF_I, xJ_I, xI_R, xS_R, xF_R, xJ_R, xI_L, xS_L, xF_L, xJ_L, xcat_s, le46, ge16, or_true, true_or, false_or, or_false, eq_self, Option.toList_some, Option.toList_none, List.cons_append, List.nil_append, true_and, and_true, not_false_eq_true, not_true_eq_false, if_true, if_false, B_105_38, s1.s, g3', if_neg]
    exact hF M1 (gl_w (e0.trans (g1_l e1))) ff
  | succ f ih =>
    intro ifs M t cd sk l zf hf h h36 h42 h12 bl hcd hc hl hbt ht e0
    have t4 : t ≤ 400 := by have := h.2.2.1; have := hm.1; omega
    have k33 := tkK_le (n := n) (c := c) (j := tpos n c t)
    have ys : yst n c t ((5, tk, fd, ifs, 0, 4), X, (W, lw, l, (0, zf), sk)) = if 5 = 5 ∧ tkK n c (tpos n c t) = 22 then (if 4 ≤ ifs then 2 else 1, ((6, tk, fd, ifs + 1, 0, 10), X, (W, lw, l, (0, zf), sk))) else yunit (tkK n c (tpos n c t)) (tkV n c (tpos n c t)) ((5, tk, fd, ifs, 0, 4), X, (W, lw, l, (0, zf), sk)) := rfl
    have h19' : xI M 439 19 = nI sd := by rw [e0.I (by unfold gl gx; omega)]; exact h19
    rw [B_105_12]
    simp (disch := omega) only [lAdd, addL, lMul, mulL, nMul, nI_add, subL, lSub, nSub, nDec, nCl, lCl, nVp, lVp, nLe, nLt, nEq, lLe, leL, lLt, ltL, eqL, lEq, nM1, nM2, litLt0, one01, zero01, oneNe0, xupE, xupA, xupK, xI_I, xS_I, xF_I, xJ_I, xI_R, xS_R, xF_R, xJ_R, xI_L, xS_L, xF_L, xJ_L, xcat_s, le46, ge16, or_true, true_or, false_or, or_false, eq_self, Option.toList_some, Option.toList_none, List.cons_append, List.nil_append, true_and, and_true, not_false_eq_true, not_true_eq_false, if_true, if_false, h.1.s, h.2.2.2.2.1, if_neg]
    rw [r_is (q := 22) (x := 29) hm h rfl (by omega)]
    by_cases k22 : tkK n c (tpos n c t) = 22
    case neg =>
      rw [if_neg k22]
      simp (disch := omega) only [lAdd, addL, lMul, mulL, nMul, nI_add, subL, lSub, nSub, nDec, nCl, lCl, nVp, lVp, nLe, nLt, nEq, lLe, leL, lLt, ltL, eqL, lEq, nM1, nM2, litLt0, one01, zero01, oneNe0, xupE, xupA, xupK, xI_I, xS_I, xF_I, xJ_I, xI_R, xS_R, xF_R, xJ_R, xI_L, xS_L, xF_L, xJ_L, xcat_s, le46, ge16, or_true, true_or, false_or, or_false, eq_self, Option.toList_some, Option.toList_none, List.cons_append, List.nil_append, true_and, and_true, not_false_eq_true, not_true_eq_false, if_true, if_false, B_105_25, if_pos]
      exact last hm hcm hbm hlw hsd h19' hp hlo hQ hF (by omega) k22 h h36 h42 h12 bl hcd hc hl hbt ht e0
    rw [if_pos ⟨rfl, k22⟩] at ys
    rw [if_pos k22]
    rw [if_neg (by omega)] at ys
    simp (disch := omega) only [lAdd, addL, lMul, mulL, nMul, nI_add, subL, lSub, nSub, nDec, nCl, lCl, nVp, lVp, nLe, nLt, nEq, lLe, leL, lLt, ltL, eqL, lEq, nM1, nM2, litLt0, one01, zero01, oneNe0, xupE, xupA, xupK, xI_I, xS_I, xF_I, xJ_I, xI_R, xS_R, xF_R, xJ_R, xI_L, xS_L, xF_L, xJ_L, xcat_s, le46, ge16, or_true, true_or, false_or, or_false, eq_self, Option.toList_some, Option.toList_none, List.cons_append, List.nil_append, true_and, and_true, not_false_eq_true, not_true_eq_false, if_true, if_false, B_105_25, if_neg, if_pos, h.1.s, B_105_38, h.2.2.2.2.1]
    refine r_goesOn hm h (by rw [ys]) (by omega) ?_ ?_
    · intro M1 e1 a1
      rw [ys] at a1
      simp (disch := omega) only [lAdd, addL, lMul, mulL, nMul, nI_add, subL, lSub, nSub, nDec, nCl, lCl, nVp, lVp, nLe, nLt, nEq, lLe, leL, lLt, ltL, eqL, lEq, nM1, nM2, litLt0, one01, zero01, oneNe0, xupE, xupA, xupK, xI_I, xS_I, xF_I, xJ_I, xI_R, xS_R, xF_R, xJ_R, xI_L, xS_L, xF_L, xJ_L, xcat_s, le46, ge16, or_true, true_or, false_or, or_false, eq_self, Option.toList_some, Option.toList_none, List.cons_append, List.nil_append, true_and, and_true, not_false_eq_true, not_true_eq_false, if_true, if_false]
      refine r_branch (cm := cm) (c0 := cd) (b := p + ifs) (b0 := p) (bm := bm) hm hcm.2 a1 (by rw [e1.I (by unfold g1; omega)]; exact h36) (by rw [e1.I (by unfold g1; omega)]; exact h42) (by rw [e1.I (by unfold g1; omega)]; exact h12) (by omega) (by omega) (by omega) ?_ ?_
      · intro M2 t2 l2 zf2 sk2 c2 e2 a2 i36 i42 i12 pre hc2 br hl2 hc3 ht2
        refine ih (ifs + 1) M2 t2 c2 sk2 l2 zf2 (by omega) a2 i36 i42 i12 ⟨l.1, ?_, ?_⟩ (by omega) hc3 hl2 (by omega) (by omega) ((e0.trans (g1_l e1)).trans (gb_l (by omega) hcd e2))
        · refine BL.c hc2 (fun k hk => ⟨?_, ?_⟩) ifs l.1 (fun r j h1 h2 h3 => ?_) pre bl
          · rw [e2.I (by unfold gb gx; omega), e1.I (by unfold g1; omega)]
          · rw [e2.I (by unfold gb gx; omega), e1.I (by unfold g1; omega)]
          · rw [e2.I (by unfold gb gx; omega), e1.I (by unfold g1; omega)]
        · exact br.lo (by omega)
      · intro M2 e2 f2
        exact hF M2 (gl_w ((e0.trans (g1_l e1)).trans (e2.mono (fun a k q => by unfold gl gx at q; unfold gl gx; omega) (fun _ _ q => q) (fun _ _ q => q)))) f2
    · intro M1 e1 f1
      simp (disch := omega) only [lAdd, addL, lMul, mulL, nMul, nI_add, subL, lSub, nSub, nDec, nCl, lCl, nVp, lVp, nLe, nLt, nEq, lLe, leL, lLt, ltL, eqL, lEq, nM1, nM2, litLt0, one01, zero01, oneNe0, xupE, xupA, xupK, xI_I, xS_I, xF_I, xJ_I, xI_R, xS_R, xF_R, xJ_R, xI_L, xS_L, xF_L, xJ_L, xcat_s, le46, ge16, or_true, true_or, false_or, or_false, eq_self, Option.toList_some, Option.toList_none, List.cons_append, List.nil_append, true_and, and_true, not_false_eq_true, not_true_eq_false, if_true, if_false]
      refine tf53 (b := p + ifs) (b0 := p) (bm := bm) (c0 := cs) (cm := cm) f1 (by rw [e1.I (by unfold g1; omega)]; exact h36) (by omega) fun M2 e2 f2 => hF M2 (gl_w ((e0.trans (g1_l e1)).trans e2)) f2
theorem r_tellLaw {ifs t cd sk k : Nat} {M : XM} {l : YL} {zf : Nat → Nat} (hm : MT n c m) (hcm : cm = lo + 420 ∧ cm ≤ 840) (hbm : bm = b00 + 130 ∧ bm ≤ 260) (hlw : lw < 4) (hsd : sd < 2) (h19 : xI M 439 19 = nI sd) (hp : b00 ≤ p) (hlo : lo ≤ cd) (h : RA n c m O M t ((4, tk, fd, 0, 0, 4), X, (W, lw, l, (0, zf), sk))) (l0 : l.1 = 0) (h36 : xI M 439 36 = nI p) (h42 : xI M 439 42 = nI cd) (h12 : xI M 439 12 = nI 0) (t1 : 1 ≤ t) (hc : cd + 420 ≤ cm + t) (hbt : 4 * p + 1 ≤ t + 4 * b00)
    (hQ : ∀ (M' : XM) (t' q c1 : Nat) (l' : YL), E3 (gw p bm cd cm (4 * sd + lw)) noF noF M M' → LE n c m O M' t tk fd lw cm lo cd p sd b00 X W t' q c1 l' → Q none M') (hF : ∀ M' : XM, E3 (gw p bm cd cm (4 * sd + lw)) noF noF M M' → FA O M' → Q none M') :
      RG xprog 105 0 [some (.ref 439), some (.int (nI lw)), none, none] [] M Q := by
  have t4 : t ≤ 400 := by have := h.2.2.1; have := hm.1; omega
  have ys : yst n c t ((4, tk, fd, 0, 0, 4), X, (W, lw, l, (0, zf), sk)) = (if tkK n c (tpos n c t) = 5 then 1 else 0, ((5, tk, fd, 0, 0, 4), X, (W, lw, l, (0, zf), sk))) := rfl
  rw [B_105_0, h.1.s.1]
  refine ⟨rfl, ?_⟩
  refine r_must (q := 5) hm h rfl (by omega) (by omega) (fun q => by rw [ys]; exact if_pos q) (fun q => by rw [ys]; exact if_neg q) ?_ ?_
  · intro M1 e1 k1 a1
    rw [ys] at a1
    have i36 : xI M1 439 36 = nI p := by rw [e1.I (by unfold g1; omega)]; exact h36
    simp (disch := omega) only [lAdd, addL, lMul, mulL, nMul, nI_add, subL, lSub, nSub, nDec, nCl, lCl, nVp, lVp, nLe, nLt, nEq, lLe, leL, lLt, ltL, eqL, lEq, nM1, nM2, litLt0, one01, zero01, oneNe0, xupE, xupA, xupK, xI_I, xS_I, xF_I, xJ_I, xI_R, xS_R, xF_R, xJ_R, xI_L, xS_L, xF_L, xJ_L, xcat_s, le46, ge16, or_true, true_or, false_or, or_false, eq_self, Option.toList_some, Option.toList_none, List.cons_append, List.nil_append, true_and, and_true, not_false_eq_true, not_true_eq_false, if_true, if_false, B_105_5, a1.1.s, i36]
    refine r_law_if (t0 := t) (M0 := M) (cs := cd) (lo := lo) (b00 := b00) (sd := sd) (bm := bm) (cm := cm) hm hcm hbm hlw hsd h19 hp hlo hQ hF 4 0 M1 (t + 1) cd sk l zf (by omega) a1 i36 (by rw [e1.I (by unfold g1; omega)]; exact h42) (by rw [e1.I (by unfold g1; omega)]; exact h12) l0 (Nat.le_refl _) (by omega) (by omega) (by omega) (by omega) (g1_l e1)
  · intro M1 e1 f1
    have i36 : xI M1 439 36 = nI p := by rw [e1.I (by unfold g1; omega)]; exact h36
    simp (disch := omega) only [lAdd, addL, lMul, mulL, nMul, nI_add, subL, lSub, nSub, nDec, nCl, lCl, nVp, lVp, nLe, nLt, nEq, lLe, leL, lLt, ltL, eqL, lEq, nM1, nM2, litLt0, one01, zero01, oneNe0, xupE, xupA, xupK, xI_I, xS_I, xF_I, xJ_I, xI_R, xS_R, xF_R, xJ_R, xI_L, xS_L, xF_L, xJ_L, xcat_s, le46, ge16, or_true, true_or, false_or, or_false, eq_self, Option.toList_some, Option.toList_none, List.cons_append, List.nil_append, true_and, and_true, not_false_eq_true, not_true_eq_false, if_true, if_false, B_105_5, f1.1.s, i36]
    refine tf12 (b := p) (b0 := p) (bm := bm) (c0 := cd) (cm := cm) f1 i36 (by omega) fun M2 e2 f2 => hF M2 (gl_w ((g1_l e1).trans e2)) f2
end XRJ
