/-! the reference's reading: an expression -/
section XRF
variable {n : Nat} {c : Nat → Nat} {m : Nat} {O : Nat × Int32 × YS} {Q : Option Value → XM → Prop} {tk fd ifs pe lw sk c0 l0 cm t0 : Nat} {X : YX} {W : Nat → YL} {M0 : XM} {sb : Nat → Int32}
/-- all that an expression in the making keeps -/
def JX (sb : Nat → Int32) (c0 l0 cm : Nat) (M : XM) (t : Nat) (l : YL) (z : Nat × (Nat → Nat)) (ne dd : Nat) : Prop := EX M c0 l0 l z ne ∧ WZ z.2 z.1 ne ∧ PF sb l0 l dd ∧ ne ≤ 6 ∧ l.1 + z.1 + 2 ≤ t ∧ c0 + (l.1 - l0) + z.1 + 420 ≤ cm + t
/-- an expression at its end -/
def XE (sb : Nat → Int32) (n : Nat) (c : Nat → Nat) (m : Nat) (O : Nat × Int32 × YS) (M : XM) (t t0 c0 l0 cm tk fd ifs pe lw sk : Nat) (X : YX) (W : Nat → YL) (l : YL) (z : Nat × (Nat → Nat)) : Prop :=
  RA n c m O M t ((7, tk, fd, ifs, 0, pe), X, (W, lw, l, z, sk)) ∧ (yrel 1 z.2 z.1 l).1 = 0 ∧ SG M c0 l0 (yrel 1 z.2 z.1 l).2 ∧ PF sb l0 (yrel 1 z.2 z.1 l).2 1 ∧ (yrel 1 z.2 z.1 l).2.1 + 2 ≤ t ∧ c0 + ((yrel 1 z.2 z.1 l).2.1 - l0) + 420 ≤ cm + t ∧ t0 < t ∧ ¬ (6 ≤ tkK n c (tpos n c t) ∧ tkK n c (tpos n c t) ≤ 9) ∧ xI M 439 12 = nI 0
theorem WZ.n20 {z : Nat → Nat} {k ne : Nat} (h : WZ z k ne) (hn : ne ≤ 6) : k ≤ 20 ∧ k ≤ 3 * ne + 2 ∧ (lev z k = 0 → k ≤ 3 * ne) ∧ (lev z k ≤ 1 → k ≤ 3 * ne + 1) ∧ ne ≤ k := by
  obtain ⟨a1, a2, a3⟩ := lev_sz z k h.2.1
  have := zb_le z k
  rw [h.2.2] at a1 a2 a3 this
  exact ⟨by omega, a1, a2, fun q => a3 (by omega), this⟩
theorem r_expr_loop (hm : MT n c m) (hcm : cm ≤ 840)
    (hQ : ∀ (M' : XM) (t' : Nat) (l : YL) (z : Nat × (Nat → Nat)), E3 (gx c0 cm) noF noF M0 M' → XE sb n c m O M' t' t0 c0 l0 cm tk fd ifs pe lw sk X W l z → Q none M') (hF : ∀ M' : XM, E3 (gx c0 cm) noF noF M0 M' → FA O M' → Q none M') :
    ∀ f : Nat, (∀ (st ne : Nat) (l : YL) (z : Nat × (Nat → Nat)) (M : XM) (t : Nat), t + f = 401 → (st = 6 ∨ (st = 5 ∧ ¬ tkK n c (tpos n c t) = 22)) → RA n c m O M t ((st, tk, fd, ifs, ne, pe), X, (W, lw, l, z, sk)) → JX sb c0 l0 cm M t l z ne (z.1 - ne) → t0 ≤ t → E3 (gx c0 cm) noF noF M0 M → RG xprog 103 23 [some (.ref 439), some (.int 0), some (.int 1)] [] M Q) ∧
      (∀ (ne : Nat) (l : YL) (z : Nat × (Nat → Nat)) (M : XM) (t : Nat), t + f = 401 → RA n c m O M t ((7, tk, fd, ifs, ne, pe), X, (W, lw, l, z, sk)) → JX sb c0 l0 cm M t l z ne (z.1 - ne + 1) → t0 < t → E3 (gx c0 cm) noF noF M0 M → RG xprog 103 96 [some (.ref 439), some (.int 0), some (.int 1)] [] M Q) := by
  intro f
  induction f with
  | zero =>
    refine ⟨fun st ne l z M t ht _ h => ?_, fun ne l z M t ht h => ?_⟩
    · have := h.2.2.1; have := hm.1; omega
    · have := h.2.2.1; have := hm.1; omega
  | succ f ih =>
    obtain ⟨ih1, ih2⟩ := ih
    constructor
    · intro st ne l z M t ht hst h jx h0 e0
      obtain ⟨ex, wz, pf, n6, b1, b2⟩ := jx
      have t4 : t ≤ 400 := by have := h.2.2.1; have := hm.1; omega
      obtain ⟨z20, z32, zl0, _, zne⟩ := wz.n20 n6
      have l0l := ex.1.1
      rw [B_103_23, h.1.s.1]
      refine ⟨rfl, ?_⟩
      rw [r_is (q := 11) (x := 6) hm h rfl (by omega)]
      by_cases k11 : tkK n c (tpos n c t) = 11
      · rw [if_pos k11]
        have ys := yst_unit (n := n) (c := c) (t := t) (tk := tk) (fd := fd) (ifs := ifs) (ne := ne) (pe := pe) (X := X) (W := W) (lw := lw) (l := l) (z := z) (sk := sk) hst
        unfold yunit at ys
        dsimp only at ys
        rw [if_pos k11] at ys
        simp (disch := omega) only [lAdd, addL, lMul, mulL, nMul, nI_add, subL, lSub, nSub, nDec, nCl, lCl, nVp, lVp, nLe, nLt, nEq, lLe, leL, lLt, ltL, eqL, lEq, nM1, nM2, litLt0, one01, zero01, oneNe0, xupE, xupA, xupK, xI_I, xS_I, xF_I, xJ_I, xI_R, xS_R, xF_R, xJ_R, xI_L, xS_L, xF_L, xJ_L, xcat_s, le46, ge16, or_true, true_or, false_or, or_false, eq_self, Option.toList_some, Option.toList_none, List.cons_append, List.nil_append, true_and, and_true, not_false_eq_true, not_true_eq_false, if_true, if_false, B_103_29, h.1.s, ex.2.2.2, if_neg]
        by_cases y6 : ne = 6
        · rw [if_neg (fun q => q y6)]
          rw [if_pos (by omega)] at ys
          refine r_fail2 hm h rfl (by rw [ys]) (by omega) ?_
          intro M1 e1 f1
          simp (disch := omega) only [lAdd, addL, lMul, mulL, nMul, nI_add, subL, lSub, nSub, nDec, nCl, lCl, nVp, lVp, nLe, nLt, nEq, lLe, leL, lLt, ltL, eqL, lEq, nM1, nM2, litLt0, one01, zero01, oneNe0, xupE, xupA, xupK, xI_I, xS_I, xF_I, xJ_I, xI_R, xS_R, xF_R, xJ_R, xI_L, xS_L, xF_L, xJ_L, xcat_s, le46, ge16, or_true, true_or, false_or, or_false, eq_self, Option.toList_some, Option.toList_none, List.cons_append, List.nil_append, true_and, and_true, not_false_eq_true, not_true_eq_false, if_true, if_false]
          refine fa46 (c0 := c0) (cm := cm) f1 (by rw [e1.I (by unfold g1; omega)]; exact ex.2.1) (by omega) ?_
          intro M2 e2 f2
          exact hF M2 ((e0.trans (g1_x e1)).trans e2) f2
        · rw [if_pos y6]
          rw [if_neg (by omega)] at ys
          have yo : yoff z 11 = (z.1 + 1, xone z.2 z.1 11) := if_pos (by omega)
          rw [yo] at ys
          rw [B_103_46]
          simp (disch := omega) only [lAdd, addL, lMul, mulL, nMul, nI_add, subL, lSub, nSub, nDec, nCl, lCl, nVp, lVp, nLe, nLt, nEq, lLe, leL, lLt, ltL, eqL, lEq, nM1, nM2, litLt0, one01, zero01, oneNe0, xupE, xupA, xupK, xI_I, xS_I, xF_I, xJ_I, xI_R, xS_R, xF_R, xJ_R, xI_L, xS_L, xF_L, xJ_L, xcat_s, le46, ge16, or_true, true_or, false_or, or_false, eq_self, Option.toList_some, Option.toList_none, List.cons_append, List.nil_append, true_and, and_true, not_false_eq_true, not_true_eq_false, if_true, if_false, h.1.s, ex.2.2.2]
          have e1 : E3 (fun a k => a = 439 ∧ k = 12) noF noF M (xmI M 439 12 (nI (ne + 1))) := (E3.refl _ _ _ _).wI _ ⟨rfl, rfl⟩
          have e1x : E3 (gx c0 cm) noF noF M (xmI M 439 12 (nI (ne + 1))) := e1.mono (fun a k q => by unfold gx; omega) (fun _ _ q => q) (fun _ _ q => q)
          have a1 := h.e3 e1 (fun a k q => by omega) (fun _ _ q => absurd q id)
          refine r_goesOn hm a1 (by rw [ys]) (by omega) ?_ ?_
          · intro M2 e2 a2
            rw [ys] at a2
            have w2 : xI M2 439 46 = nI z.1 := by rw [e2.I (by unfold g1; omega), e1.I (by omega)]; exact ex.2.1
            simp (disch := omega) only [lAdd, addL, lMul, mulL, nMul, nI_add, subL, lSub, nSub, nDec, nCl, lCl, nVp, lVp, nLe, nLt, nEq, lLe, leL, lLt, ltL, eqL, lEq, nM1, nM2, litLt0, one01, zero01, oneNe0, xupE, xupA, xupK, xI_I, xS_I, xF_I, xJ_I, xI_R, xS_R, xF_R, xJ_R, xI_L, xS_L, xF_L, xJ_L, xcat_s, le46, ge16, or_true, true_or, false_or, or_false, eq_self, Option.toList_some, Option.toList_none, List.cons_append, List.nil_append, true_and, and_true, not_false_eq_true, not_true_eq_false, if_true, if_false, B_103_60, a2.1.s, a2.1.f, w2, B_103_81]
            have e3 : E3 (fun a k => a = 469 ∨ (a = 439 ∧ k = 46)) noF noF M2 (xmI (xmI M2 469 z.1 6) 439 46 (nI (z.1 + 1))) := ((E3.refl _ _ _ _).wI _ (Or.inl rfl)).wI _ (Or.inr ⟨rfl, rfl⟩)
            have e3x : E3 (gx c0 cm) noF noF M2 (xmI (xmI M2 469 z.1 6) 439 46 (nI (z.1 + 1))) := e3.mono (fun a k q => by unfold gx; omega) (fun _ _ q => q) (fun _ _ q => q)
            have wp := wz.push (k := 11) (Or.inr rfl) (Or.inl rfl)
            rw [if_pos rfl] at wp
            have sg : SG (xmI (xmI M2 469 z.1 6) 439 46 (nI (z.1 + 1))) c0 l0 l := ((ex.1.e3 e1 (fun a k q => by omega)).e3 e2 (fun a k q => by unfold g1 at q; omega)).e3 e3 (fun a k q => by omega)
            refine ih1 6 (ne + 1) l (z.1 + 1, xone z.2 z.1 11) _ (t + 1) (by omega) (Or.inl rfl) (a2.e3 e3 (fun a k q => by omega) (fun _ _ q => absurd q id)) ⟨⟨sg, by simp (disch := omega) only [lAdd, addL, lMul, mulL, nMul, nI_add, subL, lSub, nSub, nDec, nCl, lCl, nVp, lVp, nLe, nLt, nEq, lLe, leL, lLt, ltL, eqL, lEq, nM1, nM2, litLt0, one01, zero01, oneNe0, xupE, xupA, xupK, xI_I, xS_I, xF_I, xJ_I, xI_R, xS_R, xF_R, xJ_R, xI_L, xS_L, xF_L, xJ_L, xcat_s, le46, ge16, or_true, true_or, false_or, or_false, eq_self, Option.toList_some, Option.toList_none, List.cons_append, List.nil_append, true_and, and_true, not_false_eq_true, not_true_eq_false, if_true, if_false], fun i hi => ?_, ?_⟩, wp, ?_, by omega, by show l.1 + (z.1 + 1) + 2 ≤ t + 1; omega, by show c0 + (l.1 - l0) + (z.1 + 1) + 420 ≤ cm + (t + 1); omega⟩ (by omega) (((e0.trans e1x).trans (g1_x e2)).trans e3x)
            · have hi' : i < z.1 + 1 := hi
              show xI (xmI (xmI M2 469 z.1 6) 439 46 (nI (z.1 + 1))) 469 i = nI (k2r (xone z.2 z.1 11 i))
              rw [xI_I, xupA _ _ _ _ (by omega), xI_I]
              by_cases q : i = z.1
              · rw [q, xupE, xone_s]; rfl
              · rw [xupK _ _ q, xone_n _ _ q, e2.I (by unfold g1; omega), e1.I (by omega)]; exact ex.2.2.1 i (by omega)
            · rw [e3.I (by omega), e2.I (by unfold g1; omega), xI_I, xupE]
            · show PF sb l0 l (z.1 + 1 - (ne + 1))
              rw [show z.1 + 1 - (ne + 1) = z.1 - ne by omega]; exact pf
          · intro M2 e2 f2
            simp (disch := omega) only [lAdd, addL, lMul, mulL, nMul, nI_add, subL, lSub, nSub, nDec, nCl, lCl, nVp, lVp, nLe, nLt, nEq, lLe, leL, lLt, ltL, eqL, lEq, nM1, nM2, litLt0, one01, zero01, oneNe0, xupE, xupA, xupK, xI_I, xS_I, xF_I, xJ_I, xI_R, xS_R, xF_R, xJ_R, xI_L, xS_L, xF_L, xJ_L, xcat_s, le46, ge16, or_true, true_or, false_or, or_false, eq_self, Option.toList_some, Option.toList_none, List.cons_append, List.nil_append, true_and, and_true, not_false_eq_true, not_true_eq_false, if_true, if_false]
            refine fa60 (c0 := c0) (cm := cm) f2 (by rw [e2.I (by unfold g1; omega), e1.I (by omega)]; exact ex.2.1) (by omega) ?_
            intro M3 e3 f3
            exact hF M3 (((e0.trans e1x).trans (g1_x e2)).trans e3) f3
      · rw [if_neg k11]
        simp (disch := omega) only [lAdd, addL, lMul, mulL, nMul, nI_add, subL, lSub, nSub, nDec, nCl, lCl, nVp, lVp, nLe, nLt, nEq, lLe, leL, lLt, ltL, eqL, lEq, nM1, nM2, litLt0, one01, zero01, oneNe0, xupE, xupA, xupK, xI_I, xS_I, xF_I, xJ_I, xI_R, xS_R, xF_R, xJ_R, xI_L, xS_L, xF_L, xJ_L, xcat_s, le46, ge16, or_true, true_or, false_or, or_false, eq_self, Option.toList_some, Option.toList_none, List.cons_append, List.nil_append, true_and, and_true, not_false_eq_true, not_true_eq_false, if_true, if_false, B_103_29, h.1.s, if_pos]
        refine r_unit (cm := cm) hm hst h ex k11 (by omega) (by omega) hcm ?_ ?_
        · intro M1 x e1 hx a1 ex1
          simp (disch := omega) only [lAdd, addL, lMul, mulL, nMul, nI_add, subL, lSub, nSub, nDec, nCl, lCl, nVp, lVp, nLe, nLt, nEq, lLe, leL, lLt, ltL, eqL, lEq, nM1, nM2, litLt0, one01, zero01, oneNe0, xupE, xupA, xupK, xI_I, xS_I, xF_I, xJ_I, xI_R, xS_R, xF_R, xJ_R, xI_L, xS_L, xF_L, xJ_L, xcat_s, le46, ge16, or_true, true_or, false_or, or_false, eq_self, Option.toList_some, Option.toList_none, List.cons_append, List.nil_append, true_and, and_true, not_false_eq_true, not_true_eq_false, if_true, if_false, B_103_88, a1.1.s, a1.2.2.2.2.1, if_pos]
          have ya : (yadd l x).1 = l.1 + 1 := by rw [yadd_l (by omega)]
          exact ih2 ne (yadd l x) z M1 (t + 1) (by omega) a1 ⟨ex1, wz, pf.unit (by omega) hx (by omega), n6, by omega, by omega⟩ (by omega) (e0.trans e1)
        · intro M1 e1 f1
          obtain ⟨s1, f, h2, h3, h4, h5⟩ := f1
          simp (disch := omega) only [lAdd, addL, lMul, mulL, nMul, nI_add, subL, lSub, nSub, nDec, nCl, lCl, nVp, lVp, nLe, nLt, nEq, lLe, leL, lLt, ltL, eqL, lEq, nM1, nM2, litLt0, one01, zero01, oneNe0, xupE, xupA, xupK, xI_I, xS_I, xF_I, xJ_I, xI_R, xS_R, xF_R, xJ_R, xI_L, xS_L, xF_L, xJ_L, xcat_s, le46, ge16, or_true, true_or, false_or, or_false, eq_self, Option.toList_some, Option.toList_none, List.cons_append, List.nil_append, true_and, and_true, not_false_eq_true, not_true_eq_false, if_true, if_false, B_103_88, s1.s, h3, if_neg]
          exact hF M1 (e0.trans e1) ⟨s1, f, h2, h3, h4, h5⟩
    · intro ne l z M t ht h jx h0 e0
      obtain ⟨ex, wz, pf, n6, b1, b2⟩ := jx
      have t4 : t ≤ 400 := by have := h.2.2.1; have := hm.1; omega
      obtain ⟨z20, z32, zl0, _, zne⟩ := wz.n20 n6
      have l0l := ex.1.1
      have k33 := tkK_le (n := n) (c := c) (j := tpos n c t)
      have ys := yst_7 (n := n) (c := c) (t := t) (tk := tk) (fd := fd) (ifs := ifs) (ne := ne) (pe := pe) (X := X) (W := W) (lw := lw) (l := l) (z := z) (sk := sk)
      unfold ybeh at ys
      dsimp only at ys
      have e145 : ¬ (tkK n c (tpos n c t) = 12 ∧ 0 < ne) → RG xprog 103 145 [some (.ref 439), some (.int 0), some (.int 1)] [] M Q := by
        intro n12
        obtain ⟨w1, w2⟩ := yrel_wz (lr := 1) (by omega) z.1 l wz
        obtain ⟨p1, p2, p3⟩ := yrel_pf (sb := sb) (l0 := l0) (lr := 1) (by omega) z.1 l wz pf (by omega)
        have nop : ¬ (6 ≤ tkK n c (tpos n c t) ∧ tkK n c (tpos n c t) ≤ 9) → RG xprog 103 186 [some (.ref 439), some (.int 0), some (.int 1)] [.int 0] M Q := by
          intro q
          rw [if_neg q, if_neg n12] at ys
          rw [B_103_186]
          simp (disch := omega) only [lAdd, addL, lMul, mulL, nMul, nI_add, subL, lSub, nSub, nDec, nCl, lCl, nVp, lVp, nLe, nLt, nEq, lLe, leL, lLt, ltL, eqL, lEq, nM1, nM2, litLt0, one01, zero01, oneNe0, xupE, xupA, xupK, xI_I, xS_I, xF_I, xJ_I, xI_R, xS_R, xF_R, xJ_R, xI_L, xS_L, xF_L, xJ_L, xcat_s, le46, ge16, or_true, true_or, false_or, or_false, eq_self, Option.toList_some, Option.toList_none, List.cons_append, List.nil_append, true_and, and_true, not_false_eq_true, not_true_eq_false, if_true, if_false, h.1.s, ex.2.2.2, if_neg]
          by_cases y0 : ne ≤ 0
          · rw [if_pos y0]
            have ne0 : ne = 0 := by omega
            subst ne0
            rw [B_103_204, h.1.s.1]
            refine ⟨rfl, ?_⟩
            refine r_comesOut (lr := 1) (ne := 0) (Or.inl ⟨rfl, rfl⟩) hcm z.1 l z.2 M _ h.1 ex wz.1 (by omega) (by omega) (by omega) ?_
            intro M1 e1 x1
            simp (disch := omega) only [lAdd, addL, lMul, mulL, nMul, nI_add, subL, lSub, nSub, nDec, nCl, lCl, nVp, lVp, nLe, nLt, nEq, lLe, leL, lLt, ltL, eqL, lEq, nM1, nM2, litLt0, one01, zero01, oneNe0, xupE, xupA, xupK, xI_I, xS_I, xF_I, xJ_I, xI_R, xS_R, xF_R, xJ_R, xI_L, xS_L, xF_L, xJ_L, xcat_s, le46, ge16, or_true, true_or, false_or, or_false, eq_self, Option.toList_some, Option.toList_none, List.cons_append, List.nil_append, true_and, and_true, not_false_eq_true, not_true_eq_false, if_true, if_false, B_103_209]
            have lv0 := (w1.n20 n6).2.2.1 (lev_1 w2)
            have y0 : (yrel 1 z.2 z.1 l).1 = 0 := by omega
            rw [y0] at p1
            exact hQ M1 t l z (e0.trans (go_x e1)) ⟨h.e3 e1 (fun a k q => by unfold go at q; omega) (fun _ _ q => absurd q id), y0, x1.1, p1, by omega, by omega, h0, q, x1.2.2.2⟩
          · rw [if_neg y0]
            rw [if_neg (by omega)] at ys
            refine r_fail0 hm h rfl (by rw [ys]) ?_
            intro M1 e1 f1
            simp (disch := omega) only [lAdd, addL, lMul, mulL, nMul, nI_add, subL, lSub, nSub, nDec, nCl, lCl, nVp, lVp, nLe, nLt, nEq, lLe, leL, lLt, ltL, eqL, lEq, nM1, nM2, litLt0, one01, zero01, oneNe0, xupE, xupA, xupK, xI_I, xS_I, xF_I, xJ_I, xI_R, xS_R, xF_R, xJ_R, xI_L, xS_L, xF_L, xJ_L, xcat_s, le46, ge16, or_true, true_or, false_or, or_false, eq_self, Option.toList_some, Option.toList_none, List.cons_append, List.nil_append, true_and, and_true, not_false_eq_true, not_true_eq_false, if_true, if_false]
            refine fa204 (cm := cm) f1 (ex.gg e1) wz.1 (by omega) hcm (by omega) (by omega) ?_
            intro M2 e2 f2
            exact hF M2 ((e0.trans (g1_x e1)).trans e2) f2
        have op : 6 ≤ tkK n c (tpos n c t) ∧ tkK n c (tpos n c t) ≤ 9 → RG xprog 103 186 [some (.ref 439), some (.int 0), some (.int 1)] [.int 1] M Q := by
          intro q
          rw [if_pos q] at ys
          have out : ∀ x : Int32, ((yrk (tkK n c (tpos n c t)) = 1 ∧ x = 0) ∨ (yrk (tkK n c (tpos n c t)) = 2 ∧ x = 1)) → RG xprog 103 234 [some (.ref 439), some (.int 0), some (.int 1)] [.int x, .ref 439] M Q := by
            intro x hx
            have r1 : 1 ≤ yrk (tkK n c (tpos n c t)) := by omega
            obtain ⟨v1, v2⟩ := yrel_wz (lr := yrk (tkK n c (tpos n c t))) r1 z.1 l wz
            obtain ⟨q1, q2, q3⟩ := yrel_pf (sb := sb) (l0 := l0) (lr := yrk (tkK n c (tpos n c t))) r1 z.1 l wz pf (by omega)
            rw [B_103_234]
            simp (disch := omega) only [lAdd, addL, lMul, mulL, nMul, nI_add, subL, lSub, nSub, nDec, nCl, lCl, nVp, lVp, nLe, nLt, nEq, lLe, leL, lLt, ltL, eqL, lEq, nM1, nM2, litLt0, one01, zero01, oneNe0, xupE, xupA, xupK, xI_I, xS_I, xF_I, xJ_I, xI_R, xS_R, xF_R, xJ_R, xI_L, xS_L, xF_L, xJ_L, xcat_s, le46, ge16, or_true, true_or, false_or, or_false, eq_self, Option.toList_some, Option.toList_none, List.cons_append, List.nil_append, true_and, and_true, not_false_eq_true, not_true_eq_false, if_true, if_false, h.1.s]
            refine r_comesOut (lr := yrk (tkK n c (tpos n c t))) (ne := ne) hx hcm z.1 l z.2 M _ h.1 ex wz.1 (by omega) (by omega) (by omega) ?_
            intro M1 e1 x1
            have hp : ∀ y : Nat × YL, yrel (yrk (tkK n c (tpos n c t))) z.2 z.1 l = y → yop (tkK n c (tpos n c t)) l z = (y.2, yoff (y.1, z.2) (tkK n c (tpos n c t))) := fun y hy => by unfold yop; rw [hy]
            obtain ⟨y, hy⟩ : ∃ y, yrel (yrk (tkK n c (tpos n c t))) z.2 z.1 l = y := ⟨_, rfl⟩
            have hp' := hp y hy
            rw [hy] at v1 v2 q1 q2 q3 x1
            have yn := v1.n20 n6
            have lvl : (tkK n c (tpos n c t) = 11 ∨ (yrk (tkK n c (tpos n c t)) = 1 ∧ lev z.2 y.1 = 0) ∨ (yrk (tkK n c (tpos n c t)) = 2 ∧ lev z.2 y.1 ≤ 1)) ∧ y.1 < 20 := by
              rcases hx with ⟨g1, _⟩ | ⟨g1, _⟩
              · rw [g1] at v2
                have := lev_1 v2
                exact ⟨Or.inr (Or.inl ⟨g1, this⟩), by have := yn.2.2.1 this; omega⟩
              · rw [g1] at v2
                have := lev_2 v1 v2
                exact ⟨Or.inr (Or.inr ⟨g1, this⟩), by have := yn.2.2.2.1 this; omega⟩
            have yo : yoff (y.1, z.2) (tkK n c (tpos n c t)) = (y.1 + 1, xone z.2 y.1 (tkK n c (tpos n c t))) := if_pos lvl.2
            rw [hp', yo] at ys
            have wp := v1.push (k := tkK n c (tpos n c t)) (Or.inl q) lvl.1
            rw [if_neg (by omega)] at wp
            have a1 := h.e3 e1 (fun a k q => by unfold go at q; omega) (fun _ _ q => absurd q id)
            have kd := a1.kind hm
            have c46 : xI M1 439 46 = nI y.1 := x1.2.1
            have kl := k2r_le k33
            simp (disch := omega) only [lAdd, addL, lMul, mulL, nMul, nI_add, subL, lSub, nSub, nDec, nCl, lCl, nVp, lVp, nLe, nLt, nEq, lLe, leL, lLt, ltL, eqL, lEq, nM1, nM2, litLt0, one01, zero01, oneNe0, xupE, xupA, xupK, xI_I, xS_I, xF_I, xJ_I, xI_R, xS_R, xF_R, xJ_R, xI_L, xS_L, xF_L, xJ_L, xcat_s, le46, ge16, or_true, true_or, false_or, or_false, eq_self, Option.toList_some, Option.toList_none, List.cons_append, List.nil_append, true_and, and_true, not_false_eq_true, not_true_eq_false, if_true, if_false, B_103_237, a1.1.s, a1.1.f, a1.2.2.2.1, kd, c46]
            rw [B_103_265]
            simp (disch := omega) only [lAdd, addL, lMul, mulL, nMul, nI_add, subL, lSub, nSub, nDec, nCl, lCl, nVp, lVp, nLe, nLt, nEq, lLe, leL, lLt, ltL, eqL, lEq, nM1, nM2, litLt0, one01, zero01, oneNe0, xupE, xupA, xupK, xI_I, xS_I, xF_I, xJ_I, xI_R, xS_R, xF_R, xJ_R, xI_L, xS_L, xF_L, xJ_L, xcat_s, le46, ge16, or_true, true_or, false_or, or_false, eq_self, Option.toList_some, Option.toList_none, List.cons_append, List.nil_append, true_and, and_true, not_false_eq_true, not_true_eq_false, if_true, if_false, a1.1.s]
            have e2 : E3 (fun a k => a = 469 ∨ (a = 439 ∧ k = 46)) noF noF M1 (xmI (xmI M1 469 y.1 (nI (k2r (tkK n c (tpos n c t))))) 439 46 (nI (y.1 + 1))) := ((E3.refl _ _ _ _).wI _ (Or.inl rfl)).wI _ (Or.inr ⟨rfl, rfl⟩)
            have e2x : E3 (gx c0 cm) noF noF M1 (xmI (xmI M1 469 y.1 (nI (k2r (tkK n c (tpos n c t))))) 439 46 (nI (y.1 + 1))) := e2.mono (fun a k q => by unfold gx; omega) (fun _ _ q => q) (fun _ _ q => q)
            have a2 := a1.e3 e2 (fun a k q => by omega) (fun _ _ q => absurd q id)
            have ex2 : EX (xmI (xmI M1 469 y.1 (nI (k2r (tkK n c (tpos n c t))))) 439 46 (nI (y.1 + 1))) c0 l0 y.2 (y.1 + 1, xone z.2 y.1 (tkK n c (tpos n c t))) ne := by
              refine ⟨x1.1.e3 e2 (fun a k q => by omega), by simp (disch := omega) only [lAdd, addL, lMul, mulL, nMul, nI_add, subL, lSub, nSub, nDec, nCl, lCl, nVp, lVp, nLe, nLt, nEq, lLe, leL, lLt, ltL, eqL, lEq, nM1, nM2, litLt0, one01, zero01, oneNe0, xupE, xupA, xupK, xI_I, xS_I, xF_I, xJ_I, xI_R, xS_R, xF_R, xJ_R, xI_L, xS_L, xF_L, xJ_L, xcat_s, le46, ge16, or_true, true_or, false_or, or_false, eq_self, Option.toList_some, Option.toList_none, List.cons_append, List.nil_append, true_and, and_true, not_false_eq_true, not_true_eq_false, if_true, if_false], fun i hi => ?_, by rw [e2.I (by omega)]; exact x1.2.2.2⟩
              have hi' : i < y.1 + 1 := hi
              show xI (xmI (xmI M1 469 y.1 (nI (k2r (tkK n c (tpos n c t))))) 439 46 (nI (y.1 + 1))) 469 i = nI (k2r (xone z.2 y.1 (tkK n c (tpos n c t)) i))
              rw [xI_I, xupA _ _ _ _ (by omega), xI_I]
              by_cases qi : i = y.1
              · rw [qi, xupE, xone_s]
              · rw [xupK _ _ qi, xone_n _ _ qi]; exact x1.2.2.1 i (by show i < y.1; omega)
            refine r_goesOn hm a2 (by rw [ys]) (by omega) ?_ ?_
            · intro M3 e3 a3
              rw [ys] at a3
              simp (disch := omega) only [lAdd, addL, lMul, mulL, nMul, nI_add, subL, lSub, nSub, nDec, nCl, lCl, nVp, lVp, nLe, nLt, nEq, lLe, leL, lLt, ltL, eqL, lEq, nM1, nM2, litLt0, one01, zero01, oneNe0, xupE, xupA, xupK, xI_I, xS_I, xF_I, xJ_I, xI_R, xS_R, xF_R, xJ_R, xI_L, xS_L, xF_L, xJ_L, xcat_s, le46, ge16, or_true, true_or, false_or, or_false, eq_self, Option.toList_some, Option.toList_none, List.cons_append, List.nil_append, true_and, and_true, not_false_eq_true, not_true_eq_false, if_true, if_false, B_103_269, B_103_12, a3.1.s, a3.2.2.2.2.1, if_neg]
              exact ih1 6 ne y.2 (y.1 + 1, xone z.2 y.1 (tkK n c (tpos n c t))) M3 (t + 1) (by omega) (Or.inl rfl) a3 ⟨ex2.gg e3, wp, by show PF sb l0 y.2 (y.1 + 1 - ne); rw [show y.1 + 1 - ne = y.1 - ne + 1 by omega]; exact q1, n6, by show y.2.1 + (y.1 + 1) + 2 ≤ t + 1; omega, by show c0 + (y.2.1 - l0) + (y.1 + 1) + 420 ≤ cm + (t + 1); omega⟩ (by omega) (((e0.trans (go_x e1)).trans e2x).trans (g1_x e3))
            · intro M3 e3 f3
              obtain ⟨s1, f', h2, h3, h4, h5⟩ := f3
              simp (disch := omega) only [lAdd, addL, lMul, mulL, nMul, nI_add, subL, lSub, nSub, nDec, nCl, lCl, nVp, lVp, nLe, nLt, nEq, lLe, leL, lLt, ltL, eqL, lEq, nM1, nM2, litLt0, one01, zero01, oneNe0, xupE, xupA, xupK, xI_I, xS_I, xF_I, xJ_I, xI_R, xS_R, xF_R, xJ_R, xI_L, xS_L, xF_L, xJ_L, xcat_s, le46, ge16, or_true, true_or, false_or, or_false, eq_self, Option.toList_some, Option.toList_none, List.cons_append, List.nil_append, true_and, and_true, not_false_eq_true, not_true_eq_false, if_true, if_false, B_103_269, B_103_12, s1.s, h3, if_neg, if_pos]
              exact hF M3 (((e0.trans (go_x e1)).trans e2x).trans (g1_x e3)) ⟨s1, f', h2, h3, h4, h5⟩
          rw [B_103_186]
          simp (disch := omega) only [lAdd, addL, lMul, mulL, nMul, nI_add, subL, lSub, nSub, nDec, nCl, lCl, nVp, lVp, nLe, nLt, nEq, lLe, leL, lLt, ltL, eqL, lEq, nM1, nM2, litLt0, one01, zero01, oneNe0, xupE, xupA, xupK, xI_I, xS_I, xF_I, xJ_I, xI_R, xS_R, xF_R, xJ_R, xI_L, xS_L, xF_L, xJ_L, xcat_s, le46, ge16, or_true, true_or, false_or, or_false, eq_self, Option.toList_some, Option.toList_none, List.cons_append, List.nil_append, true_and, and_true, not_false_eq_true, not_true_eq_false, if_true, if_false, h.1.s, if_pos]
          rw [r_is (q := 8) (x := 10) hm h rfl (by omega)]
          by_cases k8 : tkK n c (tpos n c t) = 8
          · rw [if_pos k8]
            simp (disch := omega) only [lAdd, addL, lMul, mulL, nMul, nI_add, subL, lSub, nSub, nDec, nCl, lCl, nVp, lVp, nLe, nLt, nEq, lLe, leL, lLt, ltL, eqL, lEq, nM1, nM2, litLt0, one01, zero01, oneNe0, xupE, xupA, xupK, xI_I, xS_I, xF_I, xJ_I, xI_R, xS_R, xF_R, xJ_R, xI_L, xS_L, xF_L, xJ_L, xcat_s, le46, ge16, or_true, true_or, false_or, or_false, eq_self, Option.toList_some, Option.toList_none, List.cons_append, List.nil_append, true_and, and_true, not_false_eq_true, not_true_eq_false, if_true, if_false, B_103_217, if_pos]
            exact out 1 (Or.inr ⟨by rw [k8]; rfl, rfl⟩)
          · rw [if_neg k8]
            simp (disch := omega) only [lAdd, addL, lMul, mulL, nMul, nI_add, subL, lSub, nSub, nDec, nCl, lCl, nVp, lVp, nLe, nLt, nEq, lLe, leL, lLt, ltL, eqL, lEq, nM1, nM2, litLt0, one01, zero01, oneNe0, xupE, xupA, xupK, xI_I, xS_I, xF_I, xJ_I, xI_R, xS_R, xF_R, xJ_R, xI_L, xS_L, xF_L, xJ_L, xcat_s, le46, ge16, or_true, true_or, false_or, or_false, eq_self, Option.toList_some, Option.toList_none, List.cons_append, List.nil_append, true_and, and_true, not_false_eq_true, not_true_eq_false, if_true, if_false, B_103_217, if_neg, h.1.s]
            rw [r_is (q := 9) (x := 15) hm h rfl (by omega)]
            by_cases k9 : tkK n c (tpos n c t) = 9
            · rw [if_pos k9]
              simp (disch := omega) only [lAdd, addL, lMul, mulL, nMul, nI_add, subL, lSub, nSub, nDec, nCl, lCl, nVp, lVp, nLe, nLt, nEq, lLe, leL, lLt, ltL, eqL, lEq, nM1, nM2, litLt0, one01, zero01, oneNe0, xupE, xupA, xupK, xI_I, xS_I, xF_I, xJ_I, xI_R, xS_R, xF_R, xJ_R, xI_L, xS_L, xF_L, xJ_L, xcat_s, le46, ge16, or_true, true_or, false_or, or_false, eq_self, Option.toList_some, Option.toList_none, List.cons_append, List.nil_append, true_and, and_true, not_false_eq_true, not_true_eq_false, if_true, if_false, B_103_226, if_neg]
              exact out 1 (Or.inr ⟨by rw [k9]; rfl, rfl⟩)
            · rw [if_neg k9]
              simp (disch := omega) only [lAdd, addL, lMul, mulL, nMul, nI_add, subL, lSub, nSub, nDec, nCl, lCl, nVp, lVp, nLe, nLt, nEq, lLe, leL, lLt, ltL, eqL, lEq, nM1, nM2, litLt0, one01, zero01, oneNe0, xupE, xupA, xupK, xI_I, xS_I, xF_I, xJ_I, xI_R, xS_R, xF_R, xJ_R, xI_L, xS_L, xF_L, xJ_L, xcat_s, le46, ge16, or_true, true_or, false_or, or_false, eq_self, Option.toList_some, Option.toList_none, List.cons_append, List.nil_append, true_and, and_true, not_false_eq_true, not_true_eq_false, if_true, if_false, B_103_226, if_pos]
              refine out 0 (Or.inl ⟨?_, rfl⟩)
              have : tkK n c (tpos n c t) = 6 ∨ tkK n c (tpos n c t) = 7 := by omega
              rcases this with q | q <;> rw [q] <;> rfl
        rw [B_103_145, h.1.s.1]
        refine ⟨rfl, ?_⟩
        rw [r_is (q := 6) (x := 8) hm h rfl (by omega)]
        by_cases k6 : tkK n c (tpos n c t) = 6
        · rw [if_pos k6]
          simp (disch := omega) only [lAdd, addL, lMul, mulL, nMul, nI_add, subL, lSub, nSub, nDec, nCl, lCl, nVp, lVp, nLe, nLt, nEq, lLe, leL, lLt, ltL, eqL, lEq, nM1, nM2, litLt0, one01, zero01, oneNe0, xupE, xupA, xupK, xI_I, xS_I, xF_I, xJ_I, xI_R, xS_R, xF_R, xJ_R, xI_L, xS_L, xF_L, xJ_L, xcat_s, le46, ge16, or_true, true_or, false_or, or_false, eq_self, Option.toList_some, Option.toList_none, List.cons_append, List.nil_append, true_and, and_true, not_false_eq_true, not_true_eq_false, if_true, if_false, B_103_151, if_pos]
          exact op (by omega)
        rw [if_neg k6]
        simp (disch := omega) only [lAdd, addL, lMul, mulL, nMul, nI_add, subL, lSub, nSub, nDec, nCl, lCl, nVp, lVp, nLe, nLt, nEq, lLe, leL, lLt, ltL, eqL, lEq, nM1, nM2, litLt0, one01, zero01, oneNe0, xupE, xupA, xupK, xI_I, xS_I, xF_I, xJ_I, xI_R, xS_R, xF_R, xJ_R, xI_L, xS_L, xF_L, xJ_L, xcat_s, le46, ge16, or_true, true_or, false_or, or_false, eq_self, Option.toList_some, Option.toList_none, List.cons_append, List.nil_append, true_and, and_true, not_false_eq_true, not_true_eq_false, if_true, if_false, B_103_151, if_neg, h.1.s]
        rw [r_is (q := 7) (x := 9) hm h rfl (by omega)]
        by_cases k7 : tkK n c (tpos n c t) = 7
        · rw [if_pos k7]
          simp (disch := omega) only [lAdd, addL, lMul, mulL, nMul, nI_add, subL, lSub, nSub, nDec, nCl, lCl, nVp, lVp, nLe, nLt, nEq, lLe, leL, lLt, ltL, eqL, lEq, nM1, nM2, litLt0, one01, zero01, oneNe0, xupE, xupA, xupK, xI_I, xS_I, xF_I, xJ_I, xI_R, xS_R, xF_R, xJ_R, xI_L, xS_L, xF_L, xJ_L, xcat_s, le46, ge16, or_true, true_or, false_or, or_false, eq_self, Option.toList_some, Option.toList_none, List.cons_append, List.nil_append, true_and, and_true, not_false_eq_true, not_true_eq_false, if_true, if_false, B_103_160, if_pos]
          exact op (by omega)
        rw [if_neg k7]
        simp (disch := omega) only [lAdd, addL, lMul, mulL, nMul, nI_add, subL, lSub, nSub, nDec, nCl, lCl, nVp, lVp, nLe, nLt, nEq, lLe, leL, lLt, ltL, eqL, lEq, nM1, nM2, litLt0, one01, zero01, oneNe0, xupE, xupA, xupK, xI_I, xS_I, xF_I, xJ_I, xI_R, xS_R, xF_R, xJ_R, xI_L, xS_L, xF_L, xJ_L, xcat_s, le46, ge16, or_true, true_or, false_or, or_false, eq_self, Option.toList_some, Option.toList_none, List.cons_append, List.nil_append, true_and, and_true, not_false_eq_true, not_true_eq_false, if_true, if_false, B_103_160, if_neg, h.1.s]
        rw [r_is (q := 8) (x := 10) hm h rfl (by omega)]
        by_cases k8 : tkK n c (tpos n c t) = 8
        · rw [if_pos k8]
          simp (disch := omega) only [lAdd, addL, lMul, mulL, nMul, nI_add, subL, lSub, nSub, nDec, nCl, lCl, nVp, lVp, nLe, nLt, nEq, lLe, leL, lLt, ltL, eqL, lEq, nM1, nM2, litLt0, one01, zero01, oneNe0, xupE, xupA, xupK, xI_I, xS_I, xF_I, xJ_I, xI_R, xS_R, xF_R, xJ_R, xI_L, xS_L, xF_L, xJ_L, xcat_s, le46, ge16, or_true, true_or, false_or, or_false, eq_self, Option.toList_some, Option.toList_none, List.cons_append, List.nil_append, true_and, and_true, not_false_eq_true, not_true_eq_false, if_true, if_false, B_103_169, if_pos]
          exact op (by omega)
        rw [if_neg k8]
        simp (disch := omega) only [lAdd, addL, lMul, mulL, nMul, nI_add, subL, lSub, nSub, nDec, nCl, lCl, nVp, lVp, nLe, nLt, nEq, lLe, leL, lLt, ltL, eqL, lEq, nM1, nM2, litLt0, one01, zero01, oneNe0, xupE, xupA, xupK, xI_I, xS_I, xF_I, xJ_I, xI_R, xS_R, xF_R, xJ_R, xI_L, xS_L, xF_L, xJ_L, xcat_s, le46, ge16, or_true, true_or, false_or, or_false, eq_self, Option.toList_some, Option.toList_none, List.cons_append, List.nil_append, true_and, and_true, not_false_eq_true, not_true_eq_false, if_true, if_false, B_103_169, if_neg, h.1.s]
        rw [r_is (q := 9) (x := 15) hm h rfl (by omega)]
        by_cases k9 : tkK n c (tpos n c t) = 9
        · rw [if_pos k9]
          simp (disch := omega) only [lAdd, addL, lMul, mulL, nMul, nI_add, subL, lSub, nSub, nDec, nCl, lCl, nVp, lVp, nLe, nLt, nEq, lLe, leL, lLt, ltL, eqL, lEq, nM1, nM2, litLt0, one01, zero01, oneNe0, xupE, xupA, xupK, xI_I, xS_I, xF_I, xJ_I, xI_R, xS_R, xF_R, xJ_R, xI_L, xS_L, xF_L, xJ_L, xcat_s, le46, ge16, or_true, true_or, false_or, or_false, eq_self, Option.toList_some, Option.toList_none, List.cons_append, List.nil_append, true_and, and_true, not_false_eq_true, not_true_eq_false, if_true, if_false, B_103_178, if_neg]
          exact op (by omega)
        · rw [if_neg k9]
          simp (disch := omega) only [lAdd, addL, lMul, mulL, nMul, nI_add, subL, lSub, nSub, nDec, nCl, lCl, nVp, lVp, nLe, nLt, nEq, lLe, leL, lLt, ltL, eqL, lEq, nM1, nM2, litLt0, one01, zero01, oneNe0, xupE, xupA, xupK, xI_I, xS_I, xF_I, xJ_I, xI_R, xS_R, xF_R, xJ_R, xI_L, xS_L, xF_L, xJ_L, xcat_s, le46, ge16, or_true, true_or, false_or, or_false, eq_self, Option.toList_some, Option.toList_none, List.cons_append, List.nil_append, true_and, and_true, not_false_eq_true, not_true_eq_false, if_true, if_false, B_103_178, if_pos]
          exact nop (by omega)
      rw [B_103_96, h.1.s.1]
      refine ⟨rfl, ?_⟩
      rw [r_is (q := 12) (x := 7) hm h rfl (by omega)]
      by_cases k12 : tkK n c (tpos n c t) = 12
      · rw [if_pos k12]
        simp (disch := omega) only [lAdd, addL, lMul, mulL, nMul, nI_add, subL, lSub, nSub, nDec, nCl, lCl, nVp, lVp, nLe, nLt, nEq, lLe, leL, lLt, ltL, eqL, lEq, nM1, nM2, litLt0, one01, zero01, oneNe0, xupE, xupA, xupK, xI_I, xS_I, xF_I, xJ_I, xI_R, xS_R, xF_R, xJ_R, xI_L, xS_L, xF_L, xJ_L, xcat_s, le46, ge16, or_true, true_or, false_or, or_false, eq_self, Option.toList_some, Option.toList_none, List.cons_append, List.nil_append, true_and, and_true, not_false_eq_true, not_true_eq_false, if_true, if_false, B_103_102, h.1.s, ex.2.2.2, if_neg]
        by_cases y0 : ne ≤ 0
        · rw [if_pos y0]; exact e145 (by omega)
        · rw [if_neg y0]
          rw [if_neg (by omega), if_pos (by omega)] at ys
          obtain ⟨w1, w2⟩ := yrel_wz (lr := 1) (by omega) z.1 l wz
          obtain ⟨p1, p2, p3⟩ := yrel_pf (sb := sb) (l0 := l0) (lr := 1) (by omega) z.1 l wz pf (by omega)
          refine r_comesOut (lr := 1) (ne := ne) (Or.inl ⟨rfl, rfl⟩) hcm z.1 l z.2 M _ h.1 ex wz.1 (by omega) (by omega) (by omega) ?_
          intro M1 e1 x1
          have s1 := h.1.e3 e1
          generalize yrel 1 z.2 z.1 l = y at *
          have lv0 := lev_1 w2
          have yn := w1.n20 n6
          have y1 : 1 ≤ y.1 := by omega
          have y11 : z.2 (y.1 - 1) = 11 := by
            rcases w2 with q | q
            · omega
            · exact yrk_0.mp (by omega)
          have c46 : xI M1 439 46 = nI y.1 := x1.2.1
          have c12 : xI M1 439 12 = nI ne := x1.2.2.2
          simp (disch := omega) only [lAdd, addL, lMul, mulL, nMul, nI_add, subL, lSub, nSub, nDec, nCl, lCl, nVp, lVp, nLe, nLt, nEq, lLe, leL, lLt, ltL, eqL, lEq, nM1, nM2, litLt0, one01, zero01, oneNe0, xupE, xupA, xupK, xI_I, xS_I, xF_I, xJ_I, xI_R, xS_R, xF_R, xJ_R, xI_L, xS_L, xF_L, xJ_L, xcat_s, le46, ge16, or_true, true_or, false_or, or_false, eq_self, Option.toList_some, Option.toList_none, List.cons_append, List.nil_append, true_and, and_true, not_false_eq_true, not_true_eq_false, if_true, if_false, B_103_118, s1.s, c46, c12]
          have e2 : E3 (fun a k => a = 439 ∧ (k = 12 ∨ k = 46)) noF noF M1 (xmI (xmI M1 439 46 (nI (y.1 - 1))) 439 12 (nI (ne - 1))) := ((E3.refl _ _ _ _).wI _ (by omega)).wI _ (by omega)
          have e2x : E3 (gx c0 cm) noF noF M1 (xmI (xmI M1 439 46 (nI (y.1 - 1))) 439 12 (nI (ne - 1))) := e2.mono (fun a k q => by unfold gx; omega) (fun _ _ q => q) (fun _ _ q => q)
          have a2 := (h.e3 e1 (fun a k q => by unfold go at q; omega) (fun _ _ q => absurd q id)).e3 e2 (fun a k q => by omega) (fun _ _ q => absurd q id)
          have ex2 : EX (xmI (xmI M1 439 46 (nI (y.1 - 1))) 439 12 (nI (ne - 1))) c0 l0 y.2 (y.1 - 1, z.2) (ne - 1) := ⟨x1.1.e3 e2 (fun a k q => by omega), by simp (disch := omega) only [lAdd, addL, lMul, mulL, nMul, nI_add, subL, lSub, nSub, nDec, nCl, lCl, nVp, lVp, nLe, nLt, nEq, lLe, leL, lLt, ltL, eqL, lEq, nM1, nM2, litLt0, one01, zero01, oneNe0, xupE, xupA, xupK, xI_I, xS_I, xF_I, xJ_I, xI_R, xS_R, xF_R, xJ_R, xI_L, xS_L, xF_L, xJ_L, xcat_s, le46, ge16, or_true, true_or, false_or, or_false, eq_self, Option.toList_some, Option.toList_none, List.cons_append, List.nil_append, true_and, and_true, not_false_eq_true, not_true_eq_false, if_true, if_false], fun i hi => by simp (disch := omega) only [lAdd, addL, lMul, mulL, nMul, nI_add, subL, lSub, nSub, nDec, nCl, lCl, nVp, lVp, nLe, nLt, nEq, lLe, leL, lLt, ltL, eqL, lEq, nM1, nM2, litLt0, one01, zero01, oneNe0, xupE, xupA, xupK, xI_I, xS_I, xF_I, xJ_I, xI_R, xS_R, xF_R, xJ_R, xI_L, xS_L, xF_L, xJ_L, xcat_s, le46, ge16, or_true, true_or, false_or, or_false, eq_self, Option.toList_some, Option.toList_none, List.cons_append, List.nil_append, true_and, and_true, not_false_eq_true, not_true_eq_false, if_true, if_false]; exact x1.2.2.1 i (by show i < y.1; have : i < y.1 - 1 := hi; omega), by simp (disch := omega) only [lAdd, addL, lMul, mulL, nMul, nI_add, subL, lSub, nSub, nDec, nCl, lCl, nVp, lVp, nLe, nLt, nEq, lLe, leL, lLt, ltL, eqL, lEq, nM1, nM2, litLt0, one01, zero01, oneNe0, xupE, xupA, xupK, xI_I, xS_I, xF_I, xJ_I, xI_R, xS_R, xF_R, xJ_R, xI_L, xS_L, xF_L, xJ_L, xcat_s, le46, ge16, or_true, true_or, false_or, or_false, eq_self, Option.toList_some, Option.toList_none, List.cons_append, List.nil_append, true_and, and_true, not_false_eq_true, not_true_eq_false, if_true, if_false]⟩
          have wz2 : WZ z.2 (y.1 - 1) (ne - 1) := by
            have := w1
            rw [show y.1 = (y.1 - 1) + 1 by omega] at this
            have := this.pre
            rw [if_pos y11] at this
            exact this
          refine r_goesOn hm a2 (by rw [ys]) (by omega) ?_ ?_
          · intro M3 e3 a3
            rw [ys] at a3
            simp (disch := omega) only [lAdd, addL, lMul, mulL, nMul, nI_add, subL, lSub, nSub, nDec, nCl, lCl, nVp, lVp, nLe, nLt, nEq, lLe, leL, lLt, ltL, eqL, lEq, nM1, nM2, litLt0, one01, zero01, oneNe0, xupE, xupA, xupK, xI_I, xS_I, xF_I, xJ_I, xI_R, xS_R, xF_R, xJ_R, xI_L, xS_L, xF_L, xJ_L, xcat_s, le46, ge16, or_true, true_or, false_or, or_false, eq_self, Option.toList_some, Option.toList_none, List.cons_append, List.nil_append, true_and, and_true, not_false_eq_true, not_true_eq_false, if_true, if_false, B_103_142]
            exact ih2 (ne - 1) y.2 (y.1 - 1, z.2) M3 (t + 1) (by omega) a3 ⟨ex2.gg e3, wz2, by show PF sb l0 y.2 (y.1 - 1 - (ne - 1) + 1); rw [show y.1 - 1 - (ne - 1) + 1 = y.1 - ne + 1 by omega]; exact p1, by omega, by show y.2.1 + (y.1 - 1) + 2 ≤ t + 1; omega, by show c0 + (y.2.1 - l0) + (y.1 - 1) + 420 ≤ cm + (t + 1); omega⟩ (by omega) (((e0.trans (go_x e1)).trans e2x).trans (g1_x e3))
          · intro M3 e3 f3
            simp (disch := omega) only [lAdd, addL, lMul, mulL, nMul, nI_add, subL, lSub, nSub, nDec, nCl, lCl, nVp, lVp, nLe, nLt, nEq, lLe, leL, lLt, ltL, eqL, lEq, nM1, nM2, litLt0, one01, zero01, oneNe0, xupE, xupA, xupK, xI_I, xS_I, xF_I, xJ_I, xI_R, xS_R, xF_R, xJ_R, xI_L, xS_L, xF_L, xJ_L, xcat_s, le46, ge16, or_true, true_or, false_or, or_false, eq_self, Option.toList_some, Option.toList_none, List.cons_append, List.nil_append, true_and, and_true, not_false_eq_true, not_true_eq_false, if_true, if_false, B_103_142]
            refine fa96 (cm := cm) f3 (ex2.gg e3) (fun i hi => wz2.1 i hi) (by show c0 + (y.2.1 - l0) + (y.1 - 1) ≤ cm; omega) hcm (by show y.2.1 + (y.1 - 1) ≤ 400; omega) (by show y.1 - 1 ≤ 60; omega) ?_
            intro M4 e4 f4
            exact hF M4 ((((e0.trans (go_x e1)).trans e2x).trans (g1_x e3)).trans e4) f4
      · rw [if_neg k12]
        simp (disch := omega) only [lAdd, addL, lMul, mulL, nMul, nI_add, subL, lSub, nSub, nDec, nCl, lCl, nVp, lVp, nLe, nLt, nEq, lLe, leL, lLt, ltL, eqL, lEq, nM1, nM2, litLt0, one01, zero01, oneNe0, xupE, xupA, xupK, xI_I, xS_I, xF_I, xJ_I, xI_R, xS_R, xF_R, xJ_R, xI_L, xS_L, xF_L, xJ_L, xcat_s, le46, ge16, or_true, true_or, false_or, or_false, eq_self, Option.toList_some, Option.toList_none, List.cons_append, List.nil_append, true_and, and_true, not_false_eq_true, not_true_eq_false, if_true, if_false, B_103_102, h.1.s, if_pos]
        exact e145 (by omega)
theorem r_expression {st t : Nat} {l : YL} {zf : Nat → Nat} {M : XM} (hm : MT n c m) (hcm : cm ≤ 840) (hst : st = 6 ∨ (st = 5 ∧ ¬ tkK n c (tpos n c t) = 22)) (h : RA n c m O M t ((st, tk, fd, ifs, 0, pe), X, (W, lw, l, (0, zf), sk))) (h42 : xI M 439 42 = nI c0) (h12 : xI M 439 12 = nI 0) (hl : l.1 + 2 ≤ t) (hc : c0 + 420 ≤ cm + t)
    (hQ : ∀ (M' : XM) (t' : Nat) (l' : YL) (z : Nat × (Nat → Nat)), E3 (gx c0 cm) noF noF M M' → XE l.2 n c m O M' t' t c0 l.1 cm tk fd ifs pe lw sk X W l' z → Q none M') (hF : ∀ M' : XM, E3 (gx c0 cm) noF noF M M' → FA O M' → Q none M') :
    RG xprog 103 0 [some (.ref 439), none, none] [] M Q := by
  have t4 : t ≤ 400 := by have := h.2.2.1; have := hm.1; omega
  rw [B_103_0]
  simp (disch := omega) only [lAdd, addL, lMul, mulL, nMul, nI_add, subL, lSub, nSub, nDec, nCl, lCl, nVp, lVp, nLe, nLt, nEq, lLe, leL, lLt, ltL, eqL, lEq, nM1, nM2, litLt0, one01, zero01, oneNe0, xupE, xupA, xupK, xI_I, xS_I, xF_I, xJ_I, xI_R, xS_R, xF_R, xJ_R, xI_L, xS_L, xF_L, xJ_L, xcat_s, le46, ge16, or_true, true_or, false_or, or_false, eq_self, Option.toList_some, Option.toList_none, List.cons_append, List.nil_append, true_and, and_true, not_false_eq_true, not_true_eq_false, if_true, if_false, h.1.s, h12]
  have e1 : E3 (fun a k => a = 439 ∧ k = 46) noF noF M (xmI M 439 46 0) := (E3.refl _ _ _ _).wI _ ⟨rfl, rfl⟩
  have a1 := h.e3 e1 (fun a k q => by omega) (fun _ _ q => absurd q id)
  simp (disch := omega) only [lAdd, addL, lMul, mulL, nMul, nI_add, subL, lSub, nSub, nDec, nCl, lCl, nVp, lVp, nLe, nLt, nEq, lLe, leL, lLt, ltL, eqL, lEq, nM1, nM2, litLt0, one01, zero01, oneNe0, xupE, xupA, xupK, xI_I, xS_I, xF_I, xJ_I, xI_R, xS_R, xF_R, xJ_R, xI_L, xS_L, xF_L, xJ_L, xcat_s, le46, ge16, or_true, true_or, false_or, or_false, eq_self, Option.toList_some, Option.toList_none, List.cons_append, List.nil_append, true_and, and_true, not_false_eq_true, not_true_eq_false, if_true, if_false, B_103_12, h.1.s, h.2.2.2.2.1, if_neg]
  refine (r_expr_loop (sb := l.2) (M0 := M) (t0 := t) (c0 := c0) (l0 := l.1) (cm := cm) hm hcm hQ hF (401 - t)).1 st 0 l (0, zf) _ t (by omega) hst a1 ⟨⟨⟨Nat.le_refl _, ?_, fun i hi => absurd hi (by omega)⟩, by simp (disch := omega) only [lAdd, addL, lMul, mulL, nMul, nI_add, subL, lSub, nSub, nDec, nCl, lCl, nVp, lVp, nLe, nLt, nEq, lLe, leL, lLt, ltL, eqL, lEq, nM1, nM2, litLt0, one01, zero01, oneNe0, xupE, xupA, xupK, xI_I, xS_I, xF_I, xJ_I, xI_R, xS_R, xF_R, xJ_R, xI_L, xS_L, xF_L, xJ_L, xcat_s, le46, ge16, or_true, true_or, false_or, or_false, eq_self, Option.toList_some, Option.toList_none, List.cons_append, List.nil_append, true_and, and_true, not_false_eq_true, not_true_eq_false, if_true, if_false], fun i hi => absurd hi (by show ¬ i < 0; omega), by simp (disch := omega) only [lAdd, addL, lMul, mulL, nMul, nI_add, subL, lSub, nSub, nDec, nCl, lCl, nVp, lVp, nLe, nLt, nEq, lLe, leL, lLt, ltL, eqL, lEq, nM1, nM2, litLt0, one01, zero01, oneNe0, xupE, xupA, xupK, xI_I, xS_I, xF_I, xJ_I, xI_R, xS_R, xF_R, xJ_R, xI_L, xS_L, xF_L, xJ_L, xcat_s, le46, ge16, or_true, true_or, false_or, or_false, eq_self, Option.toList_some, Option.toList_none, List.cons_append, List.nil_append, true_and, and_true, not_false_eq_true, not_true_eq_false, if_true, if_false]; exact h12⟩, ⟨fun i hi => absurd hi (by omega), fun i hi => ?_, rfl⟩, ⟨Nat.le_refl _, ?_, fun _ _ => rfl⟩, by omega, by show l.1 + 0 + 2 ≤ t; omega, by show c0 + (l.1 - l.1) + 0 + 420 ≤ cm + t; omega⟩ (Nat.le_refl _) (e1.mono (fun a k q => by unfold gx; omega) (fun _ _ q => q) (fun _ _ q => q))
  · simp (disch := omega) only [lAdd, addL, lMul, mulL, nMul, nI_add, subL, lSub, nSub, nDec, nCl, lCl, nVp, lVp, nLe, nLt, nEq, lLe, leL, lLt, ltL, eqL, lEq, nM1, nM2, litLt0, one01, zero01, oneNe0, xupE, xupA, xupK, xI_I, xS_I, xF_I, xJ_I, xI_R, xS_R, xF_R, xJ_R, xI_L, xS_L, xF_L, xJ_L, xcat_s, le46, ge16, or_true, true_or, false_or, or_false, eq_self, Option.toList_some, Option.toList_none, List.cons_append, List.nil_append, true_and, and_true, not_false_eq_true, not_true_eq_false, if_true, if_false]
    rw [h42, Nat.sub_self]; rfl
  · have : i = 0 := by omega
    rw [this]; exact Nat.zero_le _
  · rw [Nat.sub_self]; rfl
theorem r_expressionF {M : XM} (h : FA O M) (hQ : ∀ M' : XM, E3 (gx c0 cm) noF noF M M' → FA O M' → Q none M') : RG xprog 103 0 [some (.ref 439), none, none] [] M Q := by
  have e1 : E3 (fun a k => a = 439 ∧ k = 46) noF noF M (xmI M 439 46 0) := (E3.refl _ _ _ _).wI _ ⟨rfl, rfl⟩
  have f1 := h.e3 e1 (fun a k q => by omega)
  obtain ⟨s1, f, h2, h3, h4, h5⟩ := h
  rw [B_103_0]
  simp (disch := omega) only [lAdd, addL, lMul, mulL, nMul, nI_add, subL, lSub, nSub, nDec, nCl, lCl, nVp, lVp, nLe, nLt, nEq, lLe, leL, lLt, ltL, eqL, lEq, nM1, nM2, litLt0, one01, zero01, oneNe0, xupE, xupA, xupK, xI_I, xS_I, xF_I, xJ_I, xI_R, xS_R, xF_R, xJ_R, xI_L, xS_L, xF_L, xJ_L, xcat_s, le46, ge16, or_true, true_or, false_or, or_false, eq_self, Option.toList_some, Option.toList_none, List.cons_append, List.nil_append, true_and, and_true, not_false_eq_true, not_true_eq_false, if_true, if_false, s1.s, B_103_12, h3, if_neg, if_pos]
  exact hQ _ (e1.mono (fun a k q => by unfold gx; omega) (fun _ _ q => q) (fun _ _ q => q)) f1
end XRF
