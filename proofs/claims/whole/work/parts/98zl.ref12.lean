/-! the reference's reading: a letter, a reader told -/
section XRL
variable {n : Nat} {c : Nat → Nat} {m : Nat} {O : Nat × Int32 × YS} {M M' : XM} {t : Nat} {Q : Option Value → XM → Prop} {sd fd ifs ne pe i : Nat} {mm mm' : Nat × Int32} {a r : Nat} {nm : Nat → Nat} {L R : Nat → Nat → Int32} {S : Nat → Int32} {w : YW} {a1 a2 : Int32}
theorem yset_e {L : Nat → Nat → Int32} {l k v : Nat} : yset L l k v l = xone (L l) k (nI v) := if_pos rfl
theorem yset_n {L : Nat → Nat → Int32} {l k v i : Nat} (h : ¬ i = l) : yset L l k v i = L i := if_neg h
theorem fw {row k : Nat} {x : Int32} (h : FA O M) (hr : row ≠ 439) : FA O (xmI M row k x) := h.e3 (P := fun a _ => a = row) (R := noF) ((E3.refl _ _ _ _).wI _ rfl) (fun a k q => by omega)
theorem ew {row k : Nat} {x : Int32} (hr : gT sd row k) : E3 (gT sd) gJ noF M (xmI M row k x) := (E3.refl _ _ _ _).wI _ hr
theorem lef163 (h : FA O M) (hQ : Q none M) : RG xprog 106 163 [some (.ref 439), some (.int a1), some (.int a2)] [] M Q := by
  obtain ⟨s1, f', g2', g3', g4', g5'⟩ := h
  rw [B_106_163]
  simp (disch := omega) only [lAdd, addL, lMul, mulL, nMul, nI_add, subL, lSub, nSub, nDec, nCl, lCl, nVp, lVp, nLe, nLt, nEq, lLe, leL, lLt, ltL, eqL, lEq, nM1, nM2, litLt0, one01, zero01, oneNe0, xupE, xupA, xupK, xI_I, xS_I, xF_I, xJ_I, xI_R, xS_R, xF_R, xJ_R, xI_L, xS_L, xF_L, xJ_L, xcat_s, le46, ge16, or_true, true_or, false_or, or_false, eq_self, Option.toList_some, Option.toList_none, List.cons_append, List.nil_append, true_and, and_true, not_false_eq_true, not_true_eq_false, if_true, if_false, s1.s, g3', if_pos, B_106_410]
  exact hQ
theorem lef157 {x : Int32} (h : FA O M) (hs : sd < 2) (hi : i < 7) (hQ : ∀ M' : XM, E3 (gT sd) gJ noF M M' → FA O M' → Q none M') : RG xprog 106 157 [some (.ref 439), some (.int a1), some (.int a2)] [.int x, .int (nI (7 * sd + i)), .ref 452] M Q := by
  have f1 : FA O (xmI M 452 (7 * sd + i) x) := fw h (by omega)
  rw [B_106_157]
  simp (disch := omega) only [lAdd, addL, lMul, mulL, nMul, nI_add, subL, lSub, nSub, nDec, nCl, lCl, nVp, lVp, nLe, nLt, nEq, lLe, leL, lLt, ltL, eqL, lEq, nM1, nM2, litLt0, one01, zero01, oneNe0, xupE, xupA, xupK, xI_I, xS_I, xF_I, xJ_I, xI_R, xS_R, xF_R, xJ_R, xI_L, xS_L, xF_L, xJ_L, xcat_s, le46, ge16, or_true, true_or, false_or, or_false, eq_self, Option.toList_some, Option.toList_none, List.cons_append, List.nil_append, true_and, and_true, not_false_eq_true, not_true_eq_false, if_true, if_false, h.1.s]
  rw [r_endsNameF f1]
  simp (disch := omega) only [lAdd, addL, lMul, mulL, nMul, nI_add, subL, lSub, nSub, nDec, nCl, lCl, nVp, lVp, nLe, nLt, nEq, lLe, leL, lLt, ltL, eqL, lEq, nM1, nM2, litLt0, one01, zero01, oneNe0, xupE, xupA, xupK, xI_I, xS_I, xF_I, xJ_I, xI_R, xS_R, xF_R, xJ_R, xI_L, xS_L, xF_L, xJ_L, xcat_s, le46, ge16, or_true, true_or, false_or, or_false, eq_self, Option.toList_some, Option.toList_none, List.cons_append, List.nil_append, true_and, and_true, not_false_eq_true, not_true_eq_false, if_true, if_false]
  exact lef163 f1 (hQ _ (ew (by unfold gT; omega)) f1)
theorem lef144 {x : Int32} (h : FA O M) (hs : sd < 2) (hi : i < 7) (hQ : ∀ M' : XM, E3 (gT sd) gJ noF M M' → FA O M' → Q none M') : RG xprog 106 144 [some (.ref 439), some (.int (nI (7 * sd + i))), some (.int a2)] [.int x, .int (nI (7 * sd + i)), .ref 451] M Q := by
  have f1 : FA O (xmI M 451 (7 * sd + i) x) := fw h (by omega)
  rw [B_106_144]
  simp (disch := omega) only [lAdd, addL, lMul, mulL, nMul, nI_add, subL, lSub, nSub, nDec, nCl, lCl, nVp, lVp, nLe, nLt, nEq, lLe, leL, lLt, ltL, eqL, lEq, nM1, nM2, litLt0, one01, zero01, oneNe0, xupE, xupA, xupK, xI_I, xS_I, xF_I, xJ_I, xI_R, xS_R, xF_R, xJ_R, xI_L, xS_L, xF_L, xJ_L, xcat_s, le46, ge16, or_true, true_or, false_or, or_false, eq_self, Option.toList_some, Option.toList_none, List.cons_append, List.nil_append, true_and, and_true, not_false_eq_true, not_true_eq_false, if_true, if_false, h.1.s, h.1.f]
  rw [r_boundedF f1]
  simp (disch := omega) only [lAdd, addL, lMul, mulL, nMul, nI_add, subL, lSub, nSub, nDec, nCl, lCl, nVp, lVp, nLe, nLt, nEq, lLe, leL, lLt, ltL, eqL, lEq, nM1, nM2, litLt0, one01, zero01, oneNe0, xupE, xupA, xupK, xI_I, xS_I, xF_I, xJ_I, xI_R, xS_R, xF_R, xJ_R, xI_L, xS_L, xF_L, xJ_L, xcat_s, le46, ge16, or_true, true_or, false_or, or_false, eq_self, Option.toList_some, Option.toList_none, List.cons_append, List.nil_append, true_and, and_true, not_false_eq_true, not_true_eq_false, if_true, if_false]
  exact lef157 f1 hs hi fun M3 e3 f3 => hQ M3 ((ew (by unfold gT; omega)).trans e3) f3
theorem lef131 {x : Int32} (h : FA O M) (hs : sd < 2) (hi : i < 7) (hQ : ∀ M' : XM, E3 (gT sd) gJ noF M M' → FA O M' → Q none M') : RG xprog 106 131 [some (.ref 439), some (.int (nI (7 * sd + i))), some (.int a2)] [.int x, .int (nI (7 * sd + i)), .ref 450] M Q := by
  have f1 : FA O (xmI M 450 (7 * sd + i) x) := fw h (by omega)
  rw [B_106_131]
  simp (disch := omega) only [lAdd, addL, lMul, mulL, nMul, nI_add, subL, lSub, nSub, nDec, nCl, lCl, nVp, lVp, nLe, nLt, nEq, lLe, leL, lLt, ltL, eqL, lEq, nM1, nM2, litLt0, one01, zero01, oneNe0, xupE, xupA, xupK, xI_I, xS_I, xF_I, xJ_I, xI_R, xS_R, xF_R, xJ_R, xI_L, xS_L, xF_L, xJ_L, xcat_s, le46, ge16, or_true, true_or, false_or, or_false, eq_self, Option.toList_some, Option.toList_none, List.cons_append, List.nil_append, true_and, and_true, not_false_eq_true, not_true_eq_false, if_true, if_false, h.1.s, h.1.f]
  rw [r_boundedF f1]
  simp (disch := omega) only [lAdd, addL, lMul, mulL, nMul, nI_add, subL, lSub, nSub, nDec, nCl, lCl, nVp, lVp, nLe, nLt, nEq, lLe, leL, lLt, ltL, eqL, lEq, nM1, nM2, litLt0, one01, zero01, oneNe0, xupE, xupA, xupK, xI_I, xS_I, xF_I, xJ_I, xI_R, xS_R, xF_R, xJ_R, xI_L, xS_L, xF_L, xJ_L, xcat_s, le46, ge16, or_true, true_or, false_or, or_false, eq_self, Option.toList_some, Option.toList_none, List.cons_append, List.nil_append, true_and, and_true, not_false_eq_true, not_true_eq_false, if_true, if_false]
  exact lef144 f1 hs hi fun M3 e3 f3 => hQ M3 ((ew (by unfold gT; omega)).trans e3) f3
theorem lef118 {x : Int32} (h : FA O M) (hs : sd < 2) (hi : i < 7) (hQ : ∀ M' : XM, E3 (gT sd) gJ noF M M' → FA O M' → Q none M') : RG xprog 106 118 [some (.ref 439), some (.int (nI (7 * sd + i))), some (.int a2)] [.int x, .int (nI (7 * sd + i)), .ref 449] M Q := by
  have f1 : FA O (xmI M 449 (7 * sd + i) x) := fw h (by omega)
  rw [B_106_118]
  simp (disch := omega) only [lAdd, addL, lMul, mulL, nMul, nI_add, subL, lSub, nSub, nDec, nCl, lCl, nVp, lVp, nLe, nLt, nEq, lLe, leL, lLt, ltL, eqL, lEq, nM1, nM2, litLt0, one01, zero01, oneNe0, xupE, xupA, xupK, xI_I, xS_I, xF_I, xJ_I, xI_R, xS_R, xF_R, xJ_R, xI_L, xS_L, xF_L, xJ_L, xcat_s, le46, ge16, or_true, true_or, false_or, or_false, eq_self, Option.toList_some, Option.toList_none, List.cons_append, List.nil_append, true_and, and_true, not_false_eq_true, not_true_eq_false, if_true, if_false, h.1.s, h.1.f]
  rw [r_boundedF f1]
  simp (disch := omega) only [lAdd, addL, lMul, mulL, nMul, nI_add, subL, lSub, nSub, nDec, nCl, lCl, nVp, lVp, nLe, nLt, nEq, lLe, leL, lLt, ltL, eqL, lEq, nM1, nM2, litLt0, one01, zero01, oneNe0, xupE, xupA, xupK, xI_I, xS_I, xF_I, xJ_I, xI_R, xS_R, xF_R, xJ_R, xI_L, xS_L, xF_L, xJ_L, xcat_s, le46, ge16, or_true, true_or, false_or, or_false, eq_self, Option.toList_some, Option.toList_none, List.cons_append, List.nil_append, true_and, and_true, not_false_eq_true, not_true_eq_false, if_true, if_false]
  exact lef131 f1 hs hi fun M3 e3 f3 => hQ M3 ((ew (by unfold gT; omega)).trans e3) f3
theorem lef105 (h : FA O M) (hs : sd < 2) (hi : i < 7) (hQ : ∀ M' : XM, E3 (gT sd) gJ noF M M' → FA O M' → Q none M') : RG xprog 106 105 [some (.ref 439), some (.int (nI (7 * sd + i))), none] [.int a2] M Q := by
  rw [B_106_105]
  simp (disch := omega) only [lAdd, addL, lMul, mulL, nMul, nI_add, subL, lSub, nSub, nDec, nCl, lCl, nVp, lVp, nLe, nLt, nEq, lLe, leL, lLt, ltL, eqL, lEq, nM1, nM2, litLt0, one01, zero01, oneNe0, xupE, xupA, xupK, xI_I, xS_I, xF_I, xJ_I, xI_R, xS_R, xF_R, xJ_R, xI_L, xS_L, xF_L, xJ_L, xcat_s, le46, ge16, or_true, true_or, false_or, or_false, eq_self, Option.toList_some, Option.toList_none, List.cons_append, List.nil_append, true_and, and_true, not_false_eq_true, not_true_eq_false, if_true, if_false, h.1.s, h.1.f]
  rw [r_boundedF h]
  simp (disch := omega) only [lAdd, addL, lMul, mulL, nMul, nI_add, subL, lSub, nSub, nDec, nCl, lCl, nVp, lVp, nLe, nLt, nEq, lLe, leL, lLt, ltL, eqL, lEq, nM1, nM2, litLt0, one01, zero01, oneNe0, xupE, xupA, xupK, xI_I, xS_I, xF_I, xJ_I, xI_R, xS_R, xF_R, xJ_R, xI_L, xS_L, xF_L, xJ_L, xcat_s, le46, ge16, or_true, true_or, false_or, or_false, eq_self, Option.toList_some, Option.toList_none, List.cons_append, List.nil_append, true_and, and_true, not_false_eq_true, not_true_eq_false, if_true, if_false]
  exact lef118 h hs hi hQ
theorem r_le (hm : MT n c m) (hs : sd < 2) (h19 : xI M 439 19 = nI sd) (ha : a < 7) (h : RA n c m O M t ((1, 13, fd, ifs, ne, pe), (mm, a, r, nm, L, R, S), w)) (rd : RD n c M sd (mm, a, r, nm, L, R, S)) (hw : WM M (tpos n c t) 0 mm)
    (hQ : ∀ (M' : XM) (t' : Nat) (mm' : Nat × Int32) (nm' : Nat → Nat) (L' : Nat → Nat → Int32) (fd' : Nat), E3 (gT sd) gJ noF M M' → RA n c m O M' t' ((0, 13, fd', ifs, ne, pe), (mm', a + 1, r, nm', L', R, S), w) → RD n c M' sd (mm', a + 1, r, nm', L', R, S) → WM M' (tpos n c t') 0 mm' → t < t' → (∀ k, k = 12 ∨ k = 19 ∨ k = 36 ∨ k = 42 → xI M' 439 k = xI M 439 k) → (∀ b, 460 ≤ b → b ≤ 469 → xI M' b = xI M b) → Q none M') (hF : ∀ M' : XM, E3 (gT sd) gJ noF M M' → FA O M' → Q none M') :
    RG xprog 106 75 [some (.ref 439), none, none] [] M Q := by
  have m4 := hm.1
  obtain ⟨⟨d1, d2, d3, d4⟩, d5, d6, d7, d8⟩ := rd
  have tm := h.2.2.1
  rw [B_106_75]
  simp (disch := omega) only [lAdd, addL, lMul, mulL, nMul, nI_add, subL, lSub, nSub, nDec, nCl, lCl, nVp, lVp, nLe, nLt, nEq, lLe, leL, lLt, ltL, eqL, lEq, nM1, nM2, litLt0, one01, zero01, oneNe0, xupE, xupA, xupK, xI_I, xS_I, xF_I, xJ_I, xI_R, xS_R, xF_R, xJ_R, xI_L, xS_L, xF_L, xJ_L, xcat_s, le46, ge16, or_true, true_or, false_or, or_false, eq_self, Option.toList_some, Option.toList_none, List.cons_append, List.nil_append, true_and, and_true, not_false_eq_true, not_true_eq_false, if_true, if_false, h.1.s, h.1.f, h.2.2.2.2.1, if_pos, h19, d1]
  refine r_nam hm h (by omega) d5 hw ?_ ?_
  case refine_2 =>
    intro M1 e1 f1
    simp (disch := omega) only [lAdd, addL, lMul, mulL, nMul, nI_add, subL, lSub, nSub, nDec, nCl, lCl, nVp, lVp, nLe, nLt, nEq, lLe, leL, lLt, ltL, eqL, lEq, nM1, nM2, litLt0, one01, zero01, oneNe0, xupE, xupA, xupK, xI_I, xS_I, xF_I, xJ_I, xI_R, xS_R, xF_R, xJ_R, xI_L, xS_L, xF_L, xJ_L, xcat_s, le46, ge16, or_true, true_or, false_or, or_false, eq_self, Option.toList_some, Option.toList_none, List.cons_append, List.nil_append, true_and, and_true, not_false_eq_true, not_true_eq_false, if_true, if_false]
    exact lef105 f1 hs ha fun M3 e3 f3 => hF M3 ((g2_T e1).trans e3) f3
  intro M0 mm0 e0 k2 A0 W0 z0
  rw [if_pos rfl, if_pos rfl] at A0
  have EE0 : E3 (gT sd) gJ noF M M0 := g2_T e0
  simp (disch := omega) only [lAdd, addL, lMul, mulL, nMul, nI_add, subL, lSub, nSub, nDec, nCl, lCl, nVp, lVp, nLe, nLt, nEq, lLe, leL, lLt, ltL, eqL, lEq, nM1, nM2, litLt0, one01, zero01, oneNe0, xupE, xupA, xupK, xI_I, xS_I, xF_I, xJ_I, xI_R, xS_R, xF_R, xJ_R, xI_L, xS_L, xF_L, xJ_L, xcat_s, le46, ge16, or_true, true_or, false_or, or_false, eq_self, Option.toList_some, Option.toList_none, List.cons_append, List.nil_append, true_and, and_true, not_false_eq_true, not_true_eq_false, if_true, if_false, B_106_105, A0.1.s, A0.1.f]
  refine r_bnd hm A0 rfl W0 ?_ ?_
  case refine_2 =>
    intro N1 x e1 f1
    simp (disch := omega) only [lAdd, addL, lMul, mulL, nMul, nI_add, subL, lSub, nSub, nDec, nCl, lCl, nVp, lVp, nLe, nLt, nEq, lLe, leL, lLt, ltL, eqL, lEq, nM1, nM2, litLt0, one01, zero01, oneNe0, xupE, xupA, xupK, xI_I, xS_I, xF_I, xJ_I, xI_R, xS_R, xF_R, xJ_R, xI_L, xS_L, xF_L, xJ_L, xcat_s, le46, ge16, or_true, true_or, false_or, or_false, eq_self, Option.toList_some, Option.toList_none, List.cons_append, List.nil_append, true_and, and_true, not_false_eq_true, not_true_eq_false, if_true, if_false]
    exact lef118 f1 hs ha fun M3 e3 f3 => hF M3 ((EE0.trans (g2_T e1)).trans e3) f3
  intro N0 mm1 v0 e0b B0 X0 z1
  have y0 : xI (xmI N0 449 (7 * sd + a) (nI v0)) 449 (7 * sd + a) = nI v0 := by rw [xI_I, xupE]
  have e0c : E3 (fun b k => b = 449 ∧ k = 7 * sd + a) noF noF N0 (xmI N0 449 (7 * sd + a) (nI v0)) := (E3.refl _ _ _ _).wI _ ⟨rfl, rfl⟩
  simp (disch := omega) only [lAdd, addL, lMul, mulL, nMul, nI_add, subL, lSub, nSub, nDec, nCl, lCl, nVp, lVp, nLe, nLt, nEq, lLe, leL, lLt, ltL, eqL, lEq, nM1, nM2, litLt0, one01, zero01, oneNe0, xupE, xupA, xupK, xI_I, xS_I, xF_I, xJ_I, xI_R, xS_R, xF_R, xJ_R, xI_L, xS_L, xF_L, xJ_L, xcat_s, le46, ge16, or_true, true_or, false_or, or_false, eq_self, Option.toList_some, Option.toList_none, List.cons_append, List.nil_append, true_and, and_true, not_false_eq_true, not_true_eq_false, if_true, if_false, B_106_118, B0.1.s, B0.1.f]
  generalize xmI N0 449 (7 * sd + a) (nI v0) = M1 at y0 e0c
  have A1 := B0.e3 e0c (fun a k q => by omega) (fun _ _ q => absurd q id)
  have W1 := X0.e3 e0c (fun a k q => by omega)
  have EE1 : E3 (gT sd) gJ noF M M1 := (EE0.trans (g2_T e0b)).trans (e0c.mono (fun a k q => by unfold gT; omega) (fun _ _ q => absurd q id) (fun _ _ q => q))
  refine r_bnd hm A1 rfl W1 ?_ ?_
  case refine_2 =>
    intro N1 x e1 f1
    simp (disch := omega) only [lAdd, addL, lMul, mulL, nMul, nI_add, subL, lSub, nSub, nDec, nCl, lCl, nVp, lVp, nLe, nLt, nEq, lLe, leL, lLt, ltL, eqL, lEq, nM1, nM2, litLt0, one01, zero01, oneNe0, xupE, xupA, xupK, xI_I, xS_I, xF_I, xJ_I, xI_R, xS_R, xF_R, xJ_R, xI_L, xS_L, xF_L, xJ_L, xcat_s, le46, ge16, or_true, true_or, false_or, or_false, eq_self, Option.toList_some, Option.toList_none, List.cons_append, List.nil_append, true_and, and_true, not_false_eq_true, not_true_eq_false, if_true, if_false]
    exact lef131 f1 hs ha fun M3 e3 f3 => hF M3 ((EE1.trans (g2_T e1)).trans e3) f3
  intro N1 mm2 v1 e1b B1 X1 z2
  have y1 : xI (xmI N1 450 (7 * sd + a) (nI v1)) 450 (7 * sd + a) = nI v1 := by rw [xI_I, xupE]
  have e1c : E3 (fun b k => b = 450 ∧ k = 7 * sd + a) noF noF N1 (xmI N1 450 (7 * sd + a) (nI v1)) := (E3.refl _ _ _ _).wI _ ⟨rfl, rfl⟩
  simp (disch := omega) only [lAdd, addL, lMul, mulL, nMul, nI_add, subL, lSub, nSub, nDec, nCl, lCl, nVp, lVp, nLe, nLt, nEq, lLe, leL, lLt, ltL, eqL, lEq, nM1, nM2, litLt0, one01, zero01, oneNe0, xupE, xupA, xupK, xI_I, xS_I, xF_I, xJ_I, xI_R, xS_R, xF_R, xJ_R, xI_L, xS_L, xF_L, xJ_L, xcat_s, le46, ge16, or_true, true_or, false_or, or_false, eq_self, Option.toList_some, Option.toList_none, List.cons_append, List.nil_append, true_and, and_true, not_false_eq_true, not_true_eq_false, if_true, if_false, B_106_131, B1.1.s, B1.1.f]
  generalize xmI N1 450 (7 * sd + a) (nI v1) = M2 at y1 e1c
  have A2 := B1.e3 e1c (fun a k q => by omega) (fun _ _ q => absurd q id)
  have W2 := X1.e3 e1c (fun a k q => by omega)
  have EE2 : E3 (gT sd) gJ noF M M2 := (EE1.trans (g2_T e1b)).trans (e1c.mono (fun a k q => by unfold gT; omega) (fun _ _ q => absurd q id) (fun _ _ q => q))
  refine r_bnd hm A2 rfl W2 ?_ ?_
  case refine_2 =>
    intro N1 x e1 f1
    simp (disch := omega) only [lAdd, addL, lMul, mulL, nMul, nI_add, subL, lSub, nSub, nDec, nCl, lCl, nVp, lVp, nLe, nLt, nEq, lLe, leL, lLt, ltL, eqL, lEq, nM1, nM2, litLt0, one01, zero01, oneNe0, xupE, xupA, xupK, xI_I, xS_I, xF_I, xJ_I, xI_R, xS_R, xF_R, xJ_R, xI_L, xS_L, xF_L, xJ_L, xcat_s, le46, ge16, or_true, true_or, false_or, or_false, eq_self, Option.toList_some, Option.toList_none, List.cons_append, List.nil_append, true_and, and_true, not_false_eq_true, not_true_eq_false, if_true, if_false]
    exact lef144 f1 hs ha fun M3 e3 f3 => hF M3 ((EE2.trans (g2_T e1)).trans e3) f3
  intro N2 mm3 v2 e2b B2 X2 z3
  have y2 : xI (xmI N2 451 (7 * sd + a) (nI v2)) 451 (7 * sd + a) = nI v2 := by rw [xI_I, xupE]
  have e2c : E3 (fun b k => b = 451 ∧ k = 7 * sd + a) noF noF N2 (xmI N2 451 (7 * sd + a) (nI v2)) := (E3.refl _ _ _ _).wI _ ⟨rfl, rfl⟩
  simp (disch := omega) only [lAdd, addL, lMul, mulL, nMul, nI_add, subL, lSub, nSub, nDec, nCl, lCl, nVp, lVp, nLe, nLt, nEq, lLe, leL, lLt, ltL, eqL, lEq, nM1, nM2, litLt0, one01, zero01, oneNe0, xupE, xupA, xupK, xI_I, xS_I, xF_I, xJ_I, xI_R, xS_R, xF_R, xJ_R, xI_L, xS_L, xF_L, xJ_L, xcat_s, le46, ge16, or_true, true_or, false_or, or_false, eq_self, Option.toList_some, Option.toList_none, List.cons_append, List.nil_append, true_and, and_true, not_false_eq_true, not_true_eq_false, if_true, if_false, B_106_144, B2.1.s, B2.1.f]
  generalize xmI N2 451 (7 * sd + a) (nI v2) = M3 at y2 e2c
  have A3 := B2.e3 e2c (fun a k q => by omega) (fun _ _ q => absurd q id)
  have W3 := X2.e3 e2c (fun a k q => by omega)
  have EE3 : E3 (gT sd) gJ noF M M3 := (EE2.trans (g2_T e2b)).trans (e2c.mono (fun a k q => by unfold gT; omega) (fun _ _ q => absurd q id) (fun _ _ q => q))
  refine r_bnd hm A3 rfl W3 ?_ ?_
  case refine_2 =>
    intro N1 x e1 f1
    simp (disch := omega) only [lAdd, addL, lMul, mulL, nMul, nI_add, subL, lSub, nSub, nDec, nCl, lCl, nVp, lVp, nLe, nLt, nEq, lLe, leL, lLt, ltL, eqL, lEq, nM1, nM2, litLt0, one01, zero01, oneNe0, xupE, xupA, xupK, xI_I, xS_I, xF_I, xJ_I, xI_R, xS_R, xF_R, xJ_R, xI_L, xS_L, xF_L, xJ_L, xcat_s, le46, ge16, or_true, true_or, false_or, or_false, eq_self, Option.toList_some, Option.toList_none, List.cons_append, List.nil_append, true_and, and_true, not_false_eq_true, not_true_eq_false, if_true, if_false]
    exact lef157 f1 hs ha fun M3 e3 f3 => hF M3 ((EE3.trans (g2_T e1)).trans e3) f3
  intro N3 mm4 v3 e3b B3 X3 z4
  have y3 : xI (xmI N3 452 (7 * sd + a) (nI v3)) 452 (7 * sd + a) = nI v3 := by rw [xI_I, xupE]
  have e3c : E3 (fun b k => b = 452 ∧ k = 7 * sd + a) noF noF N3 (xmI N3 452 (7 * sd + a) (nI v3)) := (E3.refl _ _ _ _).wI _ ⟨rfl, rfl⟩
  simp (disch := omega) only [lAdd, addL, lMul, mulL, nMul, nI_add, subL, lSub, nSub, nDec, nCl, lCl, nVp, lVp, nLe, nLt, nEq, lLe, leL, lLt, ltL, eqL, lEq, nM1, nM2, litLt0, one01, zero01, oneNe0, xupE, xupA, xupK, xI_I, xS_I, xF_I, xJ_I, xI_R, xS_R, xF_R, xJ_R, xI_L, xS_L, xF_L, xJ_L, xcat_s, le46, ge16, or_true, true_or, false_or, or_false, eq_self, Option.toList_some, Option.toList_none, List.cons_append, List.nil_append, true_and, and_true, not_false_eq_true, not_true_eq_false, if_true, if_false, B_106_157, B3.1.s, B3.1.f]
  generalize xmI N3 452 (7 * sd + a) (nI v3) = M4 at y3 e3c
  have A4 := B3.e3 e3c (fun a k q => by omega) (fun _ _ q => absurd q id)
  have W4 := X3.e3 e3c (fun a k q => by omega)
  have EE4 : E3 (gT sd) gJ noF M M4 := (EE3.trans (g2_T e3b)).trans (e3c.mono (fun a k q => by unfold gT; omega) (fun _ _ q => absurd q id) (fun _ _ q => q))
  have i20 : xI M4 439 20 = nI (a + r) := by rw [e3c.I (by omega), e3b.I (by unfold g2; omega), e2c.I (by omega), e2b.I (by unfold g2; omega), e1c.I (by omega), e1b.I (by unfold g2; omega), e0c.I (by omega), e0b.I (by unfold g2; omega), e0.I (by unfold g2; omega)]; exact d5.1
  have fr : ∀ b k, ¬ (b = 439 ∧ (k = 11 ∨ (13 ≤ k ∧ k ≤ 16))) → ¬ (449 ≤ b ∧ b ≤ 452 ∧ k = 7 * sd + a) → xI M4 b k = xI M b k := fun b k q1 q2 => by rw [e3c.I (by omega), e3b.I (by unfold g2; omega), e2c.I (by omega), e2b.I (by unfold g2; omega), e1c.I (by omega), e1b.I (by unfold g2; omega), e0c.I (by omega), e0b.I (by unfold g2; omega), e0.I (by unfold g2; omega)]
  have frj : ∀ b k, xJ M4 b k = xJ M b k := fun b k => by rw [e3c.J id, e3b.J id, e2c.J id, e2b.J id, e1c.J id, e1b.J id, e0c.J id, e0b.J id, e0.J id]
  have o0 : xI M4 449 (7 * sd + a) = nI v0 := by rw [e3c.I (by omega), e3b.I (by unfold g2; omega), e2c.I (by omega), e2b.I (by unfold g2; omega), e1c.I (by omega), e1b.I (by unfold g2; omega)]; exact y0
  have o1 : xI M4 450 (7 * sd + a) = nI v1 := by rw [e3c.I (by omega), e3b.I (by unfold g2; omega), e2c.I (by omega), e2b.I (by unfold g2; omega)]; exact y1
  have o2 : xI M4 451 (7 * sd + a) = nI v2 := by rw [e3c.I (by omega), e3b.I (by unfold g2; omega)]; exact y2
  have o3 := y3
  have A5 : RA n c m O M4 (t + 5) ((3, 13, 4, ifs, ne, pe), _, w) := A4
  refine r_endsName (t1 := t) hm A5 i20 (by omega) tm ?_ ?_
  case refine_2 =>
    intro N9 e9 f9
    simp (disch := omega) only [lAdd, addL, lMul, mulL, nMul, nI_add, subL, lSub, nSub, nDec, nCl, lCl, nVp, lVp, nLe, nLt, nEq, lLe, leL, lLt, ltL, eqL, lEq, nM1, nM2, litLt0, one01, zero01, oneNe0, xupE, xupA, xupK, xI_I, xS_I, xF_I, xJ_I, xI_R, xS_R, xF_R, xJ_R, xI_L, xS_L, xF_L, xJ_L, xcat_s, le46, ge16, or_true, true_or, false_or, or_false, eq_self, Option.toList_some, Option.toList_none, List.cons_append, List.nil_append, true_and, and_true, not_false_eq_true, not_true_eq_false, if_true, if_false]
    exact lef163 f9 (hF N9 (EE4.trans (g1_T e9)) f9)
  intro N9 e9 A9 k9 j20 j447
  have E9 : E3 (gT sd) gJ noF M N9 := EE4.trans (e9.mono (fun a k q => by unfold g1 at q; unfold gT; omega) (fun a k q => q.1) (fun _ _ q => q))
  have W9 : WM N9 (tpos n c (t + 5 + 1)) 0 mm4 := (W4.e3 e9 (fun a k q => by unfold g1 at q; omega)).up (tpos_lt (Decidable.byContradiction fun q => k9 (tkK_0.mpr q)))
  have j19 : xI N9 439 19 = nI sd := by rw [e9.I (by unfold g1; omega), fr _ _ (by omega) (by omega)]; exact h19
  have jct : xI N9 448 sd = nI a := by rw [e9.I (by unfold g1; omega), fr _ _ (by omega) (by omega)]; exact d1
  simp (disch := omega) only [lAdd, addL, lMul, mulL, nMul, nI_add, subL, lSub, nSub, nDec, nCl, lCl, nVp, lVp, nLe, nLt, nEq, lLe, leL, lLt, ltL, eqL, lEq, nM1, nM2, litLt0, one01, zero01, oneNe0, xupE, xupA, xupK, xI_I, xS_I, xF_I, xJ_I, xI_R, xS_R, xF_R, xJ_R, xI_L, xS_L, xF_L, xJ_L, xcat_s, le46, ge16, or_true, true_or, false_or, or_false, eq_self, Option.toList_some, Option.toList_none, List.cons_append, List.nil_append, true_and, and_true, not_false_eq_true, not_true_eq_false, if_true, if_false, B_106_163, A9.1.s, A9.1.f, A9.2.2.2.2.1, if_neg, j19, jct, B_106_410]
  have e10 : E3 (fun a k => a = 448 ∧ k = sd) noF noF N9 (xmI N9 448 sd (nI (a + 1))) := (E3.refl _ _ _ _).wI _ ⟨rfl, rfl⟩
  have y10 : xI (xmI N9 448 sd (nI (a + 1))) 448 sd = nI (a + 1) := by rw [xI_I, xupE]
  generalize xmI N9 448 sd (nI (a + 1)) = N10 at e10 y10
  have fr10 : ∀ b k, ¬ (b = 439 ∧ ((11 ≤ k ∧ k ≤ 16 ∧ k ≠ 12) ∨ k = 20)) → ¬ (449 ≤ b ∧ b ≤ 452 ∧ k = 7 * sd + a) → b ≠ 448 → xI N10 b k = xI M b k := fun b k q1 q2 q3 => by rw [e10.I (by omega), e9.I (by unfold g1; omega), fr _ _ (by omega) q2]
  have of10 : ∀ b, 449 ≤ b → b ≤ 452 → xI N10 b (7 * sd + a) = xI M4 b (7 * sd + a) := fun b h1 h2 => by rw [e10.I (by omega), e9.I (by unfold g1; omega)]
  have zz : mm4.1 = 0 → mm.1 = 0 := fun q => z0 ((z1 (z2 (z3 (z4 q).1).1).1).1)
  refine hQ N10 (t + 5 + 1) mm4 _ _ _ (E9.trans (e10.mono (fun a k q => by unfold gT; omega) (fun _ _ q => absurd q id) (fun _ _ q => q))) (A9.e3 e10 (fun a k q => by omega) (fun _ _ q => absurd q id)) ⟨⟨y10, by omega, by rw [fr10 _ _ (by omega) (by omega) (by omega)]; exact d3, d4⟩, ⟨?_, fun i hi => ?_⟩, fun i hi => ?_, fun i hi => ?_, ?_⟩ (W9.e3 e10 (fun a k q => by omega)) (by omega) (fun k hk => fr10 _ _ (by omega) (by omega) (by omega)) (fun b h1 h2 => funext fun k => fr10 _ _ (by omega) (by omega) (by omega))
  · rw [e10.I (by omega), j20]; congr 1; omega
  · rw [e10.J id]
    by_cases q : i = a + r
    · rw [q, xone_s]; exact ⟨j447, k2⟩
    · rw [xone_n _ _ q, e9.J (by omega), frj]; exact d5.2 i (by omega)
  · show RLe N10 sd mm4 i (yset (yset (yset (yset L a 0 v0) a 1 v1) a 2 v2) a 3 v3 i)
    by_cases q : i = a
    · subst q
      rw [yset_e, yset_e, yset_e, yset_e]
      refine ⟨by rw [of10 449 (by omega) (by omega), o0]; rfl, by rw [of10 450 (by omega) (by omega), o1]; rfl, by rw [of10 451 (by omega) (by omega), o2]; rfl, by rw [of10 452 (by omega) (by omega), o3]; rfl, fun q0 => ?_⟩
      have b3 := z4 q0
      have b2 := z3 b3.1
      have b1 := z2 b2.1
      have b0 := z1 b1.1
      refine ⟨fun k hk => ?_, v3, Nat.lt_of_le_of_lt b3.2 (by decide), rfl⟩
      have : k = 0 ∨ k = 1 ∨ k = 2 := by omega
      rcases this with q | q | q <;> subst q
      · exact ⟨v0, Nat.lt_of_le_of_lt b0.2 (by decide), rfl⟩
      · exact ⟨v1, Nat.lt_of_le_of_lt b1.2 (by decide), rfl⟩
      · exact ⟨v2, Nat.lt_of_le_of_lt b2.2 (by decide), rfl⟩
    · rw [yset_n q, yset_n q, yset_n q, yset_n q]
      obtain ⟨l1, l2, l3, l4, l5⟩ := d6 i (by omega)
      exact ⟨by rw [fr10 _ _ (by omega) (by omega) (by omega)]; exact l1, by rw [fr10 _ _ (by omega) (by omega) (by omega)]; exact l2, by rw [fr10 _ _ (by omega) (by omega) (by omega)]; exact l3, by rw [fr10 _ _ (by omega) (by omega) (by omega)]; exact l4, fun q => l5 (zz q)⟩
  · obtain ⟨l1, l2, l3, l4⟩ := d7 i hi
    exact ⟨by rw [fr10 _ _ (by omega) (by omega) (by omega)]; exact l1, by rw [fr10 _ _ (by omega) (by omega) (by omega)]; exact l2, by rw [fr10 _ _ (by omega) (by omega) (by omega)]; exact l3, fun q => l4 (zz q)⟩
  · obtain ⟨l1, l2, l3, l4⟩ := d8
    exact ⟨by rw [fr10 _ _ (by omega) (by omega) (by omega)]; exact l1, by rw [fr10 _ _ (by omega) (by omega) (by omega)]; exact l2, by rw [fr10 _ _ (by omega) (by omega) (by omega)]; exact l3, fun q => l4 (zz q)⟩
theorem ref276 (h : FA O M) (hQ : Q none M) : RG xprog 106 276 [some (.ref 439), some (.int a1), some (.int a2)] [] M Q := by
  obtain ⟨s1, f', g2', g3', g4', g5'⟩ := h
  rw [B_106_276]
  simp (disch := omega) only [lAdd, addL, lMul, mulL, nMul, nI_add, subL, lSub, nSub, nDec, nCl, lCl, nVp, lVp, nLe, nLt, nEq, lLe, leL, lLt, ltL, eqL, lEq, nM1, nM2, litLt0, one01, zero01, oneNe0, xupE, xupA, xupK, xI_I, xS_I, xF_I, xJ_I, xI_R, xS_R, xF_R, xJ_R, xI_L, xS_L, xF_L, xJ_L, xcat_s, le46, ge16, or_true, true_or, false_or, or_false, eq_self, Option.toList_some, Option.toList_none, List.cons_append, List.nil_append, true_and, and_true, not_false_eq_true, not_true_eq_false, if_true, if_false, s1.s, g3', if_pos, B_106_410]
  exact hQ
theorem ref270 {x : Int32} (h : FA O M) (hs : sd < 2) (hi : i < 6) (hQ : ∀ M' : XM, E3 (gT sd) gJ noF M M' → FA O M' → Q none M') : RG xprog 106 270 [some (.ref 439), some (.int a1), some (.int a2)] [.int x, .int (nI (6 * sd + i)), .ref 456] M Q := by
  have f1 : FA O (xmI M 456 (6 * sd + i) x) := fw h (by omega)
  rw [B_106_270]
  simp (disch := omega) only [lAdd, addL, lMul, mulL, nMul, nI_add, subL, lSub, nSub, nDec, nCl, lCl, nVp, lVp, nLe, nLt, nEq, lLe, leL, lLt, ltL, eqL, lEq, nM1, nM2, litLt0, one01, zero01, oneNe0, xupE, xupA, xupK, xI_I, xS_I, xF_I, xJ_I, xI_R, xS_R, xF_R, xJ_R, xI_L, xS_L, xF_L, xJ_L, xcat_s, le46, ge16, or_true, true_or, false_or, or_false, eq_self, Option.toList_some, Option.toList_none, List.cons_append, List.nil_append, true_and, and_true, not_false_eq_true, not_true_eq_false, if_true, if_false, h.1.s]
  rw [r_endsNameF f1]
  simp (disch := omega) only [lAdd, addL, lMul, mulL, nMul, nI_add, subL, lSub, nSub, nDec, nCl, lCl, nVp, lVp, nLe, nLt, nEq, lLe, leL, lLt, ltL, eqL, lEq, nM1, nM2, litLt0, one01, zero01, oneNe0, xupE, xupA, xupK, xI_I, xS_I, xF_I, xJ_I, xI_R, xS_R, xF_R, xJ_R, xI_L, xS_L, xF_L, xJ_L, xcat_s, le46, ge16, or_true, true_or, false_or, or_false, eq_self, Option.toList_some, Option.toList_none, List.cons_append, List.nil_append, true_and, and_true, not_false_eq_true, not_true_eq_false, if_true, if_false]
  exact ref276 f1 (hQ _ (ew (by unfold gT; omega)) f1)
theorem ref257 {x : Int32} (h : FA O M) (hs : sd < 2) (hi : i < 6) (hQ : ∀ M' : XM, E3 (gT sd) gJ noF M M' → FA O M' → Q none M') : RG xprog 106 257 [some (.ref 439), some (.int (nI (6 * sd + i))), some (.int a2)] [.int x, .int (nI (6 * sd + i)), .ref 455] M Q := by
  have f1 : FA O (xmI M 455 (6 * sd + i) x) := fw h (by omega)
  rw [B_106_257]
  simp (disch := omega) only [lAdd, addL, lMul, mulL, nMul, nI_add, subL, lSub, nSub, nDec, nCl, lCl, nVp, lVp, nLe, nLt, nEq, lLe, leL, lLt, ltL, eqL, lEq, nM1, nM2, litLt0, one01, zero01, oneNe0, xupE, xupA, xupK, xI_I, xS_I, xF_I, xJ_I, xI_R, xS_R, xF_R, xJ_R, xI_L, xS_L, xF_L, xJ_L, xcat_s, le46, ge16, or_true, true_or, false_or, or_false, eq_self, Option.toList_some, Option.toList_none, List.cons_append, List.nil_append, true_and, and_true, not_false_eq_true, not_true_eq_false, if_true, if_false, h.1.s, h.1.f]
  rw [r_boundedF f1]
  simp (disch := omega) only [lAdd, addL, lMul, mulL, nMul, nI_add, subL, lSub, nSub, nDec, nCl, lCl, nVp, lVp, nLe, nLt, nEq, lLe, leL, lLt, ltL, eqL, lEq, nM1, nM2, litLt0, one01, zero01, oneNe0, xupE, xupA, xupK, xI_I, xS_I, xF_I, xJ_I, xI_R, xS_R, xF_R, xJ_R, xI_L, xS_L, xF_L, xJ_L, xcat_s, le46, ge16, or_true, true_or, false_or, or_false, eq_self, Option.toList_some, Option.toList_none, List.cons_append, List.nil_append, true_and, and_true, not_false_eq_true, not_true_eq_false, if_true, if_false]
  exact ref270 f1 hs hi fun M3 e3 f3 => hQ M3 ((ew (by unfold gT; omega)).trans e3) f3
theorem ref244 {x : Int32} (h : FA O M) (hs : sd < 2) (hi : i < 6) (hQ : ∀ M' : XM, E3 (gT sd) gJ noF M M' → FA O M' → Q none M') : RG xprog 106 244 [some (.ref 439), some (.int (nI (6 * sd + i))), some (.int a2)] [.int x, .int (nI (6 * sd + i)), .ref 454] M Q := by
  have f1 : FA O (xmI M 454 (6 * sd + i) x) := fw h (by omega)
  rw [B_106_244]
  simp (disch := omega) only [lAdd, addL, lMul, mulL, nMul, nI_add, subL, lSub, nSub, nDec, nCl, lCl, nVp, lVp, nLe, nLt, nEq, lLe, leL, lLt, ltL, eqL, lEq, nM1, nM2, litLt0, one01, zero01, oneNe0, xupE, xupA, xupK, xI_I, xS_I, xF_I, xJ_I, xI_R, xS_R, xF_R, xJ_R, xI_L, xS_L, xF_L, xJ_L, xcat_s, le46, ge16, or_true, true_or, false_or, or_false, eq_self, Option.toList_some, Option.toList_none, List.cons_append, List.nil_append, true_and, and_true, not_false_eq_true, not_true_eq_false, if_true, if_false, h.1.s, h.1.f]
  rw [r_boundedF f1]
  simp (disch := omega) only [lAdd, addL, lMul, mulL, nMul, nI_add, subL, lSub, nSub, nDec, nCl, lCl, nVp, lVp, nLe, nLt, nEq, lLe, leL, lLt, ltL, eqL, lEq, nM1, nM2, litLt0, one01, zero01, oneNe0, xupE, xupA, xupK, xI_I, xS_I, xF_I, xJ_I, xI_R, xS_R, xF_R, xJ_R, xI_L, xS_L, xF_L, xJ_L, xcat_s, le46, ge16, or_true, true_or, false_or, or_false, eq_self, Option.toList_some, Option.toList_none, List.cons_append, List.nil_append, true_and, and_true, not_false_eq_true, not_true_eq_false, if_true, if_false]
  exact ref257 f1 hs hi fun M3 e3 f3 => hQ M3 ((ew (by unfold gT; omega)).trans e3) f3
theorem ref231 (h : FA O M) (hs : sd < 2) (hi : i < 6) (hQ : ∀ M' : XM, E3 (gT sd) gJ noF M M' → FA O M' → Q none M') : RG xprog 106 231 [some (.ref 439), some (.int (nI (6 * sd + i))), none] [.int a2] M Q := by
  rw [B_106_231]
  simp (disch := omega) only [lAdd, addL, lMul, mulL, nMul, nI_add, subL, lSub, nSub, nDec, nCl, lCl, nVp, lVp, nLe, nLt, nEq, lLe, leL, lLt, ltL, eqL, lEq, nM1, nM2, litLt0, one01, zero01, oneNe0, xupE, xupA, xupK, xI_I, xS_I, xF_I, xJ_I, xI_R, xS_R, xF_R, xJ_R, xI_L, xS_L, xF_L, xJ_L, xcat_s, le46, ge16, or_true, true_or, false_or, or_false, eq_self, Option.toList_some, Option.toList_none, List.cons_append, List.nil_append, true_and, and_true, not_false_eq_true, not_true_eq_false, if_true, if_false, h.1.s, h.1.f]
  rw [r_boundedF h]
  simp (disch := omega) only [lAdd, addL, lMul, mulL, nMul, nI_add, subL, lSub, nSub, nDec, nCl, lCl, nVp, lVp, nLe, nLt, nEq, lLe, leL, lLt, ltL, eqL, lEq, nM1, nM2, litLt0, one01, zero01, oneNe0, xupE, xupA, xupK, xI_I, xS_I, xF_I, xJ_I, xI_R, xS_R, xF_R, xJ_R, xI_L, xS_L, xF_L, xJ_L, xcat_s, le46, ge16, or_true, true_or, false_or, or_false, eq_self, Option.toList_some, Option.toList_none, List.cons_append, List.nil_append, true_and, and_true, not_false_eq_true, not_true_eq_false, if_true, if_false]
  exact ref244 h hs hi hQ
theorem r_re (hm : MT n c m) (hs : sd < 2) (h19 : xI M 439 19 = nI sd) (ha : r < 6) (h : RA n c m O M t ((1, 14, fd, ifs, ne, pe), (mm, a, r, nm, L, R, S), w)) (rd : RD n c M sd (mm, a, r, nm, L, R, S)) (hw : WM M (tpos n c t) 0 mm)
    (hQ : ∀ (M' : XM) (t' : Nat) (mm' : Nat × Int32) (nm' : Nat → Nat) (R' : Nat → Nat → Int32) (fd' : Nat), E3 (gT sd) gJ noF M M' → RA n c m O M' t' ((0, 14, fd', ifs, ne, pe), (mm', a, r + 1, nm', L, R', S), w) → RD n c M' sd (mm', a, r + 1, nm', L, R', S) → WM M' (tpos n c t') 0 mm' → t < t' → (∀ k, k = 12 ∨ k = 19 ∨ k = 36 ∨ k = 42 → xI M' 439 k = xI M 439 k) → (∀ b, 460 ≤ b → b ≤ 469 → xI M' b = xI M b) → Q none M') (hF : ∀ M' : XM, E3 (gT sd) gJ noF M M' → FA O M' → Q none M') :
    RG xprog 106 201 [some (.ref 439), none, none] [] M Q := by
  have m4 := hm.1
  obtain ⟨⟨d1, d2, d3, d4⟩, d5, d6, d7, d8⟩ := rd
  have tm := h.2.2.1
  rw [B_106_201]
  simp (disch := omega) only [lAdd, addL, lMul, mulL, nMul, nI_add, subL, lSub, nSub, nDec, nCl, lCl, nVp, lVp, nLe, nLt, nEq, lLe, leL, lLt, ltL, eqL, lEq, nM1, nM2, litLt0, one01, zero01, oneNe0, xupE, xupA, xupK, xI_I, xS_I, xF_I, xJ_I, xI_R, xS_R, xF_R, xJ_R, xI_L, xS_L, xF_L, xJ_L, xcat_s, le46, ge16, or_true, true_or, false_or, or_false, eq_self, Option.toList_some, Option.toList_none, List.cons_append, List.nil_append, true_and, and_true, not_false_eq_true, not_true_eq_false, if_true, if_false, h.1.s, h.1.f, h.2.2.2.2.1, if_pos, h19, d3]
  refine r_nam hm h (by omega) d5 hw ?_ ?_
  case refine_2 =>
    intro M1 e1 f1
    simp (disch := omega) only [lAdd, addL, lMul, mulL, nMul, nI_add, subL, lSub, nSub, nDec, nCl, lCl, nVp, lVp, nLe, nLt, nEq, lLe, leL, lLt, ltL, eqL, lEq, nM1, nM2, litLt0, one01, zero01, oneNe0, xupE, xupA, xupK, xI_I, xS_I, xF_I, xJ_I, xI_R, xS_R, xF_R, xJ_R, xI_L, xS_L, xF_L, xJ_L, xcat_s, le46, ge16, or_true, true_or, false_or, or_false, eq_self, Option.toList_some, Option.toList_none, List.cons_append, List.nil_append, true_and, and_true, not_false_eq_true, not_true_eq_false, if_true, if_false]
    exact ref231 f1 hs ha fun M3 e3 f3 => hF M3 ((g2_T e1).trans e3) f3
  intro M0 mm0 e0 k2 A0 W0 z0
  rw [if_neg (by omega), if_neg (by omega)] at A0
  have EE0 : E3 (gT sd) gJ noF M M0 := g2_T e0
  simp (disch := omega) only [lAdd, addL, lMul, mulL, nMul, nI_add, subL, lSub, nSub, nDec, nCl, lCl, nVp, lVp, nLe, nLt, nEq, lLe, leL, lLt, ltL, eqL, lEq, nM1, nM2, litLt0, one01, zero01, oneNe0, xupE, xupA, xupK, xI_I, xS_I, xF_I, xJ_I, xI_R, xS_R, xF_R, xJ_R, xI_L, xS_L, xF_L, xJ_L, xcat_s, le46, ge16, or_true, true_or, false_or, or_false, eq_self, Option.toList_some, Option.toList_none, List.cons_append, List.nil_append, true_and, and_true, not_false_eq_true, not_true_eq_false, if_true, if_false, B_106_231, A0.1.s, A0.1.f]
  refine r_bnd hm A0 rfl W0 ?_ ?_
  case refine_2 =>
    intro N1 x e1 f1
    simp (disch := omega) only [lAdd, addL, lMul, mulL, nMul, nI_add, subL, lSub, nSub, nDec, nCl, lCl, nVp, lVp, nLe, nLt, nEq, lLe, leL, lLt, ltL, eqL, lEq, nM1, nM2, litLt0, one01, zero01, oneNe0, xupE, xupA, xupK, xI_I, xS_I, xF_I, xJ_I, xI_R, xS_R, xF_R, xJ_R, xI_L, xS_L, xF_L, xJ_L, xcat_s, le46, ge16, or_true, true_or, false_or, or_false, eq_self, Option.toList_some, Option.toList_none, List.cons_append, List.nil_append, true_and, and_true, not_false_eq_true, not_true_eq_false, if_true, if_false]
    exact ref244 f1 hs ha fun M3 e3 f3 => hF M3 ((EE0.trans (g2_T e1)).trans e3) f3
  intro N0 mm1 v0 e0b B0 X0 z1
  have y0 : xI (xmI N0 454 (6 * sd + r) (nI v0)) 454 (6 * sd + r) = nI v0 := by rw [xI_I, xupE]
  have e0c : E3 (fun b k => b = 454 ∧ k = 6 * sd + r) noF noF N0 (xmI N0 454 (6 * sd + r) (nI v0)) := (E3.refl _ _ _ _).wI _ ⟨rfl, rfl⟩
  simp (disch := omega) only [lAdd, addL, lMul, mulL, nMul, nI_add, subL, lSub, nSub, nDec, nCl, lCl, nVp, lVp, nLe, nLt, nEq, lLe, leL, lLt, ltL, eqL, lEq, nM1, nM2, litLt0, one01, zero01, oneNe0, xupE, xupA, xupK, xI_I, xS_I, xF_I, xJ_I, xI_R, xS_R, xF_R, xJ_R, xI_L, xS_L, xF_L, xJ_L, xcat_s, le46, ge16, or_true, true_or, false_or, or_false, eq_self, Option.toList_some, Option.toList_none, List.cons_append, List.nil_append, true_and, and_true, not_false_eq_true, not_true_eq_false, if_true, if_false, B_106_244, B0.1.s, B0.1.f]
  generalize xmI N0 454 (6 * sd + r) (nI v0) = M1 at y0 e0c
  have A1 := B0.e3 e0c (fun a k q => by omega) (fun _ _ q => absurd q id)
  have W1 := X0.e3 e0c (fun a k q => by omega)
  have EE1 : E3 (gT sd) gJ noF M M1 := (EE0.trans (g2_T e0b)).trans (e0c.mono (fun a k q => by unfold gT; omega) (fun _ _ q => absurd q id) (fun _ _ q => q))
  refine r_bnd hm A1 rfl W1 ?_ ?_
  case refine_2 =>
    intro N1 x e1 f1
    simp (disch := omega) only [lAdd, addL, lMul, mulL, nMul, nI_add, subL, lSub, nSub, nDec, nCl, lCl, nVp, lVp, nLe, nLt, nEq, lLe, leL, lLt, ltL, eqL, lEq, nM1, nM2, litLt0, one01, zero01, oneNe0, xupE, xupA, xupK, xI_I, xS_I, xF_I, xJ_I, xI_R, xS_R, xF_R, xJ_R, xI_L, xS_L, xF_L, xJ_L, xcat_s, le46, ge16, or_true, true_or, false_or, or_false, eq_self, Option.toList_some, Option.toList_none, List.cons_append, List.nil_append, true_and, and_true, not_false_eq_true, not_true_eq_false, if_true, if_false]
    exact ref257 f1 hs ha fun M3 e3 f3 => hF M3 ((EE1.trans (g2_T e1)).trans e3) f3
  intro N1 mm2 v1 e1b B1 X1 z2
  have y1 : xI (xmI N1 455 (6 * sd + r) (nI v1)) 455 (6 * sd + r) = nI v1 := by rw [xI_I, xupE]
  have e1c : E3 (fun b k => b = 455 ∧ k = 6 * sd + r) noF noF N1 (xmI N1 455 (6 * sd + r) (nI v1)) := (E3.refl _ _ _ _).wI _ ⟨rfl, rfl⟩
  simp (disch := omega) only [lAdd, addL, lMul, mulL, nMul, nI_add, subL, lSub, nSub, nDec, nCl, lCl, nVp, lVp, nLe, nLt, nEq, lLe, leL, lLt, ltL, eqL, lEq, nM1, nM2, litLt0, one01, zero01, oneNe0, xupE, xupA, xupK, xI_I, xS_I, xF_I, xJ_I, xI_R, xS_R, xF_R, xJ_R, xI_L, xS_L, xF_L, xJ_L, xcat_s, le46, ge16, or_true, true_or, false_or, or_false, eq_self, Option.toList_some, Option.toList_none, List.cons_append, List.nil_append, true_and, and_true, not_false_eq_true, not_true_eq_false, if_true, if_false, B_106_257, B1.1.s, B1.1.f]
  generalize xmI N1 455 (6 * sd + r) (nI v1) = M2 at y1 e1c
  have A2 := B1.e3 e1c (fun a k q => by omega) (fun _ _ q => absurd q id)
  have W2 := X1.e3 e1c (fun a k q => by omega)
  have EE2 : E3 (gT sd) gJ noF M M2 := (EE1.trans (g2_T e1b)).trans (e1c.mono (fun a k q => by unfold gT; omega) (fun _ _ q => absurd q id) (fun _ _ q => q))
  refine r_bnd hm A2 rfl W2 ?_ ?_
  case refine_2 =>
    intro N1 x e1 f1
    simp (disch := omega) only [lAdd, addL, lMul, mulL, nMul, nI_add, subL, lSub, nSub, nDec, nCl, lCl, nVp, lVp, nLe, nLt, nEq, lLe, leL, lLt, ltL, eqL, lEq, nM1, nM2, litLt0, one01, zero01, oneNe0, xupE, xupA, xupK, xI_I, xS_I, xF_I, xJ_I, xI_R, xS_R, xF_R, xJ_R, xI_L, xS_L, xF_L, xJ_L, xcat_s, le46, ge16, or_true, true_or, false_or, or_false, eq_self, Option.toList_some, Option.toList_none, List.cons_append, List.nil_append, true_and, and_true, not_false_eq_true, not_true_eq_false, if_true, if_false]
    exact ref270 f1 hs ha fun M3 e3 f3 => hF M3 ((EE2.trans (g2_T e1)).trans e3) f3
  intro N2 mm3 v2 e2b B2 X2 z3
  have y2 : xI (xmI N2 456 (6 * sd + r) (nI v2)) 456 (6 * sd + r) = nI v2 := by rw [xI_I, xupE]
  have e2c : E3 (fun b k => b = 456 ∧ k = 6 * sd + r) noF noF N2 (xmI N2 456 (6 * sd + r) (nI v2)) := (E3.refl _ _ _ _).wI _ ⟨rfl, rfl⟩
  simp (disch := omega) only [lAdd, addL, lMul, mulL, nMul, nI_add, subL, lSub, nSub, nDec, nCl, lCl, nVp, lVp, nLe, nLt, nEq, lLe, leL, lLt, ltL, eqL, lEq, nM1, nM2, litLt0, one01, zero01, oneNe0, xupE, xupA, xupK, xI_I, xS_I, xF_I, xJ_I, xI_R, xS_R, xF_R, xJ_R, xI_L, xS_L, xF_L, xJ_L, xcat_s, le46, ge16, or_true, true_or, false_or, or_false, eq_self, Option.toList_some, Option.toList_none, List.cons_append, List.nil_append, true_and, and_true, not_false_eq_true, not_true_eq_false, if_true, if_false, B_106_270, B2.1.s, B2.1.f]
  generalize xmI N2 456 (6 * sd + r) (nI v2) = M3 at y2 e2c
  have A3 := B2.e3 e2c (fun a k q => by omega) (fun _ _ q => absurd q id)
  have W3 := X2.e3 e2c (fun a k q => by omega)
  have EE3 : E3 (gT sd) gJ noF M M3 := (EE2.trans (g2_T e2b)).trans (e2c.mono (fun a k q => by unfold gT; omega) (fun _ _ q => absurd q id) (fun _ _ q => q))
  have i20 : xI M3 439 20 = nI (a + r) := by rw [e2c.I (by omega), e2b.I (by unfold g2; omega), e1c.I (by omega), e1b.I (by unfold g2; omega), e0c.I (by omega), e0b.I (by unfold g2; omega), e0.I (by unfold g2; omega)]; exact d5.1
  have fr : ∀ b k, ¬ (b = 439 ∧ (k = 11 ∨ (13 ≤ k ∧ k ≤ 16))) → ¬ (454 ≤ b ∧ b ≤ 456 ∧ k = 6 * sd + r) → xI M3 b k = xI M b k := fun b k q1 q2 => by rw [e2c.I (by omega), e2b.I (by unfold g2; omega), e1c.I (by omega), e1b.I (by unfold g2; omega), e0c.I (by omega), e0b.I (by unfold g2; omega), e0.I (by unfold g2; omega)]
  have frj : ∀ b k, xJ M3 b k = xJ M b k := fun b k => by rw [e2c.J id, e2b.J id, e1c.J id, e1b.J id, e0c.J id, e0b.J id, e0.J id]
  have o0 : xI M3 454 (6 * sd + r) = nI v0 := by rw [e2c.I (by omega), e2b.I (by unfold g2; omega), e1c.I (by omega), e1b.I (by unfold g2; omega)]; exact y0
  have o1 : xI M3 455 (6 * sd + r) = nI v1 := by rw [e2c.I (by omega), e2b.I (by unfold g2; omega)]; exact y1
  have o2 := y2
  have A5 : RA n c m O M3 (t + 4) ((3, 14, 3, ifs, ne, pe), _, w) := A3
  refine r_endsName (t1 := t) hm A5 i20 (by omega) tm ?_ ?_
  case refine_2 =>
    intro N9 e9 f9
    simp (disch := omega) only [lAdd, addL, lMul, mulL, nMul, nI_add, subL, lSub, nSub, nDec, nCl, lCl, nVp, lVp, nLe, nLt, nEq, lLe, leL, lLt, ltL, eqL, lEq, nM1, nM2, litLt0, one01, zero01, oneNe0, xupE, xupA, xupK, xI_I, xS_I, xF_I, xJ_I, xI_R, xS_R, xF_R, xJ_R, xI_L, xS_L, xF_L, xJ_L, xcat_s, le46, ge16, or_true, true_or, false_or, or_false, eq_self, Option.toList_some, Option.toList_none, List.cons_append, List.nil_append, true_and, and_true, not_false_eq_true, not_true_eq_false, if_true, if_false]
    exact ref276 f9 (hF N9 (EE3.trans (g1_T e9)) f9)
  intro N9 e9 A9 k9 j20 j447
  have E9 : E3 (gT sd) gJ noF M N9 := EE3.trans (e9.mono (fun a k q => by unfold g1 at q; unfold gT; omega) (fun a k q => q.1) (fun _ _ q => q))
  have W9 : WM N9 (tpos n c (t + 4 + 1)) 0 mm3 := (W3.e3 e9 (fun a k q => by unfold g1 at q; omega)).up (tpos_lt (Decidable.byContradiction fun q => k9 (tkK_0.mpr q)))
  have j19 : xI N9 439 19 = nI sd := by rw [e9.I (by unfold g1; omega), fr _ _ (by omega) (by omega)]; exact h19
  have jct : xI N9 453 sd = nI r := by rw [e9.I (by unfold g1; omega), fr _ _ (by omega) (by omega)]; exact d3
  simp (disch := omega) only [lAdd, addL, lMul, mulL, nMul, nI_add, subL, lSub, nSub, nDec, nCl, lCl, nVp, lVp, nLe, nLt, nEq, lLe, leL, lLt, ltL, eqL, lEq, nM1, nM2, litLt0, one01, zero01, oneNe0, xupE, xupA, xupK, xI_I, xS_I, xF_I, xJ_I, xI_R, xS_R, xF_R, xJ_R, xI_L, xS_L, xF_L, xJ_L, xcat_s, le46, ge16, or_true, true_or, false_or, or_false, eq_self, Option.toList_some, Option.toList_none, List.cons_append, List.nil_append, true_and, and_true, not_false_eq_true, not_true_eq_false, if_true, if_false, B_106_276, A9.1.s, A9.1.f, A9.2.2.2.2.1, if_neg, j19, jct, B_106_410]
  have e10 : E3 (fun a k => a = 453 ∧ k = sd) noF noF N9 (xmI N9 453 sd (nI (r + 1))) := (E3.refl _ _ _ _).wI _ ⟨rfl, rfl⟩
  have y10 : xI (xmI N9 453 sd (nI (r + 1))) 453 sd = nI (r + 1) := by rw [xI_I, xupE]
  generalize xmI N9 453 sd (nI (r + 1)) = N10 at e10 y10
  have fr10 : ∀ b k, ¬ (b = 439 ∧ ((11 ≤ k ∧ k ≤ 16 ∧ k ≠ 12) ∨ k = 20)) → ¬ (454 ≤ b ∧ b ≤ 456 ∧ k = 6 * sd + r) → b ≠ 453 → xI N10 b k = xI M b k := fun b k q1 q2 q3 => by rw [e10.I (by omega), e9.I (by unfold g1; omega), fr _ _ (by omega) q2]
  have of10 : ∀ b, 454 ≤ b → b ≤ 456 → xI N10 b (6 * sd + r) = xI M3 b (6 * sd + r) := fun b h1 h2 => by rw [e10.I (by omega), e9.I (by unfold g1; omega)]
  have zz : mm3.1 = 0 → mm.1 = 0 := fun q => z0 ((z1 (z2 (z3 q).1).1).1)
  refine hQ N10 (t + 4 + 1) mm3 _ _ _ (E9.trans (e10.mono (fun a k q => by unfold gT; omega) (fun _ _ q => absurd q id) (fun _ _ q => q))) (A9.e3 e10 (fun a k q => by omega) (fun _ _ q => absurd q id)) ⟨⟨by rw [fr10 _ _ (by omega) (by omega) (by omega)]; exact d1, d2, y10, by omega⟩, ⟨?_, fun i hi => ?_⟩, fun i hi => ?_, fun i hi => ?_, ?_⟩ (W9.e3 e10 (fun a k q => by omega)) (by omega) (fun k hk => fr10 _ _ (by omega) (by omega) (by omega)) (fun b h1 h2 => funext fun k => fr10 _ _ (by omega) (by omega) (by omega))
  · rw [e10.I (by omega), j20]; rfl
  · rw [e10.J id]
    by_cases q : i = a + r
    · rw [q, xone_s]; exact ⟨j447, k2⟩
    · rw [xone_n _ _ q, e9.J (by omega), frj]; exact d5.2 i (by omega)
  · obtain ⟨l1, l2, l3, l4, l5⟩ := d6 i hi
    exact ⟨by rw [fr10 _ _ (by omega) (by omega) (by omega)]; exact l1, by rw [fr10 _ _ (by omega) (by omega) (by omega)]; exact l2, by rw [fr10 _ _ (by omega) (by omega) (by omega)]; exact l3, by rw [fr10 _ _ (by omega) (by omega) (by omega)]; exact l4, fun q => l5 (zz q)⟩
  · show RRe N10 sd mm3 i (yset (yset (yset R r 0 v0) r 1 v1) r 2 v2 i)
    by_cases q : i = r
    · subst q
      rw [yset_e, yset_e, yset_e]
      refine ⟨by rw [of10 454 (by omega) (by omega), o0]; rfl, by rw [of10 455 (by omega) (by omega), o1]; rfl, by rw [of10 456 (by omega) (by omega), o2]; rfl, fun q0 => ?_⟩
      have b2 := z3 q0
      have b1 := z2 b2.1
      have b0 := z1 b1.1
      intro k hk
      have : k = 0 ∨ k = 1 ∨ k = 2 := by omega
      rcases this with q | q | q <;> subst q
      · exact ⟨v0, Nat.lt_of_le_of_lt b0.2 (by decide), rfl⟩
      · exact ⟨v1, Nat.lt_of_le_of_lt b1.2 (by decide), rfl⟩
      · exact ⟨v2, Nat.lt_of_le_of_lt b2.2 (by decide), rfl⟩
    · rw [yset_n q, yset_n q, yset_n q]
      obtain ⟨l1, l2, l3, l4⟩ := d7 i (by omega)
      exact ⟨by rw [fr10 _ _ (by omega) (by omega) (by omega)]; exact l1, by rw [fr10 _ _ (by omega) (by omega) (by omega)]; exact l2, by rw [fr10 _ _ (by omega) (by omega) (by omega)]; exact l3, fun q => l4 (zz q)⟩
  · obtain ⟨l1, l2, l3, l4⟩ := d8
    exact ⟨by rw [fr10 _ _ (by omega) (by omega) (by omega)]; exact l1, by rw [fr10 _ _ (by omega) (by omega) (by omega)]; exact l2, by rw [fr10 _ _ (by omega) (by omega) (by omega)]; exact l3, fun q => l4 (zz q)⟩
end XRL
