/-! the parser's steps: names and ints -/
section XPV
variable {Q : Option Value → XM → Prop} {M : XM} {d : Nat} {N : Nat → Int64} {sm : Nat → Nat → Bool} {st tk fd ifs ne pe : Nat} {m : Nat × Int32} {a r : Nat} {nm : Nat → Nat} {L R : Nat → Nat → Int32} {S : Nat → Int32} {X : YX} {W : Nat → YL} {lw : Nat} {l : YL} {z : Nat × (Nat → Nat)} {sk : Nat} {k v j : Nat}
def nP (d : Nat) : Nat → Nat → Prop := fun a k => (a = 19 ∧ 3 ≤ k ∧ k ≤ 12) ∨ (a = d ∧ (k = 0 ∨ k = 1 ∨ k = 7))
def nJ (d q : Nat) : Nat → Nat → Prop := fun a k => a = d + 18 ∧ k = q
theorem cx_name {M' : XM} {a' r' : Nat} (hd : d = 26 ∨ d = 55) (h : CX M d N (m, a, r, nm, L, R, S)) (e : E3 (nP d) (nJ d (a + r)) yF M M') (h0 : xI M' d 0 = nI a') (h1 : xI M' d 1 = nI r') (h7 : xI M' d 7 = nI (a' + r')) (hj : xJ M' (d + 18) (a + r) = N j) (hq : a' + r' = a + r + 1) (ha : a' ≤ 7) (hr : r' ≤ 6) : CX M' d N (m, a', r', xone nm (a + r) j, L, R, S) := by
  obtain ⟨⟨x1, x2, x3⟩, ⟨x4, x5, x6, x7, x8⟩, x9, x10, x11, x12⟩ := h
  have I : ∀ a k, (a = 19 ∧ (k = 13 ∨ k = 14)) → xI M' a k = xI M a k := fun a k q => e.I fun z => by unfold nP at z; omega
  have W' : ∀ a, d < a → a < d + 17 → xI M' a = xI M a := fun a h1 h2 => e.rowI fun k z => by unfold nP at z; omega
  refine ⟨⟨by rw [I _ _ (by omega)]; exact x1, x2, by rw [I _ _ (by omega)]; exact x3⟩, ⟨h0, h1, h7, ha, hr⟩, fun i hi => ?_, fun l hl => by rw [W' _ (by omega) (by omega)]; exact x10 l hl, fun l hl => by rw [W' _ (by omega) (by omega)]; exact x11 l hl, by rw [W' _ (by omega) (by omega)]; exact x12⟩
  by_cases y : i = a + r
  · rw [y, xone_s]; exact hj
  · rw [xone_n _ _ y, e.J (by unfold nJ; omega)]; exact x9 i (by omega)
theorem ylim_le (tk fd : Nat) : ylim tk fd ≤ 9999 := by
  unfold ylim
  split
  · split <;> omega
  · split
    · omega
    · split
      · omega
      · split <;> omega
/-- the memory behind a name -/
def nmM (M : XM) (d q : Nat) (x : Int64) (ρ lm : Nat) (y : Int32) (e a' : Nat) : XM := xmI (xmI (xmI (xmI (xmR (xmR (xmI (xmL M (d + 18) q x) d 7 (nI (q + 1))) 19 6 ρ) 19 7 lm) 19 8 0) 19 9 y) 19 3 2) d e (nI a')
theorem nmM_e {q ρ lm e a' : Nat} {x : Int64} {y : Int32} (he : e = 0 ∨ e = 1) : E3 (nP d) (nJ d q) yF M (nmM M d q x ρ lm y e a') :=
  ((((((((E3.refl _ _ _ _).wJ _ (by unfold nJ; omega)).wI _ (by unfold nP; omega)).wF _ (by unfold yF; omega)).wF _ (by unfold yF; omega)).wI _ (by unfold nP; omega)).wI _ (by unfold nP; omega)).wI _ (by unfold nP; omega)).wI _ (by unfold nP; omega)
theorem nmM_f {q ρ lm e a' : Nat} {x : Int64} {y : Int32} (hd : 24 ≤ d) (he : e = 0 ∨ e = 1) : xI (nmM M d q x ρ lm y e a') d e = nI a' ∧ xI (nmM M d q x ρ lm y e a') d (1 - e) = xI M d (1 - e) ∧ xI (nmM M d q x ρ lm y e a') d 7 = nI (q + 1) ∧ xJ (nmM M d q x ρ lm y e a') (d + 18) q = x ∧ xI (nmM M d q x ρ lm y e a') 19 3 = nI 2 ∧ xI (nmM M d q x ρ lm y e a') 19 4 = xI M 19 4 ∧ xI (nmM M d q x ρ lm y e a') 19 8 = nI 0 ∧ xF (nmM M d q x ρ lm y e a') 19 6 = ρ ∧ xF (nmM M d q x ρ lm y e a') 19 7 = lm ∧ xI (nmM M d q x ρ lm y e a') 19 9 = y := by
  unfold nmM
  rcases he with he | he
  · subst he; refine ⟨by simp (disch := omega) only [lAdd, addL, lMul, mulL, nMul, nI_add, subL, lSub, nSub, nDec, nCl, lCl, nVp, lVp, nLe, nLt, nEq, lLe, leL, lLt, ltL, eqL, lEq, nM1, nM2, litLt0, one01, zero01, oneNe0, xupE, xupA, xupK, xI_I, xS_I, xF_I, xJ_I, xI_R, xS_R, xF_R, xJ_R, xI_L, xS_L, xF_L, xJ_L, xcat_s, le46, ge16, or_true, true_or, false_or, or_false, eq_self, Option.toList_some, Option.toList_none, List.cons_append, List.nil_append, true_and, and_true, not_false_eq_true, not_true_eq_false, if_true, if_false], by simp (disch := omega) only [lAdd, addL, lMul, mulL, nMul, nI_add, subL, lSub, nSub, nDec, nCl, lCl, nVp, lVp, nLe, nLt, nEq, lLe, leL, lLt, ltL, eqL, lEq, nM1, nM2, litLt0, one01, zero01, oneNe0, xupE, xupA, xupK, xI_I, xS_I, xF_I, xJ_I, xI_R, xS_R, xF_R, xJ_R, xI_L, xS_L, xF_L, xJ_L, xcat_s, le46, ge16, or_true, true_or, false_or, or_false, eq_self, Option.toList_some, Option.toList_none, List.cons_append, List.nil_append, true_and, and_true, not_false_eq_true, not_true_eq_false, if_true, if_false], by simp (disch := omega) only [lAdd, addL, lMul, mulL, nMul, nI_add, subL, lSub, nSub, nDec, nCl, lCl, nVp, lVp, nLe, nLt, nEq, lLe, leL, lLt, ltL, eqL, lEq, nM1, nM2, litLt0, one01, zero01, oneNe0, xupE, xupA, xupK, xI_I, xS_I, xF_I, xJ_I, xI_R, xS_R, xF_R, xJ_R, xI_L, xS_L, xF_L, xJ_L, xcat_s, le46, ge16, or_true, true_or, false_or, or_false, eq_self, Option.toList_some, Option.toList_none, List.cons_append, List.nil_append, true_and, and_true, not_false_eq_true, not_true_eq_false, if_true, if_false], by simp (disch := omega) only [lAdd, addL, lMul, mulL, nMul, nI_add, subL, lSub, nSub, nDec, nCl, lCl, nVp, lVp, nLe, nLt, nEq, lLe, leL, lLt, ltL, eqL, lEq, nM1, nM2, litLt0, one01, zero01, oneNe0, xupE, xupA, xupK, xI_I, xS_I, xF_I, xJ_I, xI_R, xS_R, xF_R, xJ_R, xI_L, xS_L, xF_L, xJ_L, xcat_s, le46, ge16, or_true, true_or, false_or, or_false, eq_self, Option.toList_some, Option.toList_none, List.cons_append, List.nil_append, true_and, and_true, not_false_eq_true, not_true_eq_false, if_true, if_false], by simp (disch := omega) only [lAdd, addL, lMul, mulL, nMul, nI_add, subL, lSub, nSub, nDec, nCl, lCl, nVp, lVp, nLe, nLt, nEq, lLe, leL, lLt, ltL, eqL, lEq, nM1, nM2, litLt0, one01, zero01, oneNe0, xupE, xupA, xupK, xI_I, xS_I, xF_I, xJ_I, xI_R, xS_R, xF_R, xJ_R, xI_L, xS_L, xF_L, xJ_L, xcat_s, le46, ge16, or_true, true_or, false_or, or_false, eq_self, Option.toList_some, Option.toList_none, List.cons_append, List.nil_append, true_and, and_true, not_false_eq_true, not_true_eq_false, if_true, if_false], by simp (disch := omega) only [lAdd, addL, lMul, mulL, nMul, nI_add, subL, lSub, nSub, nDec, nCl, lCl, nVp, lVp, nLe, nLt, nEq, lLe, leL, lLt, ltL, eqL, lEq, nM1, nM2, litLt0, one01, zero01, oneNe0, xupE, xupA, xupK, xI_I, xS_I, xF_I, xJ_I, xI_R, xS_R, xF_R, xJ_R, xI_L, xS_L, xF_L, xJ_L, xcat_s, le46, ge16, or_true, true_or, false_or, or_false, eq_self, Option.toList_some, Option.toList_none, List.cons_append, List.nil_append, true_and, and_true, not_false_eq_true, not_true_eq_false, if_true, if_false], by simp (disch := omega) only [lAdd, addL, lMul, mulL, nMul, nI_add, subL, lSub, nSub, nDec, nCl, lCl, nVp, lVp, nLe, nLt, nEq, lLe, leL, lLt, ltL, eqL, lEq, nM1, nM2, litLt0, one01, zero01, oneNe0, xupE, xupA, xupK, xI_I, xS_I, xF_I, xJ_I, xI_R, xS_R, xF_R, xJ_R, xI_L, xS_L, xF_L, xJ_L, xcat_s, le46, ge16, or_true, true_or, false_or, or_false, eq_self, Option.toList_some, Option.toList_none, List.cons_append, List.nil_append, true_and, and_true, not_false_eq_true, not_true_eq_false, if_true, if_false], by simp (disch := omega) only [lAdd, addL, lMul, mulL, nMul, nI_add, subL, lSub, nSub, nDec, nCl, lCl, nVp, lVp, nLe, nLt, nEq, lLe, leL, lLt, ltL, eqL, lEq, nM1, nM2, litLt0, one01, zero01, oneNe0, xupE, xupA, xupK, xI_I, xS_I, xF_I, xJ_I, xI_R, xS_R, xF_R, xJ_R, xI_L, xS_L, xF_L, xJ_L, xcat_s, le46, ge16, or_true, true_or, false_or, or_false, eq_self, Option.toList_some, Option.toList_none, List.cons_append, List.nil_append, true_and, and_true, not_false_eq_true, not_true_eq_false, if_true, if_false], by simp (disch := omega) only [lAdd, addL, lMul, mulL, nMul, nI_add, subL, lSub, nSub, nDec, nCl, lCl, nVp, lVp, nLe, nLt, nEq, lLe, leL, lLt, ltL, eqL, lEq, nM1, nM2, litLt0, one01, zero01, oneNe0, xupE, xupA, xupK, xI_I, xS_I, xF_I, xJ_I, xI_R, xS_R, xF_R, xJ_R, xI_L, xS_L, xF_L, xJ_L, xcat_s, le46, ge16, or_true, true_or, false_or, or_false, eq_self, Option.toList_some, Option.toList_none, List.cons_append, List.nil_append, true_and, and_true, not_false_eq_true, not_true_eq_false, if_true, if_false], by simp (disch := omega) only [lAdd, addL, lMul, mulL, nMul, nI_add, subL, lSub, nSub, nDec, nCl, lCl, nVp, lVp, nLe, nLt, nEq, lLe, leL, lLt, ltL, eqL, lEq, nM1, nM2, litLt0, one01, zero01, oneNe0, xupE, xupA, xupK, xI_I, xS_I, xF_I, xJ_I, xI_R, xS_R, xF_R, xJ_R, xI_L, xS_L, xF_L, xJ_L, xcat_s, le46, ge16, or_true, true_or, false_or, or_false, eq_self, Option.toList_some, Option.toList_none, List.cons_append, List.nil_append, true_and, and_true, not_false_eq_true, not_true_eq_false, if_true, if_false]⟩
  · subst he; refine ⟨by simp (disch := omega) only [lAdd, addL, lMul, mulL, nMul, nI_add, subL, lSub, nSub, nDec, nCl, lCl, nVp, lVp, nLe, nLt, nEq, lLe, leL, lLt, ltL, eqL, lEq, nM1, nM2, litLt0, one01, zero01, oneNe0, xupE, xupA, xupK, xI_I, xS_I, xF_I, xJ_I, xI_R, xS_R, xF_R, xJ_R, xI_L, xS_L, xF_L, xJ_L, xcat_s, le46, ge16, or_true, true_or, false_or, or_false, eq_self, Option.toList_some, Option.toList_none, List.cons_append, List.nil_append, true_and, and_true, not_false_eq_true, not_true_eq_false, if_true, if_false], by simp (disch := omega) only [lAdd, addL, lMul, mulL, nMul, nI_add, subL, lSub, nSub, nDec, nCl, lCl, nVp, lVp, nLe, nLt, nEq, lLe, leL, lLt, ltL, eqL, lEq, nM1, nM2, litLt0, one01, zero01, oneNe0, xupE, xupA, xupK, xI_I, xS_I, xF_I, xJ_I, xI_R, xS_R, xF_R, xJ_R, xI_L, xS_L, xF_L, xJ_L, xcat_s, le46, ge16, or_true, true_or, false_or, or_false, eq_self, Option.toList_some, Option.toList_none, List.cons_append, List.nil_append, true_and, and_true, not_false_eq_true, not_true_eq_false, if_true, if_false], by simp (disch := omega) only [lAdd, addL, lMul, mulL, nMul, nI_add, subL, lSub, nSub, nDec, nCl, lCl, nVp, lVp, nLe, nLt, nEq, lLe, leL, lLt, ltL, eqL, lEq, nM1, nM2, litLt0, one01, zero01, oneNe0, xupE, xupA, xupK, xI_I, xS_I, xF_I, xJ_I, xI_R, xS_R, xF_R, xJ_R, xI_L, xS_L, xF_L, xJ_L, xcat_s, le46, ge16, or_true, true_or, false_or, or_false, eq_self, Option.toList_some, Option.toList_none, List.cons_append, List.nil_append, true_and, and_true, not_false_eq_true, not_true_eq_false, if_true, if_false], by simp (disch := omega) only [lAdd, addL, lMul, mulL, nMul, nI_add, subL, lSub, nSub, nDec, nCl, lCl, nVp, lVp, nLe, nLt, nEq, lLe, leL, lLt, ltL, eqL, lEq, nM1, nM2, litLt0, one01, zero01, oneNe0, xupE, xupA, xupK, xI_I, xS_I, xF_I, xJ_I, xI_R, xS_R, xF_R, xJ_R, xI_L, xS_L, xF_L, xJ_L, xcat_s, le46, ge16, or_true, true_or, false_or, or_false, eq_self, Option.toList_some, Option.toList_none, List.cons_append, List.nil_append, true_and, and_true, not_false_eq_true, not_true_eq_false, if_true, if_false], by simp (disch := omega) only [lAdd, addL, lMul, mulL, nMul, nI_add, subL, lSub, nSub, nDec, nCl, lCl, nVp, lVp, nLe, nLt, nEq, lLe, leL, lLt, ltL, eqL, lEq, nM1, nM2, litLt0, one01, zero01, oneNe0, xupE, xupA, xupK, xI_I, xS_I, xF_I, xJ_I, xI_R, xS_R, xF_R, xJ_R, xI_L, xS_L, xF_L, xJ_L, xcat_s, le46, ge16, or_true, true_or, false_or, or_false, eq_self, Option.toList_some, Option.toList_none, List.cons_append, List.nil_append, true_and, and_true, not_false_eq_true, not_true_eq_false, if_true, if_false], by simp (disch := omega) only [lAdd, addL, lMul, mulL, nMul, nI_add, subL, lSub, nSub, nDec, nCl, lCl, nVp, lVp, nLe, nLt, nEq, lLe, leL, lLt, ltL, eqL, lEq, nM1, nM2, litLt0, one01, zero01, oneNe0, xupE, xupA, xupK, xI_I, xS_I, xF_I, xJ_I, xI_R, xS_R, xF_R, xJ_R, xI_L, xS_L, xF_L, xJ_L, xcat_s, le46, ge16, or_true, true_or, false_or, or_false, eq_self, Option.toList_some, Option.toList_none, List.cons_append, List.nil_append, true_and, and_true, not_false_eq_true, not_true_eq_false, if_true, if_false], by simp (disch := omega) only [lAdd, addL, lMul, mulL, nMul, nI_add, subL, lSub, nSub, nDec, nCl, lCl, nVp, lVp, nLe, nLt, nEq, lLe, leL, lLt, ltL, eqL, lEq, nM1, nM2, litLt0, one01, zero01, oneNe0, xupE, xupA, xupK, xI_I, xS_I, xF_I, xJ_I, xI_R, xS_R, xF_R, xJ_R, xI_L, xS_L, xF_L, xJ_L, xcat_s, le46, ge16, or_true, true_or, false_or, or_false, eq_self, Option.toList_some, Option.toList_none, List.cons_append, List.nil_append, true_and, and_true, not_false_eq_true, not_true_eq_false, if_true, if_false], by simp (disch := omega) only [lAdd, addL, lMul, mulL, nMul, nI_add, subL, lSub, nSub, nDec, nCl, lCl, nVp, lVp, nLe, nLt, nEq, lLe, leL, lLt, ltL, eqL, lEq, nM1, nM2, litLt0, one01, zero01, oneNe0, xupE, xupA, xupK, xI_I, xS_I, xF_I, xJ_I, xI_R, xS_R, xF_R, xJ_R, xI_L, xS_L, xF_L, xJ_L, xcat_s, le46, ge16, or_true, true_or, false_or, or_false, eq_self, Option.toList_some, Option.toList_none, List.cons_append, List.nil_append, true_and, and_true, not_false_eq_true, not_true_eq_false, if_true, if_false], by simp (disch := omega) only [lAdd, addL, lMul, mulL, nMul, nI_add, subL, lSub, nSub, nDec, nCl, lCl, nVp, lVp, nLe, nLt, nEq, lLe, leL, lLt, ltL, eqL, lEq, nM1, nM2, litLt0, one01, zero01, oneNe0, xupE, xupA, xupK, xI_I, xS_I, xF_I, xJ_I, xI_R, xS_R, xF_R, xJ_R, xI_L, xS_L, xF_L, xJ_L, xcat_s, le46, ge16, or_true, true_or, false_or, or_false, eq_self, Option.toList_some, Option.toList_none, List.cons_append, List.nil_append, true_and, and_true, not_false_eq_true, not_true_eq_false, if_true, if_false], by simp (disch := omega) only [lAdd, addL, lMul, mulL, nMul, nI_add, subL, lSub, nSub, nDec, nCl, lCl, nVp, lVp, nLe, nLt, nEq, lLe, leL, lLt, ltL, eqL, lEq, nM1, nM2, litLt0, one01, zero01, oneNe0, xupE, xupA, xupK, xI_I, xS_I, xF_I, xJ_I, xI_R, xS_R, xF_R, xJ_R, xI_L, xS_L, xF_L, xJ_L, xcat_s, le46, ge16, or_true, true_or, false_or, or_false, eq_self, Option.toList_some, Option.toList_none, List.cons_append, List.nil_append, true_and, and_true, not_false_eq_true, not_true_eq_false, if_true, if_false]⟩
theorem c_st1 (hsm : ∀ i j, sm i j = decide (N i = N j)) (h : CR M d N ((1, tk, fd, ifs, ne, pe), (m, a, r, nm, L, R, S), (W, lw, l, z, sk))) (ht : YT M N k v j) (hQ : YQ Q M d N (ystep sm k v j ((1, tk, fd, ifs, ne, pe), (m, a, r, nm, L, R, S), (W, lw, l, z, sk)))) : RG xprog 79 0 [some (.ref 19), some (.int (nI k))] [] M Q := by
  have k33 := ht.2.2.2.1
  have hd := h.1.1.1
  obtain ⟨a1, a2, a3, a4, a5⟩ := h.2
  obtain ⟨tk5, tkc⟩ := a2 rfl
  have lw4 := a5 (by omega)
  obtain ⟨x123, ⟨x4, x5, x6, x7, x8⟩, x9, x10, x11, x12⟩ := h.1.2.1
  obtain ⟨p1, p2, p3, p4, p5, p6, p7, p8⟩ := h.1.1.2.1
  have hQ' : YQ Q M d N (if k = 2 then yname sm j ((1, tk, fd, ifs, ne, pe), (m, a, r, nm, L, R, S), (W, lw, l, z, sk)) else (0, ((1, tk, fd, ifs, ne, pe), (m, a, r, nm, L, R, S), (W, lw, l, z, sk)))) := hQ
  rw [B_79_0, p1, a1.1]
  by_cases q2 : k = 2
  case neg =>
    simp (disch := omega) only [lAdd, addL, lMul, mulL, nMul, nI_add, subL, lSub, nSub, nDec, nCl, lCl, nVp, lVp, nLe, nLt, nEq, lLe, leL, lLt, ltL, eqL, lEq, nM1, nM2, litLt0, one01, zero01, oneNe0, xupE, xupA, xupK, xI_I, xS_I, xF_I, xJ_I, xI_R, xS_R, xF_R, xJ_R, xI_L, xS_L, xF_L, xJ_L, xcat_s, le46, ge16, or_true, true_or, false_or, or_false, eq_self, Option.toList_some, Option.toList_none, List.cons_append, List.nil_append, true_and, and_true, not_false_eq_true, not_true_eq_false, if_true, if_false, if_pos, if_neg]
    rw [if_neg q2] at hQ'
    exact hQ'.1 rfl M (E3.refl _ _ _ _)
  rw [if_pos q2] at hQ'
  simp (disch := omega) only [lAdd, addL, lMul, mulL, nMul, nI_add, subL, lSub, nSub, nDec, nCl, lCl, nVp, lVp, nLe, nLt, nEq, lLe, leL, lLt, ltL, eqL, lEq, nM1, nM2, litLt0, one01, zero01, oneNe0, xupE, xupA, xupK, xI_I, xS_I, xF_I, xJ_I, xI_R, xS_R, xF_R, xJ_R, xI_L, xS_L, xF_L, xJ_L, xcat_s, le46, ge16, or_true, true_or, false_or, or_false, eq_self, Option.toList_some, Option.toList_none, List.cons_append, List.nil_append, true_and, and_true, not_false_eq_true, not_true_eq_false, if_true, if_false, if_pos, if_neg]
  have nj := ht.2.1 q2
  rw [B_62_0]
  simp (disch := omega) only [lAdd, addL, lMul, mulL, nMul, nI_add, subL, lSub, nSub, nDec, nCl, lCl, nVp, lVp, nLe, nLt, nEq, lLe, leL, lLt, ltL, eqL, lEq, nM1, nM2, litLt0, one01, zero01, oneNe0, xupE, xupA, xupK, xI_I, xS_I, xF_I, xJ_I, xI_R, xS_R, xF_R, xJ_R, xI_L, xS_L, xF_L, xJ_L, xcat_s, le46, ge16, or_true, true_or, false_or, or_false, eq_self, Option.toList_some, Option.toList_none, List.cons_append, List.nil_append, true_and, and_true, not_false_eq_true, not_true_eq_false, if_true, if_false, p1, p2, p4, p5, nj, h.1.1.2.2.1.1.2.1]
  rw [c_hasName h.1.1.2.2.1 x6 (by omega) x9]
  have eh : (fun i => decide (N (nm i) = N j)) = fun i => sm (nm i) j := funext fun i => (hsm _ _).symm
  rw [eh]
  have fin : ∀ (b : Bool) (M1 : XM), b = yhas sm nm (a + r) j → E3 n19 noF noF M M1 → (xI M1 19 13 = nI (ynote 3 j b m).1 ∧ (ynote 3 j b m).1 ≤ 5 ∧ xI M1 19 14 = (ynote 3 j b m).2) → RG xprog 62 22 [some (.ref 19)] [] M1 (fun v M' => RG xprog 79 75 [some (.ref 19), some (.int (nI k))] (v.toList ++ []) M' Q) := by
    intro b M1 hb e1 n1
    have a75 : ∀ (x : Int32) (M' : XM), RG xprog 79 75 [some (.ref 19), some (.int (nI k))] [.int x] M' Q = if x = 0 then Q (some (.int 0)) M' else Q (some (.int 1)) M' := fun x M' => by rw [B_79_75]; simp (disch := omega) only [lAdd, addL, lMul, mulL, nMul, nI_add, subL, lSub, nSub, nDec, nCl, lCl, nVp, lVp, nLe, nLt, nEq, lLe, leL, lLt, ltL, eqL, lEq, nM1, nM2, litLt0, one01, zero01, oneNe0, xupE, xupA, xupK, xI_I, xS_I, xF_I, xJ_I, xI_R, xS_R, xF_R, xJ_R, xI_L, xS_L, xF_L, xJ_L, xcat_s, le46, ge16, or_true, true_or, false_or, or_false, eq_self, Option.toList_some, Option.toList_none, List.cons_append, List.nil_append, true_and, and_true, not_false_eq_true, not_true_eq_false, if_true, if_false]
    have c1 : CP M1 d := h.1.1.e3 e1 (fun a k q => by unfold n19 at q; omega) (fun _ _ q => absurd q id)
    obtain ⟨o1, o2, o3, o4, o5, o6, o7, o8⟩ := c1.2.1
    obtain ⟨t1, t2, t3, t4⟩ := c1.2.2.1
    have I : ∀ a k, ¬ (a = 19 ∧ 13 ≤ k ∧ k ≤ 14) → xI M1 a k = xI M a k := fun a k q => e1.I fun z => by unfold n19 at z; omega
    have J : ∀ a k, xJ M1 a k = xJ M a k := fun a k => e1.J id
    have d0 := (I d 0 (by omega)).trans x4
    have d1 := (I d 1 (by omega)).trans x5
    have d7 := (I d 7 (by omega)).trans x6
    have tk5' := (I 19 5 (by omega)).trans tk5
    have nj' := (J 20 6).trans nj
    rw [B_62_22]
    simp (disch := omega) only [lAdd, addL, lMul, mulL, nMul, nI_add, subL, lSub, nSub, nDec, nCl, lCl, nVp, lVp, nLe, nLt, nEq, lLe, leL, lLt, ltL, eqL, lEq, nM1, nM2, litLt0, one01, zero01, oneNe0, xupE, xupA, xupK, xI_I, xS_I, xF_I, xJ_I, xI_R, xS_R, xF_R, xJ_R, xI_L, xS_L, xF_L, xJ_L, xcat_s, le46, ge16, or_true, true_or, false_or, or_false, eq_self, Option.toList_some, Option.toList_none, List.cons_append, List.nil_append, true_and, and_true, not_false_eq_true, not_true_eq_false, if_true, if_false, o1, o2, o4, o5, nj', t1.2.1]
    rw [B_61_0]
    simp (disch := omega) only [lAdd, addL, lMul, mulL, nMul, nI_add, subL, lSub, nSub, nDec, nCl, lCl, nVp, lVp, nLe, nLt, nEq, lLe, leL, lLt, ltL, eqL, lEq, nM1, nM2, litLt0, one01, zero01, oneNe0, xupE, xupA, xupK, xI_I, xS_I, xF_I, xJ_I, xI_R, xS_R, xF_R, xJ_R, xI_L, xS_L, xF_L, xJ_L, xcat_s, le46, ge16, or_true, true_or, false_or, or_false, eq_self, Option.toList_some, Option.toList_none, List.cons_append, List.nil_append, true_and, and_true, not_false_eq_true, not_true_eq_false, if_true, if_false, t1.2.1, t1.2.2.2.2.2.2.1, t1.2.2.2.2.2.2.2.2.2.2.2.2.2.1, d7, if_neg]
    unfold yname at hQ'
    dsimp only at hQ'
    rw [← hb] at hQ'
    have cx1 : CX M1 d N (ynote 3 j b m, a, r, nm, L, R, S) := ⟨n1, ⟨d0, d1, d7, x7, x8⟩, fun i hi => by rw [J]; exact x9 i hi, fun l hl => by rw [e1.rowI (fun k q => by unfold n19 at q; omega)]; exact x10 l hl, fun l hl => by rw [e1.rowI (fun k q => by unfold n19 at q; omega)]; exact x11 l hl, by rw [e1.rowI (fun k q => by unfold n19 at q; omega)]; exact x12⟩
    have cl1 : CL M1 d W lw l := h.1.2.2.e3 e1 (fun a k q => by unfold n19 at q; omega)
    have e1' : E3 (yP d) (yJ d) yF M M1 := e1.mono (fun a k q => by unfold n19 at q; unfold yP; omega) (fun _ _ q => absurd q id) (fun _ _ q => absurd q id)
    have i4 : xI M1 19 4 = 0 := (I 19 4 (by omega)).trans a1.2.2
    have up : ∀ {M2 : XM}, E3 (nP d) (nJ d (a + r)) yF M1 M2 → E3 (yP d) (yJ d) yF M M2 := fun e2 => e1'.trans (e2.mono (fun a k q => by unfold nP at q; unfold yP; omega) (fun a k q => by unfold nJ at q; unfold yJ; omega) (fun _ _ q => q))
    have cpl : ∀ {M2 : XM}, E3 (nP d) (nJ d (a + r)) yF M1 M2 → CP M2 d ∧ CL M2 d W lw l := fun e2 => ⟨c1.e3 e2 (fun a k q => by unfold nP at q; omega) (fun _ _ q => q), cl1.e3 e2 (fun a k q => by unfold nP at q; omega)⟩
    simp (disch := omega) only [lAdd, addL, lMul, mulL, nMul, nI_add, subL, lSub, nSub, nDec, nCl, lCl, nVp, lVp, nLe, nLt, nEq, lLe, leL, lLt, ltL, eqL, lEq, nM1, nM2, litLt0, one01, zero01, oneNe0, xupE, xupA, xupK, xI_I, xS_I, xF_I, xJ_I, xI_R, xS_R, xF_R, xJ_R, xI_L, xS_L, xF_L, xJ_L, xcat_s, le46, ge16, or_true, true_or, false_or, or_false, eq_self, Option.toList_some, Option.toList_none, List.cons_append, List.nil_append, true_and, and_true, not_false_eq_true, not_true_eq_false, if_true, if_false, B_62_36, o1, o4, tk5', t1.2.1, d0]
    rcases tkc with ⟨q13, qa⟩ | ⟨q14, qr⟩
    · rw [if_pos q13, if_pos q13] at hQ'
      have s34 := c1.2.2.2.1.2.1
      simp (disch := omega) only [lAdd, addL, lMul, mulL, nMul, nI_add, subL, lSub, nSub, nDec, nCl, lCl, nVp, lVp, nLe, nLt, nEq, lLe, leL, lLt, ltL, eqL, lEq, nM1, nM2, litLt0, one01, zero01, oneNe0, xupE, xupA, xupK, xI_I, xS_I, xF_I, xJ_I, xI_R, xS_R, xF_R, xJ_R, xI_L, xS_L, xF_L, xJ_L, xcat_s, le46, ge16, or_true, true_or, false_or, or_false, eq_self, Option.toList_some, Option.toList_none, List.cons_append, List.nil_append, true_and, and_true, not_false_eq_true, not_true_eq_false, if_true, if_false, if_neg, t1.2.2.1, t1.2.2.2.2.2.2.2.2.2.1, (t2 a qa).1, s34]
      rw [c_wantInts (by simp (disch := omega) only [lAdd, addL, lMul, mulL, nMul, nI_add, subL, lSub, nSub, nDec, nCl, lCl, nVp, lVp, nLe, nLt, nEq, lLe, leL, lLt, ltL, eqL, lEq, nM1, nM2, litLt0, one01, zero01, oneNe0, xupE, xupA, xupK, xI_I, xS_I, xF_I, xJ_I, xI_R, xS_R, xF_R, xJ_R, xI_L, xS_L, xF_L, xJ_L, xcat_s, le46, ge16, or_true, true_or, false_or, or_false, eq_self, Option.toList_some, Option.toList_none, List.cons_append, List.nil_append, true_and, and_true, not_false_eq_true, not_true_eq_false, if_true, if_false]; exact o1)]
      simp (disch := omega) only [lAdd, addL, lMul, mulL, nMul, nI_add, subL, lSub, nSub, nDec, nCl, lCl, nVp, lVp, nLe, nLt, nEq, lLe, leL, lLt, ltL, eqL, lEq, nM1, nM2, litLt0, one01, zero01, oneNe0, xupE, xupA, xupK, xI_I, xS_I, xF_I, xJ_I, xI_R, xS_R, xF_R, xJ_R, xI_L, xS_L, xF_L, xJ_L, xcat_s, le46, ge16, or_true, true_or, false_or, or_false, eq_self, Option.toList_some, Option.toList_none, List.cons_append, List.nil_append, true_and, and_true, not_false_eq_true, not_true_eq_false, if_true, if_false, B_62_86, o1, o4, t1.2.1, d0, a75, if_neg]
      have e2 : E3 (nP d) (nJ d (a + r)) yF M1 (nmM M1 d (a + r) (N j) (d + 2 + a) 3 (nI 3) 0 (a + 1)) := nmM_e (Or.inl rfl)
      obtain ⟨g1, g2, g3, g4, g5, g6, g7, g8, g9, g10⟩ := nmM_f (M := M1) (d := d) (q := a + r) (x := N j) (ρ := d + 2 + a) (lm := 3) (y := nI 3) (e := 0) (a' := a + 1) (by omega) (Or.inl rfl)
      refine ⟨by omega, by omega, ?_⟩
      exact hQ'.2.2 rfl (nmM M1 d (a + r) (N j) (d + 2 + a) 3 (nI 3) 0 (a + 1)) (up e2) ⟨⟨(cpl e2).1, cx_name hd cx1 e2 g1 (g2.trans d1) (by rw [g3]; congr 1; omega) g4 (by omega) (by omega) (by omega), (cpl e2).2⟩, ⟨g5, by omega, g6.trans i4⟩, fun q => absurd q (by omega), fun _ => ⟨g7, Or.inl ⟨q13, by omega, by omega, by rw [g8]; omega, g9, g10⟩⟩, fun q => absurd q (by omega), fun _ => lw4⟩
    · rw [if_neg (by omega), if_neg (by omega)] at hQ'
      have s34 := c1.2.2.2.1.2.2
      simp (disch := omega) only [lAdd, addL, lMul, mulL, nMul, nI_add, subL, lSub, nSub, nDec, nCl, lCl, nVp, lVp, nLe, nLt, nEq, lLe, leL, lLt, ltL, eqL, lEq, nM1, nM2, litLt0, one01, zero01, oneNe0, xupE, xupA, xupK, xI_I, xS_I, xF_I, xJ_I, xI_R, xS_R, xF_R, xJ_R, xI_L, xS_L, xF_L, xJ_L, xcat_s, le46, ge16, or_true, true_or, false_or, or_false, eq_self, Option.toList_some, Option.toList_none, List.cons_append, List.nil_append, true_and, and_true, not_false_eq_true, not_true_eq_false, if_true, if_false, if_neg, if_pos, B_62_102, o1, o4, tk5', t1.2.1, d1, t1.2.2.2.1, t1.2.2.2.2.2.2.2.2.2.2.1, (t3 r qr).1, s34]
      rw [c_wantInts (by simp (disch := omega) only [lAdd, addL, lMul, mulL, nMul, nI_add, subL, lSub, nSub, nDec, nCl, lCl, nVp, lVp, nLe, nLt, nEq, lLe, leL, lLt, ltL, eqL, lEq, nM1, nM2, litLt0, one01, zero01, oneNe0, xupE, xupA, xupK, xI_I, xS_I, xF_I, xJ_I, xI_R, xS_R, xF_R, xJ_R, xI_L, xS_L, xF_L, xJ_L, xcat_s, le46, ge16, or_true, true_or, false_or, or_false, eq_self, Option.toList_some, Option.toList_none, List.cons_append, List.nil_append, true_and, and_true, not_false_eq_true, not_true_eq_false, if_true, if_false]; exact o1)]
      simp (disch := omega) only [lAdd, addL, lMul, mulL, nMul, nI_add, subL, lSub, nSub, nDec, nCl, lCl, nVp, lVp, nLe, nLt, nEq, lLe, leL, lLt, ltL, eqL, lEq, nM1, nM2, litLt0, one01, zero01, oneNe0, xupE, xupA, xupK, xI_I, xS_I, xF_I, xJ_I, xI_R, xS_R, xF_R, xJ_R, xI_L, xS_L, xF_L, xJ_L, xcat_s, le46, ge16, or_true, true_or, false_or, or_false, eq_self, Option.toList_some, Option.toList_none, List.cons_append, List.nil_append, true_and, and_true, not_false_eq_true, not_true_eq_false, if_true, if_false, B_62_152, o1, o4, t1.2.1, d1, a75, if_neg]
      have e2 : E3 (nP d) (nJ d (a + r)) yF M1 (nmM M1 d (a + r) (N j) (d + 10 + r) 4 (nI 2) 1 (r + 1)) := nmM_e (Or.inr rfl)
      obtain ⟨g1, g2, g3, g4, g5, g6, g7, g8, g9, g10⟩ := nmM_f (M := M1) (d := d) (q := a + r) (x := N j) (ρ := d + 10 + r) (lm := 4) (y := nI 2) (e := 1) (a' := r + 1) (by omega) (Or.inr rfl)
      refine ⟨by omega, by omega, ?_⟩
      exact hQ'.2.2 rfl (nmM M1 d (a + r) (N j) (d + 10 + r) 4 (nI 2) 1 (r + 1)) (up e2) ⟨⟨(cpl e2).1, cx_name hd cx1 e2 (g2.trans d0) g1 (by rw [g3]; rfl) g4 (by omega) (by omega) (by omega), (cpl e2).2⟩, ⟨g5, by omega, g6.trans i4⟩, fun q => absurd q (by omega), fun _ => ⟨g7, Or.inr (Or.inl ⟨q14, by omega, by omega, by rw [g8]; omega, g9, g10⟩)⟩, fun q => absurd q (by omega), fun _ => lw4⟩
  simp (disch := omega) only [lAdd, addL, lMul, mulL, nMul, nI_add, subL, lSub, nSub, nDec, nCl, lCl, nVp, lVp, nLe, nLt, nEq, lLe, leL, lLt, ltL, eqL, lEq, nM1, nM2, litLt0, one01, zero01, oneNe0, xupE, xupA, xupK, xI_I, xS_I, xF_I, xJ_I, xI_R, xS_R, xF_R, xJ_R, xI_L, xS_L, xF_L, xJ_L, xcat_s, le46, ge16, or_true, true_or, false_or, or_false, eq_self, Option.toList_some, Option.toList_none, List.cons_append, List.nil_append, true_and, and_true, not_false_eq_true, not_true_eq_false, if_true, if_false, B_62_14, p1]
  by_cases y : fstN (fun i => sm (nm i) j) (a + r) 0 < a + r
  · rw [if_pos y, if_neg (by decide)]
    refine c_note (f := 3) p1 p5 p2 ht.1 x123 (by omega) ?_
    intro M1 e1 n1
    exact fin true M1 (decide_eq_true y).symm e1 n1
  · rw [if_neg y, if_pos rfl]
    exact fin false M (decide_eq_false y).symm (E3.refl _ _ _ _) x123
/-- the row that takes ints, and its limits -/
def IRw (M : XM) (d tk fd a r ρ lm : Nat) : Prop := (d < ρ ∧ ρ < d + 17) ∧ (2 ≤ lm ∧ lm ≤ 4) ∧ (∃ n1 n2, xS M ρ = (40, n1) ∧ xS M lm = (40, n2) ∧ fd < n1 ∧ fd < n2 ∧ n1 ≤ 4 ∧ n2 ≤ 4) ∧ xI M lm fd = nI (ylim tk fd) ∧ xI M 19 9 = nI (ylast tk)
def IRc (d tk fd a r ρ : Nat) : Prop := (tk = 13 ∧ 1 ≤ a ∧ ρ = d + 2 + (a - 1)) ∨ (tk = 14 ∧ 1 ≤ r ∧ ρ = d + 10 + (r - 1)) ∨ (19 ≤ tk ∧ tk ≤ 21 ∧ fd = tk - 19 ∧ ρ = d + 16)
def ITk (M : XM) (d tk fd a r : Nat) : Prop := (tk = 13 ∧ fd < 4 ∧ 1 ≤ a ∧ xF M 19 6 = d + 2 + (a - 1) ∧ xF M 19 7 = 3 ∧ xI M 19 9 = 3) ∨ (tk = 14 ∧ fd < 3 ∧ 1 ≤ r ∧ xF M 19 6 = d + 10 + (r - 1) ∧ xF M 19 7 = 4 ∧ xI M 19 9 = 2) ∨ (19 ≤ tk ∧ tk ≤ 21 ∧ fd = tk - 19 ∧ xF M 19 6 = d + 16 ∧ xF M 19 7 = 2 ∧ xI M 19 9 = nI (tk - 19))
theorem irw (cp : CP M d) (a7 : a ≤ 7) (r6 : r ≤ 6) (h : ITk M d tk fd a r) : IRw M d tk fd a r (xF M 19 6) (xF M 19 7) ∧ IRc d tk fd a r (xF M 19 6) := by
  obtain ⟨t1, t2, t3, t4⟩ := cp.2.2.1
  obtain ⟨s2, s3, s4⟩ := cp.2.2.2.1
  have lims := cp.2.2.2.2
  rcases h with ⟨c1, c2, c3, c4, c5, c6⟩ | ⟨c1, c2, c3, c4, c5, c6⟩ | ⟨c1, c2, c3, c4, c5, c6⟩
  · rw [c4, c5]
    exact ⟨⟨by omega, by omega, ⟨4, 4, (t2 (a - 1) (by omega)).2, s3, c2, c2, by omega, by omega⟩, by rw [c1]; exact (lims fd c2).2.1, by rw [c6, c1]; rfl⟩, Or.inl ⟨c1, c3, rfl⟩⟩
  · rw [c4, c5]
    exact ⟨⟨by omega, by omega, ⟨3, 3, (t3 (r - 1) (by omega)).2, s4, c2, c2, by omega, by omega⟩, by rw [c1]; exact (lims fd (by omega)).2.2 c2, by rw [c6, c1]; rfl⟩, Or.inr (Or.inl ⟨c1, c3, rfl⟩)⟩
  · rw [c4, c5]
    refine ⟨⟨by omega, by omega, ⟨3, 3, t1.2.2.2.2.2.2.2.2.2.2.2.1, s2, by omega, by omega, by omega, by omega⟩, ?_, ?_⟩, Or.inr (Or.inr ⟨c1, c2, c3, rfl⟩)⟩
    · have := (lims fd (by omega)).1 (by omega)
      rw [this, c3, show tk - 19 + 19 = tk by omega]
    · rw [c6]; unfold ylast; rw [if_neg (by omega), if_neg (by omega)]
def itM (M : XM) (ρ fd v x : Nat) : XM := xmI (xmI (xmI M ρ fd (nI v)) 19 3 (nI x)) 19 8 (nI (fd + 1))
def itP (ρ fd : Nat) : Nat → Nat → Prop := fun a k => (a = 19 ∧ (k = 3 ∨ k = 8)) ∨ (a = ρ ∧ k = fd)
theorem itM_e {ρ x : Nat} : E3 (itP ρ fd) noF noF M (itM M ρ fd v x) := (((E3.refl _ _ _ _).wI _ (by unfold itP; omega)).wI _ (by unfold itP; omega)).wI _ (by unfold itP; omega)
theorem itM_f {ρ x : Nat} (h : 24 ≤ ρ) : xI (itM M ρ fd v x) 19 3 = nI x ∧ xI (itM M ρ fd v x) 19 8 = nI (fd + 1) ∧ xI (itM M ρ fd v x) ρ = xone (xI M ρ) fd (nI v) := by
  unfold itM
  refine ⟨by simp (disch := omega) only [lAdd, addL, lMul, mulL, nMul, nI_add, subL, lSub, nSub, nDec, nCl, lCl, nVp, lVp, nLe, nLt, nEq, lLe, leL, lLt, ltL, eqL, lEq, nM1, nM2, litLt0, one01, zero01, oneNe0, xupE, xupA, xupK, xI_I, xS_I, xF_I, xJ_I, xI_R, xS_R, xF_R, xJ_R, xI_L, xS_L, xF_L, xJ_L, xcat_s, le46, ge16, or_true, true_or, false_or, or_false, eq_self, Option.toList_some, Option.toList_none, List.cons_append, List.nil_append, true_and, and_true, not_false_eq_true, not_true_eq_false, if_true, if_false], by simp (disch := omega) only [lAdd, addL, lMul, mulL, nMul, nI_add, subL, lSub, nSub, nDec, nCl, lCl, nVp, lVp, nLe, nLt, nEq, lLe, leL, lLt, ltL, eqL, lEq, nM1, nM2, litLt0, one01, zero01, oneNe0, xupE, xupA, xupK, xI_I, xS_I, xF_I, xJ_I, xI_R, xS_R, xF_R, xJ_R, xI_L, xS_L, xF_L, xJ_L, xcat_s, le46, ge16, or_true, true_or, false_or, or_false, eq_self, Option.toList_some, Option.toList_none, List.cons_append, List.nil_append, true_and, and_true, not_false_eq_true, not_true_eq_false, if_true, if_false], ?_⟩
  rw [xI_I, xup_n _ _ _ (by omega), xI_I, xup_n _ _ _ (by omega), xI_I, xup_s]
theorem cx_int {M' : XM} {ρ : Nat} (hd : d = 26 ∨ d = 55) (h : CX M d N (m, a, r, nm, L, R, S)) (hr : d < ρ ∧ ρ < d + 17) (hc : IRc d tk fd a r ρ) (e : E3 (itP ρ fd) noF noF M M') (hρ : xI M' ρ = xone (xI M ρ) fd (nI v)) : CX M' d N (m, a, r, nm, if tk = 13 then yset L (a - 1) fd v else L, if tk = 14 then yset R (r - 1) fd v else R, if 19 ≤ tk then xone S fd (nI v) else S) := by
  obtain ⟨⟨x1, x2, x3⟩, ⟨x4, x5, x6, x7, x8⟩, x9, x10, x11, x12⟩ := h
  have w : ∀ b, b ≠ ρ → b ≠ 19 → xI M' b = xI M b := fun b h1 h2 => e.rowI fun k q => by unfold itP at q; omega
  have w19 : ∀ k, k = 13 ∨ k = 14 → xI M' 19 k = xI M 19 k := fun k q => e.I fun z => by unfold itP at z; omega
  have d1 : d ≠ ρ ∧ d ≠ 19 := by omega
  refine ⟨⟨by rw [w19 13 (Or.inl rfl)]; exact x1, x2, by rw [w19 14 (Or.inr rfl)]; exact x3⟩, ⟨by rw [w d d1.1 d1.2]; exact x4, by rw [w d d1.1 d1.2]; exact x5, by rw [w d d1.1 d1.2]; exact x6, x7, x8⟩, fun i hi => (e.J id).trans (x9 i hi), ?_⟩
  rcases hc with ⟨c1, c2, c3⟩ | ⟨c1, c2, c3⟩ | ⟨c1, c2, c3, c4⟩
  · rw [if_pos c1, if_neg (by omega), if_neg (by omega)]
    refine ⟨fun l hl => ?_, fun l hl => by rw [w _ (by omega) (by omega)]; exact x11 l hl, by rw [w _ (by omega) (by omega)]; exact x12⟩
    unfold yset
    by_cases y : l = a - 1
    · rw [if_pos y, show d + 2 + l = ρ by omega, hρ, show ρ = d + 2 + l by omega, x10 l hl]
    · rw [if_neg y, w _ (by omega) (by omega)]; exact x10 l hl
  · rw [if_neg (by omega), if_pos c1, if_neg (by omega)]
    refine ⟨fun l hl => by rw [w _ (by omega) (by omega)]; exact x10 l hl, fun l hl => ?_, by rw [w _ (by omega) (by omega)]; exact x12⟩
    unfold yset
    by_cases y : l = r - 1
    · rw [if_pos y, show d + 10 + l = ρ by omega, hρ, show ρ = d + 10 + l by omega, x11 l hl]
    · rw [if_neg y, w _ (by omega) (by omega)]; exact x11 l hl
  · rw [if_neg (by omega), if_neg (by omega), if_pos c1]
    refine ⟨fun l hl => by rw [w _ (by omega) (by omega)]; exact x10 l hl, fun l hl => by rw [w _ (by omega) (by omega)]; exact x11 l hl, ?_⟩
    rw [← c4, hρ, c4, x12]
theorem itk_up {M' : XM} (h : ITk M d tk fd a r) (nl : ¬ fd = ylast tk) (e6 : xF M' 19 6 = xF M 19 6) (e7 : xF M' 19 7 = xF M 19 7) (e9 : xI M' 19 9 = xI M 19 9) : ITk M' d tk (fd + 1) a r := by
  unfold ITk
  rw [e6, e7, e9]
  unfold ylast at nl
  rcases h with ⟨c1, c2, c3, c4, c5, c6⟩ | ⟨c1, c2, c3, c4, c5, c6⟩ | ⟨c1, c2, c3, c4, c5, c6⟩
  · rw [if_pos c1] at nl
    exact Or.inl ⟨c1, by omega, c3, c4, c5, c6⟩
  · rw [if_neg (by omega), if_pos c1] at nl
    exact Or.inr (Or.inl ⟨c1, by omega, c3, c4, c5, c6⟩)
  · rw [if_neg (by omega), if_neg (by omega)] at nl
    exact absurd c3 nl
theorem c_int2 {ρ lm : Nat} {mm : Nat × Int32} (cp : CP M d) (cx : CX M d N (mm, a, r, nm, L, R, S)) (cl : CL M d W lw l) (i4 : xI M 19 4 = 0) (fd8 : xI M 19 8 = nI fd) (v5 : xI M 20 5 = nI v) (ik : ITk M d tk fd a r) (iw : IRw M d tk fd a r ρ lm) (ic : IRc d tk fd a r ρ) (f6 : xF M 19 6 = ρ) (lw4 : lw = 4)
    (hQ : ∀ M' : XM, E3 (yP d) (yJ d) yF M M' → CR M' d N ((if fd = ylast tk then 3 else 2, tk, fd + 1, ifs, ne, pe), (mm, a, r, nm, if tk = 13 then yset L (a - 1) fd v else L, if tk = 14 then yset R (r - 1) fd v else R, if 19 ≤ tk then xone S fd (nI v) else S), (W, lw, l, z, sk)) → Q (some (.int 1)) M') :
    RG xprog 63 71 [some (.ref 19)] [] M Q := by
  have hd := cp.1
  obtain ⟨o1, o2, o3, o4, o5, o6, o7, o8⟩ := cp.2.1
  obtain ⟨⟨r1, r2⟩, _, ⟨n1, n2, sr, sl, g1, g2, g3, g4⟩, il, i9⟩ := iw
  have yl2 : ylast tk ≤ 100 ∨ 21 < tk := by
    unfold ylast
    split
    · omega
    · split <;> omega
  have yl3 : ylast tk ≤ 100 := by
    rcases ic with ⟨c1, _⟩ | ⟨c1, _⟩ | ⟨_, c1, _⟩ <;> omega
  have ρ24 : 24 ≤ ρ := by omega
  have fd4 : fd < 4 := by omega
  have dd : d < ρ ∧ ρ < d + 17 := ⟨r1, r2⟩
  have e2 : ∀ x, E3 (itP ρ fd) noF noF M (itM M ρ fd v x) := fun x => itM_e
  have e2' : ∀ x, E3 (yP d) (yJ d) yF M (itM M ρ fd v x) := fun x => (e2 x).mono (fun a k q => by unfold itP at q; unfold yP; omega) (fun _ _ q => absurd q id) (fun _ _ q => absurd q id)
  have go : ∀ (x : Nat), x = (if fd = ylast tk then 3 else 2) → RG xprog 63 104 [some (.ref 19)] [.int (nI x), .ref 19] (xmI M ρ fd (nI v)) Q := by
    intro x hx
    rw [← hx] at hQ
    have q2 : x = 2 → ¬ fd = ylast tk := fun q y => by rw [if_pos y] at hx; omega
    have x23 : x = 2 ∨ x = 3 := by rw [hx]; split <;> omega
    clear yl2 hd
    obtain ⟨m1, m2, m3⟩ := itM_f (M := M) (fd := fd) (v := v) (x := x) ρ24
    rw [B_63_104]
    simp (disch := omega) only [lAdd, addL, lMul, mulL, nMul, nI_add, subL, lSub, nSub, nDec, nCl, lCl, nVp, lVp, nLe, nLt, nEq, lLe, leL, lLt, ltL, eqL, lEq, nM1, nM2, litLt0, one01, zero01, oneNe0, xupE, xupA, xupK, xI_I, xS_I, xF_I, xJ_I, xI_R, xS_R, xF_R, xJ_R, xI_L, xS_L, xF_L, xJ_L, xcat_s, le46, ge16, or_true, true_or, false_or, or_false, eq_self, Option.toList_some, Option.toList_none, List.cons_append, List.nil_append, true_and, and_true, not_false_eq_true, not_true_eq_false, if_true, if_false, o1, fd8]
    refine hQ (itM M ρ fd v x) (e2' x) ?_
    refine ⟨⟨cp.e3 (e2 x) (fun a k q => by unfold itP at q; omega) (fun _ _ q => absurd q id), ?_, cl.e3 (e2 x) (fun a k q => by unfold itP at q; have := cp.1; omega)⟩, ⟨m1, by omega, by rw [(e2 x).I (by unfold itP; omega)]; exact i4⟩, fun q => absurd q (by omega), fun q => ⟨m2, ?_⟩, fun q => absurd q (by omega), fun _ => lw4⟩
    · exact cx_int cp.1 cx dd ic (e2 x) m3
    · exact itk_up ik (q2 q) ((e2 x).FF id) ((e2 x).FF id) ((e2 x).I (by unfold itP; omega))
  rw [B_63_71]
  simp (disch := omega) only [lAdd, addL, lMul, mulL, nMul, nI_add, subL, lSub, nSub, nDec, nCl, lCl, nVp, lVp, nLe, nLt, nEq, lLe, leL, lLt, ltL, eqL, lEq, nM1, nM2, litLt0, one01, zero01, oneNe0, xupE, xupA, xupK, xI_I, xS_I, xF_I, xJ_I, xI_R, xS_R, xF_R, xJ_R, xI_L, xS_L, xF_L, xJ_L, xcat_s, le46, ge16, or_true, true_or, false_or, or_false, eq_self, Option.toList_some, Option.toList_none, List.cons_append, List.nil_append, true_and, and_true, not_false_eq_true, not_true_eq_false, if_true, if_false, o1, o2, o5, f6, sr, fd8, i9, v5]
  by_cases y : fd = ylast tk
  · rw [if_neg (fun z => z y)]; exact go 3 (by rw [if_pos y])
  · rw [if_pos y]; exact go 2 (by rw [if_neg y])
theorem c_st2 (h : CR M d N ((2, tk, fd, ifs, ne, pe), (m, a, r, nm, L, R, S), (W, lw, l, z, sk))) (ht : YT M N k v j) (hQ : YQ Q M d N (ystep sm k v j ((2, tk, fd, ifs, ne, pe), (m, a, r, nm, L, R, S), (W, lw, l, z, sk)))) : RG xprog 79 0 [some (.ref 19), some (.int (nI k))] [] M Q := by
  have k33 := ht.2.2.2.1
  obtain ⟨a1, a2, a3, a4, a5⟩ := h.2
  obtain ⟨fd8, tkc⟩ := a3 rfl
  have lw4 := a5 (by omega)
  have ik : ITk M d tk fd a r := tkc
  clear tkc a3
  have x123 := h.1.2.1.1
  obtain ⟨p1, p2, p3, p4, p5, p6, p7, p8⟩ := h.1.1.2.1
  have hQ' : YQ Q M d N (if k = 3 then yint v j ((2, tk, fd, ifs, ne, pe), (m, a, r, nm, L, R, S), (W, lw, l, z, sk)) else (0, ((2, tk, fd, ifs, ne, pe), (m, a, r, nm, L, R, S), (W, lw, l, z, sk)))) := hQ
  rw [B_79_0, p1, a1.1]
  by_cases q3 : k = 3
  case neg =>
    simp (disch := omega) only [lAdd, addL, lMul, mulL, nMul, nI_add, subL, lSub, nSub, nDec, nCl, lCl, nVp, lVp, nLe, nLt, nEq, lLe, leL, lLt, ltL, eqL, lEq, nM1, nM2, litLt0, one01, zero01, oneNe0, xupE, xupA, xupK, xI_I, xS_I, xF_I, xJ_I, xI_R, xS_R, xF_R, xJ_R, xI_L, xS_L, xF_L, xJ_L, xcat_s, le46, ge16, or_true, true_or, false_or, or_false, eq_self, Option.toList_some, Option.toList_none, List.cons_append, List.nil_append, true_and, and_true, not_false_eq_true, not_true_eq_false, if_true, if_false, if_pos, if_neg]
    rw [if_neg q3] at hQ'
    exact hQ'.1 rfl M (E3.refl _ _ _ _)
  rw [if_pos q3] at hQ'
  simp (disch := omega) only [lAdd, addL, lMul, mulL, nMul, nI_add, subL, lSub, nSub, nDec, nCl, lCl, nVp, lVp, nLe, nLt, nEq, lLe, leL, lLt, ltL, eqL, lEq, nM1, nM2, litLt0, one01, zero01, oneNe0, xupE, xupA, xupK, xI_I, xS_I, xF_I, xJ_I, xI_R, xS_R, xF_R, xJ_R, xI_L, xS_L, xF_L, xJ_L, xcat_s, le46, ge16, or_true, true_or, false_or, or_false, eq_self, Option.toList_some, Option.toList_none, List.cons_append, List.nil_append, true_and, and_true, not_false_eq_true, not_true_eq_false, if_true, if_false, if_pos, if_neg]
  obtain ⟨v5, v4⟩ := ht.2.2.1 q3
  obtain ⟨iw, ic⟩ := irw h.1.1 h.1.2.1.2.1.2.2.2.1 h.1.2.1.2.1.2.2.2.2 ik
  have yl := ylim_le tk fd
  have a93 : ∀ (x : Int32) (M' : XM), RG xprog 79 93 [some (.ref 19), some (.int (nI k))] [.int x] M' Q = if x = 0 then Q (some (.int 0)) M' else Q (some (.int 1)) M' := fun x M' => by rw [B_79_93]; simp (disch := omega) only [lAdd, addL, lMul, mulL, nMul, nI_add, subL, lSub, nSub, nDec, nCl, lCl, nVp, lVp, nLe, nLt, nEq, lLe, leL, lLt, ltL, eqL, lEq, nM1, nM2, litLt0, one01, zero01, oneNe0, xupE, xupA, xupK, xI_I, xS_I, xF_I, xJ_I, xI_R, xS_R, xF_R, xJ_R, xI_L, xS_L, xF_L, xJ_L, xcat_s, le46, ge16, or_true, true_or, false_or, or_false, eq_self, Option.toList_some, Option.toList_none, List.cons_append, List.nil_append, true_and, and_true, not_false_eq_true, not_true_eq_false, if_true, if_false]
  unfold yint at hQ'
  dsimp only at hQ'
  have fin : ∀ (b : Bool) (M1 : XM), b = decide (ylim tk fd < v) → E3 n19 noF noF M M1 → (xI M1 19 13 = nI (ynote 5 j b m).1 ∧ (ynote 5 j b m).1 ≤ 5 ∧ xI M1 19 14 = (ynote 5 j b m).2) → RG xprog 63 71 [some (.ref 19)] [] M1 (fun v M' => RG xprog 79 93 [some (.ref 19), some (.int (nI k))] (v.toList ++ []) M' Q) := by
    intro b M1 hb e1 nn1
    rw [← hb] at hQ'
    have hd := h.1.1.1
    have c1 : CP M1 d := h.1.1.e3 e1 (fun a k q => by unfold n19 at q; omega) (fun _ _ q => absurd q id)
    have I : ∀ a k, ¬ (a = 19 ∧ 13 ≤ k ∧ k ≤ 14) → xI M1 a k = xI M a k := fun a k q => e1.I fun z => by unfold n19 at z; omega
    have F1 : ∀ a k, xF M1 a k = xF M a k := fun a k => e1.FF id
    obtain ⟨x1, ⟨x4, x5, x6, x7, x8⟩, x9, x10, x11, x12⟩ := h.1.2.1
    have W1 : ∀ a, a ≠ 19 → xI M1 a = xI M a := fun a q => e1.rowI fun k z => by unfold n19 at z; omega
    have cx1 : CX M1 d N (ynote 5 j b m, a, r, nm, L, R, S) := ⟨nn1, ⟨by rw [W1 _ (by omega)]; exact x4, by rw [W1 _ (by omega)]; exact x5, by rw [W1 _ (by omega)]; exact x6, x7, x8⟩, fun i hi => by rw [e1.J id]; exact x9 i hi, fun l hl => by rw [W1 _ (by omega)]; exact x10 l hl, fun l hl => by rw [W1 _ (by omega)]; exact x11 l hl, by rw [W1 _ (by omega)]; exact x12⟩
    have iw1 : IRw M1 d tk fd a r (xF M 19 6) (xF M 19 7) := by
      obtain ⟨u1, u2, u3, u4, u5⟩ := iw
      refine ⟨u1, u2, by rw [e1.S]; exact u3, by rw [W1 _ (by omega)]; exact u4, by rw [I 19 9 (by omega)]; exact u5⟩
    have ik1 : ITk M1 d tk fd a r := by
      unfold ITk
      rw [F1, F1, I 19 9 (by omega)]
      exact ik
    refine c_int2 (W := W) (l := l) (ifs := ifs) (ne := ne) (pe := pe) (z := z) (sk := sk) c1 cx1 (h.1.2.2.e3 e1 (fun a k q => by unfold n19 at q; omega)) (by rw [I 19 4 (by omega)]; exact a1.2.2) (by rw [I 19 8 (by omega)]; exact fd8) (by rw [I 20 5 (by omega)]; exact v5) ik1 iw1 ic (F1 19 6) lw4 ?_
    intro M2 e2 cr
    show RG xprog _ 93 _ [.int 1] M2 Q
    rw [a93, if_neg (by decide)]
    exact hQ'.2.2 rfl M2 ((e1.mono (fun a k q => by unfold n19 at q; unfold yP; omega) (fun _ _ q => absurd q id) (fun _ _ q => absurd q id)).trans e2) cr
  obtain ⟨⟨r1, r2⟩, l1, ⟨n1, n2, sr, sl, g1, g2, g3, g4⟩, il, i9⟩ := iw
  have ρ16 : 16 ≤ xF M 19 6 := by have := h.1.1.1; omega
  have r0 : ¬ xF M 19 6 = 0 := by omega
  have l0 : ¬ xF M 19 7 = 0 := by omega
  have r9 : ¬ (9 ≤ xF M 19 6 ∧ xF M 19 6 < 16) := by omega
  have l9 : ¬ (9 ≤ xF M 19 7 ∧ xF M 19 7 < 16) := by omega
  clear ic ik
  rw [B_63_0]
  simp (disch := omega) only [lAdd, addL, lMul, mulL, nMul, nI_add, subL, lSub, nSub, nDec, nCl, lCl, nVp, lVp, nLe, nLt, nEq, lLe, leL, lLt, ltL, eqL, lEq, nM1, nM2, litLt0, one01, zero01, oneNe0, xupE, xupA, xupK, xI_I, xS_I, xF_I, xJ_I, xI_R, xS_R, xF_R, xJ_R, xI_L, xS_L, xF_L, xJ_L, xcat_s, le46, ge16, or_true, true_or, false_or, or_false, eq_self, Option.toList_some, Option.toList_none, List.cons_append, List.nil_append, true_and, and_true, not_false_eq_true, not_true_eq_false, if_true, if_false, p1, sr, sl, fd8, if_neg r0, if_neg l0, if_neg, if_pos, p2, p5, v5, il]
  refine ⟨r9, l9, ?_⟩
  by_cases y : v ≤ ylim tk fd
  · rw [if_pos y]
    exact ⟨by omega, by omega, fin false M (decide_eq_false (by omega)).symm (E3.refl _ _ _ _) x123⟩
  · rw [if_neg y]
    refine ⟨by omega, by omega, ?_⟩
    refine c_note (f := 5) p1 p5 p2 ht.1 x123 (by omega) ?_
    intro M1 e1 n1
    exact fin true M1 (decide_eq_true (by omega)).symm e1 n1
end XPV
