/-! the reference's reading: from the tape to the last tell -/
theorem nar255 (x : Int32) : vp_nar .byte x &&& 255 = x &&& 255 := by
  rw [vp_nar_byte]
  apply Int32.toBitVec_inj.mp
  rw [Int32.toBitVec_and, Int32.toBitVec_and]
  apply BitVec.eq_of_getLsbD_eq
  intro i hi
  rw [BitVec.getLsbD_and, BitVec.getLsbD_and]
  by_cases q : i < 8
  · rw [Int8.toBitVec_toInt32, Int32.toBitVec_toInt8, BitVec.getLsbD_signExtend, BitVec.getLsbD_signExtend, decide_eq_true hi, decide_eq_true q, if_pos q, if_pos hi]
    rfl
  · have : ∀ i : Fin 32, 8 ≤ i.val → (255 : Int32).toBitVec.getLsbD i.val = false := by decide
    rw [this ⟨i, hi⟩ (by show 8 ≤ i; omega), Bool.and_false, Bool.and_false]
theorem r_plain {M : XM} {s : Nat} {Q : Option Value → XM → Prop} (h : RSh M) (hs : s < 2) (hQ : ∀ M' : XM, E3 (gT s) gJ noF M M' → (∀ k, xI M' 439 k = xI M 439 k) → xI M' 448 s = nI 0 → xI M' 453 s = nI 0 → (∀ b, 457 ≤ b → b ≤ 459 → xI M' b s = 0) → (∀ k, k < 4 → xI M' 460 (4 * s + k) = nI 0 ∧ xI M' 461 (4 * s + k) = nI 0) → Q none M') :
    RG xprog 25 0 [some (.ref 439), some (.int (nI s)), none] [] M Q := by
  rw [B_25_0]
  simp (disch := omega) only [h.s, h.f, lAdd, addL, lMul, mulL, nMul, nI_add, subL, lSub, nSub, nDec, nCl, lCl, nVp, lVp, nLe, nLt, nEq, lLe, leL, lLt, ltL, eqL, lEq, nM1, nM2, litLt0, one01, zero01, oneNe0, xupE, xupA, xupK, xI_I, xS_I, xF_I, xJ_I, xI_R, xS_R, xF_R, xJ_R, xI_L, xS_L, xF_L, xJ_L, xcat_s, le46, ge16, or_true, true_or, false_or, or_false, eq_self, Option.toList_some, Option.toList_none, List.cons_append, List.nil_append, true_and, and_true, not_false_eq_true, not_true_eq_false, if_true, if_false]
  have e1 : E3 (fun b k => (b = 448 ∨ b = 453 ∨ b = 457) ∧ k = s) noF noF M (xmI (xmI (xmI M 448 s 0) 453 s 0) 457 s 0) := (((E3.refl _ _ _ _).wI _ (by omega)).wI _ (by omega)).wI _ (by omega)
  have f1 : xI (xmI (xmI (xmI M 448 s 0) 453 s 0) 457 s 0) 448 s = 0 ∧ xI (xmI (xmI (xmI M 448 s 0) 453 s 0) 457 s 0) 453 s = 0 ∧ xI (xmI (xmI (xmI M 448 s 0) 453 s 0) 457 s 0) 457 s = 0 := ⟨by simp (disch := omega) only [lAdd, addL, lMul, mulL, nMul, nI_add, subL, lSub, nSub, nDec, nCl, lCl, nVp, lVp, nLe, nLt, nEq, lLe, leL, lLt, ltL, eqL, lEq, nM1, nM2, litLt0, one01, zero01, oneNe0, xupE, xupA, xupK, xI_I, xS_I, xF_I, xJ_I, xI_R, xS_R, xF_R, xJ_R, xI_L, xS_L, xF_L, xJ_L, xcat_s, le46, ge16, or_true, true_or, false_or, or_false, eq_self, Option.toList_some, Option.toList_none, List.cons_append, List.nil_append, true_and, and_true, not_false_eq_true, not_true_eq_false, if_true, if_false], by simp (disch := omega) only [lAdd, addL, lMul, mulL, nMul, nI_add, subL, lSub, nSub, nDec, nCl, lCl, nVp, lVp, nLe, nLt, nEq, lLe, leL, lLt, ltL, eqL, lEq, nM1, nM2, litLt0, one01, zero01, oneNe0, xupE, xupA, xupK, xI_I, xS_I, xF_I, xJ_I, xI_R, xS_R, xF_R, xJ_R, xI_L, xS_L, xF_L, xJ_L, xcat_s, le46, ge16, or_true, true_or, false_or, or_false, eq_self, Option.toList_some, Option.toList_none, List.cons_append, List.nil_append, true_and, and_true, not_false_eq_true, not_true_eq_false, if_true, if_false], by simp (disch := omega) only [lAdd, addL, lMul, mulL, nMul, nI_add, subL, lSub, nSub, nDec, nCl, lCl, nVp, lVp, nLe, nLt, nEq, lLe, leL, lLt, ltL, eqL, lEq, nM1, nM2, litLt0, one01, zero01, oneNe0, xupE, xupA, xupK, xI_I, xS_I, xF_I, xJ_I, xI_R, xS_R, xF_R, xJ_R, xI_L, xS_L, xF_L, xJ_L, xcat_s, le46, ge16, or_true, true_or, false_or, or_false, eq_self, Option.toList_some, Option.toList_none, List.cons_append, List.nil_append, true_and, and_true, not_false_eq_true, not_true_eq_false, if_true, if_false]⟩
  generalize xmI (xmI (xmI M 448 s 0) 453 s 0) 457 s 0 = N1 at e1 f1
  have h1 := h.e3 e1
  rw [B_25_21]
  simp (disch := omega) only [h1.s, h1.f, lAdd, addL, lMul, mulL, nMul, nI_add, subL, lSub, nSub, nDec, nCl, lCl, nVp, lVp, nLe, nLt, nEq, lLe, leL, lLt, ltL, eqL, lEq, nM1, nM2, litLt0, one01, zero01, oneNe0, xupE, xupA, xupK, xI_I, xS_I, xF_I, xJ_I, xI_R, xS_R, xF_R, xJ_R, xI_L, xS_L, xF_L, xJ_L, xcat_s, le46, ge16, or_true, true_or, false_or, or_false, eq_self, Option.toList_some, Option.toList_none, List.cons_append, List.nil_append, true_and, and_true, not_false_eq_true, not_true_eq_false, if_true, if_false]
  have e2 : E3 (fun b k => (b = 458 ∨ b = 459) ∧ k = s) noF noF N1 (xmI (xmI N1 458 s 0) 459 s 0) := ((E3.refl _ _ _ _).wI _ (by omega)).wI _ (by omega)
  have f2 : xI (xmI (xmI N1 458 s 0) 459 s 0) 458 s = 0 ∧ xI (xmI (xmI N1 458 s 0) 459 s 0) 459 s = 0 := ⟨by simp (disch := omega) only [lAdd, addL, lMul, mulL, nMul, nI_add, subL, lSub, nSub, nDec, nCl, lCl, nVp, lVp, nLe, nLt, nEq, lLe, leL, lLt, ltL, eqL, lEq, nM1, nM2, litLt0, one01, zero01, oneNe0, xupE, xupA, xupK, xI_I, xS_I, xF_I, xJ_I, xI_R, xS_R, xF_R, xJ_R, xI_L, xS_L, xF_L, xJ_L, xcat_s, le46, ge16, or_true, true_or, false_or, or_false, eq_self, Option.toList_some, Option.toList_none, List.cons_append, List.nil_append, true_and, and_true, not_false_eq_true, not_true_eq_false, if_true, if_false], by simp (disch := omega) only [lAdd, addL, lMul, mulL, nMul, nI_add, subL, lSub, nSub, nDec, nCl, lCl, nVp, lVp, nLe, nLt, nEq, lLe, leL, lLt, ltL, eqL, lEq, nM1, nM2, litLt0, one01, zero01, oneNe0, xupE, xupA, xupK, xI_I, xS_I, xF_I, xJ_I, xI_R, xS_R, xF_R, xJ_R, xI_L, xS_L, xF_L, xJ_L, xcat_s, le46, ge16, or_true, true_or, false_or, or_false, eq_self, Option.toList_some, Option.toList_none, List.cons_append, List.nil_append, true_and, and_true, not_false_eq_true, not_true_eq_false, if_true, if_false]⟩
  generalize xmI (xmI N1 458 s 0) 459 s 0 = N2 at e2 f2
  have h2 := h1.e3 e2
  refine x_for 4 (fun i (N3 : XM) => E3 (fun b k => (b = 460 ∨ b = 461) ∧ 4 * s ≤ k ∧ k < 4 * s + 4) noF noF N2 N3 ∧ ∀ k, k < i → xI N3 460 (4 * s + k) = nI 0 ∧ xI N3 461 (4 * s + k) = nI 0) (fun i N3 => RG xprog 25 37 [some (.ref 439), some (.int (nI s)), some (.int (nI i))] [] N3 Q) ?_ ?_ 0 N2 (by omega) ⟨E3.refl _ _ _ _, fun k hk => by omega⟩
  · intro N3 ⟨e3, f3⟩
    rw [B_25_37]
    simp (disch := omega) only [lAdd, addL, lMul, mulL, nMul, nI_add, subL, lSub, nSub, nDec, nCl, lCl, nVp, lVp, nLe, nLt, nEq, lLe, leL, lLt, ltL, eqL, lEq, nM1, nM2, litLt0, one01, zero01, oneNe0, xupE, xupA, xupK, xI_I, xS_I, xF_I, xJ_I, xI_R, xS_R, xF_R, xJ_R, xI_L, xS_L, xF_L, xJ_L, xcat_s, le46, ge16, or_true, true_or, false_or, or_false, eq_self, Option.toList_some, Option.toList_none, List.cons_append, List.nil_append, true_and, and_true, not_false_eq_true, not_true_eq_false, if_true, if_false, if_pos]
    refine hQ N3 (((e1.mono (fun a k q => by unfold gT; omega) (fun _ _ q => absurd q id) (fun _ _ q => q)).trans (e2.mono (fun a k q => by unfold gT; omega) (fun _ _ q => absurd q id) (fun _ _ q => q))).trans (e3.mono (fun a k q => by unfold gT; omega) (fun _ _ q => absurd q id) (fun _ _ q => q))) (fun k => by rw [e3.I (by omega), e2.I (by omega), e1.I (by omega)]) ?_ ?_ ?_ f3
    · rw [e3.I (by omega), e2.I (by omega)]; exact f1.1
    · rw [e3.I (by omega), e2.I (by omega)]; exact f1.2.1
    · intro b h1 h2
      have : b = 457 ∨ b = 458 ∨ b = 459 := by omega
      rcases this with q | q | q <;> subst q
      · rw [e3.I (by omega), e2.I (by omega)]; exact f1.2.2
      · rw [e3.I (by omega)]; exact f2.1
      · rw [e3.I (by omega)]; exact f2.2
  · intro i N3 hi ⟨e3, f3⟩ ih
    have h3 := h2.e3 e3
    rw [B_25_37]
    simp (disch := omega) only [h3.s, h3.f, lAdd, addL, lMul, mulL, nMul, nI_add, subL, lSub, nSub, nDec, nCl, lCl, nVp, lVp, nLe, nLt, nEq, lLe, leL, lLt, ltL, eqL, lEq, nM1, nM2, litLt0, one01, zero01, oneNe0, xupE, xupA, xupK, xI_I, xS_I, xF_I, xJ_I, xI_R, xS_R, xF_R, xJ_R, xI_L, xS_L, xF_L, xJ_L, xcat_s, le46, ge16, or_true, true_or, false_or, or_false, eq_self, Option.toList_some, Option.toList_none, List.cons_append, List.nil_append, true_and, and_true, not_false_eq_true, not_true_eq_false, if_true, if_false, if_neg]
    refine ih _ ⟨(e3.wI _ (by omega)).wI _ (by omega), fun k hk => ?_⟩
    by_cases q : k = i
    · subst q
      exact ⟨by simp (disch := omega) only [lAdd, addL, lMul, mulL, nMul, nI_add, subL, lSub, nSub, nDec, nCl, lCl, nVp, lVp, nLe, nLt, nEq, lLe, leL, lLt, ltL, eqL, lEq, nM1, nM2, litLt0, one01, zero01, oneNe0, xupE, xupA, xupK, xI_I, xS_I, xF_I, xJ_I, xI_R, xS_R, xF_R, xJ_R, xI_L, xS_L, xF_L, xJ_L, xcat_s, le46, ge16, or_true, true_or, false_or, or_false, eq_self, Option.toList_some, Option.toList_none, List.cons_append, List.nil_append, true_and, and_true, not_false_eq_true, not_true_eq_false, if_true, if_false], by simp (disch := omega) only [lAdd, addL, lMul, mulL, nMul, nI_add, subL, lSub, nSub, nDec, nCl, lCl, nVp, lVp, nLe, nLt, nEq, lLe, leL, lLt, ltL, eqL, lEq, nM1, nM2, litLt0, one01, zero01, oneNe0, xupE, xupA, xupK, xI_I, xS_I, xF_I, xJ_I, xI_R, xS_R, xF_R, xJ_R, xI_L, xS_L, xF_L, xJ_L, xcat_s, le46, ge16, or_true, true_or, false_or, or_false, eq_self, Option.toList_some, Option.toList_none, List.cons_append, List.nil_append, true_and, and_true, not_false_eq_true, not_true_eq_false, if_true, if_false]⟩
    · obtain ⟨g1, g2⟩ := f3 k (by omega)
      refine ⟨?_, ?_⟩
      · rw [xI_I, xupA _ _ _ _ (by omega), xI_I, xupK _ _ (by omega)]; exact g1
      · rw [xI_I, xupK _ _ (by omega), xI_I, xupA _ _ _ _ (by omega)]; exact g2
theorem r_tellsAll {n : Nat} {c : Nat → Nat} {m sd : Nat} {O : Nat × Int32 × YS} {M0 : XM} {y : Int32} {Q : Option Value → XM → Prop} (hm : MT n c m) (hs : sd < 2)
    (hQ : ∀ (M' : XM) (t' : Nat), E3 (gT sd) gJ noF M0 M' → TL n c m O M' sd t' → tkK n c (tpos n c t') = 0 → RG xprog 107 134 [some (.ref 439), some (.int y)] [] M' Q) (hF : ∀ M' : XM, E3 (gT sd) gJ noF M0 M' → FA O M' → RG xprog 107 134 [some (.ref 439), some (.int y)] [] M' Q) :
    ∀ (f t : Nat) (M : XM), 401 ≤ t + f → TL n c m O M sd t → E3 (gT sd) gJ noF M0 M → RG xprog 107 112 [some (.ref 439), some (.int y)] [] M Q
  | 0, t, M, hf, h, e0 => by
    obtain ⟨tk, fd, ifs, ne, pe, X, W, l, z, sk, ra, rd, wm, lt⟩ := h
    have := ra.2.2.1
    have := hm.1
    omega
  | f + 1, t, M, hf, h, e0 => by
    have hh := h
    obtain ⟨tk, fd, ifs, ne, pe, X, W, l, z, sk, ra, rd, wm, lt⟩ := hh
    rw [B_107_112]
    simp (disch := omega) only [lAdd, addL, lMul, mulL, nMul, nI_add, subL, lSub, nSub, nDec, nCl, lCl, nVp, lVp, nLe, nLt, nEq, lLe, leL, lLt, ltL, eqL, lEq, nM1, nM2, litLt0, one01, zero01, oneNe0, xupE, xupA, xupK, xI_I, xS_I, xF_I, xJ_I, xI_R, xS_R, xF_R, xJ_R, xI_L, xS_L, xF_L, xJ_L, xcat_s, le46, ge16, or_true, true_or, false_or, or_false, eq_self, Option.toList_some, Option.toList_none, List.cons_append, List.nil_append, true_and, and_true, not_false_eq_true, not_true_eq_false, if_true, if_false, ra.1.s, ra.2.2.2.2.1, if_neg]
    rw [r_is (q := 0) (x := 0) hm ra rfl (by omega)]
    by_cases k0 : tkK n c (tpos n c t) = 0
    · rw [if_pos k0]
      simp (disch := omega) only [lAdd, addL, lMul, mulL, nMul, nI_add, subL, lSub, nSub, nDec, nCl, lCl, nVp, lVp, nLe, nLt, nEq, lLe, leL, lLt, ltL, eqL, lEq, nM1, nM2, litLt0, one01, zero01, oneNe0, xupE, xupA, xupK, xI_I, xS_I, xF_I, xJ_I, xI_R, xS_R, xF_R, xJ_R, xI_L, xS_L, xF_L, xJ_L, xcat_s, le46, ge16, or_true, true_or, false_or, or_false, eq_self, Option.toList_some, Option.toList_none, List.cons_append, List.nil_append, true_and, and_true, not_false_eq_true, not_true_eq_false, if_true, if_false, B_107_124, if_pos]
      exact hQ M t e0 h k0
    · rw [if_neg k0]
      simp (disch := omega) only [lAdd, addL, lMul, mulL, nMul, nI_add, subL, lSub, nSub, nDec, nCl, lCl, nVp, lVp, nLe, nLt, nEq, lLe, leL, lLt, ltL, eqL, lEq, nM1, nM2, litLt0, one01, zero01, oneNe0, xupE, xupA, xupK, xI_I, xS_I, xF_I, xJ_I, xI_R, xS_R, xF_R, xJ_R, xI_L, xS_L, xF_L, xJ_L, xcat_s, le46, ge16, or_true, true_or, false_or, or_false, eq_self, Option.toList_some, Option.toList_none, List.cons_append, List.nil_append, true_and, and_true, not_false_eq_true, not_true_eq_false, if_true, if_false, B_107_124, if_neg, ra.1.s]
      refine r_tellOne hm hs h k0 ?_ ?_
      · intro M1 t1 e1 h1 tt
        simp (disch := omega) only [lAdd, addL, lMul, mulL, nMul, nI_add, subL, lSub, nSub, nDec, nCl, lCl, nVp, lVp, nLe, nLt, nEq, lLe, leL, lLt, ltL, eqL, lEq, nM1, nM2, litLt0, one01, zero01, oneNe0, xupE, xupA, xupK, xI_I, xS_I, xF_I, xJ_I, xI_R, xS_R, xF_R, xJ_R, xI_L, xS_L, xF_L, xJ_L, xcat_s, le46, ge16, or_true, true_or, false_or, or_false, eq_self, Option.toList_some, Option.toList_none, List.cons_append, List.nil_append, true_and, and_true, not_false_eq_true, not_true_eq_false, if_true, if_false, B_107_131]
        exact r_tellsAll hm hs hQ hF f t1 M1 (by omega) h1 (e0.trans e1)
      · intro M1 e1 f1
        have ff := f1
        obtain ⟨s1, f', g2', g3', g4', g5'⟩ := f1
        simp (disch := omega) only [lAdd, addL, lMul, mulL, nMul, nI_add, subL, lSub, nSub, nDec, nCl, lCl, nVp, lVp, nLe, nLt, nEq, lLe, leL, lLt, ltL, eqL, lEq, nM1, nM2, litLt0, one01, zero01, oneNe0, xupE, xupA, xupK, xI_I, xS_I, xF_I, xJ_I, xI_R, xS_R, xF_R, xJ_R, xI_L, xS_L, xF_L, xJ_L, xcat_s, le46, ge16, or_true, true_or, false_or, or_false, eq_self, Option.toList_some, Option.toList_none, List.cons_append, List.nil_append, true_and, and_true, not_false_eq_true, not_true_eq_false, if_true, if_false, B_107_131, B_107_112, s1.s, g3', if_pos]
        exact hF M1 (e0.trans e1) ff
/-- all that reading changes in the reference, before it ends -/
def gR' (sd : Nat) : Nat → Nat → Prop := fun a k => gT sd a k ∨ (a = 439 ∧ (k = 2 ∨ k = 4 ∨ k = 10 ∨ k = 19)) ∨ (441 ≤ a ∧ a ≤ 444)
def gRJ : Nat → Nat → Prop := fun a _ => a = 445 ∨ a = 447
theorem gT_R {sd : Nat} {M M' : XM} (e : E3 (gT sd) gJ noF M M') : E3 (gR' sd) gRJ noF M M' := e.mono (fun a k q => Or.inl q) (fun a k q => Or.inr q) (fun _ _ q => q)
theorem r_read1 {M : XM} {lv n : Nat} {S : XS} {c : Nat → Nat} {L0 R0 : Nat → Nat → Int32} {S0 : Nat → Int32} {W0 : Nat → YL} {Q : Option Value → XM → Prop} (h : RWd M lv S) (hj : ∀ i, i < 21 → xJ M 446 i = kL.getD i 0) (hn : zPn S = n) (n2 : n ≤ 2000) (hb : ∀ i, i < n → zP S i &&& 255 = nI (c i)) (hc : ∀ i, c i < 256) (s0 : ∀ i, i < 3 → S0 i = 0) (w0 : ∀ k, k < 4 → ∀ v, lawv (W0 k).1 (W0 k).2 v = plv k v)
    (hQ : ∀ (M' : XM) (t' m : Nat) (y : Int32), MT n c m → E3 (gR' (1 - lv)) gRJ noF M M' → xI M' 439 2 = nI 0 → TL n c m (yOut n c 401 0 (y0 L0 R0 S0 W0)) M' (1 - lv) t' → tkK n c (tpos n c t') = 0 → RG xprog 107 134 [some (.ref 439), some (.int y)] [] M' Q) (hF : ∀ (M' : XM) (y : Int32), E3 (gR' (1 - lv)) gRJ noF M M' → xI M' 439 2 = nI 0 → FA (yOut n c 401 0 (y0 L0 R0 S0 W0)) M' → RG xprog 107 134 [some (.ref 439), some (.int y)] [] M' Q) :
    RG xprog 107 0 [some (.ref 439), none] [] M Q := by
  have l2 := h.1.lv2
  have lv18 := h.1.v
  have hS := h.1.1
  have tp := h.2.2.1
  rw [hn] at tp
  obtain ⟨sd, hsd⟩ : ∃ sd, sd = 1 - lv := ⟨_, rfl⟩
  have sd2 : sd < 2 := by omega
  rw [← hsd] at hQ hF
  rw [B_107_0]
  simp (disch := omega) only [lAdd, addL, lMul, mulL, nMul, nI_add, subL, lSub, nSub, nDec, nCl, lCl, nVp, lVp, nLe, nLt, nEq, lLe, leL, lLt, ltL, eqL, lEq, nM1, nM2, litLt0, one01, zero01, oneNe0, xupE, xupA, xupK, xI_I, xS_I, xF_I, xJ_I, xI_R, xS_R, xF_R, xJ_R, xI_L, xS_L, xF_L, xJ_L, xcat_s, le46, ge16, or_true, true_or, false_or, or_false, eq_self, Option.toList_some, Option.toList_none, List.cons_append, List.nil_append, true_and, and_true, not_false_eq_true, not_true_eq_false, if_true, if_false, hS.s, tp.1]
  have e1 : E3 (fun a k => a = 439 ∧ k = 4) noF noF M (xmI M 439 4 (nI n)) := (E3.refl _ _ _ _).wI _ ⟨rfl, rfl⟩
  have f1 : xI (xmI M 439 4 (nI n)) 439 4 = nI n := by simp (disch := omega) only [lAdd, addL, lMul, mulL, nMul, nI_add, subL, lSub, nSub, nDec, nCl, lCl, nVp, lVp, nLe, nLt, nEq, lLe, leL, lLt, ltL, eqL, lEq, nM1, nM2, litLt0, one01, zero01, oneNe0, xupE, xupA, xupK, xI_I, xS_I, xF_I, xJ_I, xI_R, xS_R, xF_R, xJ_R, xI_L, xS_L, xF_L, xJ_L, xcat_s, le46, ge16, or_true, true_or, false_or, or_false, eq_self, Option.toList_some, Option.toList_none, List.cons_append, List.nil_append, true_and, and_true, not_false_eq_true, not_true_eq_false, if_true, if_false]
  generalize xmI M 439 4 (nI n) = N1 at e1 f1
  refine x_for n (fun i (N2 : XM) => E3 (fun a k => (a = 439 ∧ k = 4) ∨ a = 441) noF noF M N2 ∧ xI N2 439 4 = nI n ∧ ∀ k, k < i → xI N2 441 k = vp_nar .byte (zP S k)) (fun i N2 => RG xprog 107 10 [some (.ref 439), some (.int (nI i))] [] N2 Q) ?_ ?_ 0 N1 (by omega) ⟨e1.mono (fun a k q => Or.inl q) (fun _ _ q => q) (fun _ _ q => q), f1, fun k hk => by omega⟩
  · intro N2 ⟨e2, f2, b2⟩
    have hS2 := hS.e3 e2
    rw [B_107_10]
    simp (disch := omega) only [lAdd, addL, lMul, mulL, nMul, nI_add, subL, lSub, nSub, nDec, nCl, lCl, nVp, lVp, nLe, nLt, nEq, lLe, leL, lLt, ltL, eqL, lEq, nM1, nM2, litLt0, one01, zero01, oneNe0, xupE, xupA, xupK, xI_I, xS_I, xF_I, xJ_I, xI_R, xS_R, xF_R, xJ_R, xI_L, xS_L, xF_L, xJ_L, xcat_s, le46, ge16, or_true, true_or, false_or, or_false, eq_self, Option.toList_some, Option.toList_none, List.cons_append, List.nil_append, true_and, and_true, not_false_eq_true, not_true_eq_false, if_true, if_false, hS2.s, f2, if_pos]
    have e3 : E3 (fun a k => a = 439 ∧ k = 2) noF noF N2 (xmI N2 439 2 0) := (E3.refl _ _ _ _).wI _ ⟨rfl, rfl⟩
    have f3 : xI (xmI N2 439 2 0) 439 2 = nI 0 := by simp (disch := omega) only [lAdd, addL, lMul, mulL, nMul, nI_add, subL, lSub, nSub, nDec, nCl, lCl, nVp, lVp, nLe, nLt, nEq, lLe, leL, lLt, ltL, eqL, lEq, nM1, nM2, litLt0, one01, zero01, oneNe0, xupE, xupA, xupK, xI_I, xS_I, xF_I, xJ_I, xI_R, xS_R, xF_R, xJ_R, xI_L, xS_L, xF_L, xJ_L, xcat_s, le46, ge16, or_true, true_or, false_or, or_false, eq_self, Option.toList_some, Option.toList_none, List.cons_append, List.nil_append, true_and, and_true, not_false_eq_true, not_true_eq_false, if_true, if_false]
    generalize xmI N2 439 2 0 = N3 at e3 f3
    have rb : RB N3 n c := by
      refine ⟨hS2.e3 e3, by rw [e3.I (by omega)]; exact f2, n2, fun i hi => ?_, hc, fun i hi => by rw [e3.J id, e2.J id]; exact hj i hi⟩
      rw [e3.I (by omega), b2 i hi, nar255]
      exact hb i hi
    refine r_cut rb ?_
    intro N4 m e4 rt m4 mp me
    have hm : MT n c m := ⟨m4, mp, me, hc, n2⟩
    have hS4 : RSh N4 := rb.1.e3 e4
    have i18 : xI N4 439 18 = nI lv := by rw [e4.I (by unfold ctP; omega), e3.I (by omega), e2.I (by omega)]; exact lv18
    simp (disch := omega) only [lAdd, addL, lMul, mulL, nMul, nI_add, subL, lSub, nSub, nDec, nCl, lCl, nVp, lVp, nLe, nLt, nEq, lLe, leL, lLt, ltL, eqL, lEq, nM1, nM2, litLt0, one01, zero01, oneNe0, xupE, xupA, xupK, xI_I, xS_I, xF_I, xJ_I, xI_R, xS_R, xF_R, xJ_R, xI_L, xS_L, xF_L, xJ_L, xcat_s, le46, ge16, or_true, true_or, false_or, or_false, eq_self, Option.toList_some, Option.toList_none, List.cons_append, List.nil_append, true_and, and_true, not_false_eq_true, not_true_eq_false, if_true, if_false, B_107_45, hS4.s, i18]
    rw [← hsd]
    have e5 : E3 (fun a k => a = 439 ∧ (k = 11 ∨ k = 12 ∨ k = 13 ∨ k = 15 ∨ k = 19 ∨ k = 20)) noF noF N4 (xmI (xmI (xmI (xmI (xmI (xmI N4 439 11 0) 439 12 0) 439 13 0) 439 15 0) 439 19 (nI sd)) 439 20 0) := ((((((E3.refl _ _ _ _).wI _ (by omega)).wI _ (by omega)).wI _ (by omega)).wI _ (by omega)).wI _ (by omega)).wI _ (by omega)
    have f5 : ∀ N5 : XM, N5 = xmI (xmI (xmI (xmI (xmI (xmI N4 439 11 0) 439 12 0) 439 13 0) 439 15 0) 439 19 (nI sd)) 439 20 0 → xI N5 439 11 = nI 0 ∧ xI N5 439 12 = nI 0 ∧ xI N5 439 13 = 0 ∧ xI N5 439 15 = nI 0 ∧ xI N5 439 19 = nI sd ∧ xI N5 439 20 = nI 0 := by
      intro N5 hN
      rw [hN]
      exact ⟨by simp (disch := omega) only [lAdd, addL, lMul, mulL, nMul, nI_add, subL, lSub, nSub, nDec, nCl, lCl, nVp, lVp, nLe, nLt, nEq, lLe, leL, lLt, ltL, eqL, lEq, nM1, nM2, litLt0, one01, zero01, oneNe0, xupE, xupA, xupK, xI_I, xS_I, xF_I, xJ_I, xI_R, xS_R, xF_R, xJ_R, xI_L, xS_L, xF_L, xJ_L, xcat_s, le46, ge16, or_true, true_or, false_or, or_false, eq_self, Option.toList_some, Option.toList_none, List.cons_append, List.nil_append, true_and, and_true, not_false_eq_true, not_true_eq_false, if_true, if_false], by simp (disch := omega) only [lAdd, addL, lMul, mulL, nMul, nI_add, subL, lSub, nSub, nDec, nCl, lCl, nVp, lVp, nLe, nLt, nEq, lLe, leL, lLt, ltL, eqL, lEq, nM1, nM2, litLt0, one01, zero01, oneNe0, xupE, xupA, xupK, xI_I, xS_I, xF_I, xJ_I, xI_R, xS_R, xF_R, xJ_R, xI_L, xS_L, xF_L, xJ_L, xcat_s, le46, ge16, or_true, true_or, false_or, or_false, eq_self, Option.toList_some, Option.toList_none, List.cons_append, List.nil_append, true_and, and_true, not_false_eq_true, not_true_eq_false, if_true, if_false], by simp (disch := omega) only [lAdd, addL, lMul, mulL, nMul, nI_add, subL, lSub, nSub, nDec, nCl, lCl, nVp, lVp, nLe, nLt, nEq, lLe, leL, lLt, ltL, eqL, lEq, nM1, nM2, litLt0, one01, zero01, oneNe0, xupE, xupA, xupK, xI_I, xS_I, xF_I, xJ_I, xI_R, xS_R, xF_R, xJ_R, xI_L, xS_L, xF_L, xJ_L, xcat_s, le46, ge16, or_true, true_or, false_or, or_false, eq_self, Option.toList_some, Option.toList_none, List.cons_append, List.nil_append, true_and, and_true, not_false_eq_true, not_true_eq_false, if_true, if_false], by simp (disch := omega) only [lAdd, addL, lMul, mulL, nMul, nI_add, subL, lSub, nSub, nDec, nCl, lCl, nVp, lVp, nLe, nLt, nEq, lLe, leL, lLt, ltL, eqL, lEq, nM1, nM2, litLt0, one01, zero01, oneNe0, xupE, xupA, xupK, xI_I, xS_I, xF_I, xJ_I, xI_R, xS_R, xF_R, xJ_R, xI_L, xS_L, xF_L, xJ_L, xcat_s, le46, ge16, or_true, true_or, false_or, or_false, eq_self, Option.toList_some, Option.toList_none, List.cons_append, List.nil_append, true_and, and_true, not_false_eq_true, not_true_eq_false, if_true, if_false], by simp (disch := omega) only [lAdd, addL, lMul, mulL, nMul, nI_add, subL, lSub, nSub, nDec, nCl, lCl, nVp, lVp, nLe, nLt, nEq, lLe, leL, lLt, ltL, eqL, lEq, nM1, nM2, litLt0, one01, zero01, oneNe0, xupE, xupA, xupK, xI_I, xS_I, xF_I, xJ_I, xI_R, xS_R, xF_R, xJ_R, xI_L, xS_L, xF_L, xJ_L, xcat_s, le46, ge16, or_true, true_or, false_or, or_false, eq_self, Option.toList_some, Option.toList_none, List.cons_append, List.nil_append, true_and, and_true, not_false_eq_true, not_true_eq_false, if_true, if_false], by simp (disch := omega) only [lAdd, addL, lMul, mulL, nMul, nI_add, subL, lSub, nSub, nDec, nCl, lCl, nVp, lVp, nLe, nLt, nEq, lLe, leL, lLt, ltL, eqL, lEq, nM1, nM2, litLt0, one01, zero01, oneNe0, xupE, xupA, xupK, xI_I, xS_I, xF_I, xJ_I, xI_R, xS_R, xF_R, xJ_R, xI_L, xS_L, xF_L, xJ_L, xcat_s, le46, ge16, or_true, true_or, false_or, or_false, eq_self, Option.toList_some, Option.toList_none, List.cons_append, List.nil_append, true_and, and_true, not_false_eq_true, not_true_eq_false, if_true, if_false]⟩
    simp (disch := omega) only [lAdd, addL, lMul, mulL, nMul, nI_add, subL, lSub, nSub, nDec, nCl, lCl, nVp, lVp, nLe, nLt, nEq, lLe, leL, lLt, ltL, eqL, lEq, nM1, nM2, litLt0, one01, zero01, oneNe0, xupE, xupA, xupK, xI_I, xS_I, xF_I, xJ_I, xI_R, xS_R, xF_R, xJ_R, xI_L, xS_L, xF_L, xJ_L, xcat_s, le46, ge16, or_true, true_or, false_or, or_false, eq_self, Option.toList_some, Option.toList_none, List.cons_append, List.nil_append, true_and, and_true, not_false_eq_true, not_true_eq_false, if_true, if_false, B_107_75, hS4.s]
    have f5' := f5 _ rfl
    generalize xmI (xmI (xmI (xmI (xmI (xmI N4 439 11 0) 439 12 0) 439 13 0) 439 15 0) 439 19 (nI sd)) 439 20 0 = N5 at e5 f5'
    refine r_plain (hS4.e3 e5) sd2 ?_
    intro N6 e6 k6 q1 q2 q3 q4
    have hS6 : RSh N6 := (hS4.e3 e5).e3 e6
    have k19 : xI N6 439 19 = nI sd := by rw [k6]; exact f5'.2.2.2.2.1
    simp (disch := omega) only [lAdd, addL, lMul, mulL, nMul, nI_add, subL, lSub, nSub, nDec, nCl, lCl, nVp, lVp, nLe, nLt, nEq, lLe, leL, lLt, ltL, eqL, lEq, nM1, nM2, litLt0, one01, zero01, oneNe0, xupE, xupA, xupK, xI_I, xS_I, xF_I, xJ_I, xI_R, xS_R, xF_R, xJ_R, xI_L, xS_L, xF_L, xJ_L, xcat_s, le46, ge16, or_true, true_or, false_or, or_false, eq_self, Option.toList_some, Option.toList_none, List.cons_append, List.nil_append, true_and, and_true, not_false_eq_true, not_true_eq_false, if_true, if_false, B_107_88, hS6.s, k19]
    have e7 : E3 (fun a k => a = 439 ∧ (k = 36 ∨ k = 42)) noF noF N6 (xmI (xmI N6 439 36 (nI (130 * sd))) 439 42 (nI (420 * sd))) := ((E3.refl _ _ _ _).wI _ (by omega)).wI _ (by omega)
    have f7 : xI (xmI (xmI N6 439 36 (nI (130 * sd))) 439 42 (nI (420 * sd))) 439 36 = nI (130 * sd) ∧ xI (xmI (xmI N6 439 36 (nI (130 * sd))) 439 42 (nI (420 * sd))) 439 42 = nI (420 * sd) := ⟨by simp (disch := omega) only [lAdd, addL, lMul, mulL, nMul, nI_add, subL, lSub, nSub, nDec, nCl, lCl, nVp, lVp, nLe, nLt, nEq, lLe, leL, lLt, ltL, eqL, lEq, nM1, nM2, litLt0, one01, zero01, oneNe0, xupE, xupA, xupK, xI_I, xS_I, xF_I, xJ_I, xI_R, xS_R, xF_R, xJ_R, xI_L, xS_L, xF_L, xJ_L, xcat_s, le46, ge16, or_true, true_or, false_or, or_false, eq_self, Option.toList_some, Option.toList_none, List.cons_append, List.nil_append, true_and, and_true, not_false_eq_true, not_true_eq_false, if_true, if_false], by simp (disch := omega) only [lAdd, addL, lMul, mulL, nMul, nI_add, subL, lSub, nSub, nDec, nCl, lCl, nVp, lVp, nLe, nLt, nEq, lLe, leL, lLt, ltL, eqL, lEq, nM1, nM2, litLt0, one01, zero01, oneNe0, xupE, xupA, xupK, xI_I, xS_I, xF_I, xJ_I, xI_R, xS_R, xF_R, xJ_R, xI_L, xS_L, xF_L, xJ_L, xcat_s, le46, ge16, or_true, true_or, false_or, or_false, eq_self, Option.toList_some, Option.toList_none, List.cons_append, List.nil_append, true_and, and_true, not_false_eq_true, not_true_eq_false, if_true, if_false]⟩
    generalize xmI (xmI N6 439 36 (nI (130 * sd))) 439 42 (nI (420 * sd)) = N7 at e7 f7
    have hS7 : RSh N7 := hS6.e3 e7
    have k7 : ∀ k, k ≠ 36 → k ≠ 42 → xI N7 439 k = xI N5 439 k := fun k a b => by rw [e7.I (by omega), k6]
    have EE : E3 (gR' sd) gRJ noF M N7 := ((((((e2.mono (fun a k q => by unfold gR'; omega) (fun _ _ q => absurd q id) (fun _ _ q => q)).trans (e3.mono (fun a k q => by unfold gR'; omega) (fun _ _ q => absurd q id) (fun _ _ q => q))).trans (e4.mono (fun a k q => by unfold ctP at q; unfold gR'; omega) (fun a k q => by unfold ctJ at q; unfold gRJ; omega) (fun _ _ q => q))).trans (e5.mono (fun a k q => by unfold gR' gT; omega) (fun _ _ q => absurd q id) (fun _ _ q => q))).trans (gT_R e6))).trans (e7.mono (fun a k q => by unfold gR' gT; omega) (fun _ _ q => absurd q id) (fun _ _ q => q))
    have z2 : xI N7 439 2 = nI 0 := by rw [k7 _ (by omega) (by omega), e5.I (by omega), e4.I (by unfold ctP; omega)]; exact f3
    have rt7 : RTk N7 n c (m + 1) := ((rt.e3 e5 (fun a k q => by omega) (fun _ _ q => absurd q id)).e3 e6 (fun a k q => by unfold gT at q; omega) (fun a k q => by unfold gJ at q; omega)).e3 e7 (fun a k q => by omega) (fun _ _ q => absurd q id)
    have tl : TL n c m (yOut n c 401 0 (y0 L0 R0 S0 W0)) N7 sd 0 := by
      refine ⟨0, 0, 0, 0, 0, ((0, -1), 0, 0, fun _ => 0, L0, R0, S0), W0, (0, fun _ => 0), (0, fun _ => 0), 0, ⟨hS7, rt7, Nat.zero_le _, by rw [k7 _ (by omega) (by omega)]; exact f5'.1, by rw [k7 _ (by omega) (by omega)]; exact f5'.2.2.1, rfl⟩, ⟨⟨by rw [e7.I (by omega)]; exact q1, Nat.zero_le _, by rw [e7.I (by omega)]; exact q2, Nat.zero_le _⟩, ⟨by rw [k7 _ (by omega) (by omega)]; exact f5'.2.2.2.2.2, fun i hi => by omega⟩, fun i hi => by omega, fun i hi => by omega, ⟨by rw [e7.I (by omega), q3 457 (by omega) (by omega), s0 0 (by omega)], by rw [e7.I (by omega), q3 458 (by omega) (by omega), s0 1 (by omega)], by rw [e7.I (by omega), q3 459 (by omega) (by omega), s0 2 (by omega)], fun _ => ⟨⟨0, by omega, s0 0 (by omega)⟩, ⟨0, by omega, s0 1 (by omega)⟩, 0, by omega, s0 2 (by omega)⟩⟩⟩, ⟨by rw [k7 _ (by omega) (by omega)]; exact f5'.2.2.2.1, Nat.zero_le _, fun _ => rfl, fun q => absurd rfl q⟩, ⟨by rw [k7 _ (by omega) (by omega)]; exact f5'.2.2.2.2.1, by rw [k7 _ (by omega) (by omega)]; exact f5'.2.1, 130 * sd, 420 * sd, f7.1, f7.2, Nat.le_refl _, by omega, Nat.le_refl _, by omega, fun k hk => Or.inl ⟨by rw [e7.I (by omega)]; exact (q4 k hk).1, by rw [e7.I (by omega)]; exact (q4 k hk).2, w0 k hk⟩⟩⟩
    refine r_tellsAll (M0 := N7) hm sd2 ?_ ?_ 401 0 N7 (by omega) tl (E3.refl _ _ _ _)
    · intro M' t' e' tl' k0
      exact hQ M' t' m _ hm (EE.trans (gT_R e')) (by rw [e'.I (by unfold gT; omega)]; exact z2) tl' k0
    · intro M' e' f'
      exact hF M' _ (EE.trans (gT_R e')) (by rw [e'.I (by unfold gT; omega)]; exact z2) f'
  · intro i N2 hi ⟨e2, f2, b2⟩ ih
    have hS2 := hS.e3 e2
    have t2 : xI N2 440 i = zP S i := by rw [e2.I (by omega)]; exact tp.2 i hi
    rw [B_107_10]
    simp (disch := omega) only [lAdd, addL, lMul, mulL, nMul, nI_add, subL, lSub, nSub, nDec, nCl, lCl, nVp, lVp, nLe, nLt, nEq, lLe, leL, lLt, ltL, eqL, lEq, nM1, nM2, litLt0, one01, zero01, oneNe0, xupE, xupA, xupK, xI_I, xS_I, xF_I, xJ_I, xI_R, xS_R, xF_R, xJ_R, xI_L, xS_L, xF_L, xJ_L, xcat_s, le46, ge16, or_true, true_or, false_or, or_false, eq_self, Option.toList_some, Option.toList_none, List.cons_append, List.nil_append, true_and, and_true, not_false_eq_true, not_true_eq_false, if_true, if_false, hS2.s, hS2.f, f2, if_neg, t2]
    rw [if_pos (by omega)]
    refine ih _ ⟨e2.wI _ (Or.inr rfl), by simp (disch := omega) only [lAdd, addL, lMul, mulL, nMul, nI_add, subL, lSub, nSub, nDec, nCl, lCl, nVp, lVp, nLe, nLt, nEq, lLe, leL, lLt, ltL, eqL, lEq, nM1, nM2, litLt0, one01, zero01, oneNe0, xupE, xupA, xupK, xI_I, xS_I, xF_I, xJ_I, xI_R, xS_R, xF_R, xJ_R, xI_L, xS_L, xF_L, xJ_L, xcat_s, le46, ge16, or_true, true_or, false_or, or_false, eq_self, Option.toList_some, Option.toList_none, List.cons_append, List.nil_append, true_and, and_true, not_false_eq_true, not_true_eq_false, if_true, if_false]; exact f2, fun k hk => ?_⟩
    rw [xI_I]
    by_cases q : k = i
    · rw [q, xupE]
    · rw [xupK _ _ q]; exact b2 k (by omega)
