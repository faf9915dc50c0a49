/-! the parser from its beginning -/
def y0 (L R : Nat → Nat → Int32) (S : Nat → Int32) (W : Nat → YL) : YS := ((0, 0, 0, 0, 0, 0), ((0, -1), 0, 0, fun _ => 0, L, R, S), (W, 4, (0, fun _ => 0), (0, fun _ => 0), 0))
def yOut (n : Nat) (c : Nat → Nat) (f i : Nat) (p : YS) : Nat × Int32 × YS := yrun (tkS n c) (fun i => tkK n c (tpos n c i)) (fun i => tkV n c (tpos n c i)) (tpos n c) f i p
theorem lims_ok {L : Nat} {xs : Nat → Int32} {M : XM} (h : LSc L xs M) : (xS M 2 = (40, 3) ∧ xS M 3 = (40, 4) ∧ xS M 4 = (40, 3)) ∧ ∀ k, k < 4 → (k < 3 → xI M 2 k = nI (ylim (k + 19) k)) ∧ xI M 3 k = nI (ylim 13 k) ∧ (k < 3 → xI M 4 k = nI (ylim 14 k)) := by
  have l := h.2.2.2.2
  refine ⟨⟨(l 2 (by omega)).1, (l 3 (by omega)).1, (l 4 (by omega)).1⟩, fun k hk => ?_⟩
  rw [(l 2 (by omega)).2.1, (l 3 (by omega)).2.1, (l 4 (by omega)).2.1]
  have : k = 0 ∨ k = 1 ∨ k = 2 ∨ k = 3 := by omega
  rcases this with q | q | q | q <;> subst q
  · exact ⟨fun _ => rfl, rfl, fun _ => rfl⟩
  · exact ⟨fun _ => rfl, rfl, fun _ => rfl⟩
  · exact ⟨fun _ => rfl, rfl, fun _ => rfl⟩
  · exact ⟨fun q => absurd q (by omega), rfl, fun q => absurd q (by omega)⟩
theorem str_ok {L : Nat} {xs : Nat → Int32} {M : XM} (h : LSc L xs M) : StrAt M 7 8 9 xb70 := by
  have l := h.2.2.2.2
  obtain ⟨a1, a2, a3⟩ := l 7 (by omega)
  obtain ⟨b1, b2, b3⟩ := l 8 (by omega)
  refine ⟨by rw [a1]; rfl, by rw [a3]; rfl, by rw [b1]; rfl, by rw [a2]; rfl, fun k _ => by rw [b2]; rfl⟩
theorem c_parse {M : XM} {t L n : Nat} {S : XS} {xs : Nat → Int32} {c : Nat → Nat} {Q : Option Value → XM → Prop} (cw : CW M t S) (ls : LSc L xs M) (hj : ∀ i, i < 21 → xJ M 21 i = cwF i 8) (hn : zPn S = n) (n2 : n ≤ 2000) (hb : ∀ i, i < n → zP S i &&& 255 = nI (c i)) (hc : ∀ i, c i < 256)
    (hQ : ∀ (M' : XM) (L0 R0 : Nat → Nat → Int32) (S0 : Nat → Int32) (W0 : Nat → YL), (∀ i, i < 3 → S0 i = 0) → (∀ k, k < 4 → ∀ v, lawv (W0 k).1 (W0 k).2 v = plv k v) → E3 (pP (81 - t)) (pJ (81 - t)) pF M M' → CEnd M' (81 - t) (tkN n c) (yOut n c 401 0 (y0 L0 R0 S0 W0)) → Q (some (.int (nI (yOut n c 401 0 (y0 L0 R0 S0 W0)).1))) M') :
    RG xprog 81 0 [some (.ref 19), some (.ref 17), some (.ref (81 - t)), none] [] M Q := by
  have ht := cw.t2
  obtain ⟨d, hdef⟩ : ∃ d, d = 81 - t := ⟨_, rfl⟩
  have hd : d = 26 ∨ d = 55 := by omega
  rw [← hdef] at hQ ⊢
  have ts : TxtSh M d := by rw [hdef]; exact cw.2.2.1
  obtain ⟨u1, u2, u3⟩ := cw.1.2.1
  obtain ⟨v1, v2, v3, v4, v5, v6, v7, v8, v9⟩ := cw.1.2.2.1
  obtain ⟨w1, w2⟩ := cw.2.2.2.2.2.1
  rw [hn] at w1 w2
  have lm := lims_ok ls
  have sm := str_ok ls
  clear cw ls ht hdef
  rw [B_81_0]
  simp (disch := omega) only [lAdd, addL, lMul, mulL, nMul, nI_add, subL, lSub, nSub, nDec, nCl, lCl, nVp, lVp, nLe, nLt, nEq, lLe, leL, lLt, ltL, eqL, lEq, nM1, nM2, litLt0, one01, zero01, oneNe0, xupE, xupA, xupK, xI_I, xS_I, xF_I, xJ_I, xI_R, xS_R, xF_R, xJ_R, xI_L, xS_L, xF_L, xJ_L, xcat_s, le46, ge16, or_true, true_or, false_or, or_false, eq_self, Option.toList_some, Option.toList_none, List.cons_append, List.nil_append, true_and, and_true, not_false_eq_true, not_true_eq_false, if_true, if_false, v1]
  rw [B_39_0]
  simp (disch := omega) only [lAdd, addL, lMul, mulL, nMul, nI_add, subL, lSub, nSub, nDec, nCl, lCl, nVp, lVp, nLe, nLt, nEq, lLe, leL, lLt, ltL, eqL, lEq, nM1, nM2, litLt0, one01, zero01, oneNe0, xupE, xupA, xupK, xI_I, xS_I, xF_I, xJ_I, xI_R, xS_R, xF_R, xJ_R, xI_L, xS_L, xF_L, xJ_L, xcat_s, le46, ge16, or_true, true_or, false_or, or_false, eq_self, Option.toList_some, Option.toList_none, List.cons_append, List.nil_append, true_and, and_true, not_false_eq_true, not_true_eq_false, if_true, if_false, v1, v2, v4]
  rw [B_38_0]
  simp (disch := omega) only [lAdd, addL, lMul, mulL, nMul, nI_add, subL, lSub, nSub, nDec, nCl, lCl, nVp, lVp, nLe, nLt, nEq, lLe, leL, lLt, ltL, eqL, lEq, nM1, nM2, litLt0, one01, zero01, oneNe0, xupE, xupA, xupK, xI_I, xS_I, xF_I, xJ_I, xI_R, xS_R, xF_R, xJ_R, xI_L, xS_L, xF_L, xJ_L, xcat_s, le46, ge16, or_true, true_or, false_or, or_false, eq_self, Option.toList_some, Option.toList_none, List.cons_append, List.nil_append, true_and, and_true, not_false_eq_true, not_true_eq_false, if_true, if_false, v4]
  have e1 : E3 tkP noF (fun a k => a = 20 ∧ k = 1) M (xmI (xmI (xmI (xmR M 20 1 17) 20 2 0) 20 3 0) 20 4 0) := ((((E3.refl _ _ _ _).wF _ (by omega)).wI _ (by unfold tkP; omega)).wI _ (by unfold tkP; omega)).wI _ (by unfold tkP; omega)
  have at1 : xI (xmI (xmI (xmI (xmR M 20 1 17) 20 2 0) 20 3 0) 20 4 0) 20 2 = 0 := by simp (disch := omega) only [lAdd, addL, lMul, mulL, nMul, nI_add, subL, lSub, nSub, nDec, nCl, lCl, nVp, lVp, nLe, nLt, nEq, lLe, leL, lLt, ltL, eqL, lEq, nM1, nM2, litLt0, one01, zero01, oneNe0, xupE, xupA, xupK, xI_I, xS_I, xF_I, xJ_I, xI_R, xS_R, xF_R, xJ_R, xI_L, xS_L, xF_L, xJ_L, xcat_s, le46, ge16, or_true, true_or, false_or, or_false, eq_self, Option.toList_some, Option.toList_none, List.cons_append, List.nil_append, true_and, and_true, not_false_eq_true, not_true_eq_false, if_true, if_false]
  have tp1 : xF (xmI (xmI (xmI (xmR M 20 1 17) 20 2 0) 20 3 0) 20 4 0) 20 1 = 17 := by simp (disch := omega) only [lAdd, addL, lMul, mulL, nMul, nI_add, subL, lSub, nSub, nDec, nCl, lCl, nVp, lVp, nLe, nLt, nEq, lLe, leL, lLt, ltL, eqL, lEq, nM1, nM2, litLt0, one01, zero01, oneNe0, xupE, xupA, xupK, xI_I, xS_I, xF_I, xJ_I, xI_R, xS_R, xF_R, xJ_R, xI_L, xS_L, xF_L, xJ_L, xcat_s, le46, ge16, or_true, true_or, false_or, or_false, eq_self, Option.toList_some, Option.toList_none, List.cons_append, List.nil_append, true_and, and_true, not_false_eq_true, not_true_eq_false, if_true, if_false]
  generalize xmI (xmI (xmI (xmR M 20 1 17) 20 2 0) 20 3 0) 20 4 0 = M1 at e1 at1 tp1
  have ts1 : TxtSh M1 d := ts.e3 e1 (fun a k q => by omega)
  have v1' : xS M1 19 = (6, 0) := by rw [e1.S]; exact v1
  rw [B_39_8]
  simp (disch := omega) only [lAdd, addL, lMul, mulL, nMul, nI_add, subL, lSub, nSub, nDec, nCl, lCl, nVp, lVp, nLe, nLt, nEq, lLe, leL, lLt, ltL, eqL, lEq, nM1, nM2, litLt0, one01, zero01, oneNe0, xupE, xupA, xupK, xI_I, xS_I, xF_I, xJ_I, xI_R, xS_R, xF_R, xJ_R, xI_L, xS_L, xF_L, xJ_L, xcat_s, le46, ge16, or_true, true_or, false_or, or_false, eq_self, Option.toList_some, Option.toList_none, List.cons_append, List.nil_append, true_and, and_true, not_false_eq_true, not_true_eq_false, if_true, if_false, ts1.1.2.1]
  refine c_clear ts1 ?_
  intro M2 e2 tc2
  have e2' : E3 (tC d) noF noF M1 M2 := E3.ofEx e2
  have ts2 : TxtSh M2 d := ts1.e3 e2' (fun a k q => absurd q id)
  have v1'' : xS M2 19 = (6, 0) := by rw [e2'.S]; exact v1'
  have f4 := ts2.1.2.2.2.2.1
  simp (disch := omega) only [lAdd, addL, lMul, mulL, nMul, nI_add, subL, lSub, nSub, nDec, nCl, lCl, nVp, lVp, nLe, nLt, nEq, lLe, leL, lLt, ltL, eqL, lEq, nM1, nM2, litLt0, one01, zero01, oneNe0, xupE, xupA, xupK, xI_I, xS_I, xF_I, xJ_I, xI_R, xS_R, xF_R, xJ_R, xI_L, xS_L, xF_L, xJ_L, xcat_s, le46, ge16, or_true, true_or, false_or, or_false, eq_self, Option.toList_some, Option.toList_none, List.cons_append, List.nil_append, true_and, and_true, not_false_eq_true, not_true_eq_false, if_true, if_false, B_39_12, v1'', ts2.1.2.1, f4, B_39_57, B_81_6]
  obtain ⟨M4, hM4⟩ : ∃ M4, M4 = xmI (xmI (xmI (xmI (xmR (xmR (xmI (xmI (xmR M2 19 2 d) 19 3 0) 19 4 0) 19 6 (d + 16)) 19 7 2) 19 8 0) 19 9 0) 19 13 0) 19 14 (-1) := ⟨_, rfl⟩
  rw [← hM4]
  have e4 : E3 (fun a k => a = 19 ∧ 3 ≤ k ∧ k ≤ 14) noF (fun a k => a = 19 ∧ (k = 2 ∨ k = 6 ∨ k = 7)) M2 M4 := by
    rw [hM4]
    exact (((((((((E3.refl _ _ _ _).wF _ (by omega)).wI _ (by omega)).wI _ (by omega)).wF _ (by omega)).wF _ (by omega)).wI _ (by omega)).wI _ (by omega)).wI _ (by omega)).wI _ (by omega)
  have k3 : xI M4 19 3 = nI 0 ∧ xI M4 19 4 = 0 ∧ xI M4 19 13 = nI 0 ∧ xI M4 19 14 = -1 ∧ xF M4 19 2 = d := by
    rw [hM4]
    exact ⟨by simp (disch := omega) only [lAdd, addL, lMul, mulL, nMul, nI_add, subL, lSub, nSub, nDec, nCl, lCl, nVp, lVp, nLe, nLt, nEq, lLe, leL, lLt, ltL, eqL, lEq, nM1, nM2, litLt0, one01, zero01, oneNe0, xupE, xupA, xupK, xI_I, xS_I, xF_I, xJ_I, xI_R, xS_R, xF_R, xJ_R, xI_L, xS_L, xF_L, xJ_L, xcat_s, le46, ge16, or_true, true_or, false_or, or_false, eq_self, Option.toList_some, Option.toList_none, List.cons_append, List.nil_append, true_and, and_true, not_false_eq_true, not_true_eq_false, if_true, if_false], by simp (disch := omega) only [lAdd, addL, lMul, mulL, nMul, nI_add, subL, lSub, nSub, nDec, nCl, lCl, nVp, lVp, nLe, nLt, nEq, lLe, leL, lLt, ltL, eqL, lEq, nM1, nM2, litLt0, one01, zero01, oneNe0, xupE, xupA, xupK, xI_I, xS_I, xF_I, xJ_I, xI_R, xS_R, xF_R, xJ_R, xI_L, xS_L, xF_L, xJ_L, xcat_s, le46, ge16, or_true, true_or, false_or, or_false, eq_self, Option.toList_some, Option.toList_none, List.cons_append, List.nil_append, true_and, and_true, not_false_eq_true, not_true_eq_false, if_true, if_false], by simp (disch := omega) only [lAdd, addL, lMul, mulL, nMul, nI_add, subL, lSub, nSub, nDec, nCl, lCl, nVp, lVp, nLe, nLt, nEq, lLe, leL, lLt, ltL, eqL, lEq, nM1, nM2, litLt0, one01, zero01, oneNe0, xupE, xupA, xupK, xI_I, xS_I, xF_I, xJ_I, xI_R, xS_R, xF_R, xJ_R, xI_L, xS_L, xF_L, xJ_L, xcat_s, le46, ge16, or_true, true_or, false_or, or_false, eq_self, Option.toList_some, Option.toList_none, List.cons_append, List.nil_append, true_and, and_true, not_false_eq_true, not_true_eq_false, if_true, if_false], by simp (disch := omega) only [lAdd, addL, lMul, mulL, nMul, nI_add, subL, lSub, nSub, nDec, nCl, lCl, nVp, lVp, nLe, nLt, nEq, lLe, leL, lLt, ltL, eqL, lEq, nM1, nM2, litLt0, one01, zero01, oneNe0, xupE, xupA, xupK, xI_I, xS_I, xF_I, xJ_I, xI_R, xS_R, xF_R, xJ_R, xI_L, xS_L, xF_L, xJ_L, xcat_s, le46, ge16, or_true, true_or, false_or, or_false, eq_self, Option.toList_some, Option.toList_none, List.cons_append, List.nil_append, true_and, and_true, not_false_eq_true, not_true_eq_false, if_true, if_false], by simp (disch := omega) only [lAdd, addL, lMul, mulL, nMul, nI_add, subL, lSub, nSub, nDec, nCl, lCl, nVp, lVp, nLe, nLt, nEq, lLe, leL, lLt, ltL, eqL, lEq, nM1, nM2, litLt0, one01, zero01, oneNe0, xupE, xupA, xupK, xI_I, xS_I, xF_I, xJ_I, xI_R, xS_R, xF_R, xJ_R, xI_L, xS_L, xF_L, xJ_L, xcat_s, le46, ge16, or_true, true_or, false_or, or_false, eq_self, Option.toList_some, Option.toList_none, List.cons_append, List.nil_append, true_and, and_true, not_false_eq_true, not_true_eq_false, if_true, if_false]⟩
  clear hM4
  have ts4 : TxtSh M4 d := ts2.e3 e4 (fun a k q => by omega)
  have r4 : ∀ a, a ≠ 19 → xI M4 a = xI M2 a := fun a q => e4.rowI fun k z => q z.1
  have tc4 : TClr M4 d := by
    unfold TClr
    rw [r4 d (by omega), r4 (d + 16) (by omega), r4 (d + 21) (by omega), r4 (d + 22) (by omega), r4 (d + 23) (by omega), r4 (d + 24) (by omega), r4 (d + 25) (by omega), r4 (d + 26) (by omega), r4 (d + 27) (by omega), r4 (d + 28) (by omega)]
    exact tc2
  obtain ⟨tx, _, _, s0, w0⟩ := clr_txt ts4 tc4
  have E : E3 (pP d) (pJ d) pF M M4 := ((e1.mono (fun a k q => by unfold tkP at q; unfold pP; omega) (fun a k q => absurd q id) (fun a k q => by unfold pF; omega)).trans (e2'.mono (fun a k q => by unfold tC at q; unfold pP; omega) (fun a k q => absurd q id) (fun a k q => absurd q id))).trans (e4.mono (fun a k q => by unfold pP; omega) (fun a k q => absurd q id) (fun a k q => by unfold pF; omega))
  have cr : CR M4 d (tkN n c) (y0 (fun l => xI M4 (d + 2 + l)) (fun l => xI M4 (d + 10 + l)) (xI M4 (d + 16)) (fun k => (Int32.toNatClampNeg (xI M4 (d + 21 + 2 * k) 1), xI M4 (d + 21 + 2 * k + 1)))) := by
    refine ⟨⟨⟨hd, ⟨by rw [E.S]; exact v1, ?_, ?_, k3.2.2.2.2, by rw [E.S]; exact v4, by rw [E.S]; exact v7, ?_, by rw [E.S]; exact v9⟩, ts4, by rw [E.S]; exact lm.1, fun k hk => ?_⟩, ⟨⟨k3.2.2.1, Nat.zero_le _, k3.2.2.2.1⟩, ⟨tc4.1.1, tc4.1.2.1, tc4.1.2.2.1, Nat.zero_le _, Nat.zero_le _⟩, fun i hi => absurd hi (by omega), fun _ _ => rfl, fun _ _ => rfl, rfl⟩, fun k hk => ?_⟩, ⟨k3.1, by omega, k3.2.1⟩, fun q => absurd q (by omega), fun q => absurd q (by omega), fun q => absurd q (by omega), fun _ => rfl⟩
    · rw [E.FF (by unfold pF; omega)]; exact v2
    · rw [E.FF (by unfold pF; omega)]; exact v3
    · rw [E.FF (by unfold pF; omega)]; exact v8
    · rw [E.I (by unfold pP; omega), E.I (by unfold pP; omega), E.I (by unfold pP; omega)]; exact lm.2 k hk
    · rw [if_neg (by omega)]
      obtain ⟨p1, p2, p3, p4, p5⟩ := tx.1.2.2.2.2.2 k hk
      exact ⟨p3, p2, rfl, p5⟩
  have tk : TK M4 n c := by
    refine ⟨⟨by rw [E.S]; exact v4, ?_, ?_, by rw [E.S]; exact v6, by rw [E.S]; exact u1, ?_, by rw [E.S]; exact u3⟩, ?_, n2, fun i hi => ⟨?_, hc i⟩, ?_, fun i hi => ?_⟩
    · rw [E.FF (by unfold pF; omega)]; exact v5
    · rw [e4.FF (by omega), e2'.FF id]; exact tp1
    · rw [E.FF (by unfold pF; omega)]; exact u2
    · rw [E.I (by unfold pP; omega)]; exact w1
    · rw [E.I (by unfold pP; omega), w2 i hi]; exact hb i hi
    · obtain ⟨b1, b2, b3, b4, b5⟩ := sm
      exact ⟨by rw [E.S]; exact b1, by rw [E.FF (by unfold pF; omega)]; exact b2, by rw [E.S]; exact b3, by rw [E.I (by unfold pP; omega)]; exact b4, fun k hk => by rw [E.I (by unfold pP; omega)]; exact b5 k hk⟩
    · rw [E.J (by unfold pJ; omega)]; exact hj i hi
  have at4 : xI M4 20 2 = nI 0 := by rw [e4.I (by omega), e2'.I (by unfold tC; omega)]; exact at1
  refine c_loop hc 401 0 0 M4 _ (by omega) (by omega) cr tk at4 (by omega) rfl E ?_
  intro M' e' en
  exact hQ M' _ _ _ _ (fun i hi => s0 i hi) (fun k hk v => by
    have := w0 k hk v
    unfold tW txtOf at this
    dsimp only at this
    rw [if_pos hk] at this
    exact this) e' en
