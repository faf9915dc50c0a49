/-! the reference that is just made -/
theorem r_begins {M : XM} {lv : Nat} {T : XT} {Q : Option Value → XM → Prop} (h : RW M lv T)
    (hQ : ∀ M' : XM, Ex (fun a k => a = 473 ∨ (a = 439 ∧ (k = 52 ∨ k = 53))) M M' → RowIs T (xI M' 473) (openF T) → Q none M') :
    RG xprog 28 0 [some (.ref 439), none] [] M Q := by
  have l2 := h.lv2
  have r6 := h.r6
  rw [B_28_0]
  refine x_for 34 (fun i (M1 : XM) => Ex (fun a _ => a = 473) M M1 ∧ ∀ k, k < i → xI M1 473 k = 0) (fun i M1 => RG xprog 28 2 [some (.ref 439), some (.int (nI i))] [] M1 Q) ?_ ?_ 0 M (by omega) ⟨Ex.refl _ _, fun k hk => by omega⟩
  · intro M1 ⟨e1, f1⟩
    rw [B_28_2]
    simp (disch := omega) only [lAdd, addL, lMul, mulL, nMul, nI_add, subL, lSub, nSub, nDec, nCl, lCl, nVp, lVp, nLe, nLt, nEq, lLe, leL, lLt, ltL, eqL, lEq, nM1, nM2, litLt0, one01, zero01, oneNe0, xupE, xupA, xupK, xI_I, xS_I, xF_I, xJ_I, xI_R, xS_R, xF_R, xJ_R, xI_L, xS_L, xF_L, xJ_L, xcat_s, le46, ge16, or_true, true_or, false_or, or_false, eq_self, Option.toList_some, Option.toList_none, List.cons_append, List.nil_append, true_and, and_true, not_false_eq_true, not_true_eq_false, if_true, if_false, if_pos]
    refine x_for 7 (fun i (M2 : XM) => Ex (fun a _ => a = 473) M M2 ∧ (∀ k, k < 34 → ¬ (7 ≤ k ∧ k < 7 + i) → xI M2 473 k = 0) ∧ ∀ k, k < i → xI M2 473 (7 + k) = -2) (fun i M2 => RG xprog 28 23 [some (.ref 439), some (.int (nI i))] [] M2 Q) ?_ ?_ 0 M1 (by omega) ⟨e1, fun k hk _ => f1 k hk, fun k hk => by omega⟩
    · intro M2 ⟨e2, f2, g2⟩
      rw [B_28_23]
      simp (disch := omega) only [lAdd, addL, lMul, mulL, nMul, nI_add, subL, lSub, nSub, nDec, nCl, lCl, nVp, lVp, nLe, nLt, nEq, lLe, leL, lLt, ltL, eqL, lEq, nM1, nM2, litLt0, one01, zero01, oneNe0, xupE, xupA, xupK, xI_I, xS_I, xF_I, xJ_I, xI_R, xS_R, xF_R, xJ_R, xI_L, xS_L, xF_L, xJ_L, xcat_s, le46, ge16, or_true, true_or, false_or, or_false, eq_self, Option.toList_some, Option.toList_none, List.cons_append, List.nil_append, true_and, and_true, not_false_eq_true, not_true_eq_false, if_true, if_false, if_pos]
      refine x_for (tR T) (fun i (M3 : XM) => Ex (fun a _ => a = 473) M M3 ∧ (∀ k, k < 34 → ¬ (7 ≤ k ∧ k < 14) → ¬ (21 ≤ k ∧ k < 21 + i) → xI M3 473 k = 0) ∧ (∀ k, k < 7 → xI M3 473 (7 + k) = -2) ∧ ∀ k, k < i → xI M3 473 (21 + k) = tM T k 0) (fun i M3 => RG xprog 28 48 [some (.ref 439), some (.int (nI i))] [] M3 Q) ?_ ?_ 0 M2 (by omega) ⟨e2, fun k hk q _ => f2 k hk q, g2, fun k hk => by omega⟩
      · intro M3 ⟨e3, f3, g3, m3⟩
        have h3 := h.ex e3 (by intro a k q; unfold rNT; omega)
        rw [B_28_48]
        simp (disch := omega) only [h3.1.s, h3.1.f, h3.v, h3.r, lAdd, addL, lMul, mulL, nMul, nI_add, subL, lSub, nSub, nDec, nCl, lCl, nVp, lVp, nLe, nLt, nEq, lLe, leL, lLt, ltL, eqL, lEq, nM1, nM2, litLt0, one01, zero01, oneNe0, xupE, xupA, xupK, xI_I, xS_I, xF_I, xJ_I, xI_R, xS_R, xF_R, xJ_R, xI_L, xS_L, xF_L, xJ_L, xcat_s, le46, ge16, or_true, true_or, false_or, or_false, eq_self, Option.toList_some, Option.toList_none, List.cons_append, List.nil_append, true_and, and_true, not_false_eq_true, not_true_eq_false, if_true, if_false, Nat.le_refl]
        refine hQ _ (((e3.mono fun a k q => Or.inl q).wr _ (Or.inr ⟨rfl, Or.inl rfl⟩)).wr _ (Or.inr ⟨rfl, Or.inr rfl⟩)) ?_
        rw [xI_I, xupR _ _ _ (by omega), xI_I, xupR _ _ _ (by omega)]
        refine ⟨fun l hl => ⟨f3 l (by omega) (by omega) (by omega), ?_, f3 (14 + l) (by omega) (by omega) (by omega)⟩, fun a ha => ?_, fun a ha => f3 (27 + a) (by omega) (by omega) (by omega), f3 33 (by omega) (by omega) (by omega)⟩
        · rw [g3 l hl]
          exact (if_pos hl : oH (openF T) l = -2).symm
        · rw [m3 a ha]
          exact (if_pos (by omega) : oA (openF T) a = tM T a 0).symm
      · intro i M3 hi ⟨e3, f3, g3, m3⟩ ih
        have h3 := h.ex e3 (by intro a k q; unfold rNT; omega)
        have hm := (h3.2.1.2.2.2.2.2.1 i hi).1
        rw [B_28_48]
        simp (disch := omega) only [h3.1.s, h3.1.f, h3.v, h3.r, hm, lAdd, addL, lMul, mulL, nMul, nI_add, subL, lSub, nSub, nDec, nCl, lCl, nVp, lVp, nLe, nLt, nEq, lLe, leL, lLt, ltL, eqL, lEq, nM1, nM2, litLt0, one01, zero01, oneNe0, xupE, xupA, xupK, xI_I, xS_I, xF_I, xJ_I, xI_R, xS_R, xF_R, xJ_R, xI_L, xS_L, xF_L, xJ_L, xcat_s, le46, ge16, or_true, true_or, false_or, or_false, eq_self, Option.toList_some, Option.toList_none, List.cons_append, List.nil_append, true_and, and_true, not_false_eq_true, not_true_eq_false, if_true, if_false, if_neg]
        refine ih _ ⟨e3.wr _ rfl, ?_, ?_, ?_⟩
        · intro k hk q1 q2
          rw [xI_I, xupK _ _ (by omega)]
          exact f3 k hk q1 (by omega)
        · intro k hk
          rw [xI_I, xupK _ _ (by omega)]
          exact g3 k hk
        · intro k hk
          rw [xI_I]
          by_cases q : k = i
          · rw [q, xupE]
          · rw [xupK _ _ (by omega)]; exact m3 k (by omega)
    · intro i M2 hi ⟨e2, f2, g2⟩ ih
      have h2 := h.ex e2 (by intro a k q; unfold rNT; omega)
      rw [B_28_23]
      simp (disch := omega) only [h2.1.s, h2.1.f, lAdd, addL, lMul, mulL, nMul, nI_add, subL, lSub, nSub, nDec, nCl, lCl, nVp, lVp, nLe, nLt, nEq, lLe, leL, lLt, ltL, eqL, lEq, nM1, nM2, litLt0, one01, zero01, oneNe0, xupE, xupA, xupK, xI_I, xS_I, xF_I, xJ_I, xI_R, xS_R, xF_R, xJ_R, xI_L, xS_L, xF_L, xJ_L, xcat_s, le46, ge16, or_true, true_or, false_or, or_false, eq_self, Option.toList_some, Option.toList_none, List.cons_append, List.nil_append, true_and, and_true, not_false_eq_true, not_true_eq_false, if_true, if_false, if_neg]
      refine ih _ ⟨e2.wr _ rfl, ?_, ?_⟩
      · intro k hk q
        rw [xI_I, xupK _ _ (by omega)]
        exact f2 k hk (by omega)
      · intro k hk
        rw [xI_I]
        by_cases q : k = i
        · rw [q, xupE]
        · rw [xupK _ _ (by omega)]; exact g2 k (by omega)
  · intro i M1 hi ⟨e1, f1⟩ ih
    have h1 := h.ex e1 (by intro a k q; unfold rNT; omega)
    rw [B_28_2]
    simp (disch := omega) only [h1.1.s, h1.1.f, lAdd, addL, lMul, mulL, nMul, nI_add, subL, lSub, nSub, nDec, nCl, lCl, nVp, lVp, nLe, nLt, nEq, lLe, leL, lLt, ltL, eqL, lEq, nM1, nM2, litLt0, one01, zero01, oneNe0, xupE, xupA, xupK, xI_I, xS_I, xF_I, xJ_I, xI_R, xS_R, xF_R, xJ_R, xI_L, xS_L, xF_L, xJ_L, xcat_s, le46, ge16, or_true, true_or, false_or, or_false, eq_self, Option.toList_some, Option.toList_none, List.cons_append, List.nil_append, true_and, and_true, not_false_eq_true, not_true_eq_false, if_true, if_false, if_neg]
    refine ih _ ⟨e1.wr _ rfl, ?_⟩
    intro k hk
    rw [xI_I]
    by_cases q : k = i
    · rw [q, xupE]
    · rw [xupK _ _ q]; exact f1 k (by omega)
theorem ni_start (M : XM) (t n w : Nat) : NI (xZ M) M (xZ M + 1) (xU M + w) [(xZ M, t, n)] [] (fun _ => 0) J0 (xnew M t n w) := by
  refine ⟨rfl, rfl, fr_new M t n w, ?_, ?_, ?_, ?_, ?_, ?_, ?_, by omega⟩
  · intro b x hb
    rw [xS_new]
    by_cases q : b = xZ M
    · rw [q, lkS_h] at hb
      rw [if_pos q]
      exact Option.some.inj hb
    · rw [lkS_t q] at hb
      cases hb
  · intro b k v hb
    cases hb
  · intro b k h1 h2
    omega
  · rw [xI_new, if_pos rfl]
  · intro b h1 h2
    rw [xJ_new, if_pos (by omega)]
    rfl
  · intro y hy
    rw [List.mem_singleton.mp hy]
    exact Nat.lt_succ_self _
  · intro y hy
    cases hy
theorem r_new {M : XM} {T : XT} {Q : Option Value → XM → Prop} (hz : xZ M = 439) (hu : xU M = 8811) (tok : TOk T) (n0 : tN T = 0) (r0 : tR T = 0) (s0 : ∀ i, i < 3 → tS T i = 0) (w0 : ∀ k, k < 4 → ∀ v, tW T k v = plv k v)
    (hQ : ∀ M' : XM, xZ M' = 486 → xU M' = 20270 → Fr 439 M M' → (∀ i, i < 21 → xJ M' 446 i = kL.getD i 0) → RWd M' 0 (S0of T) → Q none M') :
    RG xprog 30 0 [some (.ref 439)] [] (xnew M 12 0 68) Q := by
  have h0 := ni_start M 12 0 68
  rw [hz, hu] at h0
  refine n_Model0 h0 (fun b hb => rfl) ?_
  intro N1 h1
  refine n_plain (s := 0) h1 (by decide) ?_
  intro N2 h2
  simp (disch := omega) only [Option.toList_none, List.nil_append]
  rw [B_30_392, h2.S 439 (12, 0) (by decide +kernel)]
  refine ⟨rfl, ?_⟩
  refine n_plain (s := 1) h2 (by decide) ?_
  intro N3 h3
  simp (disch := omega) only [Option.toList_none, List.nil_append]
  have ej : jW 446 J0 (kC 0) = J0 := by
    funext a
    unfold jW
    by_cases q : a = 446
    · rw [if_pos q]
      funext k
      unfold kC
      rw [if_neg (by omega)]
      rfl
    · rw [if_neg q]
  have h3' : NI 439 M 486 20270 rSh rFf gR (jW 446 J0 (kC 0)) N3 := by rw [ej]; exact h3
  refine n_words h3' ?_
  intro N4 h4
  have z4 : ∀ b k, 439 < b → b < 486 → xI N4 b k = 0 := h4.I
  have g4 : ∀ k, xI N4 439 k = if k = 17 then -1 else 0 := fun k => by rw [h4.hg]; rfl
  have rw4 : RW N4 0 T := by
    refine ⟨rsh_of h4, ⟨by omega, g4 18, by rw [n0]; exact z4 448 0 (by decide) (by decide), by rw [r0]; exact z4 453 0 (by decide) (by decide), fun l hl => by omega, fun a ha => by omega, ⟨by rw [s0 0 (by omega)]; exact z4 457 0 (by decide) (by decide), by rw [s0 1 (by omega)]; exact z4 458 0 (by decide) (by decide), by rw [s0 2 (by omega)]; exact z4 459 0 (by decide) (by decide)⟩, fun k hk => ?_⟩, tok⟩
    refine ⟨0, 0, by omega, by omega, z4 460 _ (by decide) (by decide), z4 461 _ (by decide) (by decide), fun b h1 h2 => by omega, fun v => by rw [if_pos rfl]; exact w0 k hk v, fun v v' hv => ?_⟩
    rw [w0 k hk v, w0 k hk v']
    unfold plv
    rw [hv 0 (by omega), hv 4 (by omega)]
  refine r_begins rw4 ?_
  intro N5 e5 row5
  have rw5 := rw4.ex e5 (by intro a k q; unfold rNT; omega)
  simp (disch := omega) only [Option.toList_none, List.nil_append]
  rw [B_30_857, rw5.s]
  refine ⟨rfl, ?_⟩
  refine r_keepsRow rw5.1 ?_
  intro N6 e6 f6
  have rw6 := rw5.ex e6 (by intro a k q; unfold rNT; omega)
  simp (disch := omega) only [Option.toList_none, List.nil_append]
  rw [B_30_861]
  have e : Ex (fun a k => a = 472 ∨ a = 473 ∨ (a = 439 ∧ (k = 52 ∨ k = 53))) N4 N6 := (e5.mono fun a k q => Or.inr q).trans (e6.mono fun a k q => Or.inl q)
  have z6 : ∀ b k, 439 < b → b < 486 → b ≠ 472 → b ≠ 473 → xI N6 b k = 0 := fun b k q1 q2 q3 q4 => by rw [e.I (by omega)]; exact z4 b k q1 q2
  have g6 : ∀ k, k ≠ 52 → k ≠ 53 → xI N6 439 k = if k = 17 then -1 else 0 := fun k q1 q2 => by rw [e.I (by omega)]; exact g4 k
  refine hQ N6 ?_ ?_ ?_ ?_ ?_
  · have : N6.1 = N4.1 := e.1
    show N6.1.1 = 486
    rw [this]; exact h4.hz
  · have : N6.1 = N4.1 := e.1
    show N6.1.2 = 20270
    rw [this]; exact h4.hu
  · intro b hb
    obtain ⟨q1, q2, q3, q4⟩ := h4.fr b hb
    refine ⟨?_, ?_, ?_, ?_⟩
    · show xS N6 b = _
      rw [e.S]; exact q1
    · show xI N6 b = _
      rw [e.row (fun k q => by omega)]; exact q2
    · show xJ N6 b = _
      rw [e.2.2.2.1]; exact q3
    · show xF N6 b = _
      rw [e.F]; exact q4
  · intro i hi
    rw [e.2.2.2.1, h4.J 446 (by decide) (by decide)]
    unfold jW kC
    rw [if_pos rfl, if_pos hi]
  · refine ⟨rw6, ?_, ⟨g6 2 (by decide) (by decide), fun i hi => absurd hi (Nat.not_lt_zero _)⟩, g6 17 (by decide) (by decide), ⟨g6 55 (by decide) (by decide), fun i hi => absurd hi (Nat.not_lt_zero _)⟩, fun i hi => ⟨z6 484 i (by decide) (by decide) (by decide) (by decide), fun G hG => ?_⟩, g6 62 (by decide) (by decide), fun i hi => absurd hi (Nat.not_lt_zero _)⟩
    · obtain ⟨a1, a2, a3, a4⟩ := row5
      show RowIs T (xI N6 472) (openF T)
      refine ⟨fun l hl => ?_, fun a ha => by omega, fun a ha => ?_, ?_⟩
      · rw [f6 l (by omega), f6 (7 + l) (by omega), f6 (14 + l) (by omega)]; exact a1 l hl
      · rw [f6 (27 + a) (by omega)]; exact a3 a ha
      · rw [f6 33 (by omega)]; exact a4
    · have : (none : Option XO) = some G := hG
      cases this
