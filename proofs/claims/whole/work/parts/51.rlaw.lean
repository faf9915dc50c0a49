/-! the reference: a law's value -/
def rT : Nat → Nat → Prop := fun a k => a = 471 ∨ (a = 439 ∧ k = 49)
def opv (k x y : Int32) : Int32 := if ¬ k = 2 then (if ¬ k = 3 then (if ¬ k = 4 then x / y else x * y) else x - y) else x + y
def rterm (cd ci v : Nat → Int32) : Nat → Nat → Nat → (Nat → Int32) → Int32 × Bool
  | 0, _, _, st => (st 0, false)
  | n + 1, c, t, st => if 2 ≤ cd c then (if cd c = 5 ∧ st (t - 1) = 0 then (0, true) else rterm cd ci v n (c + 1) (t - 1) (xone st (t - 2) (opv (cd c) (st (t - 2)) (st (t - 1))))) else rterm cd ci v n (c + 1) (t + 1) (xone st t (if cd c = 0 then ci c else v (cN (ci c))))
theorem rterm_s (cd ci v : Nat → Int32) (n c t : Nat) (st : Nat → Int32) : rterm cd ci v (n + 1) c t st = if 2 ≤ cd c then (if cd c = 5 ∧ st (t - 1) = 0 then (0, true) else rterm cd ci v n (c + 1) (t - 1) (xone st (t - 2) (opv (cd c) (st (t - 2)) (st (t - 1))))) else rterm cd ci v n (c + 1) (t + 1) (xone st t (if cd c = 0 then ci c else v (cN (ci c)))) := rfl
def rok (cd ci : Nat → Int32) : Nat → Nat → Nat → Prop
  | 0, _, t => t = 1
  | n + 1, c, t => (2 ≤ cd c ∧ 2 ≤ t ∧ (cd c = 2 ∨ cd c = 3 ∨ cd c = 4 ∨ cd c = 5) ∧ rok cd ci n (c + 1) (t - 1)) ∨ (¬ 2 ≤ cd c ∧ t < 400 ∧ (cd c = 0 ∨ (cd c = 1 ∧ ∃ j, j < 9 ∧ ci c = nI j)) ∧ rok cd ci n (c + 1) (t + 1))
theorem rterm_st (cd ci v v' : Nat → Int32) (hv : ∀ k, k < 9 → v k = v' k) : ∀ (n c t : Nat) (st st' : Nat → Int32), rok cd ci n c t → (∀ j, j < t → st j = st' j) → rterm cd ci v n c t st = rterm cd ci v' n c t st'
  | 0, c, t, st, st', h, hs => by
    have : t = 1 := h
    unfold rterm
    rw [hs 0 (by omega)]
  | n + 1, c, t, st, st', h, hs => by
    rw [rterm_s, rterm_s]
    rcases h with ⟨h1, h2, h3, h4⟩ | ⟨h1, h2, h3, h4⟩
    · rw [if_pos h1, if_pos h1, hs (t - 1) (by omega), hs (t - 2) (by omega)]
      rw [rterm_st cd ci v v' hv n (c + 1) (t - 1) _ (xone st' (t - 2) (opv (cd c) (st' (t - 2)) (st' (t - 1)))) h4 ?_]
      intro j hj
      rw [xo_at, xo_at]
      by_cases q : j = t - 2
      · rw [if_pos q, if_pos q]
      · rw [if_neg q, if_neg q]; exact hs j (by omega)
    · rw [if_neg h1, if_neg h1]
      have e : (if cd c = 0 then ci c else v (cN (ci c))) = if cd c = 0 then ci c else v' (cN (ci c)) := by
        rcases h3 with q | ⟨q, j, hj, hc⟩
        · rw [if_pos q, if_pos q]
        · rw [hc]; unfold cN; rw [nI_clamp (by omega), hv j hj]
      rw [e]
      apply rterm_st cd ci v v' hv n (c + 1) (t + 1) _ _ h4
      intro j hj
      rw [xo_at, xo_at]
      by_cases q : j = t
      · rw [if_pos q, if_pos q]
      · rw [if_neg q, if_neg q]; exact hs j (by omega)
theorem r_term_loop {M0 : XM} {fr to : Int32} {Q : Option Value → XM → Prop} (hS : RSh M0) : ∀ (n c t : Nat) (b0 : Int32) (M : XM) (a5 a6 a7 : Option Value), Ex rT M0 M → rok (xI M0 467) (xI M0 468) n c t → c + n ≤ 840 → t ≤ 400 → xI M 439 49 = b0 → to = nI (c + n) →
    (∀ M' : XM, Ex rT M0 M' → xI M' 439 49 = (if (rterm (xI M0 467) (xI M0 468) (xI M0 470) n c t (xI M 471)).2 = true then 1 else b0) → Q (some (.int (rterm (xI M0 467) (xI M0 468) (xI M0 470) n c t (xI M 471)).1)) M') →
    RG xprog 135 5 [some (.ref 439), some (.int fr), some (.int to), some (.int (nI t)), some (.int (nI c)), a5, a6, a7] [] M Q
  | 0, c, t, b0, M, a5, a6, a7, e, ho, hc, ht, hb, hto, hQ => by
    have hM := hS.ex e
    subst hto
    rw [B_135_5]
    simp (disch := omega) only [hM.s, hM.f, lAdd, addL, lMul, mulL, nMul, nI_add, subL, lSub, nSub, nDec, nCl, lCl, nVp, lVp, nLe, nLt, nEq, lLe, leL, lLt, ltL, eqL, lEq, nM1, nM2, litLt0, one01, zero01, oneNe0, xupE, xupA, xupK, xI_I, xS_I, xF_I, xJ_I, xI_R, xS_R, xF_R, xJ_R, xI_L, xS_L, xF_L, xJ_L, xcat_s, le46, ge16, or_true, true_or, false_or, or_false, eq_self, Option.toList_some, Option.toList_none, List.cons_append, List.nil_append, true_and, and_true, not_false_eq_true, not_true_eq_false, if_true, if_false, Nat.add_zero, Nat.le_refl]
    have := hQ M e
    unfold rterm at this
    exact this hb
  | n + 1, c, t, b0, M, a5, a6, a7, e, ho, hc, ht, hb, hto, hQ => by
    have hM := hS.ex e
    subst hto
    have r7 : xI M 467 = xI M0 467 := e.row (by intro k q; unfold rT at q; omega)
    have r8 : xI M 468 = xI M0 468 := e.row (by intro k q; unfold rT at q; omega)
    have r0 : xI M 470 = xI M0 470 := e.row (by intro k q; unfold rT at q; omega)
    rw [rterm_s] at hQ
    rw [B_135_5]
    simp (disch := omega) only [hM.s, hM.f, lAdd, addL, lMul, mulL, nMul, nI_add, subL, lSub, nSub, nDec, nCl, lCl, nVp, lVp, nLe, nLt, nEq, lLe, leL, lLt, ltL, eqL, lEq, nM1, nM2, litLt0, one01, zero01, oneNe0, xupE, xupA, xupK, xI_I, xS_I, xF_I, xJ_I, xI_R, xS_R, xF_R, xJ_R, xI_L, xS_L, xF_L, xJ_L, xcat_s, le46, ge16, or_true, true_or, false_or, or_false, eq_self, Option.toList_some, Option.toList_none, List.cons_append, List.nil_append, true_and, and_true, not_false_eq_true, not_true_eq_false, if_true, if_false, if_neg, r7, r8, r0]
    rcases ho with ⟨h1, h2, h3, h4⟩ | ⟨h1, h2, h3, h4⟩
    · rw [if_pos h1]
      rw [if_pos h1] at hQ
      have t2 : t - 1 - 1 = t - 2 := by omega
      simp (disch := omega) only [hM.s, hM.f, lAdd, addL, lMul, mulL, nMul, nI_add, subL, lSub, nSub, nDec, nCl, lCl, nVp, lVp, nLe, nLt, nEq, lLe, leL, lLt, ltL, eqL, lEq, nM1, nM2, litLt0, one01, zero01, oneNe0, xupE, xupA, xupK, xI_I, xS_I, xF_I, xJ_I, xI_R, xS_R, xF_R, xJ_R, xI_L, xS_L, xF_L, xJ_L, xcat_s, le46, ge16, or_true, true_or, false_or, or_false, eq_self, Option.toList_some, Option.toList_none, List.cons_append, List.nil_append, true_and, and_true, not_false_eq_true, not_true_eq_false, if_true, if_false, t2]
      have go : ∀ x : Int32, x = opv (xI M0 467 c) (xI M 471 (t - 2)) (xI M 471 (t - 1)) → (∀ M' : XM, Ex rT M0 M' → xI M' 439 49 = (if (rterm (xI M0 467) (xI M0 468) (xI M0 470) n (c + 1) (t - 1) (xone (xI M 471) (t - 2) (opv (xI M0 467 c) (xI M 471 (t - 2)) (xI M 471 (t - 1))))).2 = true then 1 else b0) → Q (some (.int (rterm (xI M0 467) (xI M0 468) (xI M0 470) n (c + 1) (t - 1) (xone (xI M 471) (t - 2) (opv (xI M0 467 c) (xI M 471 (t - 2)) (xI M 471 (t - 1))))).1)) M') → RG xprog 135 158 [some (.ref 439), some (.int fr), some (.int (nI (c + (n + 1)))), some (.int (nI (t - 1))), some (.int (nI c)), some (.int (xI M0 467 c)), some (.int (xI M 471 (t - 2))), some (.int (xI M 471 (t - 1)))] [.int x, .int (nI (t - 2)), .ref 471] M Q := by
        intro x hx hq
        rw [B_135_158]
        simp (disch := omega) only [hM.s, hM.f, lAdd, addL, lMul, mulL, nMul, nI_add, subL, lSub, nSub, nDec, nCl, lCl, nVp, lVp, nLe, nLt, nEq, lLe, leL, lLt, ltL, eqL, lEq, nM1, nM2, litLt0, one01, zero01, oneNe0, xupE, xupA, xupK, xI_I, xS_I, xF_I, xJ_I, xI_R, xS_R, xF_R, xJ_R, xI_L, xS_L, xF_L, xJ_L, xcat_s, le46, ge16, or_true, true_or, false_or, or_false, eq_self, Option.toList_some, Option.toList_none, List.cons_append, List.nil_append, true_and, and_true, not_false_eq_true, not_true_eq_false, if_true, if_false]
        refine r_term_loop hS n (c + 1) (t - 1) b0 _ _ _ _ (e.wr _ (Or.inl rfl)) h4 (by omega) (by omega) ?_ (by congr 1; omega) ?_
        · rw [xI_I, xupA _ _ _ _ (by omega)]; exact hb
        · rw [xI_I, xup_s, hx]; exact hq
      have go2 : ¬ (xI M0 467 c = 5 ∧ xI M 471 (t - 1) = 0) → (∀ M' : XM, Ex rT M0 M' → xI M' 439 49 = (if (rterm (xI M0 467) (xI M0 468) (xI M0 470) n (c + 1) (t - 1) (xone (xI M 471) (t - 2) (opv (xI M0 467 c) (xI M 471 (t - 2)) (xI M 471 (t - 1))))).2 = true then 1 else b0) → Q (some (.int (rterm (xI M0 467) (xI M0 468) (xI M0 470) n (c + 1) (t - 1) (xone (xI M 471) (t - 2) (opv (xI M0 467 c) (xI M 471 (t - 2)) (xI M 471 (t - 1))))).1)) M') → RG xprog 135 104 [some (.ref 439), some (.int fr), some (.int (nI (c + (n + 1)))), some (.int (nI (t - 1))), some (.int (nI c)), some (.int (xI M0 467 c)), some (.int (xI M 471 (t - 2))), some (.int (xI M 471 (t - 1)))] [] M Q := by
        intro h5 hq
        rw [B_135_104]
        simp (disch := omega) only [hM.s, hM.f, lAdd, addL, lMul, mulL, nMul, nI_add, subL, lSub, nSub, nDec, nCl, lCl, nVp, lVp, nLe, nLt, nEq, lLe, leL, lLt, ltL, eqL, lEq, nM1, nM2, litLt0, one01, zero01, oneNe0, xupE, xupA, xupK, xI_I, xS_I, xF_I, xJ_I, xI_R, xS_R, xF_R, xJ_R, xI_L, xS_L, xF_L, xJ_L, xcat_s, le46, ge16, or_true, true_or, false_or, or_false, eq_self, Option.toList_some, Option.toList_none, List.cons_append, List.nil_append, true_and, and_true, not_false_eq_true, not_true_eq_false, if_true, if_false, t2]
        by_cases k2 : xI M0 467 c = 2
        · rw [if_neg (fun q => q k2)]
          exact go _ (by unfold opv; rw [if_neg (fun q => q k2)]) hq
        rw [if_pos k2]
        by_cases k3 : xI M0 467 c = 3
        · rw [if_neg (fun q => q k3)]
          exact go _ (by unfold opv; rw [if_pos k2, if_neg (fun q => q k3)]) hq
        rw [if_pos k3]
        by_cases k4 : xI M0 467 c = 4
        · rw [if_neg (fun q => q k4)]
          exact go _ (by unfold opv; rw [if_pos k2, if_pos k3, if_neg (fun q => q k4)]) hq
        rw [if_pos k4]
        refine ⟨fun q => h5 ⟨?_, q⟩, go _ (by unfold opv; rw [if_pos k2, if_pos k3, if_pos k4]) hq⟩
        rcases h3 with q | q | q | q
        · exact absurd q k2
        · exact absurd q k3
        · exact absurd q k4
        · exact q
      by_cases k5 : xI M0 467 c = 5
      · rw [if_neg (fun q => q k5)]
        by_cases z : xI M 471 (t - 1) = 0
        · rw [if_neg (fun q => q z)]
          rw [if_pos (c := xI M0 467 c = 5 ∧ xI M 471 (t - 1) = 0) ⟨k5, z⟩] at hQ
          refine hQ _ (e.wr _ (Or.inr ⟨rfl, rfl⟩)) ?_
          rw [xI_I, xupE]; rfl
        · rw [if_pos z]
          rw [if_neg (c := xI M0 467 c = 5 ∧ xI M 471 (t - 1) = 0) (fun q => z q.2)] at hQ
          exact go2 (fun q => z q.2) hQ
      · rw [if_pos k5]
        rw [if_neg (c := xI M0 467 c = 5 ∧ xI M 471 (t - 1) = 0) (fun q => k5 q.1)] at hQ
        exact go2 (fun q => k5 q.1) hQ
    · rw [if_neg h1]
      rw [if_neg h1] at hQ
      have go : ∀ x : Int32, (∀ M' : XM, Ex rT M0 M' → xI M' 439 49 = (if (rterm (xI M0 467) (xI M0 468) (xI M0 470) n (c + 1) (t + 1) (xone (xI M 471) t x)).2 = true then 1 else b0) → Q (some (.int (rterm (xI M0 467) (xI M0 468) (xI M0 470) n (c + 1) (t + 1) (xone (xI M 471) t x)).1)) M') → RG xprog 135 58 [some (.ref 439), some (.int fr), some (.int (nI (c + (n + 1)))), some (.int (nI t)), some (.int (nI c)), some (.int (xI M0 467 c)), a6, a7] [.int x, .int (nI t), .ref 471] M Q := by
        intro x hq
        rw [B_135_58]
        simp (disch := omega) only [hM.s, hM.f, lAdd, addL, lMul, mulL, nMul, nI_add, subL, lSub, nSub, nDec, nCl, lCl, nVp, lVp, nLe, nLt, nEq, lLe, leL, lLt, ltL, eqL, lEq, nM1, nM2, litLt0, one01, zero01, oneNe0, xupE, xupA, xupK, xI_I, xS_I, xF_I, xJ_I, xI_R, xS_R, xF_R, xJ_R, xI_L, xS_L, xF_L, xJ_L, xcat_s, le46, ge16, or_true, true_or, false_or, or_false, eq_self, Option.toList_some, Option.toList_none, List.cons_append, List.nil_append, true_and, and_true, not_false_eq_true, not_true_eq_false, if_true, if_false]
        refine r_term_loop hS n (c + 1) (t + 1) b0 _ _ _ _ (e.wr _ (Or.inl rfl)) h4 (by omega) (by omega) ?_ (by congr 1; omega) ?_
        · rw [xI_I, xupA _ _ _ _ (by omega)]; exact hb
        · rw [xI_I, xup_s]; exact hq
      rcases h3 with q | ⟨q, j, hj, hcj⟩
      · rw [if_neg (fun z => z q)]
        rw [if_pos q] at hQ
        exact go _ hQ
      · rw [if_pos (by rw [q]; decide), hcj]
        rw [if_neg (c := xI M0 467 c = 0) (by rw [q]; decide), hcj] at hQ
        unfold cN at hQ
        rw [nI_clamp (by omega)] at hQ
        simp (disch := omega) only [lAdd, addL, lMul, mulL, nMul, nI_add, subL, lSub, nSub, nDec, nCl, lCl, nVp, lVp, nLe, nLt, nEq, lLe, leL, lLt, ltL, eqL, lEq, nM1, nM2, litLt0, one01, zero01, oneNe0, xupE, xupA, xupK, xI_I, xS_I, xF_I, xJ_I, xI_R, xS_R, xF_R, xJ_R, xI_L, xS_L, xF_L, xJ_L, xcat_s, le46, ge16, or_true, true_or, false_or, or_false, eq_self, Option.toList_some, Option.toList_none, List.cons_append, List.nil_append, true_and, and_true, not_false_eq_true, not_true_eq_false, if_true, if_false]
        exact go _ hQ
/-- a stretch of the code, as the branch b has it in the rows x and y -/
def rseg (I : Nat → Nat → Int32) (v : Nat → Int32) (x y b : Nat) : Int32 × Bool := rterm (I 467) (I 468) v (cN (I y b) - cN (I x b)) (cN (I x b)) 0 (fun _ => 0)
def segok (I : Nat → Nat → Int32) (x y b : Nat) : Prop := ∃ p q, p ≤ q ∧ q ≤ 840 ∧ I x b = nI p ∧ I y b = nI q ∧ rok (I 467) (I 468) (q - p) p 0
def rfin (I : Nat → Nat → Int32) (v : Nat → Int32) (b : Nat) : Int32 := if (rseg I v 465 466 b).2 = true then 0 else (rseg I v 465 466 b).1
def rl (I : Nat → Nat → Int32) (v : Nat → Int32) : Nat → Nat → Int32
  | 0, _ => 0
  | n + 1, b => if I 462 b = 0 then rfin I v b else if (rseg I v 463 464 b).2 = true ∨ (rseg I v 464 465 b).2 = true then 0 else if (rseg I v 463 464 b).1 < (rseg I v 464 465 b).1 then rfin I v b else rl I v n (b + 1)
theorem rl_s (I : Nat → Nat → Int32) (v : Nat → Int32) (n b : Nat) : rl I v (n + 1) b = if I 462 b = 0 then rfin I v b else if (rseg I v 463 464 b).2 = true ∨ (rseg I v 464 465 b).2 = true then 0 else if (rseg I v 463 464 b).1 < (rseg I v 464 465 b).1 then rfin I v b else rl I v n (b + 1) := rfl
def rwf (I : Nat → Nat → Int32) (b : Nat) : Prop := (I 462 b = 0 ∨ (segok I 463 464 b ∧ segok I 464 465 b)) ∧ segok I 465 466 b
def plv (k : Nat) (v : Nat → Int32) : Int32 := if k = 0 then 10 - v 0 else if k = 1 then v 4 else 0
/-- branch b and its code lie in the part of their side -/
def rreg (I : Nat → Nat → Int32) (lv b : Nat) : Prop := 130 * lv ≤ b ∧ b < 130 * lv + 130 ∧ (I 462 b = 0 ∨ 420 * lv ≤ cN (I 463 b)) ∧ 420 * lv ≤ cN (I 465 b) ∧ cN (I 466 b) ≤ 420 * lv + 420
def RLaw (I : Nat → Nat → Int32) (lv k : Nat) (f : (Nat → Int32) → Int32) : Prop := ∃ p q, p ≤ q ∧ q ≤ 260 ∧ I 460 (4 * lv + k) = nI p ∧ I 461 (4 * lv + k) = nI q ∧ (∀ b, p ≤ b → b < q → rwf I b ∧ rreg I lv b) ∧ (∀ v, f v = if p = q then plv k v else rl I v (q - p) p) ∧ ∀ v v' : Nat → Int32, (∀ j, j < 9 → v j = v' j) → f v = f v'
theorem r_seg {M0 M : XM} {x y b : Nat} {Q : Option Value → XM → Prop} (hS : RSh M0) (e : Ex rT M0 M) (h : segok (xI M0) x y b)
    (hQ : ∀ M' : XM, Ex rT M0 M' → xI M' 439 49 = (if (rseg (xI M0) (xI M0 470) x y b).2 = true then 1 else xI M 439 49) → Q (some (.int (rseg (xI M0) (xI M0 470) x y b).1)) M') :
    RG xprog 135 0 [some (.ref 439), some (.int (xI M0 x b)), some (.int (xI M0 y b)), none, none, none, none, none] [] M Q := by
  obtain ⟨p, q, h1, h2, h3, h4, h5⟩ := h
  rw [B_135_0, h3]
  have E : rseg (xI M0) (xI M0 470) x y b = rterm (xI M0 467) (xI M0 468) (xI M0 470) (q - p) p 0 (xI M 471) := by
    unfold rseg cN
    rw [h3, h4, nI_clamp (by omega), nI_clamp (by omega)]
    exact rterm_st _ _ _ _ (fun _ _ => rfl) _ _ _ _ _ h5 (fun j hj => by omega)
  rw [E] at hQ
  exact r_term_loop hS (q - p) p 0 _ M _ _ _ e h5 (by omega) (by omega) rfl (by rw [h4]; congr 1; omega) hQ
theorem r_law_loop {M0 : XM} {q at4 k : Nat} {x1 x2 : Int32} {Q : Option Value → XM → Prop} (hS : RSh M0) (hq : q ≤ 260) (h8 : at4 < 8) (hl : xI M0 461 at4 = nI q) : ∀ (n b : Nat) (M : XM) (a5 a6 : Option Value), b + n = q → Ex rT M0 M → xI M 439 49 = 0 → (∀ j, b ≤ j → j < q → rwf (xI M0) j) →
    (∀ M' : XM, Ex rT M0 M' → Q (some (.int (rl (xI M0) (xI M0 470) n b))) M') →
    RG xprog 136 39 [some (.ref 439), some (.int x1), some (.int x2), some (.int (nI at4)), some (.int (nI b)), a5, a6] [] M Q
  | 0, b, M, a5, a6, hb, e, hz, hw, hQ => by
    have hM := hS.ex e
    have r1 : xI M 461 = xI M0 461 := e.row (by intro k q; unfold rT at q; omega)
    rw [B_136_39]
    simp (disch := omega) only [hM.s, hM.f, lAdd, addL, lMul, mulL, nMul, nI_add, subL, lSub, nSub, nDec, nCl, lCl, nVp, lVp, nLe, nLt, nEq, lLe, leL, lLt, ltL, eqL, lEq, nM1, nM2, litLt0, one01, zero01, oneNe0, xupE, xupA, xupK, xI_I, xS_I, xF_I, xJ_I, xI_R, xS_R, xF_R, xJ_R, xI_L, xS_L, xF_L, xJ_L, xcat_s, le46, ge16, or_true, true_or, false_or, or_false, eq_self, Option.toList_some, Option.toList_none, List.cons_append, List.nil_append, true_and, and_true, not_false_eq_true, not_true_eq_false, if_true, if_false, r1, hl, if_pos]
    exact hQ M e
  | n + 1, b, M, a5, a6, hb, e, hz, hw, hQ => by
    have hM := hS.ex e
    have r1 : xI M 461 = xI M0 461 := e.row (by intro k q; unfold rT at q; omega)
    have r2 : xI M 462 = xI M0 462 := e.row (by intro k q; unfold rT at q; omega)
    have r3 : xI M 463 = xI M0 463 := e.row (by intro k q; unfold rT at q; omega)
    have r4 : xI M 464 = xI M0 464 := e.row (by intro k q; unfold rT at q; omega)
    rw [rl_s] at hQ
    rw [B_136_39]
    obtain ⟨w1, w2⟩ := hw b (by omega) (by omega)
    simp (disch := omega) only [hM.s, hM.f, lAdd, addL, lMul, mulL, nMul, nI_add, subL, lSub, nSub, nDec, nCl, lCl, nVp, lVp, nLe, nLt, nEq, lLe, leL, lLt, ltL, eqL, lEq, nM1, nM2, litLt0, one01, zero01, oneNe0, xupE, xupA, xupK, xI_I, xS_I, xF_I, xJ_I, xI_R, xS_R, xF_R, xJ_R, xI_L, xS_L, xF_L, xJ_L, xcat_s, le46, ge16, or_true, true_or, false_or, or_false, eq_self, Option.toList_some, Option.toList_none, List.cons_append, List.nil_append, true_and, and_true, not_false_eq_true, not_true_eq_false, if_true, if_false, r1, r2, r3, r4, hl, if_neg, or_true]
    have fin : ∀ (M1 : XM) (a5 a6 : Option Value), Ex rT M0 M1 → xI M1 439 49 = 0 → (∀ M' : XM, Ex rT M0 M' → Q (some (.int (rfin (xI M0) (xI M0 470) b))) M') → RG xprog 136 119 [some (.ref 439), some (.int x1), some (.int x2), some (.int (nI at4)), some (.int (nI b)), a5, a6] [] M1 Q := by
      intro M1 a5 a6 e1 z1 hq
      have hM1 := hS.ex e1
      have s5 : xI M1 465 = xI M0 465 := e1.row (by intro k q; unfold rT at q; omega)
      have s6 : xI M1 466 = xI M0 466 := e1.row (by intro k q; unfold rT at q; omega)
      rw [B_136_119]
      simp (disch := omega) only [hM1.s, hM1.f, lAdd, addL, lMul, mulL, nMul, nI_add, subL, lSub, nSub, nDec, nCl, lCl, nVp, lVp, nLe, nLt, nEq, lLe, leL, lLt, ltL, eqL, lEq, nM1, nM2, litLt0, one01, zero01, oneNe0, xupE, xupA, xupK, xI_I, xS_I, xF_I, xJ_I, xI_R, xS_R, xF_R, xJ_R, xI_L, xS_L, xF_L, xJ_L, xcat_s, le46, ge16, or_true, true_or, false_or, or_false, eq_self, Option.toList_some, Option.toList_none, List.cons_append, List.nil_append, true_and, and_true, not_false_eq_true, not_true_eq_false, if_true, if_false, s5, s6]
      refine r_seg hS e1 w2 ?_
      intro M2 e2 z2
      have hM2 := hS.ex e2
      simp (disch := omega) only [lAdd, addL, lMul, mulL, nMul, nI_add, subL, lSub, nSub, nDec, nCl, lCl, nVp, lVp, nLe, nLt, nEq, lLe, leL, lLt, ltL, eqL, lEq, nM1, nM2, litLt0, one01, zero01, oneNe0, xupE, xupA, xupK, xI_I, xS_I, xF_I, xJ_I, xI_R, xS_R, xF_R, xJ_R, xI_L, xS_L, xF_L, xJ_L, xcat_s, le46, ge16, or_true, true_or, false_or, or_false, eq_self, Option.toList_some, Option.toList_none, List.cons_append, List.nil_append, true_and, and_true, not_false_eq_true, not_true_eq_false, if_true, if_false, B_136_137, hM2.s]
      have q2 := hq M2 e2
      unfold rfin at q2
      rw [z1] at z2
      by_cases hc : (rseg (xI M0) (xI M0 470) 465 466 b).2 = true
      · rw [if_pos hc] at z2 q2
        rw [z2, if_neg (by decide)]
        exact q2
      · rw [if_neg hc] at z2 q2
        rw [z2, if_pos rfl]
        exact q2
    by_cases h0 : xI M0 462 b = 0
    · rw [if_pos h0]
      rw [if_pos h0] at hQ
      exact fin M a5 a6 e hz hQ
    · rw [if_neg h0]
      rw [if_neg h0] at hQ
      obtain ⟨w3, w4⟩ := w1.resolve_left h0
      refine r_seg hS e w3 ?_
      intro M2 e2 z2
      have hM2 := hS.ex e2
      have s4 : xI M2 464 = xI M0 464 := e2.row (by intro k q; unfold rT at q; omega)
      have s5 : xI M2 465 = xI M0 465 := e2.row (by intro k q; unfold rT at q; omega)
      simp (disch := omega) only [lAdd, addL, lMul, mulL, nMul, nI_add, subL, lSub, nSub, nDec, nCl, lCl, nVp, lVp, nLe, nLt, nEq, lLe, leL, lLt, ltL, eqL, lEq, nM1, nM2, litLt0, one01, zero01, oneNe0, xupE, xupA, xupK, xI_I, xS_I, xF_I, xJ_I, xI_R, xS_R, xF_R, xJ_R, xI_L, xS_L, xF_L, xJ_L, xcat_s, le46, ge16, or_true, true_or, false_or, or_false, eq_self, Option.toList_some, Option.toList_none, List.cons_append, List.nil_append, true_and, and_true, not_false_eq_true, not_true_eq_false, if_true, if_false, B_136_78, hM2.s, hM2.f, s4, s5]
      refine r_seg hS e2 w4 ?_
      intro M3 e3 z3
      have hM3 := hS.ex e3
      simp (disch := omega) only [lAdd, addL, lMul, mulL, nMul, nI_add, subL, lSub, nSub, nDec, nCl, lCl, nVp, lVp, nLe, nLt, nEq, lLe, leL, lLt, ltL, eqL, lEq, nM1, nM2, litLt0, one01, zero01, oneNe0, xupE, xupA, xupK, xI_I, xS_I, xF_I, xJ_I, xI_R, xS_R, xF_R, xJ_R, xI_L, xS_L, xF_L, xJ_L, xcat_s, le46, ge16, or_true, true_or, false_or, or_false, eq_self, Option.toList_some, Option.toList_none, List.cons_append, List.nil_append, true_and, and_true, not_false_eq_true, not_true_eq_false, if_true, if_false, B_136_98, hM3.s]
      rw [z2, hz] at z3
      by_cases c1 : (rseg (xI M0) (xI M0 470) 464 465 b).2 = true
      · rw [if_pos c1] at z3
        rw [if_pos (Or.inr c1)] at hQ
        rw [z3, if_neg (by decide)]
        exact hQ M3 e3
      rw [if_neg c1] at z3
      by_cases c2 : (rseg (xI M0) (xI M0 470) 463 464 b).2 = true
      · rw [if_pos c2] at z3
        rw [if_pos (Or.inl c2)] at hQ
        rw [z3, if_neg (by decide)]
        exact hQ M3 e3
      rw [if_neg c2] at z3
      rw [if_neg (fun q => q.elim c2 c1)] at hQ
      rw [z3, if_pos rfl]
      by_cases c3 : (rseg (xI M0) (xI M0 470) 463 464 b).1 < (rseg (xI M0) (xI M0 470) 464 465 b).1
      · rw [if_pos c3]
        rw [if_pos c3] at hQ
        exact fin M3 _ _ e3 z3 hQ
      · rw [if_neg c3]
        rw [if_neg c3] at hQ
        exact r_law_loop hS hq h8 hl (k := k) n (b + 1) M3 _ _ (by omega) e3 z3 (fun j hj hj2 => hw j (by omega) hj2) hQ
theorem rterm_ex {I J : Nat → Nat → Int32} (h : ∀ a, a ≠ 470 → a ≠ 471 → 440 ≤ a → I a = J a) (v : Nat → Int32) (x y b : Nat) (hx : x ≠ 470 ∧ x ≠ 471 ∧ 440 ≤ x) (hy : y ≠ 470 ∧ y ≠ 471 ∧ 440 ≤ y) : rseg I v x y b = rseg J v x y b := by
  unfold rseg
  rw [h 467 (by omega) (by omega) (by omega), h 468 (by omega) (by omega) (by omega), h x hx.1 hx.2.1 hx.2.2, h y hy.1 hy.2.1 hy.2.2]
theorem rl_ex {I J : Nat → Nat → Int32} (h : ∀ a, a ≠ 470 → a ≠ 471 → 440 ≤ a → I a = J a) (v : Nat → Int32) : ∀ n b, rl I v n b = rl J v n b
  | 0, _ => rfl
  | n + 1, b => by
    rw [rl_s, rl_s, rl_ex h v n, h 462 (by omega) (by omega) (by omega)]
    unfold rfin
    rw [rterm_ex h v 463 464 b (by omega) (by omega), rterm_ex h v 464 465 b (by omega) (by omega), rterm_ex h v 465 466 b (by omega) (by omega)]
theorem segok_ex {I J : Nat → Nat → Int32} (h : ∀ a, a ≠ 470 → a ≠ 471 → 440 ≤ a → I a = J a) {x y b : Nat} (hx : x ≠ 470 ∧ x ≠ 471 ∧ 440 ≤ x) (hy : y ≠ 470 ∧ y ≠ 471 ∧ 440 ≤ y) (q : segok I x y b) : segok J x y b := by
  unfold segok at q ⊢
  rw [← h 467 (by omega) (by omega) (by omega), ← h 468 (by omega) (by omega) (by omega), ← h x hx.1 hx.2.1 hx.2.2, ← h y hy.1 hy.2.1 hy.2.2]
  exact q
theorem RLaw.ex {I J : Nat → Nat → Int32} {lv k : Nat} {f : (Nat → Int32) → Int32} (h : ∀ a, 460 ≤ a → a ≤ 468 → I a = J a) (q : RLaw I lv k f) : RLaw J lv k f := by
  obtain ⟨p, r, h1, h2, h3, h4, h5, h6, h7⟩ := q
  have e0 := h 460 (by omega) (by omega)
  have e1 := h 461 (by omega) (by omega)
  have e2 := h 462 (by omega) (by omega)
  have e3 := h 463 (by omega) (by omega)
  have e4 := h 464 (by omega) (by omega)
  have e5 := h 465 (by omega) (by omega)
  have e6 := h 466 (by omega) (by omega)
  have e7 := h 467 (by omega) (by omega)
  have e8 := h 468 (by omega) (by omega)
  have es : ∀ v x y b, 463 ≤ x → x ≤ 466 → 463 ≤ y → y ≤ 466 → rseg I v x y b = rseg J v x y b := by
    intro v x y b x1 x2 y1 y2
    unfold rseg
    rw [e7, e8, h x (by omega) (by omega), h y (by omega) (by omega)]
  have el : ∀ v n b, rl I v n b = rl J v n b := by
    intro v n
    induction n with
    | zero => intro b; rfl
    | succ n ih =>
      intro b
      rw [rl_s, rl_s, ih, e2]
      unfold rfin
      rw [es v 463 464 b (by omega) (by omega) (by omega) (by omega), es v 464 465 b (by omega) (by omega) (by omega) (by omega), es v 465 466 b (by omega) (by omega) (by omega) (by omega)]
  refine ⟨p, r, h1, h2, by rw [← e0]; exact h3, by rw [← e1]; exact h4, ?_, ?_, h7⟩
  · intro b hb hr
    have := h5 b hb hr
    unfold rwf segok rreg at this ⊢
    rw [← e2, ← e3, ← e4, ← e5, ← e6, ← e7, ← e8]
    exact this
  · intro v
    rw [h6 v]
    split
    · rfl
    · exact el v _ _
theorem r_lawTells {M : XM} {lv k : Nat} {x : Int32} {f : (Nat → Int32) → Int32} {Q : Option Value → XM → Prop} (hS : RSh M) (hlv : lv < 2) (hv : xI M 439 18 = nI lv) (hk : k < 4) (hL : RLaw (xI M) lv k f) (hx : x = plv k (xI M 470))
    (hQ : ∀ M' : XM, Ex rT M M' → Q (some (.int (f (xI M 470)))) M') :
    RG xprog 136 0 [some (.ref 439), some (.int (nI k)), some (.int x), none, none, none, none] [] M Q := by
  obtain ⟨p, q, h1, h2, h3, h4, h5, h6, h7⟩ := hL
  rw [B_136_0]
  simp (disch := omega) only [hS.s, hS.f, hv, lAdd, addL, lMul, mulL, nMul, nI_add, subL, lSub, nSub, nDec, nCl, lCl, nVp, lVp, nLe, nLt, nEq, lLe, leL, lLt, ltL, eqL, lEq, nM1, nM2, litLt0, one01, zero01, oneNe0, xupE, xupA, xupK, xI_I, xS_I, xF_I, xJ_I, xI_R, xS_R, xF_R, xJ_R, xI_L, xS_L, xF_L, xJ_L, xcat_s, le46, ge16, or_true, true_or, false_or, or_false, eq_self, Option.toList_some, Option.toList_none, List.cons_append, List.nil_append, true_and, and_true, not_false_eq_true, not_true_eq_false, if_true, if_false, h3, h4]
  rw [h6] at hQ
  by_cases hpq : p = q
  · subst hpq
    rw [if_neg (fun z => z rfl), hx]
    rw [if_pos rfl] at hQ
    exact hQ M (Ex.refl _ _)
  · rw [if_pos hpq]
    rw [if_neg hpq] at hQ
    have e0 : Ex rT M (xmI M 439 49 0) := (Ex.refl _ _).wr _ (Or.inr ⟨rfl, rfl⟩)
    exact r_law_loop hS h2 (by omega) h4 (k := k) (q - p) p _ _ _ (by omega) e0 (by rw [xI_I, xupE]) (fun j a b => (h5 j a b).1) hQ
