/-! a state with one thing changed: what is kept of the rest -/
def setF (S : XS) (F : XO) : XS := (S.1, F, S.2.2)
def setP (S : XS) (p : Nat × (Nat → Int32)) : XS := (S.1, S.2.1, p, S.2.2.2)
def setH (S : XS) (x : Nat × (Nat → XO)) : XS := (S.1, S.2.1, S.2.2.1, S.2.2.2.1, x, S.2.2.2.2.2)
def setS (S : XS) (x : Nat → Option XO) : XS := (S.1, S.2.1, S.2.2.1, S.2.2.2.1, S.2.2.2.2.1, x, S.2.2.2.2.2.2)
def setD (S : XS) (x : Nat × (Nat → Int32) × (Nat → Int32) × (Nat → Int32)) : XS := (S.1, S.2.1, S.2.2.1, S.2.2.2.1, S.2.2.2.2.1, S.2.2.2.2.2.1, x)
section XKC
variable {M M' : XM} {t : Nat} {S : XS} {P : Nat → Nat → Prop}
theorem CW.k_tx (h : CW M t S) (e : Ex P M M') (hp : ∀ a k, 26 ≤ a → a < 84 → ¬ P a k) : TxtAt M' t (zT S) := h.tx.ex e fun a k q => by
  have := h.t2
  by_cases h1 : 26 ≤ a
  · by_cases h2 : a < 84
    · exact absurd q (hp a k h1 h2)
    · omega
  · omega
theorem CW.k_of (h : CW M t S) (e : Ex P M M') (hp : ∀ a k, 84 ≤ a → a < 91 → ¬ P a k) : OffIs M' 84 (zF S) := h.of.exR e fun a k h1 h2 => hp a k h1 (by omega)
theorem CW.k_ah (h : CW M t S) (e : Ex P M M') (hp : ∀ a k, 91 ≤ a → a < 98 → ¬ P a k) : OffC M' 91 := h.ah.exR e fun a k h1 h2 => hp a k h1 (by omega)
theorem CW.k_tp (h : CW M t S) (e : Ex P M M') (hp : ¬ P 17 1 ∧ ∀ k, ¬ P 18 k) : xI M' 17 1 = nI (zPn S) ∧ ∀ i, i < zPn S → xI M' 18 i = zP S i := by
  rw [e.I hp.1, e.row hp.2]
  exact h.2.2.2.2.2.1
theorem CW.k_pl (h : CW M t S) (e : Ex P M M') (hp : ¬ P 16 12) : xI M' 16 12 = zL S := by
  rw [e.I hp]
  exact h.2.2.2.2.2.2.1
theorem CW.k_hs (h : CW M t S) (e : Ex P M M') (hp : ∀ a k, (a = 120 ∨ (122 ≤ a ∧ a < 402)) → ¬ P a k) : xI M' 120 2 = nI (zHn S) ∧ (∃ w, w < 40 ∧ xI M' 120 1 = nI w ∧ ∀ i, i < zHn S → OffIs M' (122 + 7 * ((w + 40 - i) % 40)) (zH S i)) ∧ ∀ i, i < 40 → OffC M' (122 + 7 * i) := by
  obtain ⟨h1, ⟨w, q1, q2, q3⟩, h3⟩ := h.2.2.2.2.2.2.2.1
  rw [e.row (fun k => hp 120 k (Or.inl rfl))]
  exact ⟨h1, ⟨w, q1, q2, fun i hi => (q3 i hi).exR e fun a k z1 z2 => hp a k (by omega)⟩, fun i hi => (h3 i hi).exR e fun a k z1 z2 => hp a k (by omega)⟩
theorem CW.k_sl (h : CW M t S) (e : Ex P M M') (hp : ¬ P 16 7 ∧ ∀ a k, 99 ≤ a → a < 120 → ¬ P a k) : xI M' 16 7 = nI (bn (slb (zS S)) 3) ∧ (∀ i, i < 3 → ∀ G, zS S i = some G → OffIs M' (99 + 7 * i) G) ∧ ∀ i, i < 3 → OffC M' (99 + 7 * i) := by
  obtain ⟨h1, h2, h3⟩ := h.2.2.2.2.2.2.2.2.1
  rw [e.I hp.1]
  exact ⟨h1, fun i hi G hG => (h2 i hi G hG).exR e fun a k z1 z2 => hp.2 a k (by omega) (by omega), fun i hi => (h3 i hi).exR e fun a k z1 z2 => hp.2 a k (by omega) (by omega)⟩
theorem CW.k_td (h : CW M t S) (e : Ex P M M') (hp : ¬ P 402 3 ∧ ∀ a k, 403 ≤ a → a < 406 → ¬ P a k) : xI M' 402 3 = nI (zDn S) ∧ ∀ i, i < zDn S → xI M' 403 i = zD0 S i ∧ xI M' 404 i = zD1 S i ∧ xI M' 405 i = zD2 S i := by
  rw [e.I hp.1, e.row (fun k => hp.2 403 k (by omega) (by omega)), e.row (fun k => hp.2 404 k (by omega) (by omega)), e.row (fun k => hp.2 405 k (by omega) (by omega))]
  exact h.2.2.2.2.2.2.2.2.2
end XKC
section XKR
variable {M M' : XM} {lv : Nat} {S : XS} {P : Nat → Nat → Prop}
theorem RWd.k_w (h : RWd M lv S) (e : Ex P M M') (hp : ∀ a k, P a k → rNT a k) : RW M' lv (zT S) := h.1.ex e hp
theorem RWd.k_of (h : RWd M lv S) (e : Ex P M M') (hp : ∀ k, ¬ P 472 k) : RowIs (zT S) (xI M' 472) (zF S) := by
  rw [e.row hp]
  exact h.2.1
theorem RWd.k_tp (h : RWd M lv S) (e : Ex P M M') (hp : ¬ P 439 2 ∧ ∀ k, ¬ P 440 k) : xI M' 439 2 = nI (zPn S) ∧ ∀ i, i < zPn S → xI M' 440 i = zP S i := by
  rw [e.I hp.1, e.row hp.2]
  exact h.2.2.1
theorem RWd.k_pl (h : RWd M lv S) (e : Ex P M M') (hp : ¬ P 439 17) : xI M' 439 17 = zL S := by
  rw [e.I hp]
  exact h.2.2.2.1
theorem RWd.k_hs (h : RWd M lv S) (e : Ex P M M') (hp : ¬ P 439 55 ∧ ∀ k, ¬ P 475 k) : xI M' 439 55 = nI (zHn S) ∧ ∀ i, i < zHn S → RowIs (zT S) (fun k => xI M' 475 (34 * (zHn S - 1 - i) + k)) (zH S i) := by
  rw [e.I hp.1, e.row hp.2]
  exact h.2.2.2.2.1
theorem RWd.k_sl (h : RWd M lv S) (e : Ex P M M') (hp : ∀ k, ¬ P 484 k ∧ ¬ P 485 k) : ∀ i, i < 3 → xI M' 484 i = (if slb (zS S) i = true then 1 else 0) ∧ ∀ G, zS S i = some G → RowIs (zT S) (fun k => xI M' 485 (34 * i + k)) G := by
  rw [e.row (fun k => (hp k).1), e.row (fun k => (hp k).2)]
  exact h.2.2.2.2.2.1
theorem RWd.k_td (h : RWd M lv S) (e : Ex P M M') (hp : ¬ P 439 62 ∧ ∀ k, ¬ P 481 k ∧ ¬ P 482 k ∧ ¬ P 483 k) : xI M' 439 62 = nI (zDn S) ∧ ∀ i, i < zDn S → xI M' 481 i = zD0 S i ∧ xI M' 482 i = zD1 S i ∧ xI M' 483 i = zD2 S i := by
  rw [e.I hp.1, e.row (fun k => (hp.2 k).1), e.row (fun k => (hp.2 k).2.1), e.row (fun k => (hp.2 k).2.2)]
  exact h.2.2.2.2.2.2
end XKR
/-! tell, forget -/
abbrev okT (S : XS) (x v : Int32) : Prop := inb x 0 2 ∧ inb v 0 9 ∧ ¬ zDn S = 20
def S_tell (S : XS) (x v s : Int32) : XS := setD S (zDn S + 1, xone (zD0 S) (zDn S) x, xone (zD1 S) (zDn S) v, xone (zD2 S) (zDn S) s)
theorem c_tell {M : XM} {t B : Nat} {S : XS} {x v s : Int32} {Q : Option Value → XM → Prop} (h : CW M t S) (hi : SInv B S) (hs : s = 0 ∨ s = 1)
    (hQ : ∀ M' : XM, Ex cR M M' → CW M' t (if okT S x v then S_tell S x v s else S) → Q (some (.int (if okT S x v then nI (zDn S) else -1))) M') :
    RG xprog 272 0 [some (.ref 16), some (.int x), some (.int v), some (.int s)] [] M Q := by
  have d20 := hi.2.2.2.2.2.2.2.1
  have refuse : ¬ okT S x v → Q (some (.int (-1))) M := by
    intro hn
    have := hQ M (Ex.refl _ _)
    rw [if_neg hn, if_neg hn] at this
    exact this h
  rw [B_272_0]
  by_cases h1 : x < 0
  · rw [if_pos h1]; exact refuse fun q => q.1.1 h1
  rw [if_neg h1]
  by_cases h2 : 3 ≤ x
  · rw [if_pos h2]
    refine refuse fun q => q.1.2 ?_
    rw [i32_lt]
    rw [i32_le] at h2
    have e2 : (2 : Int32).toInt = 2 := rfl
    have e3 : (3 : Int32).toInt = 3 := rfl
    omega
  rw [if_neg h2]
  by_cases h3 : v < 0
  · rw [if_pos h3]; exact refuse fun q => q.2.1.1 h3
  rw [if_neg h3]
  by_cases h4 : 9 < v
  · rw [if_pos h4]; exact refuse fun q => q.2.1.2 h4
  rw [if_neg h4]
  simp (disch := omega) only [h.d, h.td, lAdd, addL, lMul, mulL, nMul, nI_add, subL, lSub, nSub, nDec, nCl, lCl, nVp, lVp, nLe, nLt, nEq, lLe, leL, lLt, ltL, eqL, lEq, nM1, nM2, litLt0, one01, zero01, oneNe0, xupE, xupA, xupK, xI_I, xS_I, xF_I, xJ_I, xI_R, xS_R, xF_R, xJ_R, xI_L, xS_L, xF_L, xJ_L, xcat_s, le46, ge16, or_true, true_or, false_or, or_false, eq_self, Option.toList_some, Option.toList_none, List.cons_append, List.nil_append, true_and, and_true, not_false_eq_true, not_true_eq_false, if_true, if_false, B_270_0, ite_i, B_272_26]
  by_cases h5 : zDn S < 20
  · have ok : okT S x v := by
      refine ⟨⟨h1, fun q => h2 ?_⟩, ⟨h3, h4⟩, by omega⟩
      rw [i32_le]
      rw [i32_lt] at q
      have e2 : (2 : Int32).toInt = 2 := rfl
      have e3 : (3 : Int32).toInt = 3 := rfl
      omega
    rw [if_pos h5, B_271_0]
    simp (disch := omega) only [h.td, lAdd, addL, lMul, mulL, nMul, nI_add, subL, lSub, nSub, nDec, nCl, lCl, nVp, lVp, nLe, nLt, nEq, lLe, leL, lLt, ltL, eqL, lEq, nM1, nM2, litLt0, one01, zero01, oneNe0, xupE, xupA, xupK, xI_I, xS_I, xF_I, xJ_I, xI_R, xS_R, xF_R, xJ_R, xI_L, xS_L, xF_L, xJ_L, xcat_s, le46, ge16, or_true, true_or, false_or, or_false, eq_self, Option.toList_some, Option.toList_none, List.cons_append, List.nil_append, true_and, and_true, not_false_eq_true, not_true_eq_false, if_true, if_false, B_270_0, ite_i, if_pos, B_271_4, B_271_29, n4241, false_and]
    have nx : vp_nar .boolean s = s := by
      rcases hs with rfl | rfl
      · exact nar01.1
      · exact nar01.2
    simp (disch := omega) only [nx, lAdd, addL, lMul, mulL, nMul, nI_add, subL, lSub, nSub, nDec, nCl, lCl, nVp, lVp, nLe, nLt, nEq, lLe, leL, lLt, ltL, eqL, lEq, nM1, nM2, litLt0, one01, zero01, oneNe0, xupE, xupA, xupK, xI_I, xS_I, xF_I, xJ_I, xI_R, xS_R, xF_R, xJ_R, xI_L, xS_L, xF_L, xJ_L, xcat_s, le46, ge16, or_true, true_or, false_or, or_false, eq_self, Option.toList_some, Option.toList_none, List.cons_append, List.nil_append, true_and, and_true, not_false_eq_true, not_true_eq_false, if_true, if_false, B_271_49, h.td, B_272_41, not_or]
    refine ⟨by omega, ?_⟩
    have e1 : Ex (fun a k => (a = 402 ∧ k = 3) ∨ (403 ≤ a ∧ a < 406)) M (xmI (xmI (xmI (xmI M 403 (zDn S) x) 404 (zDn S) v) 405 (zDn S) s) 402 3 (nI (zDn S + 1))) := ((((Ex.refl _ _).wr _ (by omega)).wr _ (by omega)).wr _ (by omega)).wr _ (by omega)
    have q := hQ _ (e1.mono fun a k q => by unfold cR; omega)
    rw [if_pos ok, if_pos ok] at q
    have e2 : zDn S + 1 - 1 = zDn S := by omega
    rw [e2]
    refine q ⟨h.1.ex e1, h.k_tx e1 (by intro a k z1 z2; omega), h.2.2.1.ex e1, h.k_of e1 (by intro a k z1 z2; omega), h.k_ah e1 (by intro a k z1 z2; omega), h.k_tp e1 (by refine ⟨by omega, fun k => by omega⟩), h.k_pl e1 (by omega), h.k_hs e1 (by intro a k z; omega), h.k_sl e1 ⟨by omega, by intro a k z1 z2; omega⟩, ?_⟩
    refine ⟨by simp (disch := omega) only [lAdd, addL, lMul, mulL, nMul, nI_add, subL, lSub, nSub, nDec, nCl, lCl, nVp, lVp, nLe, nLt, nEq, lLe, leL, lLt, ltL, eqL, lEq, nM1, nM2, litLt0, one01, zero01, oneNe0, xupE, xupA, xupK, xI_I, xS_I, xF_I, xJ_I, xI_R, xS_R, xF_R, xJ_R, xI_L, xS_L, xF_L, xJ_L, xcat_s, le46, ge16, or_true, true_or, false_or, or_false, eq_self, Option.toList_some, Option.toList_none, List.cons_append, List.nil_append, true_and, and_true, not_false_eq_true, not_true_eq_false, if_true, if_false]; rfl, ?_⟩
    intro i hi'
    have hi2 : i < zDn S + 1 := hi'
    show xI _ 403 i = xone (zD0 S) (zDn S) x i ∧ xI _ 404 i = xone (zD1 S) (zDn S) v i ∧ xI _ 405 i = xone (zD2 S) (zDn S) s i
    rw [xo_at, xo_at, xo_at]
    by_cases q : i = zDn S
    · subst q
      simp (disch := omega) only [lAdd, addL, lMul, mulL, nMul, nI_add, subL, lSub, nSub, nDec, nCl, lCl, nVp, lVp, nLe, nLt, nEq, lLe, leL, lLt, ltL, eqL, lEq, nM1, nM2, litLt0, one01, zero01, oneNe0, xupE, xupA, xupK, xI_I, xS_I, xF_I, xJ_I, xI_R, xS_R, xF_R, xJ_R, xI_L, xS_L, xF_L, xJ_L, xcat_s, le46, ge16, or_true, true_or, false_or, or_false, eq_self, Option.toList_some, Option.toList_none, List.cons_append, List.nil_append, true_and, and_true, not_false_eq_true, not_true_eq_false, if_true, if_false, if_true]
    · simp (disch := omega) only [lAdd, addL, lMul, mulL, nMul, nI_add, subL, lSub, nSub, nDec, nCl, lCl, nVp, lVp, nLe, nLt, nEq, lLe, leL, lLt, ltL, eqL, lEq, nM1, nM2, litLt0, one01, zero01, oneNe0, xupE, xupA, xupK, xI_I, xS_I, xF_I, xJ_I, xI_R, xS_R, xF_R, xJ_R, xI_L, xS_L, xF_L, xJ_L, xcat_s, le46, ge16, or_true, true_or, false_or, or_false, eq_self, Option.toList_some, Option.toList_none, List.cons_append, List.nil_append, true_and, and_true, not_false_eq_true, not_true_eq_false, if_true, if_false, if_neg q]
      exact h.tdv (by omega)
  · rw [if_neg h5]
    exact refuse fun q => q.2.2 (by omega)
theorem inb02 {x : Int32} (h : inb x 0 2) : ∃ m, m < 3 ∧ x = nI m := by
  obtain ⟨j, h1, h2⟩ := inb_get (n := 2) h (by omega)
  exact ⟨j, by omega, h2⟩
theorem inb09 {x : Int32} (h : inb x 0 9) : ∃ m, m < 10 ∧ x = nI m := by
  obtain ⟨j, h1, h2⟩ := inb_get (n := 9) h (by omega)
  exact ⟨j, by omega, h2⟩
theorem i_tell {B : Nat} {S : XS} {x v s : Int32} (hi : SInv B S) (hs : s = 0 ∨ s = 1) : SInv B (if okT S x v then S_tell S x v s else S) := by
  split
  · rename_i ok
    obtain ⟨h1, h2, h3, h4, h5, h6, h7, h8, h9⟩ := hi
    have d20 := ok.2.2
    refine ⟨h1, h2, h3, h4, h5, h6, h7, ?_, ?_⟩
    · show zDn S + 1 ≤ 20
      omega
    · intro i hi'
      have hi2 : i < zDn S + 1 := hi'
      show (∃ m, m < 3 ∧ xone (zD0 S) (zDn S) x i = nI m) ∧ (∃ w, w < 10 ∧ xone (zD1 S) (zDn S) v i = nI w) ∧ (xone (zD2 S) (zDn S) s i = 0 ∨ xone (zD2 S) (zDn S) s i = 1)
      rw [xo_at, xo_at, xo_at]
      by_cases q : i = zDn S
      · rw [if_pos q, if_pos q, if_pos q]
        exact ⟨inb02 ok.1, inb09 ok.2.1, hs⟩
      · rw [if_neg q, if_neg q, if_neg q]
        exact h9 i (by omega)
  · exact hi
theorem r_tell {M : XM} {lv B : Nat} {S : XS} {x v s : Int32} {Q : Option Value → XM → Prop} (h : RWd M lv S) (hi : SInv B S) (hs : s = 0 ∨ s = 1)
    (hQ : ∀ M' : XM, Ex rR M M' → RWd M' lv (if okT S x v then S_tell S x v s else S) → Q (some (.int (if okT S x v then nI (zDn S) else -1))) M') :
    RG xprog 273 0 [some (.ref 439), some (.int x), some (.int v), some (.int s)] [] M Q := by
  have d20 := hi.2.2.2.2.2.2.2.1
  have k62 := h.2.2.2.2.2.2.1
  have refuse : ¬ okT S x v → Q (some (.int (-1))) M := by
    intro hn
    have := hQ M (Ex.refl _ _)
    rw [if_neg hn, if_neg hn] at this
    exact this h
  rw [B_273_0]
  simp (disch := omega) only [h.1.1.s, k62, lAdd, addL, lMul, mulL, nMul, nI_add, subL, lSub, nSub, nDec, nCl, lCl, nVp, lVp, nLe, nLt, nEq, lLe, leL, lLt, ltL, eqL, lEq, nM1, nM2, litLt0, one01, zero01, oneNe0, xupE, xupA, xupK, xI_I, xS_I, xF_I, xJ_I, xI_R, xS_R, xF_R, xJ_R, xI_L, xS_L, xF_L, xJ_L, xcat_s, le46, ge16, or_true, true_or, false_or, or_false, eq_self, Option.toList_some, Option.toList_none, List.cons_append, List.nil_append, true_and, and_true, not_false_eq_true, not_true_eq_false, if_true, if_false, r_in, B_273_15, B_273_25]
  by_cases h5 : zDn S = 20
  · rw [if_pos h5]; exact refuse fun q => q.2.2 h5
  rw [if_neg h5]
  by_cases h1 : inb x 0 2
  · rw [if_pos h1, if_neg (by decide)]
    by_cases h2 : inb v 0 9
    · rw [if_pos h2, if_pos (by decide)]
      have ok : okT S x v := ⟨h1, h2, h5⟩
      have nx : vp_nar .boolean s = s := by
        rcases hs with rfl | rfl
        · exact nar01.1
        · exact nar01.2
      simp (disch := omega) only [h.1.1.s, h.1.1.f, k62, lAdd, addL, lMul, mulL, nMul, nI_add, subL, lSub, nSub, nDec, nCl, lCl, nVp, lVp, nLe, nLt, nEq, lLe, leL, lLt, ltL, eqL, lEq, nM1, nM2, litLt0, one01, zero01, oneNe0, xupE, xupA, xupK, xI_I, xS_I, xF_I, xJ_I, xI_R, xS_R, xF_R, xJ_R, xI_L, xS_L, xF_L, xJ_L, xcat_s, le46, ge16, or_true, true_or, false_or, or_false, eq_self, Option.toList_some, Option.toList_none, List.cons_append, List.nil_append, true_and, and_true, not_false_eq_true, not_true_eq_false, if_true, if_false, B_273_50, n4241, false_and, nx, B_273_70, not_or]
      refine ⟨by omega, ?_⟩
      have e1 : Ex (fun a k => (a = 439 ∧ k = 62) ∨ (481 ≤ a ∧ a < 484)) M (xmI (xmI (xmI (xmI M 481 (zDn S) x) 482 (zDn S) v) 483 (zDn S) s) 439 62 (nI (zDn S + 1))) := ((((Ex.refl _ _).wr _ (by omega)).wr _ (by omega)).wr _ (by omega)).wr _ (by omega)
      have q := hQ _ (e1.mono fun a k q => by unfold rR; omega)
      rw [if_pos ok, if_pos ok] at q
      have e2 : zDn S + 1 - 1 = zDn S := by omega
      rw [e2]
      refine q ⟨h.k_w e1 (by intro a k z; unfold rNT; omega), h.k_of e1 (by intro k; omega), h.k_tp e1 ⟨by omega, by intro k; omega⟩, h.k_pl e1 (by omega), h.k_hs e1 ⟨by omega, by intro k; omega⟩, h.k_sl e1 (by intro k; omega), ?_⟩
      refine ⟨by simp (disch := omega) only [lAdd, addL, lMul, mulL, nMul, nI_add, subL, lSub, nSub, nDec, nCl, lCl, nVp, lVp, nLe, nLt, nEq, lLe, leL, lLt, ltL, eqL, lEq, nM1, nM2, litLt0, one01, zero01, oneNe0, xupE, xupA, xupK, xI_I, xS_I, xF_I, xJ_I, xI_R, xS_R, xF_R, xJ_R, xI_L, xS_L, xF_L, xJ_L, xcat_s, le46, ge16, or_true, true_or, false_or, or_false, eq_self, Option.toList_some, Option.toList_none, List.cons_append, List.nil_append, true_and, and_true, not_false_eq_true, not_true_eq_false, if_true, if_false]; rfl, ?_⟩
      intro i hi'
      have hi2 : i < zDn S + 1 := hi'
      show xI _ 481 i = xone (zD0 S) (zDn S) x i ∧ xI _ 482 i = xone (zD1 S) (zDn S) v i ∧ xI _ 483 i = xone (zD2 S) (zDn S) s i
      rw [xo_at, xo_at, xo_at]
      by_cases q : i = zDn S
      · subst q
        simp (disch := omega) only [lAdd, addL, lMul, mulL, nMul, nI_add, subL, lSub, nSub, nDec, nCl, lCl, nVp, lVp, nLe, nLt, nEq, lLe, leL, lLt, ltL, eqL, lEq, nM1, nM2, litLt0, one01, zero01, oneNe0, xupE, xupA, xupK, xI_I, xS_I, xF_I, xJ_I, xI_R, xS_R, xF_R, xJ_R, xI_L, xS_L, xF_L, xJ_L, xcat_s, le46, ge16, or_true, true_or, false_or, or_false, eq_self, Option.toList_some, Option.toList_none, List.cons_append, List.nil_append, true_and, and_true, not_false_eq_true, not_true_eq_false, if_true, if_false, if_true]
      · simp (disch := omega) only [lAdd, addL, lMul, mulL, nMul, nI_add, subL, lSub, nSub, nDec, nCl, lCl, nVp, lVp, nLe, nLt, nEq, lLe, leL, lLt, ltL, eqL, lEq, nM1, nM2, litLt0, one01, zero01, oneNe0, xupE, xupA, xupK, xI_I, xS_I, xF_I, xJ_I, xI_R, xS_R, xF_R, xJ_R, xI_L, xS_L, xF_L, xJ_L, xcat_s, le46, ge16, or_true, true_or, false_or, or_false, eq_self, Option.toList_some, Option.toList_none, List.cons_append, List.nil_append, true_and, and_true, not_false_eq_true, not_true_eq_false, if_true, if_false, if_neg q]
        exact h.2.2.2.2.2.2.2 i (by omega)
    · rw [if_neg h2, if_neg (by decide)]
      exact refuse fun q => h2 q.2.1
  · rw [if_neg h1, if_pos rfl]
    exact refuse fun q => h1 q.1
def S_forget (S : XS) : XS := setD S (0, zD0 S, zD1 S, zD2 S)
theorem c_forget {M : XM} {t : Nat} {S : XS} {Q : Option Value → XM → Prop} (h : CW M t S)
    (hQ : ∀ M' : XM, Ex cR M M' → CW M' t (S_forget S) → Q (some (.int (nI (zDn S)))) M') :
    RG xprog 274 0 [some (.ref 16), none] [] M Q := by
  rw [B_274_0]
  simp (disch := omega) only [h.d, h.td, lAdd, addL, lMul, mulL, nMul, nI_add, subL, lSub, nSub, nDec, nCl, lCl, nVp, lVp, nLe, nLt, nEq, lLe, leL, lLt, ltL, eqL, lEq, nM1, nM2, litLt0, one01, zero01, oneNe0, xupE, xupA, xupK, xI_I, xS_I, xF_I, xJ_I, xI_R, xS_R, xF_R, xJ_R, xI_L, xS_L, xF_L, xJ_L, xcat_s, le46, ge16, or_true, true_or, false_or, or_false, eq_self, Option.toList_some, Option.toList_none, List.cons_append, List.nil_append, true_and, and_true, not_false_eq_true, not_true_eq_false, if_true, if_false]
  have e1 : Ex (fun a k => a = 402 ∧ k = 3) M (xmI M 402 3 0) := (Ex.refl _ _).wr _ ⟨rfl, rfl⟩
  refine hQ _ (e1.mono fun a k q => by unfold cR; omega) ⟨h.1.ex e1, h.k_tx e1 (by intro a k z1 z2; omega), h.2.2.1.ex e1, h.k_of e1 (by intro a k z1 z2; omega), h.k_ah e1 (by intro a k z1 z2; omega), h.k_tp e1 (by refine ⟨by omega, fun k => by omega⟩), h.k_pl e1 (by omega), h.k_hs e1 (by intro a k z; omega), h.k_sl e1 ⟨by omega, by intro a k z1 z2; omega⟩, ?_⟩
  refine ⟨by simp (disch := omega) only [lAdd, addL, lMul, mulL, nMul, nI_add, subL, lSub, nSub, nDec, nCl, lCl, nVp, lVp, nLe, nLt, nEq, lLe, leL, lLt, ltL, eqL, lEq, nM1, nM2, litLt0, one01, zero01, oneNe0, xupE, xupA, xupK, xI_I, xS_I, xF_I, xJ_I, xI_R, xS_R, xF_R, xJ_R, xI_L, xS_L, xF_L, xJ_L, xcat_s, le46, ge16, or_true, true_or, false_or, or_false, eq_self, Option.toList_some, Option.toList_none, List.cons_append, List.nil_append, true_and, and_true, not_false_eq_true, not_true_eq_false, if_true, if_false]; rfl, fun i hi => absurd hi (by show ¬ i < 0; omega)⟩
theorem r_forget {M : XM} {lv : Nat} {S : XS} {Q : Option Value → XM → Prop} (h : RWd M lv S)
    (hQ : ∀ M' : XM, Ex rR M M' → RWd M' lv (S_forget S) → Q (some (.int (nI (zDn S)))) M') :
    RG xprog 275 0 [some (.ref 439), none] [] M Q := by
  have k62 := h.2.2.2.2.2.2.1
  rw [B_275_0]
  simp (disch := omega) only [h.1.1.s, k62, lAdd, addL, lMul, mulL, nMul, nI_add, subL, lSub, nSub, nDec, nCl, lCl, nVp, lVp, nLe, nLt, nEq, lLe, leL, lLt, ltL, eqL, lEq, nM1, nM2, litLt0, one01, zero01, oneNe0, xupE, xupA, xupK, xI_I, xS_I, xF_I, xJ_I, xI_R, xS_R, xF_R, xJ_R, xI_L, xS_L, xF_L, xJ_L, xcat_s, le46, ge16, or_true, true_or, false_or, or_false, eq_self, Option.toList_some, Option.toList_none, List.cons_append, List.nil_append, true_and, and_true, not_false_eq_true, not_true_eq_false, if_true, if_false]
  have e1 : Ex (fun a k => a = 439 ∧ k = 62) M (xmI M 439 62 0) := (Ex.refl _ _).wr _ ⟨rfl, rfl⟩
  refine hQ _ (e1.mono fun a k q => by unfold rR; omega) ⟨h.k_w e1 (by intro a k z; unfold rNT; omega), h.k_of e1 (by intro k; omega), h.k_tp e1 ⟨by omega, by intro k; omega⟩, h.k_pl e1 (by omega), h.k_hs e1 ⟨by omega, by intro k; omega⟩, h.k_sl e1 (by intro k; omega), ?_⟩
  refine ⟨by simp (disch := omega) only [lAdd, addL, lMul, mulL, nMul, nI_add, subL, lSub, nSub, nDec, nCl, lCl, nVp, lVp, nLe, nLt, nEq, lLe, leL, lLt, ltL, eqL, lEq, nM1, nM2, litLt0, one01, zero01, oneNe0, xupE, xupA, xupK, xI_I, xS_I, xF_I, xJ_I, xI_R, xS_R, xF_R, xJ_R, xI_L, xS_L, xF_L, xJ_L, xcat_s, le46, ge16, or_true, true_or, false_or, or_false, eq_self, Option.toList_some, Option.toList_none, List.cons_append, List.nil_append, true_and, and_true, not_false_eq_true, not_true_eq_false, if_true, if_false]; rfl, fun i hi => absurd hi (by show ¬ i < 0; omega)⟩
theorem i_forget {B : Nat} {S : XS} (hi : SInv B S) : SInv B (S_forget S) := by
  obtain ⟨h1, h2, h3, h4, h5, h6, h7, h8, h9⟩ := hi
  exact ⟨h1, h2, h3, h4, h5, h6, h7, Nat.zero_le _, fun i hi => absurd hi (by show ¬ i < 0; omega)⟩
