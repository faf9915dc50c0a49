/-! the reference's reading: where it stands -/
def yst (n : Nat) (c : Nat → Nat) (t : Nat) (p : YS) : Nat × YS := ystep (tkS n c) (tkK n c (tpos n c t)) (tkV n c (tpos n c t)) (tpos n c t) p
def MT (n : Nat) (c : Nat → Nat) (m : Nat) : Prop := m ≤ 400 ∧ (∀ i, i < m → tpos n c i < n) ∧ (m = 400 ∨ ¬ tpos n c m < n) ∧ (∀ i, c i < 256) ∧ n ≤ 2000
def RA (n : Nat) (c : Nat → Nat) (m : Nat) (O : Nat × Int32 × YS) (M : XM) (t : Nat) (p : YS) : Prop :=
  RSh M ∧ RTk M n c (m + 1) ∧ t ≤ m ∧ xI M 439 11 = nI t ∧ xI M 439 13 = 0 ∧ yOut n c (401 - t) t p = O
def FA (O : Nat × Int32 × YS) (M : XM) : Prop := RSh M ∧ ∃ f, (f = 1 ∨ f = 2) ∧ xI M 439 13 = nI f ∧ O.1 = f ∧ xI M 439 14 = O.2.1
/-- what going on and failing change -/
def g1 : Nat → Nat → Prop := fun a k => a = 439 ∧ (k = 11 ∨ k = 13 ∨ k = 14)
theorem RSh.e3 {P R : Nat → Nat → Prop} {M M' : XM} (h : RSh M) (e : E3 P R noF M M') : RSh M' := by
  have eF : xF M' = xF M := by
    funext a k
    exact e.FF fun z => z
  unfold RSh
  rw [e.S, eF]
  exact h
theorem k2r_inj {k q : Nat} (hk : k ≤ 33) (hq : q ≤ 33) : (k2r k = k2r q) = (k = q) := by
  have : ∀ k q : Fin 34, k2r k.val = k2r q.val → k = q := by decide +kernel
  apply propext
  refine ⟨fun h => ?_, fun h => by rw [h]⟩
  have := this ⟨k, by omega⟩ ⟨q, by omega⟩ h
  exact congrArg Fin.val this
theorem k2r_le {k : Nat} (hk : k ≤ 33) : k2r k ≤ 40 := by
  have : ∀ k : Fin 34, k2r k.val ≤ 40 := by decide
  exact this ⟨k, by omega⟩
section XRA
variable {n : Nat} {c : Nat → Nat} {m : Nat} {O : Nat × Int32 × YS} {M M' : XM} {t : Nat} {p : YS} {Q : Option Value → XM → Prop} {P R : Nat → Nat → Prop}
theorem RTk.e3 (h : RTk M n c m) (e : E3 P R noF M M') (hp : ∀ a k, P a k → ¬ (a = 439 ∧ k = 10) ∧ a ≠ 442 ∧ a ≠ 443 ∧ a ≠ 444) (hr : ∀ a k, R a k → a ≠ 445) : RTk M' n c m := by
  obtain ⟨h1, h2⟩ := h
  refine ⟨by rw [e.I (fun q => (hp _ _ q).1 ⟨rfl, rfl⟩)]; exact h1, fun i hi => ?_⟩
  rw [e.I (fun q => (hp _ _ q).2.1 rfl), e.I (fun q => (hp _ _ q).2.2.1 rfl), e.I (fun q => (hp _ _ q).2.2.2 rfl), e.J (fun q => hr _ _ q rfl)]
  exact h2 i hi
theorem RA.e3 (h : RA n c m O M t p) (e : E3 P R noF M M') (hp : ∀ a k, P a k → ¬ (a = 439 ∧ (k = 10 ∨ k = 11 ∨ k = 13)) ∧ a ≠ 442 ∧ a ≠ 443 ∧ a ≠ 444) (hr : ∀ a k, R a k → a ≠ 445) : RA n c m O M' t p := by
  obtain ⟨h1, h2, h3, h4, h5, h6⟩ := h
  refine ⟨h1.e3 e, h2.e3 e (fun a k q => ⟨fun z => (hp a k q).1 ⟨z.1, Or.inl z.2⟩, (hp a k q).2⟩) hr, h3, ?_, ?_, h6⟩
  · rw [e.I (fun q => (hp _ _ q).1 ⟨rfl, Or.inr (Or.inl rfl)⟩)]; exact h4
  · rw [e.I (fun q => (hp _ _ q).1 ⟨rfl, Or.inr (Or.inr rfl)⟩)]; exact h5
theorem FA.e3 (h : FA O M) (e : E3 P R noF M M') (hp : ∀ a k, P a k → ¬ (a = 439 ∧ (k = 13 ∨ k = 14))) : FA O M' := by
  obtain ⟨h1, f, h2, h3, h4, h5⟩ := h
  refine ⟨h1.e3 e, f, h2, ?_, h4, ?_⟩
  · rw [e.I (fun q => hp _ _ q ⟨rfl, Or.inl rfl⟩)]; exact h3
  · rw [e.I (fun q => hp _ _ q ⟨rfl, Or.inr rfl⟩)]; exact h5
theorem RA.kind (hm : MT n c m) (h : RA n c m O M t p) : xI M 442 t = nI (k2r (tkK n c (tpos n c t))) := by
  rw [(h.2.1.2 t (by have := h.2.2.1; omega)).1]
  show nI (rkK n c (tpos n c t)) = _
  rw [rk_alike hm.2.2.2.1]
theorem RA.plc (h : RA n c m O M t p) : xI M 443 t = nI (tpos n c t) := (h.2.1.2 t (by have := h.2.2.1; omega)).2.1
theorem RA.out (h : RA n c m O M t p) (hm : MT n c m) : O = if (yst n c t p).1 = 0 then (1, nI (tpos n c t), p) else if tkK n c (tpos n c t) = 0 then ((yst n c t p).2.2.1.1.1, (yst n c t p).2.2.1.1.2, (yst n c t p).2) else if (yst n c t p).1 = 2 ∨ 400 ≤ t then (2, nI (tpos n c t), p) else yOut n c (401 - (t + 1)) (t + 1) (yst n c t p).2 := by
  have h6 := h.2.2.2.2.2
  have : t ≤ 400 := by have := h.2.2.1; have := hm.1; omega
  rw [show 401 - t = (401 - (t + 1)) + 1 by omega] at h6
  rw [← h6]
  rfl
theorem RA.lt (h : RA n c m O M t p) (hm : MT n c m) (hk : ¬ tkK n c (tpos n c t) = 0) (h4 : t < 400) : t + 1 ≤ m := by
  have q : tpos n c t < n := Decidable.byContradiction fun z => hk (tkK_0.mpr z)
  have h3 := h.2.2.1
  rcases hm.2.2.1 with y | y
  · omega
  · by_cases z : t = m
    · rw [z] at q; exact absurd q y
    · omega
theorem r_is {q : Nat} {x : Int32} (hm : MT n c m) (h : RA n c m O M t p) (hx : x = nI (k2r q)) (hq : q ≤ 33) : RG xprog 90 0 [some (.ref 439), some (.int x)] [] M Q = Q (some (.int (if tkK n c (tpos n c t) = q then 1 else 0))) M := by
  have t4 : t ≤ 400 := by have := h.2.2.1; have := hm.1; omega
  have hk := h.kind hm
  have k33 := tkK_le (n := n) (c := c) (j := tpos n c t)
  have l1 := k2r_le k33
  have l2 := k2r_le hq
  rw [B_90_0, hx]
  simp (disch := omega) only [lAdd, addL, lMul, mulL, nMul, nI_add, subL, lSub, nSub, nDec, nCl, lCl, nVp, lVp, nLe, nLt, nEq, lLe, leL, lLt, ltL, eqL, lEq, nM1, nM2, litLt0, one01, zero01, oneNe0, xupE, xupA, xupK, xI_I, xS_I, xF_I, xJ_I, xI_R, xS_R, xF_R, xJ_R, xI_L, xS_L, xF_L, xJ_L, xcat_s, le46, ge16, or_true, true_or, false_or, or_false, eq_self, Option.toList_some, Option.toList_none, List.cons_append, List.nil_append, true_and, and_true, not_false_eq_true, not_true_eq_false, if_true, if_false, h.1.s, h.1.f, h.2.2.2.1, h.2.2.2.2.1, hk, k2r_inj k33 hq]
  by_cases y : tkK n c (tpos n c t) = q
  · rw [if_pos y, if_neg (fun z => z y)]
  · rw [if_neg y, if_pos y]
theorem r_isF {x : Int32} (h : FA O M) : RG xprog 90 0 [some (.ref 439), some (.int x)] [] M Q = Q (some (.int 0)) M := by
  obtain ⟨h1, f, h2, h3, h4, h5⟩ := h
  rw [B_90_0]
  simp (disch := omega) only [lAdd, addL, lMul, mulL, nMul, nI_add, subL, lSub, nSub, nDec, nCl, lCl, nVp, lVp, nLe, nLt, nEq, lLe, leL, lLt, ltL, eqL, lEq, nM1, nM2, litLt0, one01, zero01, oneNe0, xupE, xupA, xupK, xI_I, xS_I, xF_I, xJ_I, xI_R, xS_R, xF_R, xJ_R, xI_L, xS_L, xF_L, xJ_L, xcat_s, le46, ge16, or_true, true_or, false_or, or_false, eq_self, Option.toList_some, Option.toList_none, List.cons_append, List.nil_append, true_and, and_true, not_false_eq_true, not_true_eq_false, if_true, if_false, h1.s, h1.f, h3, if_pos]
theorem r_failF {x : Int32} (h : FA O M) : RG xprog 91 0 [some (.ref 439), some (.int x)] [] M Q = Q none M := by
  obtain ⟨h1, f, h2, h3, h4, h5⟩ := h
  rw [B_91_0]
  simp (disch := omega) only [lAdd, addL, lMul, mulL, nMul, nI_add, subL, lSub, nSub, nDec, nCl, lCl, nVp, lVp, nLe, nLt, nEq, lLe, leL, lLt, ltL, eqL, lEq, nM1, nM2, litLt0, one01, zero01, oneNe0, xupE, xupA, xupK, xI_I, xS_I, xF_I, xJ_I, xI_R, xS_R, xF_R, xJ_R, xI_L, xS_L, xF_L, xJ_L, xcat_s, le46, ge16, or_true, true_or, false_or, or_false, eq_self, Option.toList_some, Option.toList_none, List.cons_append, List.nil_append, true_and, and_true, not_false_eq_true, not_true_eq_false, if_true, if_false, h1.s, h1.f, h3, if_neg]
theorem r_fail {x : Int32} {f : Nat} (hm : MT n c m) (h : RA n c m O M t p) (hx : x = nI f) (hf : f = 1 ∨ f = 2) (h1 : O.1 = f) (h2 : O.2.1 = nI (tpos n c t)) (hQ : ∀ M' : XM, E3 g1 noF noF M M' → FA O M' → Q none M') : RG xprog 91 0 [some (.ref 439), some (.int x)] [] M Q := by
  have t4 : t ≤ 400 := by have := h.2.2.1; have := hm.1; omega
  rw [B_91_0, hx]
  simp (disch := omega) only [lAdd, addL, lMul, mulL, nMul, nI_add, subL, lSub, nSub, nDec, nCl, lCl, nVp, lVp, nLe, nLt, nEq, lLe, leL, lLt, ltL, eqL, lEq, nM1, nM2, litLt0, one01, zero01, oneNe0, xupE, xupA, xupK, xI_I, xS_I, xF_I, xJ_I, xI_R, xS_R, xF_R, xJ_R, xI_L, xS_L, xF_L, xJ_L, xcat_s, le46, ge16, or_true, true_or, false_or, or_false, eq_self, Option.toList_some, Option.toList_none, List.cons_append, List.nil_append, true_and, and_true, not_false_eq_true, not_true_eq_false, if_true, if_false, h.1.s, h.1.f, h.2.2.2.1, h.2.2.2.2.1, if_pos, h.plc]
  have e : E3 g1 noF noF M (xmI (xmI M 439 13 (nI f)) 439 14 (nI (tpos n c t))) := ((E3.refl _ _ _ _).wI _ (by unfold g1; omega)).wI _ (by unfold g1; omega)
  exact hQ _ e ⟨h.1.e3 e, f, hf, by simp (disch := omega) only [lAdd, addL, lMul, mulL, nMul, nI_add, subL, lSub, nSub, nDec, nCl, lCl, nVp, lVp, nLe, nLt, nEq, lLe, leL, lLt, ltL, eqL, lEq, nM1, nM2, litLt0, one01, zero01, oneNe0, xupE, xupA, xupK, xI_I, xS_I, xF_I, xJ_I, xI_R, xS_R, xF_R, xJ_R, xI_L, xS_L, xF_L, xJ_L, xcat_s, le46, ge16, or_true, true_or, false_or, or_false, eq_self, Option.toList_some, Option.toList_none, List.cons_append, List.nil_append, true_and, and_true, not_false_eq_true, not_true_eq_false, if_true, if_false], h1, by simp (disch := omega) only [lAdd, addL, lMul, mulL, nMul, nI_add, subL, lSub, nSub, nDec, nCl, lCl, nVp, lVp, nLe, nLt, nEq, lLe, leL, lLt, ltL, eqL, lEq, nM1, nM2, litLt0, one01, zero01, oneNe0, xupE, xupA, xupK, xI_I, xS_I, xF_I, xJ_I, xI_R, xS_R, xF_R, xJ_R, xI_L, xS_L, xF_L, xJ_L, xcat_s, le46, ge16, or_true, true_or, false_or, or_false, eq_self, Option.toList_some, Option.toList_none, List.cons_append, List.nil_append, true_and, and_true, not_false_eq_true, not_true_eq_false, if_true, if_false]; exact h2.symm⟩
theorem r_goesOnF (h : FA O M) (hQ : ∀ M' : XM, E3 g1 noF noF M M' → FA O M' → Q none M') : RG xprog 92 0 [some (.ref 439)] [] M Q := by
  rw [B_92_0]
  simp (disch := omega) only [lAdd, addL, lMul, mulL, nMul, nI_add, subL, lSub, nSub, nDec, nCl, lCl, nVp, lVp, nLe, nLt, nEq, lLe, leL, lLt, ltL, eqL, lEq, nM1, nM2, litLt0, one01, zero01, oneNe0, xupE, xupA, xupK, xI_I, xS_I, xF_I, xJ_I, xI_R, xS_R, xF_R, xJ_R, xI_L, xS_L, xF_L, xJ_L, xcat_s, le46, ge16, or_true, true_or, false_or, or_false, eq_self, Option.toList_some, Option.toList_none, List.cons_append, List.nil_append, true_and, and_true, not_false_eq_true, not_true_eq_false, if_true, if_false, h.1.s]
  by_cases y : xI M 439 11 = 400
  · rw [if_neg (fun z => z y), r_failF h]
    simp (disch := omega) only [lAdd, addL, lMul, mulL, nMul, nI_add, subL, lSub, nSub, nDec, nCl, lCl, nVp, lVp, nLe, nLt, nEq, lLe, leL, lLt, ltL, eqL, lEq, nM1, nM2, litLt0, one01, zero01, oneNe0, xupE, xupA, xupK, xI_I, xS_I, xF_I, xJ_I, xI_R, xS_R, xF_R, xJ_R, xI_L, xS_L, xF_L, xJ_L, xcat_s, le46, ge16, or_true, true_or, false_or, or_false, eq_self, Option.toList_some, Option.toList_none, List.cons_append, List.nil_append, true_and, and_true, not_false_eq_true, not_true_eq_false, if_true, if_false, B_92_15]
    exact hQ M (E3.refl _ _ _ _) h
  · rw [if_pos y]
    refine hQ _ ((E3.refl _ _ _ _).wI _ (by unfold g1; omega)) ?_
    exact h.e3 (P := fun a k => a = 439 ∧ k = 11) (R := noF) ((E3.refl _ _ _ _).wI _ ⟨rfl, rfl⟩) (fun a k q => by omega)
theorem r_goesOn (hm : MT n c m) (h : RA n c m O M t p) (hs : (yst n c t p).1 = 1) (hk : ¬ tkK n c (tpos n c t) = 0) (hQ : ∀ M' : XM, E3 g1 noF noF M M' → RA n c m O M' (t + 1) (yst n c t p).2 → Q none M') (hF : ∀ M' : XM, E3 g1 noF noF M M' → FA O M' → Q none M') : RG xprog 92 0 [some (.ref 439)] [] M Q := by
  have t4 : t ≤ 400 := by have := h.2.2.1; have := hm.1; omega
  have ho := h.out hm
  rw [if_neg (by omega), if_neg hk] at ho
  rw [B_92_0]
  simp (disch := omega) only [lAdd, addL, lMul, mulL, nMul, nI_add, subL, lSub, nSub, nDec, nCl, lCl, nVp, lVp, nLe, nLt, nEq, lLe, leL, lLt, ltL, eqL, lEq, nM1, nM2, litLt0, one01, zero01, oneNe0, xupE, xupA, xupK, xI_I, xS_I, xF_I, xJ_I, xI_R, xS_R, xF_R, xJ_R, xI_L, xS_L, xF_L, xJ_L, xcat_s, le46, ge16, or_true, true_or, false_or, or_false, eq_self, Option.toList_some, Option.toList_none, List.cons_append, List.nil_append, true_and, and_true, not_false_eq_true, not_true_eq_false, if_true, if_false, h.1.s, h.2.2.2.1]
  by_cases y : t = 400
  · rw [if_neg (fun z => z y)]
    rw [if_pos (by omega)] at ho
    refine r_fail hm h (f := 2) rfl (Or.inr rfl) (by rw [ho]) (by rw [ho]) ?_
    intro M1 e1 f1
    simp (disch := omega) only [lAdd, addL, lMul, mulL, nMul, nI_add, subL, lSub, nSub, nDec, nCl, lCl, nVp, lVp, nLe, nLt, nEq, lLe, leL, lLt, ltL, eqL, lEq, nM1, nM2, litLt0, one01, zero01, oneNe0, xupE, xupA, xupK, xI_I, xS_I, xF_I, xJ_I, xI_R, xS_R, xF_R, xJ_R, xI_L, xS_L, xF_L, xJ_L, xcat_s, le46, ge16, or_true, true_or, false_or, or_false, eq_self, Option.toList_some, Option.toList_none, List.cons_append, List.nil_append, true_and, and_true, not_false_eq_true, not_true_eq_false, if_true, if_false, B_92_15]
    exact hF M1 e1 f1
  · rw [if_pos y]
    rw [if_neg (by omega)] at ho
    refine hQ _ ((E3.refl _ _ _ _).wI _ (by unfold g1; omega)) ?_
    obtain ⟨h1, h2, h3, h4, h5, h6⟩ := h
    have e : E3 (fun a k => a = 439 ∧ k = 11) noF noF M (xmI M 439 11 (nI (t + 1))) := (E3.refl _ _ _ _).wI _ ⟨rfl, rfl⟩
    exact ⟨h1.e3 e, h2.e3 e (fun a k q => by omega) (fun _ _ q => absurd q id), RA.lt (p := p) ⟨h1, h2, h3, h4, h5, h6⟩ hm hk (by omega), by simp (disch := omega) only [lAdd, addL, lMul, mulL, nMul, nI_add, subL, lSub, nSub, nDec, nCl, lCl, nVp, lVp, nLe, nLt, nEq, lLe, leL, lLt, ltL, eqL, lEq, nM1, nM2, litLt0, one01, zero01, oneNe0, xupE, xupA, xupK, xI_I, xS_I, xF_I, xJ_I, xI_R, xS_R, xF_R, xJ_R, xI_L, xS_L, xF_L, xJ_L, xcat_s, le46, ge16, or_true, true_or, false_or, or_false, eq_self, Option.toList_some, Option.toList_none, List.cons_append, List.nil_append, true_and, and_true, not_false_eq_true, not_true_eq_false, if_true, if_false], by rw [e.I (by omega)]; exact h5, ho.symm⟩
theorem r_fail0 {x : Int32} (hm : MT n c m) (h : RA n c m O M t p) (hx : x = nI 1) (hs : (yst n c t p).1 = 0) (hQ : ∀ M' : XM, E3 g1 noF noF M M' → FA O M' → Q none M') : RG xprog 91 0 [some (.ref 439), some (.int x)] [] M Q := by
  have ho := h.out hm
  rw [if_pos hs] at ho
  exact r_fail hm h hx (Or.inl rfl) (by rw [ho]) (by rw [ho]) hQ
theorem r_fail2 {x : Int32} (hm : MT n c m) (h : RA n c m O M t p) (hx : x = nI 2) (hs : (yst n c t p).1 = 2) (hk : ¬ tkK n c (tpos n c t) = 0) (hQ : ∀ M' : XM, E3 g1 noF noF M M' → FA O M' → Q none M') : RG xprog 91 0 [some (.ref 439), some (.int x)] [] M Q := by
  have ho := h.out hm
  rw [if_neg (by omega), if_neg hk, if_pos (Or.inl hs)] at ho
  exact r_fail hm h hx (Or.inr rfl) (by rw [ho]) (by rw [ho]) hQ
theorem r_must {q : Nat} {x : Int32} (hm : MT n c m) (h : RA n c m O M t p) (hx : x = nI (k2r q)) (hq : q ≤ 33) (q0 : q ≠ 0) (h1 : tkK n c (tpos n c t) = q → (yst n c t p).1 = 1) (h0 : ¬ tkK n c (tpos n c t) = q → (yst n c t p).1 = 0) (hQ : ∀ M' : XM, E3 g1 noF noF M M' → tkK n c (tpos n c t) = q → RA n c m O M' (t + 1) (yst n c t p).2 → Q none M') (hF : ∀ M' : XM, E3 g1 noF noF M M' → FA O M' → Q none M') : RG xprog 94 0 [some (.ref 439), some (.int x)] [] M Q := by
  rw [B_94_0, h.1.s.1]
  refine ⟨rfl, ?_⟩
  rw [r_is hm h hx hq]
  by_cases y : tkK n c (tpos n c t) = q
  · rw [if_pos y]
    simp (disch := omega) only [lAdd, addL, lMul, mulL, nMul, nI_add, subL, lSub, nSub, nDec, nCl, lCl, nVp, lVp, nLe, nLt, nEq, lLe, leL, lLt, ltL, eqL, lEq, nM1, nM2, litLt0, one01, zero01, oneNe0, xupE, xupA, xupK, xI_I, xS_I, xF_I, xJ_I, xI_R, xS_R, xF_R, xJ_R, xI_L, xS_L, xF_L, xJ_L, xcat_s, le46, ge16, or_true, true_or, false_or, or_false, eq_self, Option.toList_some, Option.toList_none, List.cons_append, List.nil_append, true_and, and_true, not_false_eq_true, not_true_eq_false, if_true, if_false, B_94_5, h.1.s, if_neg]
    refine r_goesOn hm h (h1 y) (by omega) ?_ ?_
    · intro M1 e1 a1
      simp (disch := omega) only [lAdd, addL, lMul, mulL, nMul, nI_add, subL, lSub, nSub, nDec, nCl, lCl, nVp, lVp, nLe, nLt, nEq, lLe, leL, lLt, ltL, eqL, lEq, nM1, nM2, litLt0, one01, zero01, oneNe0, xupE, xupA, xupK, xI_I, xS_I, xF_I, xJ_I, xI_R, xS_R, xF_R, xJ_R, xI_L, xS_L, xF_L, xJ_L, xcat_s, le46, ge16, or_true, true_or, false_or, or_false, eq_self, Option.toList_some, Option.toList_none, List.cons_append, List.nil_append, true_and, and_true, not_false_eq_true, not_true_eq_false, if_true, if_false, B_94_12, B_94_20]
      exact hQ M1 e1 y a1
    · intro M1 e1 a1
      simp (disch := omega) only [lAdd, addL, lMul, mulL, nMul, nI_add, subL, lSub, nSub, nDec, nCl, lCl, nVp, lVp, nLe, nLt, nEq, lLe, leL, lLt, ltL, eqL, lEq, nM1, nM2, litLt0, one01, zero01, oneNe0, xupE, xupA, xupK, xI_I, xS_I, xF_I, xJ_I, xI_R, xS_R, xF_R, xJ_R, xI_L, xS_L, xF_L, xJ_L, xcat_s, le46, ge16, or_true, true_or, false_or, or_false, eq_self, Option.toList_some, Option.toList_none, List.cons_append, List.nil_append, true_and, and_true, not_false_eq_true, not_true_eq_false, if_true, if_false, B_94_12, B_94_20]
      exact hF M1 e1 a1
  · rw [if_neg y]
    simp (disch := omega) only [lAdd, addL, lMul, mulL, nMul, nI_add, subL, lSub, nSub, nDec, nCl, lCl, nVp, lVp, nLe, nLt, nEq, lLe, leL, lLt, ltL, eqL, lEq, nM1, nM2, litLt0, one01, zero01, oneNe0, xupE, xupA, xupK, xI_I, xS_I, xF_I, xJ_I, xI_R, xS_R, xF_R, xJ_R, xI_L, xS_L, xF_L, xJ_L, xcat_s, le46, ge16, or_true, true_or, false_or, or_false, eq_self, Option.toList_some, Option.toList_none, List.cons_append, List.nil_append, true_and, and_true, not_false_eq_true, not_true_eq_false, if_true, if_false, B_94_5, h.1.s, if_pos]
    refine r_fail0 hm h rfl (h0 y) ?_
    intro M1 e1 a1
    simp (disch := omega) only [lAdd, addL, lMul, mulL, nMul, nI_add, subL, lSub, nSub, nDec, nCl, lCl, nVp, lVp, nLe, nLt, nEq, lLe, leL, lLt, ltL, eqL, lEq, nM1, nM2, litLt0, one01, zero01, oneNe0, xupE, xupA, xupK, xI_I, xS_I, xF_I, xJ_I, xI_R, xS_R, xF_R, xJ_R, xI_L, xS_L, xF_L, xJ_L, xcat_s, le46, ge16, or_true, true_or, false_or, or_false, eq_self, Option.toList_some, Option.toList_none, List.cons_append, List.nil_append, true_and, and_true, not_false_eq_true, not_true_eq_false, if_true, if_false, B_94_20]
    exact hF M1 e1 a1
theorem r_mustF {x : Int32} (h : FA O M) : RG xprog 94 0 [some (.ref 439), some (.int x)] [] M Q = Q none M := by
  rw [B_94_0, r_isF h]
  simp (disch := omega) only [lAdd, addL, lMul, mulL, nMul, nI_add, subL, lSub, nSub, nDec, nCl, lCl, nVp, lVp, nLe, nLt, nEq, lLe, leL, lLt, ltL, eqL, lEq, nM1, nM2, litLt0, one01, zero01, oneNe0, xupE, xupA, xupK, xI_I, xS_I, xF_I, xJ_I, xI_R, xS_R, xF_R, xJ_R, xI_L, xS_L, xF_L, xJ_L, xcat_s, le46, ge16, or_true, true_or, false_or, or_false, eq_self, Option.toList_some, Option.toList_none, List.cons_append, List.nil_append, true_and, and_true, not_false_eq_true, not_true_eq_false, if_true, if_false, B_94_5, h.1.s, if_pos]
  rw [r_failF h]
  simp (disch := omega) only [lAdd, addL, lMul, mulL, nMul, nI_add, subL, lSub, nSub, nDec, nCl, lCl, nVp, lVp, nLe, nLt, nEq, lLe, leL, lLt, ltL, eqL, lEq, nM1, nM2, litLt0, one01, zero01, oneNe0, xupE, xupA, xupK, xI_I, xS_I, xF_I, xJ_I, xI_R, xS_R, xF_R, xJ_R, xI_L, xS_L, xF_L, xJ_L, xcat_s, le46, ge16, or_true, true_or, false_or, or_false, eq_self, Option.toList_some, Option.toList_none, List.cons_append, List.nil_append, true_and, and_true, not_false_eq_true, not_true_eq_false, if_true, if_false, B_94_20]
end XRA
