/-! next -/
def wstA (S : XS) (k m v : Nat) : Nat := cnt (fun l => knw S l k && rch (zT S) m (nI v) l) (tN (zT S))
def wstB (S : XS) (k : Nat) : Nat := cnt (fun l => knw S l k) (tN (zT S))
def wst (S : XS) (k m v : Nat) : Nat := if wstA S k m v < wstB S k - wstA S k m v then wstB S k - wstA S k m v else wstA S k m v
theorem wstA_le (S : XS) (k m v : Nat) : wstA S k m v ≤ wstB S k := by
  have := cnt_split (fun l => knw S l k) (rch (zT S) m (nI v)) (tN (zT S))
  unfold wstA wstB
  omega
theorem wstB_le (S : XS) (k : Nat) : wstB S k ≤ tN (zT S) := cnt_le _ _
theorem wst_le (S : XS) (k m v : Nat) : wst S k m v ≤ tN (zT S) := by
  have h1 := wstA_le S k m v
  have h2 := wstB_le S k
  unfold wst
  split <;> omega
def nx1 (S : XS) (k m : Nat) (s : Int32 × Nat) : Int32 × Nat := if m % 10 = 0 then s else if s.2 ≤ wst S k (m / 10) (m % 10) then s else (nI m, wst S k (m / 10) (m % 10))
def nxF (S : XS) (k : Nat) : Int32 := if lft S k = 0 then -2 else (iter (nx1 S k) 30 (-2, 8)).1
def A_next (S : XS) (x : Int32) : Int32 := if okK S x then nxF S (cN x) else -1
theorem nx_le (S : XS) (k : Nat) : ∀ i, (iter (nx1 S k) i (-2, 8)).2 ≤ 8 ∧ (((iter (nx1 S k) i (-2, 8)).1 = -2 ∧ (iter (nx1 S k) i (-2, 8)).2 = 8) ∨ ∃ j, j < i ∧ (iter (nx1 S k) i (-2, 8)).1 = nI j)
  | 0 => ⟨Nat.le_refl 8, Or.inl ⟨rfl, rfl⟩⟩
  | i + 1 => by
    obtain ⟨h1, h2⟩ := nx_le S k i
    rw [iter_s, nx1]
    split
    · refine ⟨h1, ?_⟩
      rcases h2 with q | ⟨j, q1, q2⟩
      · exact Or.inl q
      · exact Or.inr ⟨j, by omega, q2⟩
    · split
      · refine ⟨h1, ?_⟩
        rcases h2 with q | ⟨j, q1, q2⟩
        · exact Or.inl q
        · exact Or.inr ⟨j, by omega, q2⟩
      · rename_i hc
        exact ⟨by dsimp only; omega, Or.inr ⟨i, by omega, rfl⟩⟩
theorem c_bestQ {M : XM} {t k : Nat} {S : XS} {Q : Option Value → XM → Prop} (h : CW M t S) : RG xprog 282 0 [some (.ref t), some (.int (nI (lft S k))), none, none, none, none, none, none] [] M Q = Q (some (.int (nxF S k))) M := by
  have n7 := h.tx.n7
  have l8 := lft128 S k n7
  rw [B_282_0]
  unfold nxF
  simp (disch := omega) only [lAdd, addL, lMul, mulL, nMul, nI_add, subL, lSub, nSub, nDec, nCl, lCl, nVp, lVp, nLe, nLt, nEq, lLe, leL, lLt, ltL, eqL, lEq, nM1, nM2, litLt0, one01, zero01, oneNe0, xupE, xupA, xupK, xI_I, xS_I, xF_I, xJ_I, xI_R, xS_R, xF_R, xJ_R, xI_L, xS_L, xF_L, xJ_L, xcat_s, le46, ge16, or_true, true_or, false_or, or_false, eq_self, Option.toList_some, Option.toList_none, List.cons_append, List.nil_append, true_and, and_true, not_false_eq_true, not_true_eq_false, if_true, if_false]
  by_cases h0 : lft S k = 0
  · rw [if_neg (fun q => q h0), if_pos h0]
  rw [if_pos h0, if_neg h0]
  have outer : ∀ j m (z5 z6 z7 : Option Value), m + j = 3 → RG xprog 282 16 [some (.ref t), some (.int (nI (lft S k))), some (.int (iter (nx1 S k) (10 * m) (-2, 8)).1), some (.int (nI (iter (nx1 S k) (10 * m) (-2, 8)).2)), some (.int (nI m)), z5, z6, z7] [] M Q = Q (some (.int (iter (nx1 S k) 30 (-2, 8)).1)) M := by
    intro j
    induction j with
    | zero =>
      intro m z5 z6 z7 hj
      have : m = 3 := by omega
      subst this
      rw [B_282_16]
      simp (disch := omega) only [lAdd, addL, lMul, mulL, nMul, nI_add, subL, lSub, nSub, nDec, nCl, lCl, nVp, lVp, nLe, nLt, nEq, lLe, leL, lLt, ltL, eqL, lEq, nM1, nM2, litLt0, one01, zero01, oneNe0, xupE, xupA, xupK, xI_I, xS_I, xF_I, xJ_I, xI_R, xS_R, xF_R, xJ_R, xI_L, xS_L, xF_L, xJ_L, xcat_s, le46, ge16, or_true, true_or, false_or, or_false, eq_self, Option.toList_some, Option.toList_none, List.cons_append, List.nil_append, true_and, and_true, not_false_eq_true, not_true_eq_false, if_true, if_false, Nat.le_refl]
    | succ j ih =>
      intro m z5 z6 z7 hj
      rw [B_282_16]
      simp (disch := omega) only [lAdd, addL, lMul, mulL, nMul, nI_add, subL, lSub, nSub, nDec, nCl, lCl, nVp, lVp, nLe, nLt, nEq, lLe, leL, lLt, ltL, eqL, lEq, nM1, nM2, litLt0, one01, zero01, oneNe0, xupE, xupA, xupK, xI_I, xS_I, xF_I, xJ_I, xI_R, xS_R, xF_R, xJ_R, xI_L, xS_L, xF_L, xJ_L, xcat_s, le46, ge16, or_true, true_or, false_or, or_false, eq_self, Option.toList_some, Option.toList_none, List.cons_append, List.nil_append, true_and, and_true, not_false_eq_true, not_true_eq_false, if_true, if_false, if_neg]
      have inner : ∀ r v (z6 z7 : Option Value), 1 ≤ v → v + r = 10 → RG xprog 282 25 [some (.ref t), some (.int (nI (lft S k))), some (.int (iter (nx1 S k) (10 * m + v) (-2, 8)).1), some (.int (nI (iter (nx1 S k) (10 * m + v) (-2, 8)).2)), some (.int (nI m)), some (.int (nI v)), z6, z7] [] M Q = Q (some (.int (iter (nx1 S k) 30 (-2, 8)).1)) M := by
        intro r
        induction r with
        | zero =>
          intro v z6 z7 hv hr
          have : v = 10 := by omega
          subst this
          rw [B_282_25]
          simp (disch := omega) only [lAdd, addL, lMul, mulL, nMul, nI_add, subL, lSub, nSub, nDec, nCl, lCl, nVp, lVp, nLe, nLt, nEq, lLe, leL, lLt, ltL, eqL, lEq, nM1, nM2, litLt0, one01, zero01, oneNe0, xupE, xupA, xupK, xI_I, xS_I, xF_I, xJ_I, xI_R, xS_R, xF_R, xJ_R, xI_L, xS_L, xF_L, xJ_L, xcat_s, le46, ge16, or_true, true_or, false_or, or_false, eq_self, Option.toList_some, Option.toList_none, List.cons_append, List.nil_append, true_and, and_true, not_false_eq_true, not_true_eq_false, if_true, if_false, if_pos]
          exact ih (m + 1) _ _ _ (by omega)
        | succ r ih2 =>
          intro v z6 z7 hv hr
          have wl := wst_le S k m v
          have wa := wstA_le S k m v
          have wb := wstB_le S k
          obtain ⟨le8, _⟩ := nx_le S k (10 * m + v)
          have pa : pcn (bn (fun l => knw S l k && rch (zT S) m (nI v) l) (tN (zT S))) = wstA S k m v := pcn_bn _ n7
          have pb : pcn (bn (fun l => knw S l k && !rch (zT S) m (nI v) l) (tN (zT S))) = wstB S k - wstA S k m v := by
            rw [pcn_bn _ n7]
            have := cnt_split (fun l => knw S l k) (rch (zT S) m (nI v)) (tN (zT S))
            unfold wstA wstB
            omega
          have ea : nI (lft S k) &&& nI (bn (rch (zT S) m (nI v)) (tN (zT S))) = nI (bn (fun l => knw S l k && rch (zT S) m (nI v) l) (tN (zT S))) := by
            unfold lft
            rw [i32_and, bn_and]
          have eb : nI (lft S k) &&& (nI (bn (rch (zT S) m (nI v)) (tN (zT S))) ^^^ (-1)) = nI (bn (fun l => knw S l k && !rch (zT S) m (nI v) l) (tN (zT S))) := bn_andn _ _ n7
          have e := fun z6 z7 => ih2 (v + 1) z6 z7 (by omega) (by omega)
          rw [show 10 * m + (v + 1) = (10 * m + v) + 1 by omega, iter_s, nx1, show (10 * m + v) % 10 = v by omega, show (10 * m + v) / 10 = m by omega, if_neg (show ¬ v = 0 by omega)] at e
          rw [B_282_25]
          simp (disch := omega) only [lAdd, addL, lMul, mulL, nMul, nI_add, subL, lSub, nSub, nDec, nCl, lCl, nVp, lVp, nLe, nLt, nEq, lLe, leL, lLt, ltL, eqL, lEq, nM1, nM2, litLt0, one01, zero01, oneNe0, xupE, xupA, xupK, xI_I, xS_I, xF_I, xJ_I, xI_R, xS_R, xF_R, xJ_R, xI_L, xS_L, xF_L, xJ_L, xcat_s, le46, ge16, or_true, true_or, false_or, or_false, eq_self, Option.toList_some, Option.toList_none, List.cons_append, List.nil_append, true_and, and_true, not_false_eq_true, not_true_eq_false, if_true, if_false, if_neg, c_reaching h.tx (show m < 4 by omega), B_282_40, ea, c_bitCount (bn128 (fun l => knw S l k && rch (zT S) m (nI v) l) n7), pa, B_282_49, eb, c_bitCount (bn128 (fun l => knw S l k && !rch (zT S) m (nI v) l) n7), pb, B_282_58]
          have ew : (if wstA S k m v < wstB S k - wstA S k m v then nI (wstB S k - wstA S k m v) else nI (wstA S k m v)) = nI (wst S k m v) := by
            unfold wst
            split <;> rfl
          rw [ew]
          simp (disch := omega) only [lAdd, addL, lMul, mulL, nMul, nI_add, subL, lSub, nSub, nDec, nCl, lCl, nVp, lVp, nLe, nLt, nEq, lLe, leL, lLt, ltL, eqL, lEq, nM1, nM2, litLt0, one01, zero01, oneNe0, xupE, xupA, xupK, xI_I, xS_I, xF_I, xJ_I, xI_R, xS_R, xF_R, xJ_R, xI_L, xS_L, xF_L, xJ_L, xcat_s, le46, ge16, or_true, true_or, false_or, or_false, eq_self, Option.toList_some, Option.toList_none, List.cons_append, List.nil_append, true_and, and_true, not_false_eq_true, not_true_eq_false, if_true, if_false]
          by_cases hc : (iter (nx1 S k) (10 * m + v) (-2, 8)).2 ≤ wst S k m v
          · rw [if_pos hc]
            simp only [if_pos hc] at e
            exact e _ _
          · rw [if_neg hc]
            simp only [if_neg hc] at e
            exact e _ _
      have e1 : iter (nx1 S k) (10 * m + 1) (-2, 8) = iter (nx1 S k) (10 * m) (-2, 8) := by
        rw [iter_s, nx1, if_pos (by omega)]
      have := inner 9 1 z6 z7 (by omega) (by omega)
      rw [e1] at this
      exact this
  exact outer 3 0 none none none (by omega)
theorem c_next {M0 M : XM} {t B : Nat} {S : XS} {x : Int32} {Q : Option Value → XM → Prop} (h : CK M0 t S M) (hi : SInv B S)
    (hQ : ∀ M' : XM, CK M0 t S M' → Q (some (.int (A_next S x))) M') :
    RG xprog 283 0 [some (.ref 16), some (.int x)] [] M Q := by
  have n7 := h.1.tx.n7
  have d20 := hi.2.2.2.2.2.2.2.1
  have q := hQ M h
  unfold A_next at q
  rw [B_283_0]
  simp (disch := omega) only [h.1.d, h.1.tx.f, h.1.tx.n, h.1.tx.r, h.1.of.f, h.1.of.v, h.1.td, lAdd, addL, lMul, mulL, nMul, nI_add, subL, lSub, nSub, nDec, nCl, lCl, nVp, lVp, nLe, nLt, nEq, lLe, leL, lLt, ltL, eqL, lEq, nM1, nM2, litLt0, one01, zero01, oneNe0, xupE, xupA, xupK, xI_I, xS_I, xF_I, xJ_I, xI_R, xS_R, xF_R, xJ_R, xI_L, xS_L, xF_L, xJ_L, xcat_s, le46, ge16, or_true, true_or, false_or, or_false, eq_self, Option.toList_some, Option.toList_none, List.cons_append, List.nil_append, true_and, and_true, not_false_eq_true, not_true_eq_false, if_true, if_false]
  by_cases h1 : x < 0
  · rw [if_pos h1]
    rw [if_neg (fun z => z.1 h1)] at q
    exact q
  rw [if_neg h1]
  by_cases h2 : x ≤ nI (zDn S)
  · rw [if_pos h2]
    have hk : okK S x := ⟨h1, by rw [← le_nlt]; exact h2⟩
    rw [if_pos hk] at q
    obtain ⟨k, hk2, rfl⟩ := inb_get (n := zDn S) hk (by omega)
    rw [cN_n (by omega)] at q
    rw [c_left h.1 hi hk2]
    simp (disch := omega) only [lAdd, addL, lMul, mulL, nMul, nI_add, subL, lSub, nSub, nDec, nCl, lCl, nVp, lVp, nLe, nLt, nEq, lLe, leL, lLt, ltL, eqL, lEq, nM1, nM2, litLt0, one01, zero01, oneNe0, xupE, xupA, xupK, xI_I, xS_I, xF_I, xJ_I, xI_R, xS_R, xF_R, xJ_R, xI_L, xS_L, xF_L, xJ_L, xcat_s, le46, ge16, or_true, true_or, false_or, or_false, eq_self, Option.toList_some, Option.toList_none, List.cons_append, List.nil_append, true_and, and_true, not_false_eq_true, not_true_eq_false, if_true, if_false, B_283_33]
    rw [c_bestQ h.1]
    simp (disch := omega) only [lAdd, addL, lMul, mulL, nMul, nI_add, subL, lSub, nSub, nDec, nCl, lCl, nVp, lVp, nLe, nLt, nEq, lLe, leL, lLt, ltL, eqL, lEq, nM1, nM2, litLt0, one01, zero01, oneNe0, xupE, xupA, xupK, xI_I, xS_I, xF_I, xJ_I, xI_R, xS_R, xF_R, xJ_R, xI_L, xS_L, xF_L, xJ_L, xcat_s, le46, ge16, or_true, true_or, false_or, or_false, eq_self, Option.toList_some, Option.toList_none, List.cons_append, List.nil_append, true_and, and_true, not_false_eq_true, not_true_eq_false, if_true, if_false, B_283_36]
    exact q
  · rw [if_neg h2]
    rw [if_neg (fun z => h2 (by rw [le_nlt]; exact z.2))] at q
    exact q
theorem div10 : ∀ m : Fin 30, nI m.val / 10 = nI (m.val / 10) ∧ nI m.val - nI m.val / 10 * 10 = nI (m.val % 10) := by decide
theorem r_next {M0 M : XM} {lv B : Nat} {S : XS} {x : Int32} {Q : Option Value → XM → Prop} (h : RK M0 lv S M) (hi : SInv B S)
    (hQ : ∀ M' : XM, RK M0 lv S M' → Q (some (.int (A_next S x))) M') :
    RG xprog 284 0 [some (.ref 439), some (.int x), none, none, none, none, none, none] [] M Q := by
  have n7 := h.1.1.n7
  have l2 := h.1.1.lv2
  have d20 := hi.2.2.2.2.2.2.2.1
  have k62 := h.1.2.2.2.2.2.2.1
  have q := hQ M h
  unfold A_next at q
  rw [B_284_0]
  simp (disch := omega) only [h.1.1.1.s, k62, lAdd, addL, lMul, mulL, nMul, nI_add, subL, lSub, nSub, nDec, nCl, lCl, nVp, lVp, nLe, nLt, nEq, lLe, leL, lLt, ltL, eqL, lEq, nM1, nM2, litLt0, one01, zero01, oneNe0, xupE, xupA, xupK, xI_I, xS_I, xF_I, xJ_I, xI_R, xS_R, xF_R, xJ_R, xI_L, xS_L, xF_L, xJ_L, xcat_s, le46, ge16, or_true, true_or, false_or, or_false, eq_self, Option.toList_some, Option.toList_none, List.cons_append, List.nil_append, true_and, and_true, not_false_eq_true, not_true_eq_false, if_true, if_false, r_in, B_284_9]
  by_cases hk : okK S x
  · rw [if_pos hk, if_pos (by decide)]
    rw [if_pos hk] at q
    obtain ⟨k, hk2, rfl⟩ := inb_get (n := zDn S) hk (by omega)
    rw [cN_n (by omega)] at q
    have l8 := lft128 S k n7
    rw [r_whichBits h.1 hi hk2]
    simp (disch := omega) only [lAdd, addL, lMul, mulL, nMul, nI_add, subL, lSub, nSub, nDec, nCl, lCl, nVp, lVp, nLe, nLt, nEq, lLe, leL, lLt, ltL, eqL, lEq, nM1, nM2, litLt0, one01, zero01, oneNe0, xupE, xupA, xupK, xI_I, xS_I, xF_I, xJ_I, xI_R, xS_R, xF_R, xJ_R, xI_L, xS_L, xF_L, xJ_L, xcat_s, le46, ge16, or_true, true_or, false_or, or_false, eq_self, Option.toList_some, Option.toList_none, List.cons_append, List.nil_append, true_and, and_true, not_false_eq_true, not_true_eq_false, if_true, if_false, B_284_19]
    unfold nxF at q
    by_cases h0 : lft S k = 0
    · rw [if_pos h0] at q
      rw [B_284_29, h0]
      simp (disch := omega) only [llEq, llLt, llLe, nFalse, lAdd, addL, lMul, mulL, nMul, nI_add, subL, lSub, nSub, nDec, nCl, lCl, nVp, lVp, nLe, nLt, nEq, lLe, leL, lLt, ltL, eqL, lEq, nM1, nM2, litLt0, one01, zero01, oneNe0, xupE, xupA, xupK, xI_I, xS_I, xF_I, xJ_I, xI_R, xS_R, xF_R, xJ_R, xI_L, xS_L, xF_L, xJ_L, xcat_s, le46, ge16, or_true, true_or, false_or, or_false, eq_self, Option.toList_some, Option.toList_none, List.cons_append, List.nil_append, true_and, and_true, not_false_eq_true, not_true_eq_false, if_true, if_false]
      exact q
    rw [if_neg h0] at q
    have wb := wstB_le S k
    have hb : pcn (lft S k) = wstB S k := pcn_bn _ n7
    have outer : ∀ j m (few : Int32) (z6 z7 : Option Value), m + j = 30 → 1 ≤ m → ((iter (nx1 S k) m (-2, 8)).1 = -2 ∨ few = nI (iter (nx1 S k) m (-2, 8)).2) → RG xprog 284 29 [some (.ref 439), some (.int (nI k)), some (.int (nI (lft S k))), some (.int (iter (nx1 S k) m (-2, 8)).1), some (.int few), some (.int (nI m)), z6, z7] [] M Q := by
      intro j
      induction j with
      | zero =>
        intro m few z6 z7 hj hm hf
        have : m = 30 := by omega
        subst this
        rw [B_284_29]
        simp (disch := omega) only [lAdd, addL, lMul, mulL, nMul, nI_add, subL, lSub, nSub, nDec, nCl, lCl, nVp, lVp, nLe, nLt, nEq, lLe, leL, lLt, ltL, eqL, lEq, nM1, nM2, litLt0, one01, zero01, oneNe0, xupE, xupA, xupK, xI_I, xS_I, xF_I, xJ_I, xI_R, xS_R, xF_R, xJ_R, xI_L, xS_L, xF_L, xJ_L, xcat_s, le46, ge16, or_true, true_or, false_or, or_false, eq_self, Option.toList_some, Option.toList_none, List.cons_append, List.nil_append, true_and, and_true, not_false_eq_true, not_true_eq_false, if_true, if_false, Nat.le_refl]
        exact q
      | succ j ih =>
        intro m few z6 z7 hj hm hf
        obtain ⟨d1, d2⟩ := div10 ⟨m, by omega⟩
        dsimp only at d1 d2
        have dm : m - m / 10 * 10 = m % 10 := by omega
        have e := fun few z6 z7 => ih (m + 1) few z6 z7 (by omega) (by omega)
        obtain ⟨le8, hor⟩ := nx_le S k m
        rw [B_284_29]
        simp (disch := omega) only [lAdd, addL, lMul, mulL, nMul, nI_add, subL, lSub, nSub, nDec, nCl, lCl, nVp, lVp, nLe, nLt, nEq, lLe, leL, lLt, ltL, eqL, lEq, nM1, nM2, litLt0, one01, zero01, oneNe0, xupE, xupA, xupK, xI_I, xS_I, xF_I, xJ_I, xI_R, xS_R, xF_R, xJ_R, xI_L, xS_L, xF_L, xJ_L, xcat_s, le46, ge16, or_true, true_or, false_or, or_false, eq_self, Option.toList_some, Option.toList_none, List.cons_append, List.nil_append, true_and, and_true, not_false_eq_true, not_true_eq_false, if_true, if_false, if_neg, d1, d2, dm]
        refine ⟨by decide, ?_⟩
        by_cases hm0 : m % 10 = 0
        · rw [if_neg (fun z => z hm0)]
          rw [iter_s, nx1, if_pos hm0] at e
          exact e few z6 z7 hf
        rw [if_pos hm0]
        rw [iter_s, nx1, if_neg hm0] at e
        have wl := wst_le S k (m / 10) (m % 10)
        have wa := wstA_le S k (m / 10) (m % 10)
        -- behind the count
        have last : ∀ (z6 z7 : Int32), RG xprog 284 133 [some (.ref 439), some (.int (nI k)), some (.int (nI (lft S k))), some (.int (iter (nx1 S k) m (-2, 8)).1), some (.int few), some (.int (nI m)), some (.int z6), some (.int z7)] [.int (nI (wst S k (m / 10) (m % 10)))] M Q := by
          intro z6 z7
          rw [B_284_133]
          rcases hor with ⟨o1, o2⟩ | ⟨jj, o1, o2⟩
          · rw [o1, if_pos (by decide)]
            rw [if_neg (by rw [o2]; omega)] at e
            simp (disch := omega) only [lAdd, addL, lMul, mulL, nMul, nI_add, subL, lSub, nSub, nDec, nCl, lCl, nVp, lVp, nLe, nLt, nEq, lLe, leL, lLt, ltL, eqL, lEq, nM1, nM2, litLt0, one01, zero01, oneNe0, xupE, xupA, xupK, xI_I, xS_I, xF_I, xJ_I, xI_R, xS_R, xF_R, xJ_R, xI_L, xS_L, xF_L, xJ_L, xcat_s, le46, ge16, or_true, true_or, false_or, or_false, eq_self, Option.toList_some, Option.toList_none, List.cons_append, List.nil_append, true_and, and_true, not_false_eq_true, not_true_eq_false, if_true, if_false]
            exact e _ _ _ (Or.inr rfl)
          · have hf2 : few = nI (iter (nx1 S k) m (-2, 8)).2 := by
              rcases hf with z | z
              · rw [o2, nM2 (by omega)] at z; exact absurd z (fun w => w)
              · exact z
            rw [o2, if_neg (by rw [ltL (by omega) (by omega)]; omega), hf2]
            simp (disch := omega) only [lAdd, addL, lMul, mulL, nMul, nI_add, subL, lSub, nSub, nDec, nCl, lCl, nVp, lVp, nLe, nLt, nEq, lLe, leL, lLt, ltL, eqL, lEq, nM1, nM2, litLt0, one01, zero01, oneNe0, xupE, xupA, xupK, xI_I, xS_I, xF_I, xJ_I, xI_R, xS_R, xF_R, xJ_R, xI_L, xS_L, xF_L, xJ_L, xcat_s, le46, ge16, or_true, true_or, false_or, or_false, eq_self, Option.toList_some, Option.toList_none, List.cons_append, List.nil_append, true_and, and_true, not_false_eq_true, not_true_eq_false, if_true, if_false]
            by_cases hc : (iter (nx1 S k) m (-2, 8)).2 ≤ wst S k (m / 10) (m % 10)
            · rw [if_neg (by omega)]
              rw [if_pos hc, o2] at e
              exact e _ _ _ (Or.inr rfl)
            · rw [if_pos (by omega)]
              rw [if_neg hc] at e
              exact e _ _ _ (Or.inr rfl)
        have inner : ∀ r l, l + r = tN (zT S) → RG xprog 284 57 [some (.ref 439), some (.int (nI k)), some (.int (nI (lft S k))), some (.int (iter (nx1 S k) m (-2, 8)).1), some (.int few), some (.int (nI m)), some (.int (nI (cnt (fun l => knw S l k && rch (zT S) (m / 10) (nI (m % 10)) l) l))), some (.int (nI l))] [] M Q := by
          intro r
          induction r with
          | zero =>
            intro l hl
            have : l = tN (zT S) := by omega
            subst this
            have ew : cnt (fun l => knw S l k && rch (zT S) (m / 10) (nI (m % 10)) l) (tN (zT S)) = wstA S k (m / 10) (m % 10) := rfl
            rw [ew, B_284_57]
            simp (disch := omega) only [h.1.1.1.s, h.1.1.1.f, h.1.1.v, h.1.1.n, lAdd, addL, lMul, mulL, nMul, nI_add, subL, lSub, nSub, nDec, nCl, lCl, nVp, lVp, nLe, nLt, nEq, lLe, leL, lLt, ltL, eqL, lEq, nM1, nM2, litLt0, one01, zero01, oneNe0, xupE, xupA, xupK, xI_I, xS_I, xF_I, xJ_I, xI_R, xS_R, xF_R, xJ_R, xI_L, xS_L, xF_L, xJ_L, xcat_s, le46, ge16, or_true, true_or, false_or, or_false, eq_self, Option.toList_some, Option.toList_none, List.cons_append, List.nil_append, true_and, and_true, not_false_eq_true, not_true_eq_false, if_true, if_false, Nat.le_refl, r_bits l8, hb, B_284_115, B_284_130]
            by_cases hc : wstA S k (m / 10) (m % 10) ≤ wstB S k - wstA S k (m / 10) (m % 10)
            · rw [if_pos hc]
              have ex : wst S k (m / 10) (m % 10) = wstB S k - wstA S k (m / 10) (m % 10) := by
                unfold wst
                split <;> omega
              rw [← ex]
              exact last _ _
            · rw [if_neg hc]
              have ex : wst S k (m / 10) (m % 10) = wstA S k (m / 10) (m % 10) := by
                unfold wst
                rw [if_neg (by omega)]
              rw [← ex]
              have := last (nI (wstA S k (m / 10) (m % 10))) (nI (tN (zT S)))
              rw [ex] at this ⊢
              exact this
          | succ r ih2 =>
            intro l hl
            have cl := cnt_le (fun l => knw S l k && rch (zT S) (m / 10) (nI (m % 10)) l) l
            have e2 := ih2 (l + 1) (by omega)
            rw [cnt_s] at e2
            have tb : (lft S k).testBit l = knw S l k := by
              unfold lft
              rw [bn_test, decide_eq_true (show l < tN (zT S) by omega)]; rfl
            rw [B_284_57]
            simp (disch := omega) only [h.1.1.1.s, h.1.1.1.f, h.1.1.v, h.1.1.n, lAdd, addL, lMul, mulL, nMul, nI_add, subL, lSub, nSub, nDec, nCl, lCl, nVp, lVp, nLe, nLt, nEq, lLe, leL, lLt, ltL, eqL, lEq, nM1, nM2, litLt0, one01, zero01, oneNe0, xupE, xupA, xupK, xI_I, xS_I, xF_I, xJ_I, xI_R, xS_R, xF_R, xJ_R, xI_L, xS_L, xF_L, xJ_L, xcat_s, le46, ge16, or_true, true_or, false_or, or_false, eq_self, Option.toList_some, Option.toList_none, List.cons_append, List.nil_append, true_and, and_true, not_false_eq_true, not_true_eq_false, if_true, if_false, if_neg, shr_bit l8 (show l < 8 by omega), tb, d1, r_markOf h.1.1 (show l < tN (zT S) by omega) (show m / 10 < 3 by omega), B_284_92, d2, dm]
            by_cases kb : knw S l k = true
            · rw [if_pos kb, if_neg (fun z => z rfl)]
              refine ⟨by decide, by decide, ?_⟩
              by_cases hc : tL (zT S) l (m / 10) < nI (m % 10)
              · rw [if_pos hc]
                have : (knw S l k && rch (zT S) (m / 10) (nI (m % 10)) l) = false := by unfold rch; simp only [hc]; simp
                rw [this] at e2
                exact e2
              · rw [if_neg hc]
                have : (knw S l k && rch (zT S) (m / 10) (nI (m % 10)) l) = true := by rw [kb]; unfold rch; simp only [hc]; decide
                rw [this] at e2
                exact e2
            · rw [if_neg kb, if_pos (by decide)]
              have : (knw S l k && rch (zT S) (m / 10) (nI (m % 10)) l) = false := by
                simp only [Bool.not_eq_true] at kb
                rw [kb]; rfl
              rw [this] at e2
              exact e2
        exact inner (tN (zT S)) 0 (by omega)
    exact outer 29 1 0 none none (by omega) (by omega) (Or.inl rfl)
  · rw [if_neg hk, if_neg (by decide)]
    rw [if_neg hk] at q
    exact q
