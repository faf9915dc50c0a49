/-! which, next -/
def cnt (p : Nat → Bool) : Nat → Nat
  | 0 => 0
  | n + 1 => cnt p n + if p n then 1 else 0
theorem cnt_s (p : Nat → Bool) (n : Nat) : cnt p (n + 1) = cnt p n + if p n then 1 else 0 := rfl
theorem cnt_congr {p q : Nat → Bool} : ∀ n, (∀ i, i < n → p i = q i) → cnt p n = cnt q n
  | 0, _ => rfl
  | n + 1, h => by rw [cnt_s, cnt_s, cnt_congr n fun i hi => h i (by omega), h n (by omega)]
theorem cnt_le (p : Nat → Bool) : ∀ n, cnt p n ≤ n
  | 0 => Nat.le_refl 0
  | n + 1 => by
    have := cnt_le p n
    rw [cnt_s]
    split <;> omega
theorem cnt_ext (p : Nat → Bool) (n : Nat) : ∀ k, (∀ i, n ≤ i → p i = false) → cnt p (n + k) = cnt p n
  | 0, _ => rfl
  | k + 1, h => by
    rw [show n + (k + 1) = (n + k) + 1 by omega, cnt_s, cnt_ext p n k h, h (n + k) (by omega)]
    simp
theorem cnt_range (p : Nat → Bool) : ∀ n, (List.range n).countP p = cnt p n
  | 0 => rfl
  | n + 1 => by
    rw [List.range_succ, List.countP_append, cnt_range p n, cnt_s]
    simp [List.countP_cons]
theorem pcn_bn (p : Nat → Bool) {n : Nat} (h : n ≤ 7) : pcn (bn p n) = cnt p n := by
  unfold pcn
  rw [cnt_range]
  have e : cnt (fun i => (bn p n).testBit i) 7 = cnt (fun i => (bn p n).testBit i) n := by
    have := cnt_ext (fun i => (bn p n).testBit i) n (7 - n) (fun i hi => by
      show (bn p n).testBit i = false
      rw [bn_test, decide_eq_false (by omega)]; rfl)
    rw [show n + (7 - n) = 7 by omega] at this
    exact this
  rw [e]
  refine cnt_congr n fun i hi => ?_
  rw [bn_test, decide_eq_true hi]; rfl
theorem cnt_split (p q : Nat → Bool) : ∀ n, cnt (fun i => p i && q i) n + cnt (fun i => p i && !q i) n = cnt p n
  | 0 => rfl
  | n + 1 => by
    have := cnt_split p q n
    rw [cnt_s, cnt_s, cnt_s]
    cases p n <;> cases q n <;> simp <;> omega
theorem bn_and (p q : Nat → Bool) (n : Nat) : bn p n &&& bn q n = bn (fun i => p i && q i) n := by
  apply Nat.eq_of_testBit_eq
  intro i
  rw [Nat.testBit_and, bn_test, bn_test, bn_test]
  cases decide (i < n) <;> simp
theorem and_not (a b : Fin 128) : nI a.val &&& (nI b.val ^^^ (-1)) = nI (a.val &&& (b.val ^^^ 127)) := by
  have : ∀ a b : Fin 128, nI a.val &&& (nI b.val ^^^ (-1)) = nI (a.val &&& (b.val ^^^ 127)) := by decide +kernel
  exact this a b
theorem bn_andn (p q : Nat → Bool) {n : Nat} (h : n ≤ 7) : nI (bn p n) &&& (nI (bn q n) ^^^ (-1)) = nI (bn (fun i => p i && !q i) n) := by
  rw [and_not ⟨bn p n, bn128 p h⟩ ⟨bn q n, bn128 q h⟩]
  congr 1
  apply Nat.eq_of_testBit_eq
  intro i
  show (bn p n &&& (bn q n ^^^ 127)).testBit i = _
  have e127 : (127 : Nat).testBit i = decide (i < 7) := by
    rw [show (127 : Nat) = 2 ^ 7 - 1 from rfl, Nat.testBit_two_pow_sub_one]
  rw [Nat.testBit_and, Nat.testBit_xor, bn_test, bn_test, bn_test, e127]
  by_cases hi : i < n
  · rw [decide_eq_true hi, decide_eq_true (show i < 7 by omega)]
    simp
  · rw [decide_eq_false hi]
    simp
theorem bn_full {n : Nat} (h : n ≤ 7) : ((1 : Int32) <<< (nI n &&& 31)) - 1 = nI (bn (fun _ => true) n) := by
  have : ∀ n : Fin 8, ((1 : Int32) <<< (nI n.val &&& 31)) - 1 = nI (bn (fun _ => true) n.val) := by decide
  exact this ⟨n, by omega⟩
/-- does a letter's mark reach v -/
def rch (T : XT) (m : Nat) (v : Int32) (l : Nat) : Bool := decide (¬ tL T l m < v)
/-- is all so that is known by k -/
def knw (S : XS) (l : Nat) : Nat → Bool
  | 0 => true
  | k + 1 => knw S l k && (if zD2 S k = 0 then !rch (zT S) (cN (zD0 S k)) (zD1 S k) l else rch (zT S) (cN (zD0 S k)) (zD1 S k) l)
theorem knw_s (S : XS) (l k : Nat) : knw S l (k + 1) = (knw S l k && (if zD2 S k = 0 then !rch (zT S) (cN (zD0 S k)) (zD1 S k) l else rch (zT S) (cN (zD0 S k)) (zD1 S k) l)) := rfl
def lft (S : XS) (k : Nat) : Nat := bn (fun l => knw S l k) (tN (zT S))
theorem c_reaching {M : XM} {t m : Nat} {T : XT} {v : Int32} {Q : Option Value → XM → Prop} (hT : TxtAt M t T) (hm : m < 4) : RG xprog 276 0 [some (.ref t), some (.int (nI m)), some (.int v), none, none] [] M Q = Q (some (.int (nI (bn (rch T m v) (tN T))))) M := by
  have n7 := hT.n7
  rw [B_276_0]
  have loop : ∀ k i, i + k = tN T → RG xprog 276 5 [some (.ref t), some (.int (nI m)), some (.int v), some (.int (nI (bn (rch T m v) i))), some (.int (nI i))] [] M Q = Q (some (.int (nI (bn (rch T m v) (tN T))))) M := by
    intro k
    induction k with
    | zero =>
      intro i hi
      have : i = tN T := by omega
      subst this
      rw [B_276_5]
      simp (disch := omega) only [hT.f, hT.n, lAdd, addL, lMul, mulL, nMul, nI_add, subL, lSub, nSub, nDec, nCl, lCl, nVp, lVp, nLe, nLt, nEq, lLe, leL, lLt, ltL, eqL, lEq, nM1, nM2, litLt0, one01, zero01, oneNe0, xupE, xupA, xupK, xI_I, xS_I, xF_I, xJ_I, xI_R, xS_R, xF_R, xJ_R, xI_L, xS_L, xF_L, xJ_L, xcat_s, le46, ge16, or_true, true_or, false_or, or_false, eq_self, Option.toList_some, Option.toList_none, List.cons_append, List.nil_append, true_and, and_true, not_false_eq_true, not_true_eq_false, if_true, if_false, Nat.le_refl]
    | succ k ih =>
      intro i hi
      have e := ih (i + 1) (by omega)
      rw [bn_s] at e
      rw [B_276_5]
      simp (disch := omega) only [hT.f, hT.n, hT.l (show i < 7 by omega), hT.lm (show i < 7 by omega), lAdd, addL, lMul, mulL, nMul, nI_add, subL, lSub, nSub, nDec, nCl, lCl, nVp, lVp, nLe, nLt, nEq, lLe, leL, lLt, ltL, eqL, lEq, nM1, nM2, litLt0, one01, zero01, oneNe0, xupE, xupA, xupK, xI_I, xS_I, xF_I, xJ_I, xI_R, xS_R, xF_R, xJ_R, xI_L, xS_L, xF_L, xJ_L, xcat_s, le46, ge16, or_true, true_or, false_or, or_false, eq_self, Option.toList_some, Option.toList_none, List.cons_append, List.nil_append, true_and, and_true, not_false_eq_true, not_true_eq_false, if_true, if_false, if_neg]
      by_cases hc : tL T i m < v
      · rw [if_pos hc]
        rw [if_neg (by unfold rch; simp only [hc]; decide)] at e
        exact e
      · rw [if_neg hc, or_bit (by omega)]
        rw [if_pos (by unfold rch; simp only [hc]; decide)] at e
        exact e
  exact loop (tN T) 0 (by omega)
theorem c_left {M : XM} {t k B : Nat} {S : XS} {Q : Option Value → XM → Prop} (h : CW M t S) (hi : SInv B S) (hk : k ≤ zDn S) : RG xprog 277 0 [some (.ref 402), some (.ref t), some (.int (nI k)), none, none, none] [] M Q = Q (some (.int (nI (lft S k)))) M := by
  have n7 := h.tx.n7
  have d20 := hi.2.2.2.2.2.2.2.1
  rw [B_277_0]
  simp (disch := omega) only [h.tx.f, h.tx.n, lAdd, addL, lMul, mulL, nMul, nI_add, subL, lSub, nSub, nDec, nCl, lCl, nVp, lVp, nLe, nLt, nEq, lLe, leL, lLt, ltL, eqL, lEq, nM1, nM2, litLt0, one01, zero01, oneNe0, xupE, xupA, xupK, xI_I, xS_I, xF_I, xJ_I, xI_R, xS_R, xF_R, xJ_R, xI_L, xS_L, xF_L, xJ_L, xcat_s, le46, ge16, or_true, true_or, false_or, or_false, eq_self, Option.toList_some, Option.toList_none, List.cons_append, List.nil_append, true_and, and_true, not_false_eq_true, not_true_eq_false, if_true, if_false, bn_full n7]
  have loop : ∀ j i (z : Option Value), i + j = k → RG xprog 277 12 [some (.ref 402), some (.ref t), some (.int (nI k)), some (.int (nI (bn (fun l => knw S l i) (tN (zT S))))), some (.int (nI i)), z] [] M Q = Q (some (.int (nI (lft S k)))) M := by
    intro j
    induction j with
    | zero =>
      intro i z hj
      have : i = k := by omega
      subst this
      rw [B_277_12]
      simp (disch := omega) only [lAdd, addL, lMul, mulL, nMul, nI_add, subL, lSub, nSub, nDec, nCl, lCl, nVp, lVp, nLe, nLt, nEq, lLe, leL, lLt, ltL, eqL, lEq, nM1, nM2, litLt0, one01, zero01, oneNe0, xupE, xupA, xupK, xI_I, xS_I, xF_I, xJ_I, xI_R, xS_R, xF_R, xJ_R, xI_L, xS_L, xF_L, xJ_L, xcat_s, le46, ge16, or_true, true_or, false_or, or_false, eq_self, Option.toList_some, Option.toList_none, List.cons_append, List.nil_append, true_and, and_true, not_false_eq_true, not_true_eq_false, if_true, if_false, Nat.le_refl]
      rfl
    | succ j ih =>
      intro i z hj
      obtain ⟨⟨m, hm1, hm2⟩, _, hd⟩ := hi.2.2.2.2.2.2.2.2 i (by omega)
      have tv := h.tdv (show i < zDn S by omega)
      rw [B_277_12]
      simp (disch := omega) only [h.td, tv, hm2, lAdd, addL, lMul, mulL, nMul, nI_add, subL, lSub, nSub, nDec, nCl, lCl, nVp, lVp, nLe, nLt, nEq, lLe, leL, lLt, ltL, eqL, lEq, nM1, nM2, litLt0, one01, zero01, oneNe0, xupE, xupA, xupK, xI_I, xS_I, xF_I, xJ_I, xI_R, xS_R, xF_R, xJ_R, xI_L, xS_L, xF_L, xJ_L, xcat_s, le46, ge16, or_true, true_or, false_or, or_false, eq_self, Option.toList_some, Option.toList_none, List.cons_append, List.nil_append, true_and, and_true, not_false_eq_true, not_true_eq_false, if_true, if_false, if_neg, c_reaching h.tx (show m < 4 by omega), B_277_45, or_true]
      have e := fun z => ih (i + 1) z (by omega)
      have step : ∀ b : Int32, nI (bn (fun l => knw S l i) (tN (zT S))) &&& b = nI (bn (fun l => knw S l (i + 1)) (tN (zT S))) → RG xprog 277 67 [some (.ref 402), some (.ref t), some (.int (nI k)), some (.int (nI (bn (fun l => knw S l i) (tN (zT S))))), some (.int (nI i)), some (.int (nI (bn (rch (zT S) m (zD1 S i)) (tN (zT S)))))] [.int b, .int (nI (bn (fun l => knw S l i) (tN (zT S))))] M Q = Q (some (.int (nI (lft S k)))) M := by
        intro b hb
        rw [B_277_67, hb]
        simp (disch := omega) only [lAdd, addL, lMul, mulL, nMul, nI_add, subL, lSub, nSub, nDec, nCl, lCl, nVp, lVp, nLe, nLt, nEq, lLe, leL, lLt, ltL, eqL, lEq, nM1, nM2, litLt0, one01, zero01, oneNe0, xupE, xupA, xupK, xI_I, xS_I, xF_I, xJ_I, xI_R, xS_R, xF_R, xJ_R, xI_L, xS_L, xF_L, xJ_L, xcat_s, le46, ge16, or_true, true_or, false_or, or_false, eq_self, Option.toList_some, Option.toList_none, List.cons_append, List.nil_append, true_and, and_true, not_false_eq_true, not_true_eq_false, if_true, if_false]
        exact e _
      by_cases h0 : zD2 S i = 0
      · rw [if_pos h0]
        apply step
        rw [bn_andn _ _ n7]
        congr 1
        refine bn_congr _ fun l hl => ?_
        rw [knw_s, if_pos h0, hm2, cN_n (by omega)]
      · rw [if_neg h0]
        apply step
        rw [i32_and, bn_and]
        congr 1
        refine bn_congr _ fun l hl => ?_
        rw [knw_s, if_neg h0, hm2, cN_n (by omega)]
  exact loop k 0 none (by omega)
theorem r_markOf {M : XM} {lv l m : Nat} {T : XT} {Q : Option Value → XM → Prop} (h : RW M lv T) (hl : l < tN T) (hm : m < 3) : RG xprog 279 0 [some (.ref 439), some (.int (nI l)), some (.int (nI m)), none] [] M Q = Q (some (.int (tL T l m))) M := by
  have l2 := h.lv2
  have n7 := h.n7
  rw [B_279_0]
  rcases (show m = 0 ∨ m = 1 ∨ m = 2 by omega) with rfl | rfl | rfl
  · simp (disch := omega) only [h.1.s, h.1.f, h.v, h.l hl, lAdd, addL, lMul, mulL, nMul, nI_add, subL, lSub, nSub, nDec, nCl, lCl, nVp, lVp, nLe, nLt, nEq, lLe, leL, lLt, ltL, eqL, lEq, nM1, nM2, litLt0, one01, zero01, oneNe0, xupE, xupA, xupK, xI_I, xS_I, xF_I, xJ_I, xI_R, xS_R, xF_R, xJ_R, xI_L, xS_L, xF_L, xJ_L, xcat_s, le46, ge16, or_true, true_or, false_or, or_false, eq_self, Option.toList_some, Option.toList_none, List.cons_append, List.nil_append, true_and, and_true, not_false_eq_true, not_true_eq_false, if_true, if_false]
  · simp (disch := omega) only [h.1.s, h.1.f, h.v, h.l hl, lAdd, addL, lMul, mulL, nMul, nI_add, subL, lSub, nSub, nDec, nCl, lCl, nVp, lVp, nLe, nLt, nEq, lLe, leL, lLt, ltL, eqL, lEq, nM1, nM2, litLt0, one01, zero01, oneNe0, xupE, xupA, xupK, xI_I, xS_I, xF_I, xJ_I, xI_R, xS_R, xF_R, xJ_R, xI_L, xS_L, xF_L, xJ_L, xcat_s, le46, ge16, or_true, true_or, false_or, or_false, eq_self, Option.toList_some, Option.toList_none, List.cons_append, List.nil_append, true_and, and_true, not_false_eq_true, not_true_eq_false, if_true, if_false, nFalse]
  · simp (disch := omega) only [h.1.s, h.1.f, h.v, h.l hl, lAdd, addL, lMul, mulL, nMul, nI_add, subL, lSub, nSub, nDec, nCl, lCl, nVp, lVp, nLe, nLt, nEq, lLe, leL, lLt, ltL, eqL, lEq, nM1, nM2, litLt0, one01, zero01, oneNe0, xupE, xupA, xupK, xI_I, xS_I, xF_I, xJ_I, xI_R, xS_R, xF_R, xJ_R, xI_L, xS_L, xF_L, xJ_L, xcat_s, le46, ge16, or_true, true_or, false_or, or_false, eq_self, Option.toList_some, Option.toList_none, List.cons_append, List.nil_append, true_and, and_true, not_false_eq_true, not_true_eq_false, if_true, if_false, nFalse]
theorem r_whichBits {M : XM} {lv k B : Nat} {S : XS} {Q : Option Value → XM → Prop} (h : RWd M lv S) (hi : SInv B S) (hk : k ≤ zDn S) : RG xprog 280 0 [some (.ref 439), some (.int (nI k)), none, none, none, none] [] M Q = Q (some (.int (nI (lft S k)))) M := by
  have n7 := h.1.n7
  have l2 := h.1.lv2
  have d20 := hi.2.2.2.2.2.2.2.1
  have ex : ∀ p : Prop, ∀ b : Bool, b = true ∨ b = false := fun _ b => by cases b <;> simp
  rw [B_280_0]
  have loop : ∀ j l (z z2 : Option Value), l + j = tN (zT S) → RG xprog 280 4 [some (.ref 439), some (.int (nI k)), some (.int (nI (bn (fun l => knw S l k) l))), some (.int (nI l)), z, z2] [] M Q = Q (some (.int (nI (lft S k)))) M := by
    intro j
    induction j with
    | zero =>
      intro l z z2 hj
      have : l = tN (zT S) := by omega
      subst this
      rw [B_280_4]
      simp (disch := omega) only [h.1.1.s, h.1.1.f, h.1.v, h.1.n, lAdd, addL, lMul, mulL, nMul, nI_add, subL, lSub, nSub, nDec, nCl, lCl, nVp, lVp, nLe, nLt, nEq, lLe, leL, lLt, ltL, eqL, lEq, nM1, nM2, litLt0, one01, zero01, oneNe0, xupE, xupA, xupK, xI_I, xS_I, xF_I, xJ_I, xI_R, xS_R, xF_R, xJ_R, xI_L, xS_L, xF_L, xJ_L, xcat_s, le46, ge16, or_true, true_or, false_or, or_false, eq_self, Option.toList_some, Option.toList_none, List.cons_append, List.nil_append, true_and, and_true, not_false_eq_true, not_true_eq_false, if_true, if_false, Nat.le_refl]
      rfl
    | succ j ih =>
      intro l z z2 hj
      have e := fun z z2 => ih (l + 1) z z2 (by omega)
      rw [bn_s] at e
      rw [B_280_4]
      simp (disch := omega) only [h.1.1.s, h.1.1.f, h.1.v, h.1.n, lAdd, addL, lMul, mulL, nMul, nI_add, subL, lSub, nSub, nDec, nCl, lCl, nVp, lVp, nLe, nLt, nEq, lLe, leL, lLt, ltL, eqL, lEq, nM1, nM2, litLt0, one01, zero01, oneNe0, xupE, xupA, xupK, xI_I, xS_I, xF_I, xJ_I, xI_R, xS_R, xF_R, xJ_R, xI_L, xS_L, xF_L, xJ_L, xcat_s, le46, ge16, or_true, true_or, false_or, or_false, eq_self, Option.toList_some, Option.toList_none, List.cons_append, List.nil_append, true_and, and_true, not_false_eq_true, not_true_eq_false, if_true, if_false, if_neg]
      have inner : ∀ r i, i + r = k → RG xprog 280 23 [some (.ref 439), some (.int (nI k)), some (.int (nI (bn (fun l => knw S l k) l))), some (.int (nI l)), some (.int (if knw S l i = true then 1 else 0)), some (.int (nI i))] [] M Q = Q (some (.int (nI (lft S k)))) M := by
        intro r
        induction r with
        | zero =>
          intro i hr
          have : i = k := by omega
          subst this
          rw [B_280_23]
          simp (disch := omega) only [lAdd, addL, lMul, mulL, nMul, nI_add, subL, lSub, nSub, nDec, nCl, lCl, nVp, lVp, nLe, nLt, nEq, lLe, leL, lLt, ltL, eqL, lEq, nM1, nM2, litLt0, one01, zero01, oneNe0, xupE, xupA, xupK, xI_I, xS_I, xF_I, xJ_I, xI_R, xS_R, xF_R, xJ_R, xI_L, xS_L, xF_L, xJ_L, xcat_s, le46, ge16, or_true, true_or, false_or, or_false, eq_self, Option.toList_some, Option.toList_none, List.cons_append, List.nil_append, true_and, and_true, not_false_eq_true, not_true_eq_false, if_true, if_false, Nat.le_refl]
          by_cases hb : knw S l i = true
          · rw [if_pos hb] at e ⊢
            rw [if_neg (by decide), or_bit (by omega)]
            exact e _ _
          · rw [if_neg hb] at e ⊢
            rw [if_pos rfl]
            exact e _ _
        | succ r ih2 =>
          intro i hr
          obtain ⟨⟨m, hm1, hm2⟩, _, hd⟩ := hi.2.2.2.2.2.2.2.2 i (by omega)
          obtain ⟨t1, t2, t3⟩ := h.2.2.2.2.2.2.2 i (by omega)
          have e2 := ih2 (i + 1) (by omega)
          rw [knw_s, hm2, cN_n (by omega)] at e2
          rw [B_280_23]
          simp (disch := omega) only [h.1.1.s, h.1.1.f, t1, t2, hm2, lAdd, addL, lMul, mulL, nMul, nI_add, subL, lSub, nSub, nDec, nCl, lCl, nVp, lVp, nLe, nLt, nEq, lLe, leL, lLt, ltL, eqL, lEq, nM1, nM2, litLt0, one01, zero01, oneNe0, xupE, xupA, xupK, xI_I, xS_I, xF_I, xJ_I, xI_R, xS_R, xF_R, xJ_R, xI_L, xS_L, xF_L, xJ_L, xcat_s, le46, ge16, or_true, true_or, false_or, or_false, eq_self, Option.toList_some, Option.toList_none, List.cons_append, List.nil_append, true_and, and_true, not_false_eq_true, not_true_eq_false, if_true, if_false, if_neg, r_markOf h.1 (show l < tN (zT S) by omega) hm1, B_280_41]
          have fin : ∀ b : Bool, rch (zT S) m (zD1 S i) l = b → RG xprog 280 56 [some (.ref 439), some (.int (nI k)), some (.int (nI (bn (fun l => knw S l k) l))), some (.int (nI l)), some (.int (if knw S l i = true then 1 else 0)), some (.int (nI i))] [.int (if b = true then 1 else 0)] M Q = Q (some (.int (nI (lft S k)))) M := by
            intro b hb
            rw [hb] at e2
            rw [B_280_56]
            simp (disch := omega) only [h.1.1.s, h.1.1.f, t3, lAdd, addL, lMul, mulL, nMul, nI_add, subL, lSub, nSub, nDec, nCl, lCl, nVp, lVp, nLe, nLt, nEq, lLe, leL, lLt, ltL, eqL, lEq, nM1, nM2, litLt0, one01, zero01, oneNe0, xupE, xupA, xupK, xI_I, xS_I, xF_I, xJ_I, xI_R, xS_R, xF_R, xJ_R, xI_L, xS_L, xF_L, xJ_L, xcat_s, le46, ge16, or_true, true_or, false_or, or_false, eq_self, Option.toList_some, Option.toList_none, List.cons_append, List.nil_append, true_and, and_true, not_false_eq_true, not_true_eq_false, if_true, if_false, or_true]
            rcases hd with hd | hd
            · rw [hd] at e2 ⊢
              cases b <;> cases hk : knw S l i <;> rw [hk] at e2 <;> simpa using e2
            · rw [hd] at e2 ⊢
              cases b <;> cases hk : knw S l i <;> rw [hk] at e2 <;> simpa using e2
          by_cases hc : tL (zT S) l m < zD1 S i
          · rw [if_pos hc]
            exact fin false (by unfold rch; simp only [hc]; decide)
          · rw [if_neg hc]
            exact fin true (by unfold rch; simp only [hc]; decide)
      exact inner k 0 (by omega)
  exact loop (tN (zT S)) 0 none none (by omega)
abbrev okK (S : XS) (x : Int32) : Prop := inb x 0 (nI (zDn S))
def A_which (S : XS) (x w : Int32) : Int32 := if okK S x ∧ is01 w then (if w = 0 then nI (pcn (lft S (cN x))) else nI (lft S (cN x))) else -1
theorem lft128 (S : XS) (k : Nat) (n7 : tN (zT S) ≤ 7) : lft S k < 128 := bn128 _ n7
theorem c_which {M0 M : XM} {t B : Nat} {S : XS} {x w : Int32} {Q : Option Value → XM → Prop} (h : CK M0 t S M) (hi : SInv B S)
    (hQ : ∀ M' : XM, CK M0 t S M' → Q (some (.int (A_which S x w))) M') :
    RG xprog 278 0 [some (.ref 16), some (.int x), some (.int w), none] [] M Q := by
  have n7 := h.1.tx.n7
  have d20 := hi.2.2.2.2.2.2.2.1
  have q := hQ M h
  unfold A_which at q
  rw [B_278_0]
  simp (disch := omega) only [h.1.d, h.1.tx.f, h.1.tx.n, h.1.tx.r, h.1.of.f, h.1.of.v, h.1.td, lAdd, addL, lMul, mulL, nMul, nI_add, subL, lSub, nSub, nDec, nCl, lCl, nVp, lVp, nLe, nLt, nEq, lLe, leL, lLt, ltL, eqL, lEq, nM1, nM2, litLt0, one01, zero01, oneNe0, xupE, xupA, xupK, xI_I, xS_I, xF_I, xJ_I, xI_R, xS_R, xF_R, xJ_R, xI_L, xS_L, xF_L, xJ_L, xcat_s, le46, ge16, or_true, true_or, false_or, or_false, eq_self, Option.toList_some, Option.toList_none, List.cons_append, List.nil_append, true_and, and_true, not_false_eq_true, not_true_eq_false, if_true, if_false]
  by_cases h1 : x < 0
  · rw [if_pos h1]
    rw [if_neg (fun z => z.1.1 h1)] at q
    exact q
  rw [if_neg h1]
  by_cases h2 : nI (zDn S) < x
  · rw [if_pos h2]
    rw [if_neg (fun z => z.1.2 h2)] at q
    exact q
  rw [if_neg h2]
  by_cases hw : is01 w
  · have hw' := (in01 w).mpr hw
    rw [if_neg hw'.1, if_pos (by rw [le_nlt]; exact hw'.2)]
    rw [if_pos ⟨⟨h1, h2⟩, hw⟩] at q
    obtain ⟨k, hk, rfl⟩ := inb_get (n := zDn S) ⟨h1, h2⟩ (by omega)
    rw [cN_n (by omega)] at q
    rw [c_left h.1 hi hk]
    simp (disch := omega) only [lAdd, addL, lMul, mulL, nMul, nI_add, subL, lSub, nSub, nDec, nCl, lCl, nVp, lVp, nLe, nLt, nEq, lLe, leL, lLt, ltL, eqL, lEq, nM1, nM2, litLt0, one01, zero01, oneNe0, xupE, xupA, xupK, xI_I, xS_I, xF_I, xJ_I, xI_R, xS_R, xF_R, xJ_R, xI_L, xS_L, xF_L, xJ_L, xcat_s, le46, ge16, or_true, true_or, false_or, or_false, eq_self, Option.toList_some, Option.toList_none, List.cons_append, List.nil_append, true_and, and_true, not_false_eq_true, not_true_eq_false, if_true, if_false, B_278_38, c_bitCount (lft128 S k n7), B_278_47]
    by_cases w0 : w = 0
    · rw [if_neg (fun z => z w0)]
      rw [if_pos w0] at q
      exact q
    · rw [if_pos w0]
      rw [if_neg w0] at q
      exact q
  · rw [if_neg (fun z => hw z.2)] at q
    by_cases h0 : w < 0
    · rw [if_pos h0]
      exact q
    · rw [if_neg h0, if_neg (fun z => hw ((in01 w).mp ⟨h0, by rw [← le_nlt]; exact z⟩))]
      exact q
theorem r_which {M0 M : XM} {lv B : Nat} {S : XS} {x w : Int32} {Q : Option Value → XM → Prop} (h : RK M0 lv S M) (hi : SInv B S)
    (hQ : ∀ M' : XM, RK M0 lv S M' → Q (some (.int (A_which S x w))) M') :
    RG xprog 281 0 [some (.ref 439), some (.int x), some (.int w), none] [] M Q := by
  have n7 := h.1.1.n7
  have d20 := hi.2.2.2.2.2.2.2.1
  have k62 := h.1.2.2.2.2.2.2.1
  have q := hQ M h
  unfold A_which at q
  rw [B_281_0]
  simp (disch := omega) only [h.1.1.1.s, k62, lAdd, addL, lMul, mulL, nMul, nI_add, subL, lSub, nSub, nDec, nCl, lCl, nVp, lVp, nLe, nLt, nEq, lLe, leL, lLt, ltL, eqL, lEq, nM1, nM2, litLt0, one01, zero01, oneNe0, xupE, xupA, xupK, xI_I, xS_I, xF_I, xJ_I, xI_R, xS_R, xF_R, xJ_R, xI_L, xS_L, xF_L, xJ_L, xcat_s, le46, ge16, or_true, true_or, false_or, or_false, eq_self, Option.toList_some, Option.toList_none, List.cons_append, List.nil_append, true_and, and_true, not_false_eq_true, not_true_eq_false, if_true, if_false, r_in, B_281_9, B_281_18]
  by_cases hk : okK S x
  · rw [if_pos hk, if_neg (by decide)]
    by_cases hw : is01 w
    · rw [if_pos ((in01 w).mpr hw), if_pos (by decide)]
      rw [if_pos ⟨hk, hw⟩] at q
      obtain ⟨k, hk2, rfl⟩ := inb_get (n := zDn S) hk (by omega)
      rw [cN_n (by omega)] at q
      rw [r_whichBits h.1 hi hk2]
      simp (disch := omega) only [lAdd, addL, lMul, mulL, nMul, nI_add, subL, lSub, nSub, nDec, nCl, lCl, nVp, lVp, nLe, nLt, nEq, lLe, leL, lLt, ltL, eqL, lEq, nM1, nM2, litLt0, one01, zero01, oneNe0, xupE, xupA, xupK, xI_I, xS_I, xF_I, xJ_I, xI_R, xS_R, xF_R, xJ_R, xI_L, xS_L, xF_L, xJ_L, xcat_s, le46, ge16, or_true, true_or, false_or, or_false, eq_self, Option.toList_some, Option.toList_none, List.cons_append, List.nil_append, true_and, and_true, not_false_eq_true, not_true_eq_false, if_true, if_false, B_281_28, r_bits (lft128 S k n7), B_281_37]
      by_cases w0 : w = 0
      · rw [if_neg (fun z => z w0)]
        rw [if_pos w0] at q
        exact q
      · rw [if_pos w0]
        rw [if_neg w0] at q
        exact q
    · rw [if_neg (fun z => hw ((in01 w).mp z)), if_neg (by decide)]
      rw [if_neg (fun z => hw z.2)] at q
      exact q
  · rw [if_neg hk, if_pos rfl]
    rw [if_neg (fun z => hk z.1)] at q
    exact q
