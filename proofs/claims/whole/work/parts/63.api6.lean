/-! answers: first, year -/
def fsF (T : XT) (sd b : Int32) : Nat → Nat → XO → Int32
  | 0, _, _ => -2
  | k + 1, n, G => if xsum (oB (dayF T sd 0 G)) (tN T) ≤ b then fsF T sd b k (n + 1) (dayF T sd 0 G) else nI n
theorem fsF_s (T : XT) (sd b : Int32) (k n : Nat) (G : XO) : fsF T sd b (k + 1) n G = if xsum (oB (dayF T sd 0 G)) (tN T) ≤ b then fsF T sd b k (n + 1) (dayF T sd 0 G) else nI n := rfl
def A_first (S : XS) : Int32 := fsF (zT S) (tS (zT S) 2) (xsum (oB (zF S)) (tN (zT S))) 60 1 (zF S)
theorem c_first {M0 M : XM} {t B : Nat} {S : XS} {Q : Option Value → XM → Prop} (h : CK M0 t S M) (hi : SInv B S)
    (hQ : ∀ M' : XM, CK M0 t S M' → Q (some (.int (A_first S))) M') :
    RG xprog 252 0 [some (.ref 16), none, none] [] M Q := by
  have n7 := h.1.tx.n7
  have r6 := h.1.tx.r6
  have t2 := h.1.t2
  obtain ⟨A, hA, cA'⟩ := h.1.ah.is
  have hO := hi.2.1
  rw [B_252_0]
  simp (disch := omega) only [h.1.d, lAdd, addL, lMul, mulL, nMul, nI_add, subL, lSub, nSub, nDec, nCl, lCl, nVp, lVp, nLe, nLt, nEq, lLe, leL, lLt, ltL, eqL, lEq, nM1, nM2, litLt0, one01, zero01, oneNe0, xupE, xupA, xupK, xI_I, xS_I, xF_I, xJ_I, xI_R, xS_R, xF_R, xJ_R, xI_L, xS_L, xF_L, xJ_L, xcat_s, le46, ge16, or_true, true_or, false_or, or_false, eq_self, Option.toList_some, Option.toList_none, List.cons_append, List.nil_append, true_and, and_true, not_false_eq_true, not_true_eq_false, if_true, if_false, hA.f]
  refine c_copyFrom hA h.1.of cA' hO.2.2.2.2.2 (by omega) ?_
  intro M1 e1 f1
  have big : ∀ (M2 : XM) (G : XO), Ex (oX 91 t) M M2 → OffIs M2 91 G → OInv (zT S) G → CK M0 t S M2 := by
    intro M2 G e2 f2 i2
    refine ⟨h.1.exA e2 (fun a k q => ?_) (f2.c i2.2.2.2.2.2), h.2.trans (e2.mono fun a k q => ?_)⟩
    · unfold oX at q
      unfold cA cS
      omega
    · unfold oX at q
      unfold cR
      omega
  have e1' : Ex (oX 91 t) M M1 := e1.mono fun a k q => Or.inl q
  have k1 := big M1 _ e1' f1 hO
  simp (disch := omega) only [lAdd, addL, lMul, mulL, nMul, nI_add, subL, lSub, nSub, nDec, nCl, lCl, nVp, lVp, nLe, nLt, nEq, lLe, leL, lLt, ltL, eqL, lEq, nM1, nM2, litLt0, one01, zero01, oneNe0, xupE, xupA, xupK, xI_I, xS_I, xF_I, xJ_I, xI_R, xS_R, xF_R, xJ_R, xI_L, xS_L, xF_L, xJ_L, xcat_s, le46, ge16, or_true, true_or, false_or, or_false, eq_self, Option.toList_some, Option.toList_none, List.cons_append, List.nil_append, true_and, and_true, not_false_eq_true, not_true_eq_false, if_true, if_false, B_252_11, k1.1.d, k1.1.tx.f, k1.1.tx.n, k1.1.tx.r, k1.1.of.f, k1.1.of.v, f1.f, c_allSentBack f1.1 n7, f1.v, B_252_25]
  have loop : ∀ k n (M2 : XM) (G : XO), n + k = 61 → Ex (oX 91 t) M M2 → OffIs M2 91 G → OInv (zT S) G → (∀ M' : XM, CK M0 t S M' → Q (some (.int (fsF (zT S) (tS (zT S) 2) (xsum (oB (zF S)) (tN (zT S))) k n G))) M') → RG xprog 252 28 [some (.ref 16), some (.int (xsum (oB (zF S)) (tN (zT S)))), some (.int (nI n))] [] M2 Q := by
    intro k
    induction k with
    | zero =>
      intro n M2 G hn e2 f2 i2 hq
      rw [B_252_28]
      simp (disch := omega) only [lAdd, addL, lMul, mulL, nMul, nI_add, subL, lSub, nSub, nDec, nCl, lCl, nVp, lVp, nLe, nLt, nEq, lLe, leL, lLt, ltL, eqL, lEq, nM1, nM2, litLt0, one01, zero01, oneNe0, xupE, xupA, xupK, xI_I, xS_I, xF_I, xJ_I, xI_R, xS_R, xF_R, xJ_R, xI_L, xS_L, xF_L, xJ_L, xcat_s, le46, ge16, or_true, true_or, false_or, or_false, eq_self, Option.toList_some, Option.toList_none, List.cons_append, List.nil_append, true_and, and_true, not_false_eq_true, not_true_eq_false, if_true, if_false, if_pos]
      exact hq M2 (big M2 G e2 f2 i2)
    | succ k ih =>
      intro n M2 G hn e2 f2 i2 hq
      have k2 := big M2 G e2 f2 i2
      rw [fsF_s] at hq
      rw [B_252_28]
      simp (disch := omega) only [lAdd, addL, lMul, mulL, nMul, nI_add, subL, lSub, nSub, nDec, nCl, lCl, nVp, lVp, nLe, nLt, nEq, lLe, leL, lLt, ltL, eqL, lEq, nM1, nM2, litLt0, one01, zero01, oneNe0, xupE, xupA, xupK, xI_I, xS_I, xF_I, xJ_I, xI_R, xS_R, xF_R, xJ_R, xI_L, xS_L, xF_L, xJ_L, xcat_s, le46, ge16, or_true, true_or, false_or, or_false, eq_self, Option.toList_some, Option.toList_none, List.cons_append, List.nil_append, true_and, and_true, not_false_eq_true, not_true_eq_false, if_true, if_false, if_neg, k2.1.d, k2.1.tx.f, k2.1.tx.n, k2.1.tx.r, k2.1.of.f, k2.1.of.v, c_seed k2.1.tx, B_252_49, f2.f]
      refine c_passDay k2.1.tx f2 i2 k2.1.sepA ?_
      intro M3 e3 f3
      have i3 := i2.day r6 n7 (tS (zT S) 2) 0
      have k3 := big M3 _ (e2.trans e3) f3 i3
      simp (disch := omega) only [lAdd, addL, lMul, mulL, nMul, nI_add, subL, lSub, nSub, nDec, nCl, lCl, nVp, lVp, nLe, nLt, nEq, lLe, leL, lLt, ltL, eqL, lEq, nM1, nM2, litLt0, one01, zero01, oneNe0, xupE, xupA, xupK, xI_I, xS_I, xF_I, xJ_I, xI_R, xS_R, xF_R, xJ_R, xI_L, xS_L, xF_L, xJ_L, xcat_s, le46, ge16, or_true, true_or, false_or, or_false, eq_self, Option.toList_some, Option.toList_none, List.cons_append, List.nil_append, true_and, and_true, not_false_eq_true, not_true_eq_false, if_true, if_false, B_252_53, k3.1.d, k3.1.tx.f, k3.1.tx.n, k3.1.tx.r, k3.1.of.f, k3.1.of.v, f3.f, c_allSentBack f3.1 n7, f3.v, B_252_67]
      by_cases hc : xsum (oB (dayF (zT S) (tS (zT S) 2) 0 G)) (tN (zT S)) ≤ xsum (oB (zF S)) (tN (zT S))
      · rw [if_pos hc]
        rw [if_pos hc] at hq
        exact ih (n + 1) M3 _ (by omega) (e2.trans e3) f3 i3 hq
      · rw [if_neg hc]
        rw [if_neg hc] at hq
        exact hq M3 k3
  exact loop 60 1 M1 _ (by omega) e1' f1 hO hQ
theorem r_first {M0 M : XM} {lv B : Nat} {S : XS} {Q : Option Value → XM → Prop} (h : RK M0 lv S M) (hi : SInv B S) (hB : B ≤ 99000)
    (hQ : ∀ M' : XM, RK M0 lv S M' → Q (some (.int (A_first S))) M') :
    RG xprog 254 0 [some (.ref 439), none, none] [] M Q := by
  have n7 := h.1.1.n7
  have r6 := h.1.1.r6
  rw [B_254_0]
  simp (disch := omega) only [h.1.1.1.s, lAdd, addL, lMul, mulL, nMul, nI_add, subL, lSub, nSub, nDec, nCl, lCl, nVp, lVp, nLe, nLt, nEq, lLe, leL, lLt, ltL, eqL, lEq, nM1, nM2, litLt0, one01, zero01, oneNe0, xupE, xupA, xupK, xI_I, xS_I, xF_I, xJ_I, xI_R, xS_R, xF_R, xJ_R, xI_L, xS_L, xF_L, xJ_L, xcat_s, le46, ge16, or_true, true_or, false_or, or_false, eq_self, Option.toList_some, Option.toList_none, List.cons_append, List.nil_append, true_and, and_true, not_false_eq_true, not_true_eq_false, if_true, if_false]
  refine r_copiesStill h hi (by omega) ?_
  intro M1 h1
  simp (disch := omega) only [lAdd, addL, lMul, mulL, nMul, nI_add, subL, lSub, nSub, nDec, nCl, lCl, nVp, lVp, nLe, nLt, nEq, lLe, leL, lLt, ltL, eqL, lEq, nM1, nM2, litLt0, one01, zero01, oneNe0, xupE, xupA, xupK, xI_I, xS_I, xF_I, xJ_I, xI_R, xS_R, xF_R, xJ_R, xI_L, xS_L, xF_L, xJ_L, xcat_s, le46, ge16, or_true, true_or, false_or, or_false, eq_self, Option.toList_some, Option.toList_none, List.cons_append, List.nil_append, true_and, and_true, not_false_eq_true, not_true_eq_false, if_true, if_false, B_254_4, h1.2.1.s.s, h1.2.1.s.f, h1.2.1.v, h1.2.1.n, h1.2.1.r, r_backMany h1.2.1, B_254_8]
  have loop : ∀ k n (M2 : XM) (G : XO), n + k = 61 → 1 ≤ n → DB (B + (n - 1)) G → RQ M0 lv S G (tS (zT S) 2) 1 M2 → (∀ M' : XM, RK M0 lv S M' → Q (some (.int (fsF (zT S) (tS (zT S) 2) (xsum (oB (zF S)) (tN (zT S))) k n G))) M') → RG xprog 254 11 [some (.ref 439), some (.int (xsum (oB (zF S)) (tN (zT S)))), some (.int (nI n))] [] M2 Q := by
    intro k
    induction k with
    | zero =>
      intro n M2 G hn n1 hd h2 hq
      rw [B_254_11]
      simp (disch := omega) only [lAdd, addL, lMul, mulL, nMul, nI_add, subL, lSub, nSub, nDec, nCl, lCl, nVp, lVp, nLe, nLt, nEq, lLe, leL, lLt, ltL, eqL, lEq, nM1, nM2, litLt0, one01, zero01, oneNe0, xupE, xupA, xupK, xI_I, xS_I, xF_I, xJ_I, xI_R, xS_R, xF_R, xJ_R, xI_L, xS_L, xF_L, xJ_L, xcat_s, le46, ge16, or_true, true_or, false_or, or_false, eq_self, Option.toList_some, Option.toList_none, List.cons_append, List.nil_append, true_and, and_true, not_false_eq_true, not_true_eq_false, if_true, if_false, if_pos]
      exact hq M2 h2.1
    | succ k ih =>
      intro n M2 G hn n1 hd h2 hq
      rw [fsF_s] at hq
      rw [B_254_11]
      simp (disch := omega) only [lAdd, addL, lMul, mulL, nMul, nI_add, subL, lSub, nSub, nDec, nCl, lCl, nVp, lVp, nLe, nLt, nEq, lLe, leL, lLt, ltL, eqL, lEq, nM1, nM2, litLt0, one01, zero01, oneNe0, xupE, xupA, xupK, xI_I, xS_I, xF_I, xJ_I, xI_R, xS_R, xF_R, xJ_R, xI_L, xS_L, xF_L, xJ_L, xcat_s, le46, ge16, or_true, true_or, false_or, or_false, eq_self, Option.toList_some, Option.toList_none, List.cons_append, List.nil_append, true_and, and_true, not_false_eq_true, not_true_eq_false, if_true, if_false, if_neg, h2.2.1.s.s, h2.2.1.s.f, h2.2.1.v, h2.2.1.n, h2.2.1.r]
      obtain ⟨d, d1, d2⟩ := hd
      refine q_dayGoes (wet := 0) h2 (Or.inl ⟨by decide, rfl⟩) ⟨d, by omega, d2⟩ ?_
      intro M3 h3
      simp (disch := omega) only [lAdd, addL, lMul, mulL, nMul, nI_add, subL, lSub, nSub, nDec, nCl, lCl, nVp, lVp, nLe, nLt, nEq, lLe, leL, lLt, ltL, eqL, lEq, nM1, nM2, litLt0, one01, zero01, oneNe0, xupE, xupA, xupK, xI_I, xS_I, xF_I, xJ_I, xI_R, xS_R, xF_R, xJ_R, xI_L, xS_L, xF_L, xJ_L, xcat_s, le46, ge16, or_true, true_or, false_or, or_false, eq_self, Option.toList_some, Option.toList_none, List.cons_append, List.nil_append, true_and, and_true, not_false_eq_true, not_true_eq_false, if_true, if_false, B_254_21, h3.2.1.s.s, h3.2.1.s.f, h3.2.1.v, h3.2.1.n, h3.2.1.r, r_backMany h3.2.1, B_254_25]
      by_cases hc : xsum (oB (dayF (zT S) (tS (zT S) 2) 0 G)) (tN (zT S)) ≤ xsum (oB (zF S)) (tN (zT S))
      · rw [if_pos hc]
        rw [if_pos hc] at hq
        refine ih (n + 1) M3 _ (by omega) (by omega) ⟨d + 1, by omega, ?_⟩ h3 hq
        rw [day_D h2.2.1.i r6 n7, d2, nI_1]
      · rw [if_neg hc]
        rw [if_neg hc] at hq
        exact hq M3 h3.1
  exact loop 60 1 M1 _ (by omega) (by omega) hi.2.2.1 h1 hQ
/-- in how many of s seeds -/
def yr1 (T : XT) (F : XO) (l n k : Nat) (m : Int32) : Int32 := if ¬ oW (daysF T (tS T 2 + nI k) (tS T 1) n F) l = 2 then m else m + 1
def A_year (S : XS) (x y z : Int32) : Int32 := if isLb (tN (zT S)) x ∧ inb y 0 60 ∧ inb z 1 20 then iter (yr1 (zT S) (zF S) (cN x) (cN y)) (cN z) 0 else -1
theorem lotv100 (s d : Int32) : ¬ (100 : Int32) ≤ lotv s d := by
  unfold lotv
  generalize stir (stir s 149) (4 * d) = x
  have key : ∀ y : Int32, 0 ≤ y.toInt → ¬ (100 : Int32) ≤ y - y / 100 * 100 := by
    intro y hy
    have e1 : (100 : Int32).toInt = 100 := rfl
    have hb : y.toInt < 2 ^ 31 := Int32.toInt_lt y
    have e2 : (y / 100).toInt = y.toInt / 100 := by
      rw [Int32.toInt_div_of_ne_right _ _ (by decide), e1, Int.tdiv_eq_ediv_of_nonneg hy]
    have e3 : (y / 100 * 100).toInt = y.toInt / 100 * 100 := by
      rw [Int32.toInt_mul, e2, e1, Int.bmod_eq_of_le (by omega) (by omega)]
    rw [i32_le, Int32.toInt_sub, e3, Int.bmod_eq_of_le (by omega) (by omega), e1]
    omega
  apply key
  have e : (Int32.toUInt32 1 &&& Int32.toUInt32 31) = 1 := by decide
  rw [e]
  have h1 : (x.toUInt32 >>> 1).toNat < 2 ^ 31 := by
    rw [UInt32.toNat_shiftRight]
    have := x.toUInt32.toNat_lt
    have e1 : UInt32.toNat 1 % 32 = 1 := rfl
    rw [e1, Nat.shiftRight_eq_div_pow]
    omega
  show (0 : Int) ≤ BitVec.toInt (x.toUInt32 >>> 1).toBitVec
  rw [BitVec.toInt_eq_toNat_of_lt (by show 2 * (x.toUInt32 >>> 1).toNat < 2 ^ 32; omega)]
  omega
theorem days_seed {T : XT} (hc : tS T 1 ≤ 0 ∨ 100 ≤ tS T 1) (hw : ∃ x, x ≤ 100 ∧ tS T 1 = nI x) (sd sd' : Int32) (F : XO) : ∀ n, daysF T sd (tS T 1) n F = daysF T sd' (tS T 1) n F
  | 0 => by
    have e : ∀ z, daysF T z (tS T 1) 0 F = F := fun z => rfl
    rw [e, e]
  | n + 1 => by
    have one : ∀ G, dayF T sd (tS T 1) G = dayF T sd' (tS T 1) G := by
      intro G
      rw [dayF_eq, dayF_eq]
      obtain ⟨x, h1, h2⟩ := hw
      rw [h2] at hc ⊢
      have e : (nI x ≤ lotv sd (oD G)) = (nI x ≤ lotv sd' (oD G)) := by
        rcases hc with q | q
        · rw [leL (by omega) (by omega)] at q
          have : x = 0 := by omega
          subst this
          exact propext ⟨fun _ => lotv0 _ _, fun _ => lotv0 _ _⟩
        · rw [lLe (by omega) (by omega)] at q
          have : x = 100 := by omega
          subst this
          exact propext ⟨fun z => absurd z (lotv100 _ _), fun z => absurd z (lotv100 _ _)⟩
      simp only [e]
    show dayF T sd (tS T 1) (daysF T sd (tS T 1) n F) = dayF T sd' (tS T 1) (daysF T sd' (tS T 1) n F)
    rw [days_seed hc hw sd sd' F n, one]
theorem yr_const {T : XT} {F : XO} (hc : tS T 1 ≤ 0 ∨ 100 ≤ tS T 1) (hw : ∃ x, x ≤ 100 ∧ tS T 1 = nI x) (l n : Nat) : ∀ k, iter (yr1 T F l n) k 0 = (if ¬ oW (daysF T (tS T 2 + nI 0) (tS T 1) n F) l = 2 then 0 else nI k)
  | 0 => by split <;> rfl
  | k + 1 => by
    rw [iter_s, yr_const hc hw l n k]
    unfold yr1
    rw [days_seed hc hw (tS T 2 + nI k) (tS T 2 + nI 0) F n]
    split
    · rfl
    · rw [nI_1]
theorem inb20 {z : Int32} (h : inb z 1 20) : ∃ s, 1 ≤ s ∧ s ≤ 20 ∧ z = nI s := by
  have e0 : (0 : Int32).toInt = 0 := rfl
  have e1 : (1 : Int32).toInt = 1 := rfl
  have h1 := h.1
  rw [i32_lt, e1] at h1
  have h0 : ¬ z < 0 := by rw [i32_lt, e0]; omega
  obtain ⟨j, q1, q2⟩ := nI_of h0
  subst q2
  have h2 := h.2
  rw [lLt (by omega) (by omega)] at h2
  rw [nI_tI q1] at h1
  exact ⟨j, by omega, by omega, rfl⟩
theorem c_year {M0 M : XM} {t B : Nat} {S : XS} {x y z : Int32} {Q : Option Value → XM → Prop} (h : CK M0 t S M) (hi : SInv B S)
    (hQ : ∀ M' : XM, CK M0 t S M' → Q (some (.int (A_year S x y z))) M') :
    RG xprog 264 0 [some (.ref 16), some (.int x), some (.int y), some (.int z), none, none] [] M Q := by
  have n7 := h.1.tx.n7
  unfold A_year at hQ
  rw [B_264_0]
  simp (disch := omega) only [h.1.d, c_isLetter h.1, B_264_5, c_isSpan, B_264_12, lAdd, addL, lMul, mulL, nMul, nI_add, subL, lSub, nSub, nDec, nCl, lCl, nVp, lVp, nLe, nLt, nEq, lLe, leL, lLt, ltL, eqL, lEq, nM1, nM2, litLt0, one01, zero01, oneNe0, xupE, xupA, xupK, xI_I, xS_I, xF_I, xJ_I, xI_R, xS_R, xF_R, xJ_R, xI_L, xS_L, xF_L, xJ_L, xcat_s, le46, ge16, or_true, true_or, false_or, or_false, eq_self, Option.toList_some, Option.toList_none, List.cons_append, List.nil_append, true_and, and_true, not_false_eq_true, not_true_eq_false, if_true, if_false]
  by_cases hx : isLb (tN (zT S)) x
  · rw [if_pos hx, if_neg (by decide)]
    by_cases hy : inb y 0 60
    · rw [if_pos hy, if_neg (by decide)]
      by_cases hz : inb z 1 20
      · rw [if_neg hz.1, if_pos (by rw [le_nlt]; exact hz.2)]
        rw [if_pos ⟨hx, hy, hz⟩] at hQ
        obtain ⟨l, hl, rfl⟩ := isLb_get hx (by omega)
        obtain ⟨n, hn, rfl⟩ := inb60 hy
        obtain ⟨s, s1, s2, rfl⟩ := inb20 hz
        rw [cN_n (by omega), cN_n (by omega), cN_n (by omega)] at hQ
        have l7 : l < 7 := by omega
        refine x_for s (fun i (q : XM × Int32) => CK M0 t S q.1 ∧ q.2 = iter (yr1 (zT S) (zF S) l n) i 0 ∧ (tS (zT S) 1 ≤ 0 ∨ 100 ≤ tS (zT S) 1 → i = 0)) (fun i q => RG xprog 264 34 [some (.ref 16), some (.int (nI l)), some (.int (nI n)), some (.int (nI s)), some (.int q.2), some (.int (nI i))] [] q.1 Q) ?_ ?_ 0 (M, 0) (by omega) ⟨h, rfl, fun _ => rfl⟩
        · rintro ⟨M1, m⟩ ⟨k1, e1, _⟩
          dsimp only at k1 e1 ⊢
          rw [B_264_34]
          simp (disch := omega) only [lAdd, addL, lMul, mulL, nMul, nI_add, subL, lSub, nSub, nDec, nCl, lCl, nVp, lVp, nLe, nLt, nEq, lLe, leL, lLt, ltL, eqL, lEq, nM1, nM2, litLt0, one01, zero01, oneNe0, xupE, xupA, xupK, xI_I, xS_I, xF_I, xJ_I, xI_R, xS_R, xF_R, xJ_R, xI_L, xS_L, xF_L, xJ_L, xcat_s, le46, ge16, or_true, true_or, false_or, or_false, eq_self, Option.toList_some, Option.toList_none, List.cons_append, List.nil_append, true_and, and_true, not_false_eq_true, not_true_eq_false, if_true, if_false, Nat.le_refl]
          rw [e1]
          exact hQ M1 k1
        · rintro i ⟨M1, m⟩ hi' ⟨k1, e1, z1⟩ ih
          dsimp only at k1 e1 ⊢
          rw [iter_s, ← e1, yr1] at ih
          rw [B_264_34]
          simp (disch := omega) only [lAdd, addL, lMul, mulL, nMul, nI_add, subL, lSub, nSub, nDec, nCl, lCl, nVp, lVp, nLe, nLt, nEq, lLe, leL, lLt, ltL, eqL, lEq, nM1, nM2, litLt0, one01, zero01, oneNe0, xupE, xupA, xupK, xI_I, xS_I, xF_I, xJ_I, xI_R, xS_R, xF_R, xJ_R, xI_L, xS_L, xF_L, xJ_L, xcat_s, le46, ge16, or_true, true_or, false_or, or_false, eq_self, Option.toList_some, Option.toList_none, List.cons_append, List.nil_append, true_and, and_true, not_false_eq_true, not_true_eq_false, if_true, if_false, if_neg, k1.1.d, k1.1.tx.f, k1.1.tx.n, k1.1.tx.r, k1.1.of.f, k1.1.of.v, c_seed k1.1.tx, c_wet k1.1.tx, B_264_49, B_264_59]
          refine c_goAhead k1 hi hn ?_
          intro M2 k2 f2
          simp (disch := omega) only [lAdd, addL, lMul, mulL, nMul, nI_add, subL, lSub, nSub, nDec, nCl, lCl, nVp, lVp, nLe, nLt, nEq, lLe, leL, lLt, ltL, eqL, lEq, nM1, nM2, litLt0, one01, zero01, oneNe0, xupE, xupA, xupK, xI_I, xS_I, xF_I, xJ_I, xI_R, xS_R, xF_R, xJ_R, xI_L, xS_L, xF_L, xJ_L, xcat_s, le46, ge16, or_true, true_or, false_or, or_false, eq_self, Option.toList_some, Option.toList_none, List.cons_append, List.nil_append, true_and, and_true, not_false_eq_true, not_true_eq_false, if_true, if_false, B_264_62, k2.1.d, k2.1.tx.f, k2.1.tx.n, k2.1.tx.r, k2.1.of.f, k2.1.of.v, f2.f, f2.v]
          have fin : ∀ m' : Int32, m' = (if ¬ oW (daysF (zT S) (tS (zT S) 2 + nI i) (tS (zT S) 1) n (zF S)) l = 2 then m else m + 1) → RG xprog 264 78 [some (.ref 16), some (.int (nI l)), some (.int (nI n)), some (.int (nI s)), some (.int m'), some (.int (nI i))] [] M2 Q := by
            intro m' hm
            rw [B_264_78]
            simp (disch := omega) only [lAdd, addL, lMul, mulL, nMul, nI_add, subL, lSub, nSub, nDec, nCl, lCl, nVp, lVp, nLe, nLt, nEq, lLe, leL, lLt, ltL, eqL, lEq, nM1, nM2, litLt0, one01, zero01, oneNe0, xupE, xupA, xupK, xI_I, xS_I, xF_I, xJ_I, xI_R, xS_R, xF_R, xJ_R, xI_L, xS_L, xF_L, xJ_L, xcat_s, le46, ge16, or_true, true_or, false_or, or_false, eq_self, Option.toList_some, Option.toList_none, List.cons_append, List.nil_append, true_and, and_true, not_false_eq_true, not_true_eq_false, if_true, if_false, k2.1.d, k2.1.tx.f, k2.1.tx.n, k2.1.tx.r, k2.1.of.f, k2.1.of.v, c_hasChance k2.1.tx, B_264_85]
            by_cases c1 : tS (zT S) 1 ≤ 0 ∨ 100 ≤ tS (zT S) 1
            · have ez : (if tS (zT S) 1 ≤ 0 then (0 : Int32) else if 100 ≤ tS (zT S) 1 then 0 else 1) = 0 := by
                rcases c1 with q | q
                · rw [if_pos q]
                · by_cases q' : tS (zT S) 1 ≤ 0
                  · rw [if_pos q']
                  · rw [if_neg q', if_pos q]
              rw [ez, if_neg (fun q => q rfl)]
              have i0 := z1 c1
              subst i0
              have m0 : m = 0 := e1
              have q := hQ M2 k2
              rw [yr_const (F := zF S) c1 hi.1.2.2.2.2.2.1 l n] at q
              by_cases hc : oW (daysF (zT S) (tS (zT S) 2 + nI 0) (tS (zT S) 1) n (zF S)) l = 2
              · rw [if_neg (fun z => z hc)] at q hm
                have e : m' * nI s = nI s := by
                  rw [hm, m0, show (0 : Int32) + 1 = nI 1 from rfl, nMul, Nat.one_mul]
                rw [e]
                exact q
              · rw [if_pos hc] at q hm
                have e : m' * nI s = 0 := by
                  rw [hm, m0, show (0 : Int32) = nI 0 from rfl, nMul, Nat.zero_mul]
                rw [e]
                exact q
            · have ez : (if tS (zT S) 1 ≤ 0 then (0 : Int32) else if 100 ≤ tS (zT S) 1 then 0 else 1) = 1 := by
                rw [if_neg (fun q => c1 (Or.inl q)), if_neg (fun q => c1 (Or.inr q))]
              rw [ez, if_pos (by decide)]
              rw [← hm] at ih
              exact ih (M2, m') ⟨k2, rfl, fun q => absurd q c1⟩
          by_cases hc : oW (daysF (zT S) (tS (zT S) 2 + nI i) (tS (zT S) 1) n (zF S)) l = 2
          · rw [if_neg (fun q => q hc)]
            exact fin _ (by rw [if_neg (fun q => q hc)])
          · rw [if_pos hc]
            exact fin _ (by rw [if_pos hc])
      · rw [if_neg (fun q => hz q.2.2)] at hQ
        by_cases h0 : z < 1
        · rw [if_pos h0]
          exact hQ M h
        · rw [if_neg h0, if_neg (fun q => hz ⟨h0, by rw [← le_nlt]; exact q⟩)]
          exact hQ M h
    · rw [if_neg hy, if_pos rfl]
      rw [if_neg (fun q => hy q.2.1)] at hQ
      exact hQ M h
  · rw [if_neg hx, if_pos rfl]
    rw [if_neg (fun q => hx q.1)] at hQ
    exact hQ M h
theorem r_year {M0 M : XM} {lv B : Nat} {S : XS} {x y z : Int32} {Q : Option Value → XM → Prop} (h : RK M0 lv S M) (hi : SInv B S) (hB : B ≤ 99000)
    (hQ : ∀ M' : XM, RK M0 lv S M' → Q (some (.int (A_year S x y z))) M') :
    RG xprog 265 0 [some (.ref 439), some (.int x), some (.int y), some (.int z), none, none] [] M Q := by
  have n7 := h.1.1.n7
  unfold A_year at hQ
  rw [B_265_0]
  simp (disch := omega) only [h.1.1.1.s, r_isLetter h.1.1, B_265_5, r_isLong, B_265_12, r_in, B_265_22, lAdd, addL, lMul, mulL, nMul, nI_add, subL, lSub, nSub, nDec, nCl, lCl, nVp, lVp, nLe, nLt, nEq, lLe, leL, lLt, ltL, eqL, lEq, nM1, nM2, litLt0, one01, zero01, oneNe0, xupE, xupA, xupK, xI_I, xS_I, xF_I, xJ_I, xI_R, xS_R, xF_R, xJ_R, xI_L, xS_L, xF_L, xJ_L, xcat_s, le46, ge16, or_true, true_or, false_or, or_false, eq_self, Option.toList_some, Option.toList_none, List.cons_append, List.nil_append, true_and, and_true, not_false_eq_true, not_true_eq_false, if_true, if_false]
  by_cases hx : isLb (tN (zT S)) x
  · rw [if_pos hx, if_neg (by decide)]
    by_cases hy : inb y 0 60
    · rw [if_pos hy, if_neg (by decide)]
      by_cases hz : inb z 1 20
      · rw [if_pos hz, if_pos (by decide)]
        rw [if_pos ⟨hx, hy, hz⟩] at hQ
        obtain ⟨l, hl, rfl⟩ := isLb_get hx (by omega)
        obtain ⟨n, hn, rfl⟩ := inb60 hy
        obtain ⟨s, s1, s2, rfl⟩ := inb20 hz
        rw [cN_n (by omega), cN_n (by omega), cN_n (by omega)] at hQ
        have l7 : l < 7 := by omega
        refine x_for s (fun i (q : XM × Int32) => RK M0 lv S q.1 ∧ q.2 = iter (yr1 (zT S) (zF S) l n) i 0) (fun i q => RG xprog 265 33 [some (.ref 439), some (.int (nI l)), some (.int (nI n)), some (.int (nI s)), some (.int q.2), some (.int (nI i))] [] q.1 Q) ?_ ?_ 0 (M, 0) (by omega) ⟨h, rfl⟩
        · rintro ⟨M1, m⟩ ⟨k1, e1⟩
          dsimp only at k1 e1 ⊢
          rw [B_265_33]
          simp (disch := omega) only [lAdd, addL, lMul, mulL, nMul, nI_add, subL, lSub, nSub, nDec, nCl, lCl, nVp, lVp, nLe, nLt, nEq, lLe, leL, lLt, ltL, eqL, lEq, nM1, nM2, litLt0, one01, zero01, oneNe0, xupE, xupA, xupK, xI_I, xS_I, xF_I, xJ_I, xI_R, xS_R, xF_R, xJ_R, xI_L, xS_L, xF_L, xJ_L, xcat_s, le46, ge16, or_true, true_or, false_or, or_false, eq_self, Option.toList_some, Option.toList_none, List.cons_append, List.nil_append, true_and, and_true, not_false_eq_true, not_true_eq_false, if_true, if_false, Nat.le_refl]
          rw [e1]
          exact hQ M1 k1
        · rintro i ⟨M1, m⟩ hi' ⟨k1, e1⟩ ih
          dsimp only at k1 e1 ⊢
          rw [iter_s, ← e1, yr1] at ih
          rw [B_265_33]
          simp (disch := omega) only [lAdd, addL, lMul, mulL, nMul, nI_add, subL, lSub, nSub, nDec, nCl, lCl, nVp, lVp, nLe, nLt, nEq, lLe, leL, lLt, ltL, eqL, lEq, nM1, nM2, litLt0, one01, zero01, oneNe0, xupE, xupA, xupK, xI_I, xS_I, xF_I, xJ_I, xI_R, xS_R, xF_R, xJ_R, xI_L, xS_L, xF_L, xJ_L, xcat_s, le46, ge16, or_true, true_or, false_or, or_false, eq_self, Option.toList_some, Option.toList_none, List.cons_append, List.nil_append, true_and, and_true, not_false_eq_true, not_true_eq_false, if_true, if_false, if_neg, k1.1.1.1.s]
          refine r_copies k1 hi (by omega) ?_
          intro M2 h2
          simp (disch := omega) only [lAdd, addL, lMul, mulL, nMul, nI_add, subL, lSub, nSub, nDec, nCl, lCl, nVp, lVp, nLe, nLt, nEq, lLe, leL, lLt, ltL, eqL, lEq, nM1, nM2, litLt0, one01, zero01, oneNe0, xupE, xupA, xupK, xI_I, xS_I, xF_I, xJ_I, xI_R, xS_R, xF_R, xJ_R, xI_L, xS_L, xF_L, xJ_L, xcat_s, le46, ge16, or_true, true_or, false_or, or_false, eq_self, Option.toList_some, Option.toList_none, List.cons_append, List.nil_append, true_and, and_true, not_false_eq_true, not_true_eq_false, if_true, if_false, B_265_43, h2.2.1.s.s, h2.2.1.s.f, h2.2.1.v, h2.2.1.n, h2.2.1.r, h2.2.2.1]
          have e : Ex (fun a k => a = 439 ∧ k = 52) M2 (xmI M2 439 52 (tS (zT S) 2 + nI i)) := (Ex.refl _ _).wr _ ⟨rfl, rfl⟩
          have h3 : RQ M0 lv S (zF S) (tS (zT S) 2 + nI i) 0 (xmI M2 439 52 (tS (zT S) 2 + nI i)) := by
            refine ⟨h2.1.step e (fun a k q => ?_), h2.2.1.ex e (fun a k q => ?_), ?_, ?_⟩
            · unfold rS
              omega
            · unfold rNT
              omega
            · simp (disch := omega) only [lAdd, addL, lMul, mulL, nMul, nI_add, subL, lSub, nSub, nDec, nCl, lCl, nVp, lVp, nLe, nLt, nEq, lLe, leL, lLt, ltL, eqL, lEq, nM1, nM2, litLt0, one01, zero01, oneNe0, xupE, xupA, xupK, xI_I, xS_I, xF_I, xJ_I, xI_R, xS_R, xF_R, xJ_R, xI_L, xS_L, xF_L, xJ_L, xcat_s, le46, ge16, or_true, true_or, false_or, or_false, eq_self, Option.toList_some, Option.toList_none, List.cons_append, List.nil_append, true_and, and_true, not_false_eq_true, not_true_eq_false, if_true, if_false]
            · simp (disch := omega) only [lAdd, addL, lMul, mulL, nMul, nI_add, subL, lSub, nSub, nDec, nCl, lCl, nVp, lVp, nLe, nLt, nEq, lLe, leL, lLt, ltL, eqL, lEq, nM1, nM2, litLt0, one01, zero01, oneNe0, xupE, xupA, xupK, xI_I, xS_I, xF_I, xJ_I, xI_R, xS_R, xF_R, xJ_R, xI_L, xS_L, xF_L, xJ_L, xcat_s, le46, ge16, or_true, true_or, false_or, or_false, eq_self, Option.toList_some, Option.toList_none, List.cons_append, List.nil_append, true_and, and_true, not_false_eq_true, not_true_eq_false, if_true, if_false]
              exact h2.2.2.2
          refine q_goes (wet := tS (zT S) 1) h3 (Or.inr ⟨rfl, rfl⟩) hi.2.2.1 (by omega) ?_
          intro M4 h4
          simp (disch := omega) only [lAdd, addL, lMul, mulL, nMul, nI_add, subL, lSub, nSub, nDec, nCl, lCl, nVp, lVp, nLe, nLt, nEq, lLe, leL, lLt, ltL, eqL, lEq, nM1, nM2, litLt0, one01, zero01, oneNe0, xupE, xupA, xupK, xI_I, xS_I, xF_I, xJ_I, xI_R, xS_R, xF_R, xJ_R, xI_L, xS_L, xF_L, xJ_L, xcat_s, le46, ge16, or_true, true_or, false_or, or_false, eq_self, Option.toList_some, Option.toList_none, List.cons_append, List.nil_append, true_and, and_true, not_false_eq_true, not_true_eq_false, if_true, if_false, B_265_59, h4.2.1.s.s, h4.2.1.s.f, h4.2.1.v, h4.2.1.n, h4.2.1.r, h4.2.1.l l7]
          by_cases hc : oW (daysF (zT S) (tS (zT S) 2 + nI i) (tS (zT S) 1) n (zF S)) l = 2
          · rw [if_neg (fun q => q hc)]
            rw [if_neg (fun q => q hc)] at ih
            exact ih (M4, _) ⟨h4.1, rfl⟩
          · rw [if_pos hc]
            rw [if_pos hc] at ih
            exact ih (M4, _) ⟨h4.1, rfl⟩
      · rw [if_neg hz, if_neg (by decide)]
        rw [if_neg (fun q => hz q.2.2)] at hQ
        exact hQ M h
    · rw [if_neg hy, if_pos rfl]
      rw [if_neg (fun q => hy q.2.1)] at hQ
      exact hQ M h
  · rw [if_neg hx, if_pos rfl]
    rw [if_neg (fun q => hx q.1)] at hQ
    exact hQ M h
