/-! dealt: the best dealing, letters from the last one on -/
def bs (T : XT) (F : XO) : Nat → Nat → Int32
  | 0, _ => 0
  | k + 1, tk => iter (fun a b => if tab T F (tN T - (k + 1)) a ≤ 0 ∨ tk.testBit a = true then b else if b < tab T F (tN T - (k + 1)) a + bs T F k (tk ||| 2 ^ a) then tab T F (tN T - (k + 1)) a + bs T F k (tk ||| 2 ^ a) else b) (tR T) (bs T F k tk)
def bsx (T : XT) (F : XO) (l tk : Nat) : Int32 := bs T F (tN T - l) tk
def wth (T : XT) (F : XO) (l a tk : Nat) : Int32 := tab T F l a + bsx T F (l + 1) (tk ||| 2 ^ a)
abbrev ncan (T : XT) (F : XO) (l a tk : Nat) : Prop := tab T F l a ≤ 0 ∨ tk.testBit a = true
def bs1 (T : XT) (F : XO) (l tk a : Nat) (b : Int32) : Int32 := if ncan T F l a tk then b else if b < wth T F l a tk then wth T F l a tk else b
theorem bsx_n (T : XT) (F : XO) (tk : Nat) : bsx T F (tN T) tk = 0 := by unfold bsx; rw [Nat.sub_self]; rfl
theorem bsx_l (T : XT) (F : XO) {l : Nat} (hl : l < tN T) (tk : Nat) : bsx T F l tk = iter (bs1 T F l tk) (tR T) (bsx T F (l + 1) tk) := by
  have e : tN T - l = (tN T - (l + 1)) + 1 := by omega
  have e2 : tN T - ((tN T - (l + 1)) + 1) = l := by omega
  unfold bsx
  rw [e, bs, e2]
  rfl
def lwF (T : XT) (F : XO) (l tk : Nat) : Nat → Nat → Int32
  | 0, _ => -2
  | k + 1, a => if ncan T F l a tk then lwF T F l tk k (a + 1) else if wth T F l a tk = bsx T F l tk then nI a else lwF T F l tk k (a + 1)
theorem lwF_s (T : XT) (F : XO) (l tk k a : Nat) : lwF T F l tk (k + 1) a = if ncan T F l a tk then lwF T F l tk k (a + 1) else if wth T F l a tk = bsx T F l tk then nI a else lwF T F l tk k (a + 1) := rfl
def lowF (T : XT) (F : XO) (l tk : Nat) : Int32 := lwF T F l tk (tR T) 0
theorem lwF_or (T : XT) (F : XO) (l tk : Nat) : ∀ k a, lwF T F l tk k a = -2 ∨ ∃ b, b < a + k ∧ lwF T F l tk k a = nI b
  | 0, a => Or.inl rfl
  | k + 1, a => by
    have := lwF_or T F l tk k (a + 1)
    rw [lwF_s]
    have this' : lwF T F l tk k (a + 1) = -2 ∨ ∃ b, b < a + (k + 1) ∧ lwF T F l tk k (a + 1) = nI b := by
      rcases this with q | ⟨b, q1, q2⟩
      · exact Or.inl q
      · exact Or.inr ⟨b, by omega, q2⟩
    split
    · exact this'
    · split
      · exact Or.inr ⟨a, by omega, rfl⟩
      · exact this'
theorem lowF_or (T : XT) (F : XO) (l tk : Nat) : lowF T F l tk = -2 ∨ ∃ b, b < tR T ∧ lowF T F l tk = nI b := by
  have := lwF_or T F l tk (tR T) 0
  rw [Nat.zero_add] at this
  exact this
def tk1 (T : XT) (F : XO) (l tk : Nat) : Nat := if lowF T F l tk = -2 then tk else tk ||| 2 ^ cN (lowF T F l tk)
def tkF (T : XT) (F : XO) (i : Nat) : Nat := iter (tk1 T F) i 0
theorem or64 {m i : Nat} (hm : m < 64) (hi : i < 6) : m ||| 2 ^ i < 64 := by
  have h : 2 ^ i < 64 := by
    have : 2 ^ i ≤ 2 ^ 5 := Nat.pow_le_pow_right (by omega) (by omega)
    omega
  exact Nat.or_lt_two_pow (n := 6) hm h
theorem tkF_lt (T : XT) (F : XO) (r6 : tR T ≤ 6) : ∀ i, tkF T F i < 64
  | 0 => by show 0 < 64; omega
  | i + 1 => by
    have ih := tkF_lt T F r6 i
    show tk1 T F i (tkF T F i) < 64
    unfold tk1
    split
    · exact ih
    · rename_i hc
      rcases lowF_or T F i (tkF T F i) with q | ⟨b, q1, q2⟩
      · exact absurd q hc
      · rw [q2, cN_n (by omega)]
        exact or64 ih (by omega)
/-- liking stands -/
def DL (M : XM) (S : XS) : Prop := ∀ l a, l < tN (zT S) → a < tR (zT S) → xI M (408 + l) a = tab (zT S) (zF S) l a
theorem c_canHave {M0 M : XM} {t l a tk : Nat} {S : XS} {Q : Option Value → XM → Prop} (h : CK M0 t S M) (hd : DL M S) (hl : l < tN (zT S)) (ha : a < tR (zT S)) (hk : tk < 64) :
    RG xprog 188 0 [some (.ref 406), some (.int (nI l)), some (.int (nI a)), some (.int (nI tk))] [] M Q = Q (some (.int (if ncan (zT S) (zF S) l a tk then 0 else 1))) M := by
  have n7 := h.1.tx.n7
  have r6 := h.1.tx.r6
  have ab := and_bit (m := tk) (i := a) (by omega) (by omega)
  rw [B_188_0]
  simp (disch := omega) only [h.1.dl, h.1.dl1 (show l < 7 by omega), hd l a hl ha, lAdd, addL, lMul, mulL, nMul, nI_add, subL, lSub, nSub, nDec, nCl, lCl, nVp, lVp, nLe, nLt, nEq, lLe, leL, lLt, ltL, eqL, lEq, nM1, nM2, litLt0, one01, zero01, oneNe0, xupE, xupA, xupK, xI_I, xS_I, xF_I, xJ_I, xI_R, xS_R, xF_R, xJ_R, xI_L, xS_L, xF_L, xJ_L, xcat_s, le46, ge16, or_true, true_or, false_or, or_false, eq_self, Option.toList_some, Option.toList_none, List.cons_append, List.nil_append, true_and, and_true, not_false_eq_true, not_true_eq_false, if_true, if_false, ite_i]
  congr 3
  by_cases h1 : tab (zT S) (zF S) l a ≤ 0
  · rw [if_pos h1, if_pos (Or.inl h1)]
  · rw [if_neg h1]
    by_cases h2 : tk.testBit a = true
    · rw [if_pos (by rw [ab, h2]; decide), if_pos (Or.inr h2)]
    · rw [if_neg (by rw [ab]; simp only [Bool.not_eq_true] at h2; rw [h2]; simp), if_neg (fun q => q.elim h1 h2)]
theorem c_mostWith {M0 M : XM} {t l a tk : Nat} {S : XS} {Q : Option Value → XM → Prop} (h : CK M0 t S M) (hd : DL M S) (hr : ∀ k, k < 64 → xI M (416 + (l + 1)) k = bsx (zT S) (zF S) (l + 1) k) (hl : l < tN (zT S)) (ha : a < tR (zT S)) (hk : tk < 64) :
    RG xprog 189 0 [some (.ref 406), some (.int (nI l)), some (.int (nI a)), some (.int (nI tk))] [] M Q = Q (some (.int (wth (zT S) (zF S) l a tk))) M := by
  have n7 := h.1.tx.n7
  have r6 := h.1.tx.r6
  have o6 := or64 (i := a) hk (by omega)
  rw [B_189_0]
  simp (disch := omega) only [h.1.dl, h.1.dl1 (show l < 7 by omega), h.1.dl2 (show l + 1 < 8 by omega), hd l a hl ha, or_bit (show a < 8 by omega), hr _ o6, lAdd, addL, lMul, mulL, nMul, nI_add, subL, lSub, nSub, nDec, nCl, lCl, nVp, lVp, nLe, nLt, nEq, lLe, leL, lLt, ltL, eqL, lEq, nM1, nM2, litLt0, one01, zero01, oneNe0, xupE, xupA, xupK, xI_I, xS_I, xF_I, xJ_I, xI_R, xS_R, xF_R, xJ_R, xI_L, xS_L, xF_L, xJ_L, xcat_s, le46, ge16, or_true, true_or, false_or, or_false, eq_self, Option.toList_some, Option.toList_none, List.cons_append, List.nil_append, true_and, and_true, not_false_eq_true, not_true_eq_false, if_true, if_false]
  rfl
theorem c_mostFrom {M0 M : XM} {t l tk : Nat} {S : XS} {Q : Option Value → XM → Prop} (h : CK M0 t S M) (hd : DL M S) (hr : ∀ k, k < 64 → xI M (416 + (l + 1)) k = bsx (zT S) (zF S) (l + 1) k) (hl : l < tN (zT S)) (hk : tk < 64) :
    RG xprog 190 0 [some (.ref 406), some (.int (nI l)), some (.int (nI tk)), some (.int (nI (tR (zT S)))), none, none] [] M Q = Q (some (.int (bsx (zT S) (zF S) l tk))) M := by
  have n7 := h.1.tx.n7
  have r6 := h.1.tx.r6
  rw [B_190_0]
  simp (disch := omega) only [h.1.dl, h.1.dl2 (show l + 1 < 8 by omega), hr tk hk, lAdd, addL, lMul, mulL, nMul, nI_add, subL, lSub, nSub, nDec, nCl, lCl, nVp, lVp, nLe, nLt, nEq, lLe, leL, lLt, ltL, eqL, lEq, nM1, nM2, litLt0, one01, zero01, oneNe0, xupE, xupA, xupK, xI_I, xS_I, xF_I, xJ_I, xI_R, xS_R, xF_R, xJ_R, xI_L, xS_L, xF_L, xJ_L, xcat_s, le46, ge16, or_true, true_or, false_or, or_false, eq_self, Option.toList_some, Option.toList_none, List.cons_append, List.nil_append, true_and, and_true, not_false_eq_true, not_true_eq_false, if_true, if_false]
  rw [bsx_l _ _ hl]
  have loop : ∀ j a, a + j = tR (zT S) → RG xprog 190 15 [some (.ref 406), some (.int (nI l)), some (.int (nI tk)), some (.int (nI (tR (zT S)))), some (.int (iter (bs1 (zT S) (zF S) l tk) a (bsx (zT S) (zF S) (l + 1) tk))), some (.int (nI a))] [] M Q = Q (some (.int (iter (bs1 (zT S) (zF S) l tk) (tR (zT S)) (bsx (zT S) (zF S) (l + 1) tk)))) M := by
    intro j
    induction j with
    | zero =>
      intro a ha
      have : a = tR (zT S) := by omega
      subst this
      rw [B_190_15]
      simp (disch := omega) only [lAdd, addL, lMul, mulL, nMul, nI_add, subL, lSub, nSub, nDec, nCl, lCl, nVp, lVp, nLe, nLt, nEq, lLe, leL, lLt, ltL, eqL, lEq, nM1, nM2, litLt0, one01, zero01, oneNe0, xupE, xupA, xupK, xI_I, xS_I, xF_I, xJ_I, xI_R, xS_R, xF_R, xJ_R, xI_L, xS_L, xF_L, xJ_L, xcat_s, le46, ge16, or_true, true_or, false_or, or_false, eq_self, Option.toList_some, Option.toList_none, List.cons_append, List.nil_append, true_and, and_true, not_false_eq_true, not_true_eq_false, if_true, if_false, Nat.le_refl]
    | succ j ih =>
      intro a ha
      have e := ih (a + 1) (by omega)
      rw [iter_s, bs1] at e
      rw [B_190_15]
      simp (disch := omega) only [lAdd, addL, lMul, mulL, nMul, nI_add, subL, lSub, nSub, nDec, nCl, lCl, nVp, lVp, nLe, nLt, nEq, lLe, leL, lLt, ltL, eqL, lEq, nM1, nM2, litLt0, one01, zero01, oneNe0, xupE, xupA, xupK, xI_I, xS_I, xF_I, xJ_I, xI_R, xS_R, xF_R, xJ_R, xI_L, xS_L, xF_L, xJ_L, xcat_s, le46, ge16, or_true, true_or, false_or, or_false, eq_self, Option.toList_some, Option.toList_none, List.cons_append, List.nil_append, true_and, and_true, not_false_eq_true, not_true_eq_false, if_true, if_false, if_neg, h.1.dl, c_canHave h hd hl (show a < tR (zT S) by omega) hk, B_190_29, c_mostWith h hd hr hl (show a < tR (zT S) by omega) hk, B_190_42]
      by_cases hc : ncan (zT S) (zF S) l a tk
      · rw [if_pos hc, if_pos rfl]
        rw [if_pos hc] at e
        exact e
      · rw [if_neg hc, if_neg (by decide)]
        rw [if_neg hc] at e
        exact e
  exact loop (tR (zT S)) 0 (by omega)
theorem c_fill {M : XM} {b n : Nat} {x : Int32} {Q : Option Value → XM → Prop} (hs : xS M b = (40, n)) (h16 : 16 ≤ b) (hn : n < 1000)
    (hQ : ∀ M' : XM, Ex (fun a _ => a = b) M M' → (∀ k, k < n → xI M' b k = x) → Q none M') :
    RG xprog 187 0 [some (.ref b), some (.int x), none, none] [] M Q := by
  rw [B_187_0]
  simp (disch := omega) only [hs, lAdd, addL, lMul, mulL, nMul, nI_add, subL, lSub, nSub, nDec, nCl, lCl, nVp, lVp, nLe, nLt, nEq, lLe, leL, lLt, ltL, eqL, lEq, nM1, nM2, litLt0, one01, zero01, oneNe0, xupE, xupA, xupK, xI_I, xS_I, xF_I, xJ_I, xI_R, xS_R, xF_R, xJ_R, xI_L, xS_L, xF_L, xJ_L, xcat_s, le46, ge16, or_true, true_or, false_or, or_false, eq_self, Option.toList_some, Option.toList_none, List.cons_append, List.nil_append, true_and, and_true, not_false_eq_true, not_true_eq_false, if_true, if_false, show (40 ≤ 40 ∧ 40 ≤ 46) by omega]
  refine x_for n (fun i M1 => Ex (fun a _ => a = b) M M1 ∧ ∀ k, k < i → xI M1 b k = x) (fun i M1 => RG xprog 187 5 [some (.ref b), some (.int x), some (.int (nI i)), some (.int (nI n))] [] M1 Q) ?_ ?_ 0 M (by omega) ⟨Ex.refl _ _, fun k hk => by omega⟩
  · intro M1 ⟨e1, f1⟩
    rw [B_187_5]
    simp (disch := omega) only [lAdd, addL, lMul, mulL, nMul, nI_add, subL, lSub, nSub, nDec, nCl, lCl, nVp, lVp, nLe, nLt, nEq, lLe, leL, lLt, ltL, eqL, lEq, nM1, nM2, litLt0, one01, zero01, oneNe0, xupE, xupA, xupK, xI_I, xS_I, xF_I, xJ_I, xI_R, xS_R, xF_R, xJ_R, xI_L, xS_L, xF_L, xJ_L, xcat_s, le46, ge16, or_true, true_or, false_or, or_false, eq_self, Option.toList_some, Option.toList_none, List.cons_append, List.nil_append, true_and, and_true, not_false_eq_true, not_true_eq_false, if_true, if_false, Nat.le_refl]
    exact hQ M1 e1 f1
  · intro i M1 hi ⟨e1, f1⟩ ih
    rw [B_187_5]
    simp (disch := omega) only [e1.S, hs, lAdd, addL, lMul, mulL, nMul, nI_add, subL, lSub, nSub, nDec, nCl, lCl, nVp, lVp, nLe, nLt, nEq, lLe, leL, lLt, ltL, eqL, lEq, nM1, nM2, litLt0, one01, zero01, oneNe0, xupE, xupA, xupK, xI_I, xS_I, xF_I, xJ_I, xI_R, xS_R, xF_R, xJ_R, xI_L, xS_L, xF_L, xJ_L, xcat_s, le46, ge16, or_true, true_or, false_or, or_false, eq_self, Option.toList_some, Option.toList_none, List.cons_append, List.nil_append, true_and, and_true, not_false_eq_true, not_true_eq_false, if_true, if_false, if_neg]
    refine ih _ ⟨e1.wr _ rfl, ?_⟩
    intro k hk
    rw [xI_I]
    by_cases q : k = i
    · rw [q, xupE]
    · rw [xupK _ _ q]; exact f1 k (by omega)
theorem DL.ex {M M' : XM} {S : XS} {P : Nat → Nat → Prop} (h : DL M S) (e : Ex P M M') (n7 : tN (zT S) ≤ 7) (hp : ∀ a k, 408 ≤ a → a < 415 → ¬ P a k) : DL M' S := fun l a hl ha => by
  rw [e.I (hp _ _ (by omega) (by omega))]
  exact h l a hl ha
theorem c_choose {M0 M : XM} {t : Nat} {S : XS} {Q : Option Value → XM → Prop} (h : CK M0 t S M) (hd : DL M S) (hr : ∀ j k, j ≤ tN (zT S) → k < 64 → xI M (416 + j) k = bsx (zT S) (zF S) j k) (hw : ∀ l, l < tN (zT S) → xI M 434 l = -2)
    (hQ : ∀ M' : XM, CK M0 t S M' → xI M' 406 6 = xI M 406 6 → (∀ l, l < tN (zT S) → xI M' 434 l = lowF (zT S) (zF S) l (tkF (zT S) (zF S) l)) → Q none M') :
    RG xprog 191 0 [some (.ref 406), some (.ref t), none, none, none] [] M Q := by
  have n7 := h.1.tx.n7
  have r6 := h.1.tx.r6
  rw [B_191_0]
  refine x_for (tN (zT S)) (fun i (s : XM × Option Value) => CK M0 t S s.1 ∧ Ex (fun a _ => a = 434) M s.1 ∧ (∀ l, l < i → xI s.1 434 l = lowF (zT S) (zF S) l (tkF (zT S) (zF S) l)) ∧ ∀ l, i ≤ l → l < tN (zT S) → xI s.1 434 l = -2) (fun i s => RG xprog 191 4 [some (.ref 406), some (.ref t), some (.int (nI (tkF (zT S) (zF S) i))), some (.int (nI i)), s.2] [] s.1 Q) ?_ ?_ 0 (M, none) (by omega) ⟨h, Ex.refl _ _, fun l hl => by omega, fun l _ hl => hw l hl⟩
  · rintro ⟨M1, z⟩ ⟨k1, e1, f1, g1⟩
    dsimp only at k1 e1 f1 g1 ⊢
    rw [B_191_4]
    simp (disch := omega) only [k1.1.d, k1.1.tx.f, k1.1.tx.n, k1.1.tx.r, k1.1.of.f, k1.1.of.v, lAdd, addL, lMul, mulL, nMul, nI_add, subL, lSub, nSub, nDec, nCl, lCl, nVp, lVp, nLe, nLt, nEq, lLe, leL, lLt, ltL, eqL, lEq, nM1, nM2, litLt0, one01, zero01, oneNe0, xupE, xupA, xupK, xI_I, xS_I, xF_I, xJ_I, xI_R, xS_R, xF_R, xJ_R, xI_L, xS_L, xF_L, xJ_L, xcat_s, le46, ge16, or_true, true_or, false_or, or_false, eq_self, Option.toList_some, Option.toList_none, List.cons_append, List.nil_append, true_and, and_true, not_false_eq_true, not_true_eq_false, if_true, if_false, Nat.le_refl]
    exact hQ M1 k1 (e1.I (by omega)) f1
  · rintro l ⟨M1, z⟩ hl ⟨k1, e1, f1, g1⟩ ih
    dsimp only at k1 e1 f1 g1 ⊢
    have t64 := tkF_lt (zT S) (zF S) r6 l
    have d1 : DL M1 S := hd.ex e1 n7 (by intro a k z1 z2; omega)
    have r1 : ∀ j k, j ≤ tN (zT S) → k < 64 → xI M1 (416 + j) k = bsx (zT S) (zF S) j k := fun j k hj hk => by rw [e1.I (by omega)]; exact hr j k hj hk
    -- the end of a letter
    have fin : ∀ (M2 : XM) (a4 : Int32), CK M0 t S M2 → Ex (fun a _ => a = 434) M M2 → (∀ j, j < l → xI M2 434 j = lowF (zT S) (zF S) j (tkF (zT S) (zF S) j)) → (∀ j, l + 1 ≤ j → j < tN (zT S) → xI M2 434 j = -2) → xI M2 434 l = lowF (zT S) (zF S) l (tkF (zT S) (zF S) l) → RG xprog 191 79 [some (.ref 406), some (.ref t), some (.int (nI (tkF (zT S) (zF S) l))), some (.int (nI l)), some (.int a4)] [] M2 Q := by
      intro M2 a4 k2 e2 f2 g2 v2
      have e := ih (M2, some (.int a4)) ⟨k2, e2, ?_, g2⟩
      · have ek : tkF (zT S) (zF S) (l + 1) = tk1 (zT S) (zF S) l (tkF (zT S) (zF S) l) := rfl
        rw [ek] at e
        unfold tk1 at e
        rw [B_191_79]
        simp (disch := omega) only [k2.1.dl, lAdd, addL, lMul, mulL, nMul, nI_add, subL, lSub, nSub, nDec, nCl, lCl, nVp, lVp, nLe, nLt, nEq, lLe, leL, lLt, ltL, eqL, lEq, nM1, nM2, litLt0, one01, zero01, oneNe0, xupE, xupA, xupK, xI_I, xS_I, xF_I, xJ_I, xI_R, xS_R, xF_R, xJ_R, xI_L, xS_L, xF_L, xJ_L, xcat_s, le46, ge16, or_true, true_or, false_or, or_false, eq_self, Option.toList_some, Option.toList_none, List.cons_append, List.nil_append, true_and, and_true, not_false_eq_true, not_true_eq_false, if_true, if_false, v2, B_191_103]
        rcases lowF_or (zT S) (zF S) l (tkF (zT S) (zF S) l) with q | ⟨b, q1, q2⟩
        · rw [q] at e ⊢
          rw [if_neg (fun z => z rfl)]
          rw [if_pos rfl] at e
          rw [Int32.or_zero]
          exact e
        · rw [q2] at e ⊢
          rw [if_pos (by rw [nM2 (by omega)]; exact fun z => z), or_bit (by omega)]
          rw [if_neg (by rw [nM2 (by omega)]; exact fun z => z), cN_n (by omega)] at e
          exact e
      · intro j hj
        by_cases q : j = l
        · rw [q]; exact v2
        · exact f2 j (by omega)
    rw [B_191_4]
    simp (disch := omega) only [k1.1.d, k1.1.tx.f, k1.1.tx.n, k1.1.tx.r, k1.1.of.f, k1.1.of.v, lAdd, addL, lMul, mulL, nMul, nI_add, subL, lSub, nSub, nDec, nCl, lCl, nVp, lVp, nLe, nLt, nEq, lLe, leL, lLt, ltL, eqL, lEq, nM1, nM2, litLt0, one01, zero01, oneNe0, xupE, xupA, xupK, xI_I, xS_I, xF_I, xJ_I, xI_R, xS_R, xF_R, xJ_R, xI_L, xS_L, xF_L, xJ_L, xcat_s, le46, ge16, or_true, true_or, false_or, or_false, eq_self, Option.toList_some, Option.toList_none, List.cons_append, List.nil_append, true_and, and_true, not_false_eq_true, not_true_eq_false, if_true, if_false, if_neg]
    have inner : ∀ j a, a + j = tR (zT S) → lwF (zT S) (zF S) l (tkF (zT S) (zF S) l) j a = lowF (zT S) (zF S) l (tkF (zT S) (zF S) l) → RG xprog 191 15 [some (.ref 406), some (.ref t), some (.int (nI (tkF (zT S) (zF S) l))), some (.int (nI l)), some (.int (nI a))] [] M1 Q := by
      intro j
      induction j with
      | zero =>
        intro a ha hlo
        rw [B_191_15]
        simp (disch := omega) only [k1.1.d, k1.1.tx.f, k1.1.tx.n, k1.1.tx.r, k1.1.of.f, k1.1.of.v, lAdd, addL, lMul, mulL, nMul, nI_add, subL, lSub, nSub, nDec, nCl, lCl, nVp, lVp, nLe, nLt, nEq, lLe, leL, lLt, ltL, eqL, lEq, nM1, nM2, litLt0, one01, zero01, oneNe0, xupE, xupA, xupK, xI_I, xS_I, xF_I, xJ_I, xI_R, xS_R, xF_R, xJ_R, xI_L, xS_L, xF_L, xJ_L, xcat_s, le46, ge16, or_true, true_or, false_or, or_false, eq_self, Option.toList_some, Option.toList_none, List.cons_append, List.nil_append, true_and, and_true, not_false_eq_true, not_true_eq_false, if_true, if_false, if_pos]
        refine fin M1 _ k1 e1 f1 (fun j h1 h2 => g1 j (by omega) h2) ?_
        rw [← hlo]
        exact g1 l (by omega) hl
      | succ j ih2 =>
        intro a ha hlo
        have hal : a < tR (zT S) := by omega
        rw [lwF_s] at hlo
        rw [B_191_15]
        simp (disch := omega) only [k1.1.d, k1.1.tx.f, k1.1.tx.n, k1.1.tx.r, k1.1.of.f, k1.1.of.v, k1.1.dl, lAdd, addL, lMul, mulL, nMul, nI_add, subL, lSub, nSub, nDec, nCl, lCl, nVp, lVp, nLe, nLt, nEq, lLe, leL, lLt, ltL, eqL, lEq, nM1, nM2, litLt0, one01, zero01, oneNe0, xupE, xupA, xupK, xI_I, xS_I, xF_I, xJ_I, xI_R, xS_R, xF_R, xJ_R, xI_L, xS_L, xF_L, xJ_L, xcat_s, le46, ge16, or_true, true_or, false_or, or_false, eq_self, Option.toList_some, Option.toList_none, List.cons_append, List.nil_append, true_and, and_true, not_false_eq_true, not_true_eq_false, if_true, if_false, if_neg, g1 l (Nat.le_refl _) hl, c_canHave k1 d1 hl hal t64, B_191_43, c_mostWith k1 d1 (fun k hk => r1 (l + 1) k (by omega) hk) hl hal t64, B_191_54, k1.1.dl2 (show l < 8 by omega), r1 l _ (Nat.le_of_lt hl) t64]
        by_cases hc : ncan (zT S) (zF S) l a (tkF (zT S) (zF S) l)
        · rw [if_pos hc, if_pos rfl]
          rw [if_pos hc] at hlo
          exact ih2 (a + 1) (by omega) hlo
        · rw [if_neg hc, if_neg (by decide)]
          rw [if_neg hc] at hlo
          by_cases he : wth (zT S) (zF S) l a (tkF (zT S) (zF S) l) = bsx (zT S) (zF S) l (tkF (zT S) (zF S) l)
          · rw [if_neg (fun z => z he)]
            rw [if_pos he] at hlo
            have k2 : CK M0 t S (xmI M1 434 l (nI a)) := k1.wD _ (by unfold dP; omega)
            have e2 : Ex (fun a _ => a = 434) M (xmI M1 434 l (nI a)) := e1.wr _ rfl
            have v2 : xI (xmI M1 434 l (nI a)) 434 l = nI a := by rw [xI_I, xupE]
            have fin2 := fun a4 => fin (xmI M1 434 l (nI a)) a4 k2 e2 (fun j hj => by rw [xI_I, xupK _ _ (by omega)]; exact f1 j hj) (fun j h1 h2 => by rw [xI_I, xupK _ _ (by omega)]; exact g1 j (by omega) h2) (by rw [v2]; exact hlo)
            rw [B_191_15]
            simp (disch := omega) only [k2.1.d, k2.1.tx.f, k2.1.tx.n, k2.1.tx.r, k2.1.of.f, k2.1.of.v, k2.1.dl, lAdd, addL, lMul, mulL, nMul, nI_add, subL, lSub, nSub, nDec, nCl, lCl, nVp, lVp, nLe, nLt, nEq, lLe, leL, lLt, ltL, eqL, lEq, nM1, nM2, litLt0, one01, zero01, oneNe0, xupE, xupA, xupK, xI_I, xS_I, xF_I, xJ_I, xI_R, xS_R, xF_R, xJ_R, xI_L, xS_L, xF_L, xJ_L, xcat_s, le46, ge16, or_true, true_or, false_or, or_false, eq_self, Option.toList_some, Option.toList_none, List.cons_append, List.nil_append, true_and, and_true, not_false_eq_true, not_true_eq_false, if_true, if_false, v2]
            by_cases hr2 : tR (zT S) ≤ a + 1
            · rw [if_pos hr2]
              exact fin2 _
            · rw [if_neg hr2]
              exact fin2 _
          · rw [if_pos he]
            rw [if_neg he] at hlo
            exact ih2 (a + 1) (by omega) hlo
    exact inner (tR (zT S)) 0 (by omega) rfl
theorem c_dealBest {M0 M : XM} {t : Nat} {S : XS} {Q : Option Value → XM → Prop} (h : CK M0 t S M)
    (hQ : ∀ M' : XM, CK M0 t S M' → xI M' 406 6 = bsx (zT S) (zF S) 0 0 → (∀ l, l < tN (zT S) → xI M' 434 l = lowF (zT S) (zF S) l (tkF (zT S) (zF S) l)) → Q none M') :
    RG xprog 192 0 [some (.ref 406), some (.ref t), some (.ref 84), none, none] [] M Q := by
  have n7 := h.1.tx.n7
  have r6 := h.1.tx.r6
  rw [B_192_0]
  simp (disch := omega) only [h.1.dl, lAdd, addL, lMul, mulL, nMul, nI_add, subL, lSub, nSub, nDec, nCl, lCl, nVp, lVp, nLe, nLt, nEq, lLe, leL, lLt, ltL, eqL, lEq, nM1, nM2, litLt0, one01, zero01, oneNe0, xupE, xupA, xupK, xI_I, xS_I, xF_I, xJ_I, xI_R, xS_R, xF_R, xJ_R, xI_L, xS_L, xF_L, xJ_L, xcat_s, le46, ge16, or_true, true_or, false_or, or_false, eq_self, Option.toList_some, Option.toList_none, List.cons_append, List.nil_append, true_and, and_true, not_false_eq_true, not_true_eq_false, if_true, if_false]
  refine c_weigh h ?_
  intro M1 k1 d1 w1
  simp (disch := omega) only [lAdd, addL, lMul, mulL, nMul, nI_add, subL, lSub, nSub, nDec, nCl, lCl, nVp, lVp, nLe, nLt, nEq, lLe, leL, lLt, ltL, eqL, lEq, nM1, nM2, litLt0, one01, zero01, oneNe0, xupE, xupA, xupK, xI_I, xS_I, xF_I, xJ_I, xI_R, xS_R, xF_R, xJ_R, xI_L, xS_L, xF_L, xJ_L, xcat_s, le46, ge16, or_true, true_or, false_or, or_false, eq_self, Option.toList_some, Option.toList_none, List.cons_append, List.nil_append, true_and, and_true, not_false_eq_true, not_true_eq_false, if_true, if_false, B_192_6, k1.1.d, k1.1.tx.f, k1.1.tx.n, k1.1.tx.r, k1.1.of.f, k1.1.of.v, k1.1.dl, k1.1.dl2 (show tN (zT S) < 8 by omega)]
  refine c_fill (k1.1.dl2 (show tN (zT S) < 8 by omega)).2 (by omega) (by omega) ?_
  intro M2 e2 f2
  have k2 : CK M0 t S M2 := k1.stepD (e2.mono fun a k q => by unfold dP; omega)
  have d2 : DL M2 S := fun l a hl ha => by rw [e2.I (by omega)]; exact d1 l a hl ha
  have w2 : ∀ l, l < tN (zT S) → xI M2 434 l = -2 := fun l hl => by rw [e2.I (by omega)]; exact w1 l hl
  simp (disch := omega) only [lAdd, addL, lMul, mulL, nMul, nI_add, subL, lSub, nSub, nDec, nCl, lCl, nVp, lVp, nLe, nLt, nEq, lLe, leL, lLt, ltL, eqL, lEq, nM1, nM2, litLt0, one01, zero01, oneNe0, xupE, xupA, xupK, xI_I, xS_I, xF_I, xJ_I, xI_R, xS_R, xF_R, xJ_R, xI_L, xS_L, xF_L, xJ_L, xcat_s, le46, ge16, or_true, true_or, false_or, or_false, eq_self, Option.toList_some, Option.toList_none, List.cons_append, List.nil_append, true_and, and_true, not_false_eq_true, not_true_eq_false, if_true, if_false, B_192_19, k2.1.d, k2.1.tx.f, k2.1.tx.n, k2.1.tx.r, k2.1.of.f, k2.1.of.v]
  have outer : ∀ l (M3 : XM) (z : Option Value), l ≤ tN (zT S) → CK M0 t S M3 → DL M3 S → (∀ l, l < tN (zT S) → xI M3 434 l = -2) → (∀ j k, l ≤ j → j ≤ tN (zT S) → k < 64 → xI M3 (416 + j) k = bsx (zT S) (zF S) j k) → RG xprog 192 26 [some (.ref 406), some (.ref t), some (.ref 84), some (.int (nI l - 1)), z] [] M3 Q := by
    intro l
    induction l with
    | zero =>
      intro M3 z _ k3 d3 w3 r3
      rw [B_192_26, if_pos (by decide)]
      have r0 := r3 0 0 (by omega) (by omega) (by omega)
      rw [Nat.add_zero] at r0
      simp (disch := omega) only [k3.1.dl, k3.1.dl2 (show 0 < 8 by omega), lAdd, addL, lMul, mulL, nMul, nI_add, subL, lSub, nSub, nDec, nCl, lCl, nVp, lVp, nLe, nLt, nEq, lLe, leL, lLt, ltL, eqL, lEq, nM1, nM2, litLt0, one01, zero01, oneNe0, xupE, xupA, xupK, xI_I, xS_I, xF_I, xJ_I, xI_R, xS_R, xF_R, xJ_R, xI_L, xS_L, xF_L, xJ_L, xcat_s, le46, ge16, or_true, true_or, false_or, or_false, eq_self, Option.toList_some, Option.toList_none, List.cons_append, List.nil_append, true_and, and_true, not_false_eq_true, not_true_eq_false, if_true, if_false, r0]
      have k4 : CK M0 t S (xmI M3 406 6 (bsx (zT S) (zF S) 0 0)) := k3.wD _ (by unfold dP; omega)
      refine c_choose k4 (fun l a hl ha => by rw [xI_I, xupA _ _ _ _ (by omega)]; exact d3 l a hl ha) (fun j k hj hk => by rw [xI_I, xupA _ _ _ _ (by omega)]; exact r3 j k (by omega) hj hk) (fun l hl => by rw [xI_I, xupA _ _ _ _ (by omega)]; exact w3 l hl) ?_
      intro M5 k5 v5 f5
      simp (disch := omega) only [lAdd, addL, lMul, mulL, nMul, nI_add, subL, lSub, nSub, nDec, nCl, lCl, nVp, lVp, nLe, nLt, nEq, lLe, leL, lLt, ltL, eqL, lEq, nM1, nM2, litLt0, one01, zero01, oneNe0, xupE, xupA, xupK, xI_I, xS_I, xF_I, xJ_I, xI_R, xS_R, xF_R, xJ_R, xI_L, xS_L, xF_L, xJ_L, xcat_s, le46, ge16, or_true, true_or, false_or, or_false, eq_self, Option.toList_some, Option.toList_none, List.cons_append, List.nil_append, true_and, and_true, not_false_eq_true, not_true_eq_false, if_true, if_false, B_192_89]
      exact hQ M5 k5 (by rw [v5, xI_I, xupE]) f5
    | succ l ih =>
      intro M3 z hl k3 d3 w3 r3
      rw [B_192_26, show nI (l + 1) - 1 = nI l from nI_pred l]
      simp (disch := omega) only [lAdd, addL, lMul, mulL, nMul, nI_add, subL, lSub, nSub, nDec, nCl, lCl, nVp, lVp, nLe, nLt, nEq, lLe, leL, lLt, ltL, eqL, lEq, nM1, nM2, litLt0, one01, zero01, oneNe0, xupE, xupA, xupK, xI_I, xS_I, xF_I, xJ_I, xI_R, xS_R, xF_R, xJ_R, xI_L, xS_L, xF_L, xJ_L, xcat_s, le46, ge16, or_true, true_or, false_or, or_false, eq_self, Option.toList_some, Option.toList_none, List.cons_append, List.nil_append, true_and, and_true, not_false_eq_true, not_true_eq_false, if_true, if_false, if_neg]
      refine x_for 64 (fun i M4 => CK M0 t S M4 ∧ DL M4 S ∧ (∀ l, l < tN (zT S) → xI M4 434 l = -2) ∧ (∀ j k, l + 1 ≤ j → j ≤ tN (zT S) → k < 64 → xI M4 (416 + j) k = bsx (zT S) (zF S) j k) ∧ ∀ k, k < i → xI M4 (416 + l) k = bsx (zT S) (zF S) l k) (fun i M4 => RG xprog 192 33 [some (.ref 406), some (.ref t), some (.ref 84), some (.int (nI l)), some (.int (nI i))] [] M4 Q) ?_ ?_ 0 M3 (by omega) ⟨k3, d3, w3, r3, fun k hk => by omega⟩
      · intro M4 ⟨k4, d4, w4, r4, q4⟩
        rw [B_192_33]
        simp (disch := omega) only [lAdd, addL, lMul, mulL, nMul, nI_add, subL, lSub, nSub, nDec, nCl, lCl, nVp, lVp, nLe, nLt, nEq, lLe, leL, lLt, ltL, eqL, lEq, nM1, nM2, litLt0, one01, zero01, oneNe0, xupE, xupA, xupK, xI_I, xS_I, xF_I, xJ_I, xI_R, xS_R, xF_R, xJ_R, xI_L, xS_L, xF_L, xJ_L, xcat_s, le46, ge16, or_true, true_or, false_or, or_false, eq_self, Option.toList_some, Option.toList_none, List.cons_append, List.nil_append, true_and, and_true, not_false_eq_true, not_true_eq_false, if_true, if_false, if_pos]
        have := ih M4 (some (.int (nI 64))) (by omega) k4 d4 w4 (fun j k h1 h2 h3 => by
          by_cases q : j = l
          · rw [q]; exact q4 k h3
          · exact r4 j k (by omega) h2 h3)
        rw [Int32.sub_eq_add_neg] at this
        exact this
      · intro i M4 hi ⟨k4, d4, w4, r4, q4⟩ ih2
        rw [B_192_33]
        simp (disch := omega) only [lAdd, addL, lMul, mulL, nMul, nI_add, subL, lSub, nSub, nDec, nCl, lCl, nVp, lVp, nLe, nLt, nEq, lLe, leL, lLt, ltL, eqL, lEq, nM1, nM2, litLt0, one01, zero01, oneNe0, xupE, xupA, xupK, xI_I, xS_I, xF_I, xJ_I, xI_R, xS_R, xF_R, xJ_R, xI_L, xS_L, xF_L, xJ_L, xcat_s, le46, ge16, or_true, true_or, false_or, or_false, eq_self, Option.toList_some, Option.toList_none, List.cons_append, List.nil_append, true_and, and_true, not_false_eq_true, not_true_eq_false, if_true, if_false, if_neg, k4.1.dl, k4.1.dl2 (show l < 8 by omega), k4.1.d, k4.1.tx.f, k4.1.tx.n, k4.1.tx.r, k4.1.of.f, k4.1.of.v]
        rw [c_mostFrom k4 d4 (fun k hk => r4 (l + 1) k (by omega) (by omega) hk) (show l < tN (zT S) by omega) hi]
        simp (disch := omega) only [lAdd, addL, lMul, mulL, nMul, nI_add, subL, lSub, nSub, nDec, nCl, lCl, nVp, lVp, nLe, nLt, nEq, lLe, leL, lLt, ltL, eqL, lEq, nM1, nM2, litLt0, one01, zero01, oneNe0, xupE, xupA, xupK, xI_I, xS_I, xF_I, xJ_I, xI_R, xS_R, xF_R, xJ_R, xI_L, xS_L, xF_L, xJ_L, xcat_s, le46, ge16, or_true, true_or, false_or, or_false, eq_self, Option.toList_some, Option.toList_none, List.cons_append, List.nil_append, true_and, and_true, not_false_eq_true, not_true_eq_false, if_true, if_false, B_192_59, k4.1.dl2 (show l < 8 by omega)]
        refine ih2 _ ⟨k4.wD _ (by unfold dP; omega), ?_, ?_, ?_, ?_⟩
        · intro j a hj ha
          rw [xI_I, xupA _ _ _ _ (by omega)]; exact d4 j a hj ha
        · intro j hj
          rw [xI_I, xupA _ _ _ _ (by omega)]; exact w4 j hj
        · intro j k h1 h2 h3
          rw [xI_I, xupA _ _ _ _ (by omega)]; exact r4 j k h1 h2 h3
        · intro k hk
          rw [xI_I]
          by_cases q : k = i
          · rw [q, xupE]
          · rw [xupK _ _ q]; exact q4 k (by omega)
  refine outer (tN (zT S)) M2 none (Nat.le_refl _) k2 d2 w2 ?_
  intro j k h1 h2 h3
  have : j = tN (zT S) := by omega
  rw [this, bsx_n]
  exact f2 k h3
def A_dealt (S : XS) (x : Int32) : Int32 := if x = -1 then bsx (zT S) (zF S) 0 0 else if isLb (tN (zT S)) x then lowF (zT S) (zF S) (cN x) (tkF (zT S) (zF S) (cN x)) else -1
theorem c_dealt {M0 M : XM} {t : Nat} {S : XS} {x : Int32} {Q : Option Value → XM → Prop} (h : CK M0 t S M)
    (hQ : ∀ M' : XM, CK M0 t S M' → Q (some (.int (A_dealt S x))) M') :
    RG xprog 193 0 [some (.ref 16), some (.int x)] [] M Q := by
  have n7 := h.1.tx.n7
  unfold A_dealt at hQ
  have go : (x = -1 ∨ isLb (tN (zT S)) x) → RG xprog 193 15 [some (.ref 16), some (.int x)] [] M Q := by
    intro hx
    rw [B_193_15]
    simp (disch := omega) only [h.1.d, h.1.tx.f, h.1.tx.n, h.1.tx.r, h.1.of.f, h.1.of.v, h.1.dl, lAdd, addL, lMul, mulL, nMul, nI_add, subL, lSub, nSub, nDec, nCl, lCl, nVp, lVp, nLe, nLt, nEq, lLe, leL, lLt, ltL, eqL, lEq, nM1, nM2, litLt0, one01, zero01, oneNe0, xupE, xupA, xupK, xI_I, xS_I, xF_I, xJ_I, xI_R, xS_R, xF_R, xJ_R, xI_L, xS_L, xF_L, xJ_L, xcat_s, le46, ge16, or_true, true_or, false_or, or_false, eq_self, Option.toList_some, Option.toList_none, List.cons_append, List.nil_append, true_and, and_true, not_false_eq_true, not_true_eq_false, if_true, if_false]
    refine c_dealBest h ?_
    intro M1 k1 v1 f1
    have q := hQ M1 k1
    simp (disch := omega) only [lAdd, addL, lMul, mulL, nMul, nI_add, subL, lSub, nSub, nDec, nCl, lCl, nVp, lVp, nLe, nLt, nEq, lLe, leL, lLt, ltL, eqL, lEq, nM1, nM2, litLt0, one01, zero01, oneNe0, xupE, xupA, xupK, xI_I, xS_I, xF_I, xJ_I, xI_R, xS_R, xF_R, xJ_R, xI_L, xS_L, xF_L, xJ_L, xcat_s, le46, ge16, or_true, true_or, false_or, or_false, eq_self, Option.toList_some, Option.toList_none, List.cons_append, List.nil_append, true_and, and_true, not_false_eq_true, not_true_eq_false, if_true, if_false, B_193_30, k1.1.d, k1.1.tx.f, k1.1.tx.n, k1.1.tx.r, k1.1.of.f, k1.1.of.v, k1.1.dl]
    by_cases h1 : x = -1
    · rw [if_neg (fun z => z h1), v1]
      rw [if_pos h1] at q
      exact q
    · have hl := hx.resolve_left h1
      rw [if_pos h1]
      rw [if_neg h1, if_pos hl] at q
      obtain ⟨l, hl2, rfl⟩ := isLb_get hl (by omega)
      rw [cN_n (by omega)] at q
      simp (disch := omega) only [lAdd, addL, lMul, mulL, nMul, nI_add, subL, lSub, nSub, nDec, nCl, lCl, nVp, lVp, nLe, nLt, nEq, lLe, leL, lLt, ltL, eqL, lEq, nM1, nM2, litLt0, one01, zero01, oneNe0, xupE, xupA, xupK, xI_I, xS_I, xF_I, xJ_I, xI_R, xS_R, xF_R, xJ_R, xI_L, xS_L, xF_L, xJ_L, xcat_s, le46, ge16, or_true, true_or, false_or, or_false, eq_self, Option.toList_some, Option.toList_none, List.cons_append, List.nil_append, true_and, and_true, not_false_eq_true, not_true_eq_false, if_true, if_false, f1 l hl2]
      exact q
  rw [B_193_0]
  simp (disch := omega) only [h.1.d, c_isLetter h.1, B_193_10, lAdd, addL, lMul, mulL, nMul, nI_add, subL, lSub, nSub, nDec, nCl, lCl, nVp, lVp, nLe, nLt, nEq, lLe, leL, lLt, ltL, eqL, lEq, nM1, nM2, litLt0, one01, zero01, oneNe0, xupE, xupA, xupK, xI_I, xS_I, xF_I, xJ_I, xI_R, xS_R, xF_R, xJ_R, xI_L, xS_L, xF_L, xJ_L, xcat_s, le46, ge16, or_true, true_or, false_or, or_false, eq_self, Option.toList_some, Option.toList_none, List.cons_append, List.nil_append, true_and, and_true, not_false_eq_true, not_true_eq_false, if_true, if_false]
  by_cases h1 : x = -1
  · rw [if_pos h1]; exact go (Or.inl h1)
  rw [if_neg h1]
  by_cases h2 : isLb (tN (zT S)) x
  · rw [if_pos h2, if_pos (by decide)]; exact go (Or.inr h2)
  · rw [if_neg h2, if_neg (by decide)]
    rw [if_neg h1, if_neg h2] at hQ
    exact hQ M h
