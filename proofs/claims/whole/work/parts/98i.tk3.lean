/-! tokens: words -/
/-- the code of the first k letters from j on, eight at most -/
def nmv (b : Nat) (c : Nat → Nat) (j : Nat) : Nat → Nat
  | 0 => 0
  | k + 1 => if k < 8 then nmv b c j k * b + (c (j + k) - 96) else nmv b c j k
theorem nmv_s (b : Nat) (c : Nat → Nat) (j k : Nat) : nmv b c j (k + 1) = if k < 8 then nmv b c j k * b + (c (j + k) - 96) else nmv b c j k := rfl
theorem to64 {d : Nat} (h : d ≤ 26) : Int32.toInt64 (nI d) = Int64.ofNat d := by
  have : ∀ d : Fin 27, Int32.toInt64 (nI d.val) = Int64.ofNat d.val := by decide
  exact this ⟨d, by omega⟩
theorem nm_step {a ch : Nat} (h1 : 97 ≤ ch) (h2 : ch ≤ 122) : Int64.ofNat a * 32 + Int32.toInt64 (nI ch - 97 + 1) = Int64.ofNat (a * 32 + (ch - 96)) := by
  rw [subL (n := 97) h1, addL (n := 1)]
  have e : (ch - (OfNat.ofNat 97 : Nat) + (OfNat.ofNat 1 : Nat)) = ch - 96 := by show ch - 97 + 1 = ch - 96; omega
  rw [e, to64 (by omega), Int64.ofNat_add, Int64.ofNat_mul]
  rfl
def kdw (x : Int64) : Nat := if fstN (fun w => decide (cwF w 8 = x)) 21 0 < 21 then 13 + fstN (fun w => decide (cwF w 8 = x)) 21 0 else 2
theorem lgc (x y : Int64) : (lg_cmp x y = 0) = (x = y) := by
  unfold lg_cmp
  apply propext
  by_cases q1 : x > y
  · rw [if_pos q1]
    exact ⟨fun h => absurd h (by decide), fun h => by rw [h] at q1; exact absurd q1 (Int64.lt_irrefl)⟩
  · rw [if_neg q1]
    by_cases q2 : x = y
    · rw [if_pos q2]; exact ⟨fun _ => q2, fun _ => rfl⟩
    · rw [if_neg q2]; exact ⟨fun h => absurd h (by decide), fun h => absurd h q2⟩
theorem c_kindOfName {M : XM} {n : Nat} {c : Nat → Nat} {Q : Option Value → XM → Prop} (h : TK M n c) : RG xprog 45 0 [some (.ref 20), none] [] M Q = Q (some (.int (nI (kdw (xJ M 20 6))))) M := by
  rw [B_45_0]
  unfold kdw
  have loop : ∀ f w, w + f = 21 → RG xprog 45 2 [some (.ref 20), some (.int (nI w))] [] M Q = Q (some (.int (nI (if fstN (fun w => decide (cwF w 8 = xJ M 20 6)) f w < 21 then 13 + fstN (fun w => decide (cwF w 8 = xJ M 20 6)) f w else 2)))) M := by
    intro f
    induction f with
    | zero =>
      intro w hw
      rw [B_45_2]
      simp (disch := omega) only [lAdd, addL, lMul, mulL, nMul, nI_add, subL, lSub, nSub, nDec, nCl, lCl, nVp, lVp, nLe, nLt, nEq, lLe, leL, lLt, ltL, eqL, lEq, nM1, nM2, litLt0, one01, zero01, oneNe0, xupE, xupA, xupK, xI_I, xS_I, xF_I, xJ_I, xI_R, xS_R, xF_R, xJ_R, xI_L, xS_L, xF_L, xJ_L, xcat_s, le46, ge16, or_true, true_or, false_or, or_false, eq_self, Option.toList_some, Option.toList_none, List.cons_append, List.nil_append, true_and, and_true, not_false_eq_true, not_true_eq_false, if_true, if_false, if_pos]
      rw [if_neg (show ¬ fstN (fun w => decide (cwF w 8 = xJ M 20 6)) 0 w < 21 from by show ¬ w < 21; omega)]
      rfl
    | succ f ih =>
      intro w hw
      rw [B_45_2, fstN_s]
      simp (disch := omega) only [lAdd, addL, lMul, mulL, nMul, nI_add, subL, lSub, nSub, nDec, nCl, lCl, nVp, lVp, nLe, nLt, nEq, lLe, leL, lLt, ltL, eqL, lEq, nM1, nM2, litLt0, one01, zero01, oneNe0, xupE, xupA, xupK, xI_I, xS_I, xF_I, xJ_I, xI_R, xS_R, xF_R, xJ_R, xI_L, xS_L, xF_L, xJ_L, xcat_s, le46, ge16, or_true, true_or, false_or, or_false, eq_self, Option.toList_some, Option.toList_none, List.cons_append, List.nil_append, true_and, and_true, not_false_eq_true, not_true_eq_false, if_true, if_false, if_neg, h.1, h.2.2.2.2.2 w (show w < 21 by omega), lgc, ih (w + 1) (by omega)]
      by_cases q : cwF w 8 = xJ M 20 6
      · rw [if_neg (fun z => z q), decide_eq_true q, if_pos (show true = true from rfl), if_pos (show w < 21 by omega)]
      · rw [if_pos q, decide_eq_false q, if_neg (show ¬ false = true by decide)]
  exact loop 21 0 (by omega)
theorem rn_lf (p : Nat → Bool) (n : Nat) : ∀ f i, rn p n f i ≤ i + f := by
  intro f
  induction f with
  | zero => intro i; exact Nat.le_refl _
  | succ f ih =>
    intro i
    rw [rn_s]
    split
    · have := ih (i + 1); omega
    · omega
theorem kdw_le (x : Int64) : kdw x ≤ 33 := by unfold kdw; split <;> omega
theorem c_scanWord {M : XM} {n j : Nat} {c : Nat → Nat} {Q : Option Value → XM → Prop} (h : TK M n c) (ha : xI M 20 2 = nI j) (hs : xI M 20 4 = nI j) (hj : j ≤ 2000) (hc : ∀ k, c k < 256)
    (hQ : ∀ M' : XM, E3 tkP tkJ noF M M' → xI M' 20 2 = nI (rn (isWd c) n 2000 j) → xI M' 20 4 = nI j → xJ M' 20 6 = Int64.ofNat (nmv 32 c j (rn (isWd c) n 2000 j - j)) → xI M' 20 3 = (if rn (isWd c) n 2000 j - j ≤ 8 then nI (kdw (Int64.ofNat (nmv 32 c j (rn (isWd c) n 2000 j - j)))) else 1) → Q none M') :
    RG xprog 46 0 [some (.ref 20), none] [] M Q := by
  have hn := h.2.2.1
  rw [B_46_0]
  simp (disch := omega) only [h.1, lAdd, addL, lMul, mulL, nMul, nI_add, subL, lSub, nSub, nDec, nCl, lCl, nVp, lVp, nLe, nLt, nEq, lLe, leL, lLt, ltL, eqL, lEq, nM1, nM2, litLt0, one01, zero01, oneNe0, xupE, xupA, xupK, xI_I, xS_I, xF_I, xJ_I, xI_R, xS_R, xF_R, xJ_R, xI_L, xS_L, xF_L, xJ_L, xcat_s, le46, ge16, or_true, true_or, false_or, or_false, eq_self, Option.toList_some, Option.toList_none, List.cons_append, List.nil_append, true_and, and_true, not_false_eq_true, not_true_eq_false, if_true, if_false]
  have loop : ∀ f k (M1 : XM), k + f = 2000 → E3 tkP tkJ noF M M1 → xI M1 20 2 = nI (j + k) → xI M1 20 4 = nI j → xJ M1 20 6 = Int64.ofNat (nmv 32 c j k) → (∀ (M' : XM) (x : Int32), E3 tkP tkJ noF M M' → xI M' 20 2 = nI (rn (isWd c) n f (j + k)) → xI M' 20 4 = nI j → xJ M' 20 6 = Int64.ofNat (nmv 32 c j (rn (isWd c) n f (j + k) - j)) → RG xprog 46 68 [some (.ref 20), some (.int x)] [] M' Q) → RG xprog 46 7 [some (.ref 20), some (.int (nI k))] [] M1 Q := by
    intro f
    induction f with
    | zero =>
      intro k M1 hk e1 a1 s1 n1 q1
      rw [B_46_7]
      simp (disch := omega) only [lAdd, addL, lMul, mulL, nMul, nI_add, subL, lSub, nSub, nDec, nCl, lCl, nVp, lVp, nLe, nLt, nEq, lLe, leL, lLt, ltL, eqL, lEq, nM1, nM2, litLt0, one01, zero01, oneNe0, xupE, xupA, xupK, xI_I, xS_I, xF_I, xJ_I, xI_R, xS_R, xF_R, xJ_R, xI_L, xS_L, xF_L, xJ_L, xcat_s, le46, ge16, or_true, true_or, false_or, or_false, eq_self, Option.toList_some, Option.toList_none, List.cons_append, List.nil_append, true_and, and_true, not_false_eq_true, not_true_eq_false, if_true, if_false, if_pos]
      refine q1 M1 _ e1 a1 s1 ?_
      rw [n1]
      congr 2
      show k = j + k - j
      omega
    | succ f ih =>
      intro k M1 hk e1 a1 s1 n1 q1
      have h1 := h.tk e1
      rw [B_46_7]
      simp (disch := omega) only [lAdd, addL, lMul, mulL, nMul, nI_add, subL, lSub, nSub, nDec, nCl, lCl, nVp, lVp, nLe, nLt, nEq, lLe, leL, lLt, ltL, eqL, lEq, nM1, nM2, litLt0, one01, zero01, oneNe0, xupE, xupA, xupK, xI_I, xS_I, xF_I, xJ_I, xI_R, xS_R, xF_R, xJ_R, xI_L, xS_L, xF_L, xJ_L, xcat_s, le46, ge16, or_true, true_or, false_or, or_false, eq_self, Option.toList_some, Option.toList_none, List.cons_append, List.nil_append, true_and, and_true, not_false_eq_true, not_true_eq_false, if_true, if_false, if_neg, h1.1, c_signHere h1 a1 (show j + k ≤ 5000 by omega), B_46_18, c_isLower (n := n) (i := j + k) (c := c) (fun _ => hc _), B_46_21]
      rw [rn_s] at q1
      by_cases q : j + k < n ∧ isWd c (j + k) = true
      · rw [if_pos q, if_neg (by decide)]
        rw [if_pos q] at q1
        have dg := (isWd_i c (j + k)).mp q.2
        have put : ∀ x : Int64, x = Int64.ofNat (nmv 32 c j (k + 1)) → RG xprog 46 49 [some (.ref 20), some (.int (nI k))] [.long x, .ref 20] M1 Q := by
          intro x hx
          rw [B_46_49]
          simp (disch := omega) only [h1.1, a1, lAdd, addL, lMul, mulL, nMul, nI_add, subL, lSub, nSub, nDec, nCl, lCl, nVp, lVp, nLe, nLt, nEq, lLe, leL, lLt, ltL, eqL, lEq, nM1, nM2, litLt0, one01, zero01, oneNe0, xupE, xupA, xupK, xI_I, xS_I, xF_I, xJ_I, xI_R, xS_R, xF_R, xJ_R, xI_L, xS_L, xF_L, xJ_L, xcat_s, le46, ge16, or_true, true_or, false_or, or_false, eq_self, Option.toList_some, Option.toList_none, List.cons_append, List.nil_append, true_and, and_true, not_false_eq_true, not_true_eq_false, if_true, if_false]
          refine ih (k + 1) _ (by omega) ((e1.wJ _ (by unfold tkJ; omega)).wI _ (by unfold tkP; omega)) ?_ ?_ ?_ ?_
          · simp (disch := omega) only [lAdd, addL, lMul, mulL, nMul, nI_add, subL, lSub, nSub, nDec, nCl, lCl, nVp, lVp, nLe, nLt, nEq, lLe, leL, lLt, ltL, eqL, lEq, nM1, nM2, litLt0, one01, zero01, oneNe0, xupE, xupA, xupK, xI_I, xS_I, xF_I, xJ_I, xI_R, xS_R, xF_R, xJ_R, xI_L, xS_L, xF_L, xJ_L, xcat_s, le46, ge16, or_true, true_or, false_or, or_false, eq_self, Option.toList_some, Option.toList_none, List.cons_append, List.nil_append, true_and, and_true, not_false_eq_true, not_true_eq_false, if_true, if_false]; rfl
          · simp (disch := omega) only [lAdd, addL, lMul, mulL, nMul, nI_add, subL, lSub, nSub, nDec, nCl, lCl, nVp, lVp, nLe, nLt, nEq, lLe, leL, lLt, ltL, eqL, lEq, nM1, nM2, litLt0, one01, zero01, oneNe0, xupE, xupA, xupK, xI_I, xS_I, xF_I, xJ_I, xI_R, xS_R, xF_R, xJ_R, xI_L, xS_L, xF_L, xJ_L, xcat_s, le46, ge16, or_true, true_or, false_or, or_false, eq_self, Option.toList_some, Option.toList_none, List.cons_append, List.nil_append, true_and, and_true, not_false_eq_true, not_true_eq_false, if_true, if_false]; exact s1
          · simp (disch := omega) only [lAdd, addL, lMul, mulL, nMul, nI_add, subL, lSub, nSub, nDec, nCl, lCl, nVp, lVp, nLe, nLt, nEq, lLe, leL, lLt, ltL, eqL, lEq, nM1, nM2, litLt0, one01, zero01, oneNe0, xupE, xupA, xupK, xI_I, xS_I, xF_I, xJ_I, xI_R, xS_R, xF_R, xJ_R, xI_L, xS_L, xF_L, xJ_L, xcat_s, le46, ge16, or_true, true_or, false_or, or_false, eq_self, Option.toList_some, Option.toList_none, List.cons_append, List.nil_append, true_and, and_true, not_false_eq_true, not_true_eq_false, if_true, if_false]; rw [hx]
          · exact q1
        by_cases q4 : 8 ≤ k
        · simp (disch := omega) only [lAdd, addL, lMul, mulL, nMul, nI_add, subL, lSub, nSub, nDec, nCl, lCl, nVp, lVp, nLe, nLt, nEq, lLe, leL, lLt, ltL, eqL, lEq, nM1, nM2, litLt0, one01, zero01, oneNe0, xupE, xupA, xupK, xI_I, xS_I, xF_I, xJ_I, xI_R, xS_R, xF_R, xJ_R, xI_L, xS_L, xF_L, xJ_L, xcat_s, le46, ge16, or_true, true_or, false_or, or_false, eq_self, Option.toList_some, Option.toList_none, List.cons_append, List.nil_append, true_and, and_true, not_false_eq_true, not_true_eq_false, if_true, if_false, if_pos, n1, h1.1]
          exact put _ (by rw [nmv_s, if_neg (by omega)])
        · simp (disch := omega) only [lAdd, addL, lMul, mulL, nMul, nI_add, subL, lSub, nSub, nDec, nCl, lCl, nVp, lVp, nLe, nLt, nEq, lLe, leL, lLt, ltL, eqL, lEq, nM1, nM2, litLt0, one01, zero01, oneNe0, xupE, xupA, xupK, xI_I, xS_I, xF_I, xJ_I, xI_R, xS_R, xF_R, xJ_R, xI_L, xS_L, xF_L, xJ_L, xcat_s, le46, ge16, or_true, true_or, false_or, or_false, eq_self, Option.toList_some, Option.toList_none, List.cons_append, List.nil_append, true_and, and_true, not_false_eq_true, not_true_eq_false, if_true, if_false, if_neg, n1, h1.1, c_signHere h1 a1 (show j + k ≤ 5000 by omega), B_46_39, B_9_0, B_46_42, sgn_in q.1]
          refine put _ ?_
          rw [nmv_s, if_pos (by omega)]
          have := nm_step (a := nmv 32 c j k) dg.1 dg.2
          rw [subL (n := 97) dg.1, addL (n := 1)] at this
          exact this
      · rw [if_neg q, if_pos rfl]
        rw [if_neg q] at q1
        refine q1 M1 _ e1 a1 s1 ?_
        rw [n1]
        congr 2
        omega
  have e0 : E3 tkP tkJ noF M (xmL M 20 6 0) := (E3.refl _ _ _ _).wJ _ (by unfold tkJ; omega)
  refine loop 2000 0 _ (by omega) e0 ha hs (by rw [xJ_L, xupE]; rfl) ?_
  intro M2 x e2 a2 s2 n2
  have h2 := h.tk e2
  have g1 := rn_ge (isWd c) n 2000 (j + 0)
  have g2 := rn_lf (isWd c) n 2000 (j + 0)
  have kl := kdw_le (Int64.ofNat (nmv 32 c j (rn (isWd c) n 2000 j - j)))
  rw [B_46_68]
  simp (disch := omega) only [h2.1, a2, s2, lAdd, addL, lMul, mulL, nMul, nI_add, subL, lSub, nSub, nDec, nCl, lCl, nVp, lVp, nLe, nLt, nEq, lLe, leL, lLt, ltL, eqL, lEq, nM1, nM2, litLt0, one01, zero01, oneNe0, xupE, xupA, xupK, xI_I, xS_I, xF_I, xJ_I, xI_R, xS_R, xF_R, xJ_R, xI_L, xS_L, xF_L, xJ_L, xcat_s, le46, ge16, or_true, true_or, false_or, or_false, eq_self, Option.toList_some, Option.toList_none, List.cons_append, List.nil_append, true_and, and_true, not_false_eq_true, not_true_eq_false, if_true, if_false]
  have fin : ∀ y : Int32, y = (if rn (isWd c) n 2000 j - j ≤ 8 then nI (kdw (Int64.ofNat (nmv 32 c j (rn (isWd c) n 2000 j - j)))) else 1) → RG xprog 46 91 [some (.ref 20), some (.int x)] [.int y, .ref 20] M2 Q := by
    intro y hy
    rw [B_46_91]
    simp (disch := omega) only [h2.1, lAdd, addL, lMul, mulL, nMul, nI_add, subL, lSub, nSub, nDec, nCl, lCl, nVp, lVp, nLe, nLt, nEq, lLe, leL, lLt, ltL, eqL, lEq, nM1, nM2, litLt0, one01, zero01, oneNe0, xupE, xupA, xupK, xI_I, xS_I, xF_I, xJ_I, xI_R, xS_R, xF_R, xJ_R, xI_L, xS_L, xF_L, xJ_L, xcat_s, le46, ge16, or_true, true_or, false_or, or_false, eq_self, Option.toList_some, Option.toList_none, List.cons_append, List.nil_append, true_and, and_true, not_false_eq_true, not_true_eq_false, if_true, if_false]
    refine hQ _ (e2.wI _ (by unfold tkP; omega)) ?_ ?_ ?_ ?_
    · simp (disch := omega) only [lAdd, addL, lMul, mulL, nMul, nI_add, subL, lSub, nSub, nDec, nCl, lCl, nVp, lVp, nLe, nLt, nEq, lLe, leL, lLt, ltL, eqL, lEq, nM1, nM2, litLt0, one01, zero01, oneNe0, xupE, xupA, xupK, xI_I, xS_I, xF_I, xJ_I, xI_R, xS_R, xF_R, xJ_R, xI_L, xS_L, xF_L, xJ_L, xcat_s, le46, ge16, or_true, true_or, false_or, or_false, eq_self, Option.toList_some, Option.toList_none, List.cons_append, List.nil_append, true_and, and_true, not_false_eq_true, not_true_eq_false, if_true, if_false]; exact a2
    · simp (disch := omega) only [lAdd, addL, lMul, mulL, nMul, nI_add, subL, lSub, nSub, nDec, nCl, lCl, nVp, lVp, nLe, nLt, nEq, lLe, leL, lLt, ltL, eqL, lEq, nM1, nM2, litLt0, one01, zero01, oneNe0, xupE, xupA, xupK, xI_I, xS_I, xF_I, xJ_I, xI_R, xS_R, xF_R, xJ_R, xI_L, xS_L, xF_L, xJ_L, xcat_s, le46, ge16, or_true, true_or, false_or, or_false, eq_self, Option.toList_some, Option.toList_none, List.cons_append, List.nil_append, true_and, and_true, not_false_eq_true, not_true_eq_false, if_true, if_false]; exact s2
    · exact n2
    · simp (disch := omega) only [lAdd, addL, lMul, mulL, nMul, nI_add, subL, lSub, nSub, nDec, nCl, lCl, nVp, lVp, nLe, nLt, nEq, lLe, leL, lLt, ltL, eqL, lEq, nM1, nM2, litLt0, one01, zero01, oneNe0, xupE, xupA, xupK, xI_I, xS_I, xF_I, xJ_I, xI_R, xS_R, xF_R, xJ_R, xI_L, xS_L, xF_L, xJ_L, xcat_s, le46, ge16, or_true, true_or, false_or, or_false, eq_self, Option.toList_some, Option.toList_none, List.cons_append, List.nil_append, true_and, and_true, not_false_eq_true, not_true_eq_false, if_true, if_false]; exact hy
  by_cases q : rn (isWd c) n 2000 j - j ≤ 8
  · rw [if_pos (show rn (isWd c) n 2000 (j + 0) - j ≤ 8 from q), c_kindOfName h2]
    simp (disch := omega) only [lAdd, addL, lMul, mulL, nMul, nI_add, subL, lSub, nSub, nDec, nCl, lCl, nVp, lVp, nLe, nLt, nEq, lLe, leL, lLt, ltL, eqL, lEq, nM1, nM2, litLt0, one01, zero01, oneNe0, xupE, xupA, xupK, xI_I, xS_I, xF_I, xJ_I, xI_R, xS_R, xF_R, xJ_R, xI_L, xS_L, xF_L, xJ_L, xcat_s, le46, ge16, or_true, true_or, false_or, or_false, eq_self, Option.toList_some, Option.toList_none, List.cons_append, List.nil_append, true_and, and_true, not_false_eq_true, not_true_eq_false, if_true, if_false, n2]
    exact fin _ (by rw [if_pos q]; rfl)
  · rw [if_neg (show ¬ rn (isWd c) n 2000 (j + 0) - j ≤ 8 from q)]
    exact fin 1 (by rw [if_neg q])
