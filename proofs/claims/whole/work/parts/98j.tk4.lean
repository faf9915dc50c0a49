/-! tokens: signs, and the next token -/
def ixF (x : Int32) : Nat := fstN (fun k => decide (xb70.getD k 0 = (Int32.toInt8 x).toInt32)) 9 0
theorem c_indexOf {M : XM} {ch : Nat} {Q : Option Value → XM → Prop} (h : StrAt M 7 8 9 xb70) (hc : ch < 256) : RG xprog 53 0 [some (.ref 7), some (.int (nI ch))] [] M Q = Q (some (.int (if ixF (nI ch) < 9 then nI (ixF (nI ch)) else -1))) M := by
  obtain ⟨h1, h2, h3, h4, h5⟩ := id h
  rw [B_53_0, B_52_0, B_4_0, if_neg (by decide)]
  simp (disch := omega) only [h1, h2, h4, lAdd, addL, lMul, mulL, nMul, nI_add, subL, lSub, nSub, nDec, nCl, lCl, nVp, lVp, nLe, nLt, nEq, lLe, leL, lLt, ltL, eqL, lEq, nM1, nM2, litLt0, one01, zero01, oneNe0, xupE, xupA, xupK, xI_I, xS_I, xF_I, xJ_I, xI_R, xS_R, xF_R, xJ_R, xI_L, xS_L, xF_L, xJ_L, xcat_s, le46, ge16, or_true, true_or, false_or, or_false, eq_self, Option.toList_some, Option.toList_none, List.cons_append, List.nil_append, true_and, and_true, not_false_eq_true, not_true_eq_false, if_true, if_false, B_52_4, if_neg, c_strlen h, B_52_17, B_51_0, B_49_0, B_51_4, h3]
  have loop : ∀ f k, k + f = 9 → ∀ Q' : Option Value → XM → Prop, RG xprog 50 7 [some (.ref 8), some (.int (nI ch)), some (.int 0), some (.int (nI 9)), some (.int ((Int32.toInt8 (nI ch)).toInt32)), some (.int (nI k))] [] M Q' = Q' (some (.int (if fstN (fun k => decide (xb70.getD k 0 = (Int32.toInt8 (nI ch)).toInt32)) f k < 9 then nI (fstN (fun k => decide (xb70.getD k 0 = (Int32.toInt8 (nI ch)).toInt32)) f k) else -1))) M := by
    intro f
    induction f with
    | zero =>
      intro k hk Q'
      rw [B_50_7]
      simp (disch := omega) only [lAdd, addL, lMul, mulL, nMul, nI_add, subL, lSub, nSub, nDec, nCl, lCl, nVp, lVp, nLe, nLt, nEq, lLe, leL, lLt, ltL, eqL, lEq, nM1, nM2, litLt0, one01, zero01, oneNe0, xupE, xupA, xupK, xI_I, xS_I, xF_I, xJ_I, xI_R, xS_R, xF_R, xJ_R, xI_L, xS_L, xF_L, xJ_L, xcat_s, le46, ge16, or_true, true_or, false_or, or_false, eq_self, Option.toList_some, Option.toList_none, List.cons_append, List.nil_append, true_and, and_true, not_false_eq_true, not_true_eq_false, if_true, if_false, if_pos]
      rw [if_neg (show ¬ fstN (fun k => decide (xb70.getD k 0 = (Int32.toInt8 (nI ch)).toInt32)) 0 k < 9 from by show ¬ k < 9; omega)]
    | succ f ih =>
      intro k hk Q'
      rw [B_50_7, fstN_s]
      simp (disch := omega) only [lAdd, addL, lMul, mulL, nMul, nI_add, subL, lSub, nSub, nDec, nCl, lCl, nVp, lVp, nLe, nLt, nEq, lLe, leL, lLt, ltL, eqL, lEq, nM1, nM2, litLt0, one01, zero01, oneNe0, xupE, xupA, xupK, xI_I, xS_I, xF_I, xJ_I, xI_R, xS_R, xF_R, xJ_R, xI_L, xS_L, xF_L, xJ_L, xcat_s, le46, ge16, or_true, true_or, false_or, or_false, eq_self, Option.toList_some, Option.toList_none, List.cons_append, List.nil_append, true_and, and_true, not_false_eq_true, not_true_eq_false, if_true, if_false, if_neg, h3, h5 k (show k < 9 by omega), ih (k + 1) (by omega)]
      by_cases q : xb70.getD k 0 = (Int32.toInt8 (nI ch)).toInt32
      · rw [if_neg (fun z => z q), decide_eq_true q, if_pos (show true = true from rfl), if_pos (show k < 9 by omega)]
      · rw [if_pos q, decide_eq_false q, if_neg (show ¬ false = true by decide)]
  rw [if_pos (show (0 : Nat) < 9 by decide), B_50_0]
  have e := loop 9 0 (by omega)
  rw [show nI 0 = (0 : Int32) from rfl] at e
  rw [e]
  simp (disch := omega) only [lAdd, addL, lMul, mulL, nMul, nI_add, subL, lSub, nSub, nDec, nCl, lCl, nVp, lVp, nLe, nLt, nEq, lLe, leL, lLt, ltL, eqL, lEq, nM1, nM2, litLt0, one01, zero01, oneNe0, xupE, xupA, xupK, xI_I, xS_I, xF_I, xJ_I, xI_R, xS_R, xF_R, xJ_R, xI_L, xS_L, xF_L, xJ_L, xcat_s, le46, ge16, or_true, true_or, false_or, or_false, eq_self, Option.toList_some, Option.toList_none, List.cons_append, List.nil_append, true_and, and_true, not_false_eq_true, not_true_eq_false, if_true, if_false, B_51_36, B_52_20, B_53_6]
  unfold ixF
  exact propext ⟨fun q => q.2, fun q => ⟨by omega, q⟩⟩
/-- the token at j: its kind, its end -/
def tkK (n : Nat) (c : Nat → Nat) (j : Nat) : Nat := if j < n then (if isWd c j = true then (if rn (isWd c) n 2000 j - j ≤ 8 then kdw (Int64.ofNat (nmv 32 c j (rn (isWd c) n 2000 j - j))) else 1) else if isDg c j = true then (if rn (isDg c) n 2000 j - j ≤ 4 then 3 else 1) else if ixF (nI (c j)) < 9 then 4 + ixF (nI (c j)) else 1) else 0
def tkE (n : Nat) (c : Nat → Nat) (j : Nat) : Nat := if j < n then (if isWd c j = true then rn (isWd c) n 2000 j else if isDg c j = true then rn (isDg c) n 2000 j else j + 1) else j
/-- what the class's tokens hold when they stand on the token at j -/
def TkAt (M : XM) (n : Nat) (c : Nat → Nat) (j : Nat) : Prop := xI M 20 4 = nI j ∧ xI M 20 3 = nI (tkK n c j) ∧ xI M 20 2 = nI (tkE n c j) ∧ (j < n → isWd c j = true → xJ M 20 6 = Int64.ofNat (nmv 32 c j (tkE n c j - j))) ∧ (j < n → isDg c j = true → xI M 20 5 = nI (dgv c j (tkE n c j - j)))
theorem c_advance {M : XM} {n i : Nat} {c : Nat → Nat} {Q : Option Value → XM → Prop} (h : TK M n c) (ha : xI M 20 2 = nI i) (hi : i ≤ n) (hc : ∀ k, c k < 256)
    (hQ : ∀ M' : XM, E3 tkP tkJ noF M M' → TkAt M' n c (rn (isBl c) n 2000 i) → Q none M') :
    RG xprog 54 0 [some (.ref 20), none, none] [] M Q := by
  have hn := h.2.2.1
  rw [B_54_0]
  simp (disch := omega) only [h.1, lAdd, addL, lMul, mulL, nMul, nI_add, subL, lSub, nSub, nDec, nCl, lCl, nVp, lVp, nLe, nLt, nEq, lLe, leL, lLt, ltL, eqL, lEq, nM1, nM2, litLt0, one01, zero01, oneNe0, xupE, xupA, xupK, xI_I, xS_I, xF_I, xJ_I, xI_R, xS_R, xF_R, xJ_R, xI_L, xS_L, xF_L, xJ_L, xcat_s, le46, ge16, or_true, true_or, false_or, or_false, eq_self, Option.toList_some, Option.toList_none, List.cons_append, List.nil_append, true_and, and_true, not_false_eq_true, not_true_eq_false, if_true, if_false]
  refine c_skipBlanks h ha (by omega) ?_
  intro M1 e1 a1
  have jn := rn_le (isBl c) n 2000 i hi
  generalize rn (isBl c) n 2000 i = j at a1 jn hQ
  have h1 := h.tk e1
  simp (disch := omega) only [lAdd, addL, lMul, mulL, nMul, nI_add, subL, lSub, nSub, nDec, nCl, lCl, nVp, lVp, nLe, nLt, nEq, lLe, leL, lLt, ltL, eqL, lEq, nM1, nM2, litLt0, one01, zero01, oneNe0, xupE, xupA, xupK, xI_I, xS_I, xF_I, xJ_I, xI_R, xS_R, xF_R, xJ_R, xI_L, xS_L, xF_L, xJ_L, xcat_s, le46, ge16, or_true, true_or, false_or, or_false, eq_self, Option.toList_some, Option.toList_none, List.cons_append, List.nil_append, true_and, and_true, not_false_eq_true, not_true_eq_false, if_true, if_false, B_54_4, h1.1, a1]
  have e2 : E3 tkP tkJ noF M (xmI M1 20 4 (nI j)) := e1.wI _ (by unfold tkP; omega)
  have a2 : xI (xmI M1 20 4 (nI j)) 20 2 = nI j := by simp (disch := omega) only [lAdd, addL, lMul, mulL, nMul, nI_add, subL, lSub, nSub, nDec, nCl, lCl, nVp, lVp, nLe, nLt, nEq, lLe, leL, lLt, ltL, eqL, lEq, nM1, nM2, litLt0, one01, zero01, oneNe0, xupE, xupA, xupK, xI_I, xS_I, xF_I, xJ_I, xI_R, xS_R, xF_R, xJ_R, xI_L, xS_L, xF_L, xJ_L, xcat_s, le46, ge16, or_true, true_or, false_or, or_false, eq_self, Option.toList_some, Option.toList_none, List.cons_append, List.nil_append, true_and, and_true, not_false_eq_true, not_true_eq_false, if_true, if_false]; exact a1
  have s2 : xI (xmI M1 20 4 (nI j)) 20 4 = nI j := by simp (disch := omega) only [lAdd, addL, lMul, mulL, nMul, nI_add, subL, lSub, nSub, nDec, nCl, lCl, nVp, lVp, nLe, nLt, nEq, lLe, leL, lLt, ltL, eqL, lEq, nM1, nM2, litLt0, one01, zero01, oneNe0, xupE, xupA, xupK, xI_I, xS_I, xF_I, xJ_I, xI_R, xS_R, xF_R, xJ_R, xI_L, xS_L, xF_L, xJ_L, xcat_s, le46, ge16, or_true, true_or, false_or, or_false, eq_self, Option.toList_some, Option.toList_none, List.cons_append, List.nil_append, true_and, and_true, not_false_eq_true, not_true_eq_false, if_true, if_false]
  generalize xmI M1 20 4 (nI j) = M2 at e2 a2 s2 ⊢
  have h2 := h.tk e2
  rw [c_signHere h2 a2 (by omega)]
  simp (disch := omega) only [lAdd, addL, lMul, mulL, nMul, nI_add, subL, lSub, nSub, nDec, nCl, lCl, nVp, lVp, nLe, nLt, nEq, lLe, leL, lLt, ltL, eqL, lEq, nM1, nM2, litLt0, one01, zero01, oneNe0, xupE, xupA, xupK, xI_I, xS_I, xF_I, xJ_I, xI_R, xS_R, xF_R, xJ_R, xI_L, xS_L, xF_L, xJ_L, xcat_s, le46, ge16, or_true, true_or, false_or, or_false, eq_self, Option.toList_some, Option.toList_none, List.cons_append, List.nil_append, true_and, and_true, not_false_eq_true, not_true_eq_false, if_true, if_false, B_54_16]
  by_cases q : j < n
  · have c6 := hc j
    rw [if_pos (show ¬ sgn n c j = -1 by rw [sgn_in q, nM1 (by omega)]; exact fun z => z), c_isLower (n := n) (i := j) (c := c) (fun _ => hc _)]
    simp (disch := omega) only [lAdd, addL, lMul, mulL, nMul, nI_add, subL, lSub, nSub, nDec, nCl, lCl, nVp, lVp, nLe, nLt, nEq, lLe, leL, lLt, ltL, eqL, lEq, nM1, nM2, litLt0, one01, zero01, oneNe0, xupE, xupA, xupK, xI_I, xS_I, xF_I, xJ_I, xI_R, xS_R, xF_R, xJ_R, xI_L, xS_L, xF_L, xJ_L, xcat_s, le46, ge16, or_true, true_or, false_or, or_false, eq_self, Option.toList_some, Option.toList_none, List.cons_append, List.nil_append, true_and, and_true, not_false_eq_true, not_true_eq_false, if_true, if_false, B_54_34]
    by_cases w : isWd c j = true
    · rw [if_pos (c := j < n ∧ isWd c j = true) ⟨q, w⟩, if_neg (by decide)]
      simp (disch := omega) only [h2.1, lAdd, addL, lMul, mulL, nMul, nI_add, subL, lSub, nSub, nDec, nCl, lCl, nVp, lVp, nLe, nLt, nEq, lLe, leL, lLt, ltL, eqL, lEq, nM1, nM2, litLt0, one01, zero01, oneNe0, xupE, xupA, xupK, xI_I, xS_I, xF_I, xJ_I, xI_R, xS_R, xF_R, xJ_R, xI_L, xS_L, xF_L, xJ_L, xcat_s, le46, ge16, or_true, true_or, false_or, or_false, eq_self, Option.toList_some, Option.toList_none, List.cons_append, List.nil_append, true_and, and_true, not_false_eq_true, not_true_eq_false, if_true, if_false]
      refine c_scanWord h2 a2 s2 (by omega) hc ?_
      intro M3 e3 a3 s3 n3 k3
      simp (disch := omega) only [lAdd, addL, lMul, mulL, nMul, nI_add, subL, lSub, nSub, nDec, nCl, lCl, nVp, lVp, nLe, nLt, nEq, lLe, leL, lLt, ltL, eqL, lEq, nM1, nM2, litLt0, one01, zero01, oneNe0, xupE, xupA, xupK, xI_I, xS_I, xF_I, xJ_I, xI_R, xS_R, xF_R, xJ_R, xI_L, xS_L, xF_L, xJ_L, xcat_s, le46, ge16, or_true, true_or, false_or, or_false, eq_self, Option.toList_some, Option.toList_none, List.cons_append, List.nil_append, true_and, and_true, not_false_eq_true, not_true_eq_false, if_true, if_false, B_54_41]
      have eE : tkE n c j = rn (isWd c) n 2000 j := by unfold tkE; rw [if_pos q, if_pos w]
      refine hQ M3 (e2.trans e3) ⟨s3, ?_, by rw [eE]; exact a3, fun _ _ => by rw [eE]; exact n3, fun _ d => ?_⟩
      · rw [k3]
        unfold tkK
        rw [if_pos q, if_pos w]
        split <;> rfl
      · have := (isWd_i c j).mp w
        have := (isDg_i c j).mp d
        omega
    · rw [if_neg (c := j < n ∧ isWd c j = true) (fun z => w z.2), if_pos rfl, c_isDigit (n := n) (i := j) (c := c) (fun _ => hc _)]
      simp (disch := omega) only [lAdd, addL, lMul, mulL, nMul, nI_add, subL, lSub, nSub, nDec, nCl, lCl, nVp, lVp, nLe, nLt, nEq, lLe, leL, lLt, ltL, eqL, lEq, nM1, nM2, litLt0, one01, zero01, oneNe0, xupE, xupA, xupK, xI_I, xS_I, xF_I, xJ_I, xI_R, xS_R, xF_R, xJ_R, xI_L, xS_L, xF_L, xJ_L, xcat_s, le46, ge16, or_true, true_or, false_or, or_false, eq_self, Option.toList_some, Option.toList_none, List.cons_append, List.nil_append, true_and, and_true, not_false_eq_true, not_true_eq_false, if_true, if_false, B_54_48]
      by_cases d : isDg c j = true
      · rw [if_pos (c := j < n ∧ isDg c j = true) ⟨q, d⟩, if_neg (by decide)]
        simp (disch := omega) only [h2.1, lAdd, addL, lMul, mulL, nMul, nI_add, subL, lSub, nSub, nDec, nCl, lCl, nVp, lVp, nLe, nLt, nEq, lLe, leL, lLt, ltL, eqL, lEq, nM1, nM2, litLt0, one01, zero01, oneNe0, xupE, xupA, xupK, xI_I, xS_I, xF_I, xJ_I, xI_R, xS_R, xF_R, xJ_R, xI_L, xS_L, xF_L, xJ_L, xcat_s, le46, ge16, or_true, true_or, false_or, or_false, eq_self, Option.toList_some, Option.toList_none, List.cons_append, List.nil_append, true_and, and_true, not_false_eq_true, not_true_eq_false, if_true, if_false]
        refine c_scanInt h2 a2 s2 (by omega) hc ?_
        intro M3 e3 a3 s3 n3 k3
        simp (disch := omega) only [lAdd, addL, lMul, mulL, nMul, nI_add, subL, lSub, nSub, nDec, nCl, lCl, nVp, lVp, nLe, nLt, nEq, lLe, leL, lLt, ltL, eqL, lEq, nM1, nM2, litLt0, one01, zero01, oneNe0, xupE, xupA, xupK, xI_I, xS_I, xF_I, xJ_I, xI_R, xS_R, xF_R, xJ_R, xI_L, xS_L, xF_L, xJ_L, xcat_s, le46, ge16, or_true, true_or, false_or, or_false, eq_self, Option.toList_some, Option.toList_none, List.cons_append, List.nil_append, true_and, and_true, not_false_eq_true, not_true_eq_false, if_true, if_false, B_54_55]
        have eE : tkE n c j = rn (isDg c) n 2000 j := by unfold tkE; rw [if_pos q, if_neg w, if_pos d]
        refine hQ M3 (e2.trans e3) ⟨s3, ?_, by rw [eE]; exact a3, fun _ z => absurd z w, fun _ _ => by rw [eE]; exact n3⟩
        rw [k3]
        unfold tkK
        rw [if_pos q, if_neg w, if_pos d]
        split <;> rfl
      · rw [if_neg (c := j < n ∧ isDg c j = true) (fun z => d z.2), if_pos rfl]
        have st := h2.2.2.2.2.1
        have u16 : ∀ x : Fin 256, (Int32.toUInt32 (nI x.val) % 65536).toInt32 = nI x.val := by decide +kernel
        have u := u16 ⟨c j, c6⟩
        rw [sgn_in q, show (Int32.toUInt32 (nI (c j)) % 65536).toInt32 = nI (c j) from u, c_indexOf st c6, st.1]
        refine ⟨rfl, ?_⟩
        simp (disch := omega) only [lAdd, addL, lMul, mulL, nMul, nI_add, subL, lSub, nSub, nDec, nCl, lCl, nVp, lVp, nLe, nLt, nEq, lLe, leL, lLt, ltL, eqL, lEq, nM1, nM2, litLt0, one01, zero01, oneNe0, xupE, xupA, xupK, xI_I, xS_I, xF_I, xJ_I, xI_R, xS_R, xF_R, xJ_R, xI_L, xS_L, xF_L, xJ_L, xcat_s, le46, ge16, or_true, true_or, false_or, or_false, eq_self, Option.toList_some, Option.toList_none, List.cons_append, List.nil_append, true_and, and_true, not_false_eq_true, not_true_eq_false, if_true, if_false, B_54_65]
        have eE : tkE n c j = j + 1 := by unfold tkE; rw [if_pos q, if_neg w, if_neg d]
        have fin : ∀ y x : Int32, y = nI (tkK n c j) → RG xprog 54 78 [some (.ref 20), some (.int (nI (c j))), some (.int x)] [.int y, .ref 20] M2 Q := by
          intro y x hy
          rw [B_54_78]
          simp (disch := omega) only [h2.1, a2, lAdd, addL, lMul, mulL, nMul, nI_add, subL, lSub, nSub, nDec, nCl, lCl, nVp, lVp, nLe, nLt, nEq, lLe, leL, lLt, ltL, eqL, lEq, nM1, nM2, litLt0, one01, zero01, oneNe0, xupE, xupA, xupK, xI_I, xS_I, xF_I, xJ_I, xI_R, xS_R, xF_R, xJ_R, xI_L, xS_L, xF_L, xJ_L, xcat_s, le46, ge16, or_true, true_or, false_or, or_false, eq_self, Option.toList_some, Option.toList_none, List.cons_append, List.nil_append, true_and, and_true, not_false_eq_true, not_true_eq_false, if_true, if_false]
          refine hQ _ ((e2.wI _ (by unfold tkP; omega)).wI _ (by unfold tkP; omega)) ⟨by simp (disch := omega) only [lAdd, addL, lMul, mulL, nMul, nI_add, subL, lSub, nSub, nDec, nCl, lCl, nVp, lVp, nLe, nLt, nEq, lLe, leL, lLt, ltL, eqL, lEq, nM1, nM2, litLt0, one01, zero01, oneNe0, xupE, xupA, xupK, xI_I, xS_I, xF_I, xJ_I, xI_R, xS_R, xF_R, xJ_R, xI_L, xS_L, xF_L, xJ_L, xcat_s, le46, ge16, or_true, true_or, false_or, or_false, eq_self, Option.toList_some, Option.toList_none, List.cons_append, List.nil_append, true_and, and_true, not_false_eq_true, not_true_eq_false, if_true, if_false]; exact s2, by simp (disch := omega) only [lAdd, addL, lMul, mulL, nMul, nI_add, subL, lSub, nSub, nDec, nCl, lCl, nVp, lVp, nLe, nLt, nEq, lLe, leL, lLt, ltL, eqL, lEq, nM1, nM2, litLt0, one01, zero01, oneNe0, xupE, xupA, xupK, xI_I, xS_I, xF_I, xJ_I, xI_R, xS_R, xF_R, xJ_R, xI_L, xS_L, xF_L, xJ_L, xcat_s, le46, ge16, or_true, true_or, false_or, or_false, eq_self, Option.toList_some, Option.toList_none, List.cons_append, List.nil_append, true_and, and_true, not_false_eq_true, not_true_eq_false, if_true, if_false]; exact hy, by simp (disch := omega) only [lAdd, addL, lMul, mulL, nMul, nI_add, subL, lSub, nSub, nDec, nCl, lCl, nVp, lVp, nLe, nLt, nEq, lLe, leL, lLt, ltL, eqL, lEq, nM1, nM2, litLt0, one01, zero01, oneNe0, xupE, xupA, xupK, xI_I, xS_I, xF_I, xJ_I, xI_R, xS_R, xF_R, xJ_R, xI_L, xS_L, xF_L, xJ_L, xcat_s, le46, ge16, or_true, true_or, false_or, or_false, eq_self, Option.toList_some, Option.toList_none, List.cons_append, List.nil_append, true_and, and_true, not_false_eq_true, not_true_eq_false, if_true, if_false]; rw [eE], fun _ z => absurd z w, fun _ z => absurd z d⟩
        by_cases ix : ixF (nI (c j)) < 9
        · rw [if_pos (c := ixF (nI (c j)) < 9) ix]
          simp (disch := omega) only [lAdd, addL, lMul, mulL, nMul, nI_add, subL, lSub, nSub, nDec, nCl, lCl, nVp, lVp, nLe, nLt, nEq, lLe, leL, lLt, ltL, eqL, lEq, nM1, nM2, litLt0, one01, zero01, oneNe0, xupE, xupA, xupK, xI_I, xS_I, xF_I, xJ_I, xI_R, xS_R, xF_R, xJ_R, xI_L, xS_L, xF_L, xJ_L, xcat_s, le46, ge16, or_true, true_or, false_or, or_false, eq_self, Option.toList_some, Option.toList_none, List.cons_append, List.nil_append, true_and, and_true, not_false_eq_true, not_true_eq_false, if_true, if_false, Nat.zero_le]
          refine fin _ _ ?_
          unfold tkK
          rw [if_pos q, if_neg w, if_neg d, if_pos ix]
        · rw [if_neg (c := ixF (nI (c j)) < 9) ix, if_neg (by decide)]
          refine fin _ _ ?_
          unfold tkK
          rw [if_pos q, if_neg w, if_neg d, if_neg ix]
          rfl
  · rw [if_neg (show ¬ ¬ sgn n c j = -1 from fun z => z (sgn_out q))]
    simp (disch := omega) only [h2.1, lAdd, addL, lMul, mulL, nMul, nI_add, subL, lSub, nSub, nDec, nCl, lCl, nVp, lVp, nLe, nLt, nEq, lLe, leL, lLt, ltL, eqL, lEq, nM1, nM2, litLt0, one01, zero01, oneNe0, xupE, xupA, xupK, xI_I, xS_I, xF_I, xJ_I, xI_R, xS_R, xF_R, xJ_R, xI_L, xS_L, xF_L, xJ_L, xcat_s, le46, ge16, or_true, true_or, false_or, or_false, eq_self, Option.toList_some, Option.toList_none, List.cons_append, List.nil_append, true_and, and_true, not_false_eq_true, not_true_eq_false, if_true, if_false]
    refine hQ _ (e2.wI _ (by unfold tkP; omega)) ⟨by simp (disch := omega) only [lAdd, addL, lMul, mulL, nMul, nI_add, subL, lSub, nSub, nDec, nCl, lCl, nVp, lVp, nLe, nLt, nEq, lLe, leL, lLt, ltL, eqL, lEq, nM1, nM2, litLt0, one01, zero01, oneNe0, xupE, xupA, xupK, xI_I, xS_I, xF_I, xJ_I, xI_R, xS_R, xF_R, xJ_R, xI_L, xS_L, xF_L, xJ_L, xcat_s, le46, ge16, or_true, true_or, false_or, or_false, eq_self, Option.toList_some, Option.toList_none, List.cons_append, List.nil_append, true_and, and_true, not_false_eq_true, not_true_eq_false, if_true, if_false]; exact s2, ?_, ?_, fun z => absurd z q, fun z => absurd z q⟩
    · simp (disch := omega) only [lAdd, addL, lMul, mulL, nMul, nI_add, subL, lSub, nSub, nDec, nCl, lCl, nVp, lVp, nLe, nLt, nEq, lLe, leL, lLt, ltL, eqL, lEq, nM1, nM2, litLt0, one01, zero01, oneNe0, xupE, xupA, xupK, xI_I, xS_I, xF_I, xJ_I, xI_R, xS_R, xF_R, xJ_R, xI_L, xS_L, xF_L, xJ_L, xcat_s, le46, ge16, or_true, true_or, false_or, or_false, eq_self, Option.toList_some, Option.toList_none, List.cons_append, List.nil_append, true_and, and_true, not_false_eq_true, not_true_eq_false, if_true, if_false]
      unfold tkK
      rw [if_neg q]
      rfl
    · simp (disch := omega) only [lAdd, addL, lMul, mulL, nMul, nI_add, subL, lSub, nSub, nDec, nCl, lCl, nVp, lVp, nLe, nLt, nEq, lLe, leL, lLt, ltL, eqL, lEq, nM1, nM2, litLt0, one01, zero01, oneNe0, xupE, xupA, xupK, xI_I, xS_I, xF_I, xJ_I, xI_R, xS_R, xF_R, xJ_R, xI_L, xS_L, xF_L, xJ_L, xcat_s, le46, ge16, or_true, true_or, false_or, or_false, eq_self, Option.toList_some, Option.toList_none, List.cons_append, List.nil_append, true_and, and_true, not_false_eq_true, not_true_eq_false, if_true, if_false]
      rw [a2]
      unfold tkE
      rw [if_neg q]
