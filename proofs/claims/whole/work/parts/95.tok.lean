/-! the words' codes -/
/-- a text s of n letters at cells a, b -/
def StrAt (M : XM) (a b n : Nat) (s : List Int32) : Prop := xS M a = (31, 0) ∧ xF M a 0 = b ∧ xS M b = (41, n) ∧ xI M a 1 = 0 ∧ ∀ k, k < n → xI M b k = s.getD k 0
def latin (x : Int32) : Int32 := (Int32.toUInt32 (x &&& 255) % 65536).toInt32
theorem c_strlen {M : XM} {a b n : Nat} {s : List Int32} {Q : Option Value → XM → Prop} (h : StrAt M a b n s) (hn : n < 1000) : RG xprog 3 0 [some (.ref a)] [] M Q = Q (some (.int (nI n))) M := by
  obtain ⟨h1, h2, h3, h4, h5⟩ := h
  rw [B_3_0, B_2_0, if_neg (by decide)]
  simp (disch := omega) only [h1, h2, h3, h4, lAdd, addL, lMul, mulL, nMul, nI_add, subL, lSub, nSub, nDec, nCl, lCl, nVp, lVp, nLe, nLt, nEq, lLe, leL, lLt, ltL, eqL, lEq, nM1, nM2, litLt0, one01, zero01, oneNe0, xupE, xupA, xupK, xI_I, xS_I, xF_I, xJ_I, xI_R, xS_R, xF_R, xJ_R, xI_L, xS_L, xF_L, xJ_L, xcat_s, le46, ge16, or_true, true_or, false_or, or_false, eq_self, Option.toList_some, Option.toList_none, List.cons_append, List.nil_append, true_and, and_true, not_false_eq_true, not_true_eq_false, if_true, if_false, B_3_9]
  have e : ∀ x : Int32, x >>> ((0 : Int32) &&& 31) = x := fun x => by
    rw [show (0 : Int32) &&& 31 = 0 by decide]
    exact Int32.shiftRight_zero
  rw [e]
  exact propext ⟨fun q => q.2.2, fun q => ⟨by decide, rfl, q⟩⟩
theorem c_charAt {M : XM} {a b n k : Nat} {s : List Int32} {Q : Option Value → XM → Prop} (h : StrAt M a b n s) (hn : n < 1000) (hk : k < n) (hl : latin (s.getD k 0) = s.getD k 0 ∧ narrow .char (.int (s.getD k 0)) = .int (s.getD k 0)) :
    RG xprog 8 0 [some (.ref a), some (.int (nI k))] [] M Q = Q (some (.int (s.getD k 0))) M := by
  obtain ⟨h1, h2, h3, h4, h5⟩ := h
  rw [B_8_0, B_4_0, if_neg (by decide)]
  simp (disch := omega) only [h1, h2, h3, h4, lAdd, addL, lMul, mulL, nMul, nI_add, subL, lSub, nSub, nDec, nCl, lCl, nVp, lVp, nLe, nLt, nEq, lLe, leL, lLt, ltL, eqL, lEq, nM1, nM2, litLt0, one01, zero01, oneNe0, xupE, xupA, xupK, xI_I, xS_I, xF_I, xJ_I, xI_R, xS_R, xF_R, xJ_R, xI_L, xS_L, xF_L, xJ_L, xcat_s, le46, ge16, or_true, true_or, false_or, or_false, eq_self, Option.toList_some, Option.toList_none, List.cons_append, List.nil_append, true_and, and_true, not_false_eq_true, not_true_eq_false, if_true, if_false, B_8_4, if_neg, B_7_0, B_6_0, B_5_0, B_6_8, B_7_6, B_8_15, if_pos, h5 k hk]
  rw [show (Int32.toUInt32 (s.getD k 0 &&& 255) % 65536).toInt32 = s.getD k 0 from hl.1]
  simp (disch := omega) only [hl.2, lAdd, addL, lMul, mulL, nMul, nI_add, subL, lSub, nSub, nDec, nCl, lCl, nVp, lVp, nLe, nLt, nEq, lLe, leL, lLt, ltL, eqL, lEq, nM1, nM2, litLt0, one01, zero01, oneNe0, xupE, xupA, xupK, xI_I, xS_I, xF_I, xJ_I, xI_R, xS_R, xF_R, xJ_R, xI_L, xS_L, xF_L, xJ_L, xcat_s, le46, ge16, or_true, true_or, false_or, or_false, eq_self, Option.toList_some, Option.toList_none, List.cons_append, List.nil_append, true_and, and_true, not_false_eq_true, not_true_eq_false, if_true, if_false]
  exact propext ⟨fun q => q.2, fun q => ⟨by omega, q⟩⟩
/-- the code of word i, after j letters of its eight -/
def cwF (i : Nat) : Nat → Int64
  | 0 => 0
  | j + 1 => if xb19.getD (8 * i + j) 0 = 32 then cwF i j else cwF i j * 32 + Int32.toInt64 (xb19.getD (8 * i + j) 0 - 97 + 1)
theorem cwF_s (i j : Nat) : cwF i (j + 1) = if xb19.getD (8 * i + j) 0 = 32 then cwF i j else cwF i j * 32 + Int32.toInt64 (xb19.getD (8 * i + j) 0 - 97 + 1) := rfl
theorem xb19_l : ∀ k, k < 168 → latin (xb19.getD k 0) = xb19.getD k 0 := by decide +kernel
theorem xb19_n (k : Nat) (hk : k < 168) : narrow .char (.int (xb19.getD k 0)) = .int (xb19.getD k 0) := by
  have e : ∀ k, k < 168 → (xb19.getD k 0).toUInt32.toUInt16.toUInt32.toInt32 = xb19.getD k 0 := by decide +kernel
  show Value.int ((xb19.getD k 0).toUInt32.toUInt16.toUInt32.toInt32) = _
  rw [e k hk]
theorem c_codeOfWord {M : XM} {i : Nat} {Q : Option Value → XM → Prop} (h : StrAt M 5 6 168 xb19) (hi : i < 21) : RG xprog 10 0 [some (.int (nI i)), none, none, none, none] [] M Q = Q (some (.long (cwF i 8))) M := by
  rw [B_10_0]
  simp (disch := omega) only [lAdd, addL, lMul, mulL, nMul, nI_add, subL, lSub, nSub, nDec, nCl, lCl, nVp, lVp, nLe, nLt, nEq, lLe, leL, lLt, ltL, eqL, lEq, nM1, nM2, litLt0, one01, zero01, oneNe0, xupE, xupA, xupK, xI_I, xS_I, xF_I, xJ_I, xI_R, xS_R, xF_R, xJ_R, xI_L, xS_L, xF_L, xJ_L, xcat_s, le46, ge16, or_true, true_or, false_or, or_false, eq_self, Option.toList_some, Option.toList_none, List.cons_append, List.nil_append, true_and, and_true, not_false_eq_true, not_true_eq_false, if_true, if_false]
  have loop : ∀ j k (z : Option Value), k + j = 8 → RG xprog 10 7 [some (.int (nI i)), some (.long (cwF i k)), none, some (.int (nI (i * 8 + k))), z] [] M Q = Q (some (.long (cwF i 8))) M := by
    intro j
    induction j with
    | zero =>
      intro k z hk
      have : k = 8 := by omega
      subst this
      rw [B_10_7]
      simp (disch := omega) only [lAdd, addL, lMul, mulL, nMul, nI_add, subL, lSub, nSub, nDec, nCl, lCl, nVp, lVp, nLe, nLt, nEq, lLe, leL, lLt, ltL, eqL, lEq, nM1, nM2, litLt0, one01, zero01, oneNe0, xupE, xupA, xupK, xI_I, xS_I, xF_I, xJ_I, xI_R, xS_R, xF_R, xJ_R, xI_L, xS_L, xF_L, xJ_L, xcat_s, le46, ge16, or_true, true_or, false_or, or_false, eq_self, Option.toList_some, Option.toList_none, List.cons_append, List.nil_append, true_and, and_true, not_false_eq_true, not_true_eq_false, if_true, if_false, if_pos, B_10_58]
    | succ j ih =>
      intro k z hk
      rw [B_10_7]
      simp (disch := omega) only [lAdd, addL, lMul, mulL, nMul, nI_add, subL, lSub, nSub, nDec, nCl, lCl, nVp, lVp, nLe, nLt, nEq, lLe, leL, lLt, ltL, eqL, lEq, nM1, nM2, litLt0, one01, zero01, oneNe0, xupE, xupA, xupK, xI_I, xS_I, xF_I, xJ_I, xI_R, xS_R, xF_R, xJ_R, xI_L, xS_L, xF_L, xJ_L, xcat_s, le46, ge16, or_true, true_or, false_or, or_false, eq_self, Option.toList_some, Option.toList_none, List.cons_append, List.nil_append, true_and, and_true, not_false_eq_true, not_true_eq_false, if_true, if_false, if_neg, h.1, c_strlen h, B_10_23]
      rw [c_charAt h (by omega) (show i * 8 + k < 168 by omega) ⟨xb19_l _ (by omega), xb19_n _ (by omega)⟩]
      simp (disch := omega) only [lAdd, addL, lMul, mulL, nMul, nI_add, subL, lSub, nSub, nDec, nCl, lCl, nVp, lVp, nLe, nLt, nEq, lLe, leL, lLt, ltL, eqL, lEq, nM1, nM2, litLt0, one01, zero01, oneNe0, xupE, xupA, xupK, xI_I, xS_I, xF_I, xJ_I, xI_R, xS_R, xF_R, xJ_R, xI_L, xS_L, xF_L, xJ_L, xcat_s, le46, ge16, or_true, true_or, false_or, or_false, eq_self, Option.toList_some, Option.toList_none, List.cons_append, List.nil_append, true_and, and_true, not_false_eq_true, not_true_eq_false, if_true, if_false, B_10_32, B_9_0, B_10_51]
      have e := fun z => ih (k + 1) z (by omega)
      rw [cwF_s, show 8 * i + k = i * 8 + k by omega] at e
      by_cases q : xb19.getD (i * 8 + k) 0 = 32
      · rw [if_neg (fun w => w q)]
        rw [if_pos q] at e
        exact e _
      · rw [if_pos q]
        rw [if_neg q] at e
        exact e _
  exact loop 8 0 none (by omega)
section XTOK
variable {o z u : Nat} {M N : XM} {sh ff : List (Nat × Nat × Nat)} {g : Nat → Int32} {jj : Nat → Nat → Int64}
theorem StrAt.fr {M M' : XM} {a b n z : Nat} {s : List Int32} (h : StrAt M a b n s) (f : Fr z M M') (ha : a < z) (hb : b < z) : StrAt M' a b n s := by
  unfold StrAt
  rw [f.S ha, f.F ha, f.S hb, f.I ha, f.I hb]
  exact h
/-- the codes at b -/
def jW (b : Nat) (jj : Nat → Nat → Int64) (w : Nat → Int64) : Nat → Nat → Int64 := fun a => if a = b then w else jj a
def wC (i : Nat) : Nat → Int64 := fun k => if k < i then cwF k 8 else 0
theorem NI.long (h : NI o M z u sh ff g jj N) {a : Nat} (k : Nat) (x : Int64) (h1 : o ≤ a) (h2 : a < z) : NI o M z u sh ff g (jW a jj (fun j => if j = k then x else jj a j)) (xmL N a k x) := by
  refine ⟨h.hz, h.hu, ?_, h.S, h.F, h.I, h.hg, ?_, h.hs, h.hf, h.oz⟩
  · intro b hb
    obtain ⟨q1, q2, q3, q4⟩ := h.fr b hb
    refine ⟨q1, q2, ?_, q4⟩
    rw [← q3]
    show xJ (xmL N a k x) b = xJ N b
    rw [xJ_L]
    exact xup_n _ _ _ (by omega)
  · intro b q1 q2
    rw [xJ_L]
    unfold jW
    by_cases q : b = a
    · subst q
      rw [if_pos rfl]
      funext j
      rw [xup_at, h.J b q1 q2]
      by_cases w : j = k
      · rw [if_pos ⟨rfl, w⟩, if_pos w]
      · rw [if_neg (fun y => w y.2), if_neg w]
    · rw [if_neg q, ← h.J b q1 q2]
      exact xup_n _ _ _ q
theorem n_Tokens {Q : Option Value → XM → Prop} (h : NI o M z u sh ff g jj N) (h16 : 16 ≤ z) (o16 : 16 ≤ o) (hj : ∀ b, z ≤ b → b < z + 2 → jj b = fun _ => 0) (hw : StrAt M 5 6 168 xb19)
    (hQ : ∀ M' : XM, NI o M (z + 2) (u + 28) ((z + 1, 43, 21) :: (z, 9, 0) :: sh) ((z, 0, z + 1) :: ff) g (jW (z + 1) jj (wC 21)) M' → Q none M') :
    RG xprog 11 0 [some (.ref z), none] [] (xnew N 9 0 7) Q := by
  have oz := h.oz
  refine n_Tokens0 h h16 (fun b q1 q2 => hj b (by omega) (by omega)) ?_
  intro N1 h1
  have loop : ∀ j i (N2 : XM), i + j = 21 → NI o M (z + 2) (u + 28) ((z + 1, 43, 21) :: (z, 9, 0) :: sh) ((z, 0, z + 1) :: ff) g (jW (z + 1) jj (wC i)) N2 → RG xprog 11 14 [some (.ref z), some (.int (nI i))] [] N2 Q := by
    intro j
    induction j with
    | zero =>
      intro i N2 hi h2
      have : i = 21 := by omega
      subst this
      rw [B_11_14]
      simp (disch := omega) only [lAdd, addL, lMul, mulL, nMul, nI_add, subL, lSub, nSub, nDec, nCl, lCl, nVp, lVp, nLe, nLt, nEq, lLe, leL, lLt, ltL, eqL, lEq, nM1, nM2, litLt0, one01, zero01, oneNe0, xupE, xupA, xupK, xI_I, xS_I, xF_I, xJ_I, xI_R, xS_R, xF_R, xJ_R, xI_L, xS_L, xF_L, xJ_L, xcat_s, le46, ge16, or_true, true_or, false_or, or_false, eq_self, Option.toList_some, Option.toList_none, List.cons_append, List.nil_append, true_and, and_true, not_false_eq_true, not_true_eq_false, if_true, if_false, if_pos]
      exact hQ N2 h2
    | succ j ih =>
      intro i N2 hi h2
      have e1 : xS N2 z = (9, 0) := h2.S z (9, 0) (by rw [lkS_t (by omega), lkS_h])
      have e2 : xS N2 (z + 1) = (43, 21) := h2.S _ (43, 21) (by rw [lkS_h])
      have e3 : xF N2 z 0 = z + 1 := h2.F z 0 _ (by rw [lkF_h])
      have w2 : StrAt N2 5 6 168 xb19 := hw.fr h2.fr (by omega) (by omega)
      rw [B_11_14]
      simp (disch := omega) only [lAdd, addL, lMul, mulL, nMul, nI_add, subL, lSub, nSub, nDec, nCl, lCl, nVp, lVp, nLe, nLt, nEq, lLe, leL, lLt, ltL, eqL, lEq, nM1, nM2, litLt0, one01, zero01, oneNe0, xupE, xupA, xupK, xI_I, xS_I, xF_I, xJ_I, xI_R, xS_R, xF_R, xJ_R, xI_L, xS_L, xF_L, xJ_L, xcat_s, le46, ge16, or_true, true_or, false_or, or_false, eq_self, Option.toList_some, Option.toList_none, List.cons_append, List.nil_append, true_and, and_true, not_false_eq_true, not_true_eq_false, if_true, if_false, if_neg, e1, e3, c_codeOfWord w2 (show i < 21 by omega)]
      rw [B_11_29]
      simp (disch := omega) only [lAdd, addL, lMul, mulL, nMul, nI_add, subL, lSub, nSub, nDec, nCl, lCl, nVp, lVp, nLe, nLt, nEq, lLe, leL, lLt, ltL, eqL, lEq, nM1, nM2, litLt0, one01, zero01, oneNe0, xupE, xupA, xupK, xI_I, xS_I, xF_I, xJ_I, xI_R, xS_R, xF_R, xJ_R, xI_L, xS_L, xF_L, xJ_L, xcat_s, le46, ge16, or_true, true_or, false_or, or_false, eq_self, Option.toList_some, Option.toList_none, List.cons_append, List.nil_append, true_and, and_true, not_false_eq_true, not_true_eq_false, if_true, if_false, e2]
      refine ih (i + 1) _ (by omega) ?_
      have h4 := h2.long (a := z + 1) i (cwF i 8) (by omega) (by omega)
      have ej : jW (z + 1) (jW (z + 1) jj (wC i)) (fun j => if j = i then cwF i 8 else jW (z + 1) jj (wC i) (z + 1) j) = jW (z + 1) jj (wC (i + 1)) := by
        funext a
        unfold jW
        by_cases q : a = z + 1
        · rw [if_pos q, if_pos q]
          funext k
          rw [if_pos rfl]
          unfold wC
          by_cases w : k = i
          · rw [if_pos w, w, if_pos (by omega)]
          · rw [if_neg w]
            by_cases y : k < i
            · rw [if_pos y, if_pos (by omega)]
            · rw [if_neg y, if_neg (by omega)]
        · rw [if_neg q, if_neg q, if_neg q]
      rw [ej] at h4
      exact h4
  refine loop 21 0 N1 (by omega) ?_
  have ej : jW (z + 1) jj (wC 0) = jj := by
    funext a
    unfold jW
    by_cases q : a = z + 1
    · rw [if_pos q, q, hj (z + 1) (by omega) (by omega)]
      funext k
      unfold wC
      rw [if_neg (by omega)]
    · rw [if_neg q]
  rw [ej]
  exact h1
theorem n_Parser {Q : Option Value → XM → Prop} (h : NI o M z u sh ff g jj N) (h16 : 16 ≤ z) (o16 : 16 ≤ o) (hj : ∀ b, z ≤ b → b < z + 7 → jj b = fun _ => 0) (hw : StrAt M 5 6 168 xb19)
    (hQ : ∀ M' : XM, NI o M (z + 7) (u + 470) ((z + 6, 40, 400) :: (z + 5, 3, 0) :: (z + 4, 40, 20) :: (z + 3, 4, 0) :: (z + 2, 43, 21) :: (z + 1, 9, 0) :: (z, 6, 0) :: sh) ((z, 1, z + 3) :: (z + 3, 2, z + 5) :: (z + 5, 0, z + 6) :: (z + 3, 0, z + 4) :: (z, 0, z + 1) :: (z + 1, 0, z + 2) :: ff) g (jW (z + 2) jj (wC 21)) M' → Q none M') :
    RG xprog 14 0 [some (.ref z)] [] (xnew N 6 0 16) Q := by
  have oz := h.oz
  have h0 : NI o M (z + 1) (u + 16) ((z, 6, 0) :: sh) ff g jj (xnew N 6 0 16) := h.new 6 0 16 (hj z (by omega) (by omega))
  have s0 : xS (xnew N 6 0 16) z = (6, 0) := h0.Sz
  generalize xnew N 6 0 16 = N0 at h0 s0 ⊢
  rw [B_14_0, s0, h0.hz]
  refine ⟨⟨by decide, h16⟩, ?_⟩
  have t0 : xS (xnew N0 9 0 7) (z + 1) = (9, 0) := (h0.new 9 0 7 (hj _ (by omega) (by omega))).Sz
  rw [B_14_8, t0]
  refine ⟨⟨rfl, by omega⟩, ?_⟩
  refine n_Tokens h0 (by omega) o16 (fun b q1 q2 => hj b (by omega) (by omega)) hw ?_
  intro N1 h1
  simp (disch := omega) only [lAdd, addL, lMul, mulL, nMul, nI_add, subL, lSub, nSub, nDec, nCl, lCl, nVp, lVp, nLe, nLt, nEq, lLe, leL, lLt, ltL, eqL, lEq, nM1, nM2, litLt0, one01, zero01, oneNe0, xupE, xupA, xupK, xI_I, xS_I, xF_I, xJ_I, xI_R, xS_R, xF_R, xJ_R, xI_L, xS_L, xF_L, xJ_L, xcat_s, le46, ge16, or_true, true_or, false_or, or_false, eq_self, Option.toList_some, Option.toList_none, List.cons_append, List.nil_append, true_and, and_true, not_false_eq_true, not_true_eq_false, if_true, if_false]
  rw [B_14_12, h1.S z (6, 0) (by rw [lkS_t (by omega), lkS_t (by omega), lkS_h]), xZ_R, h1.hz]
  refine ⟨⟨rfl, h16⟩, ?_⟩
  have h2 := h1.put (a := z) 0 (z + 1) (by omega) (by omega)
  generalize xmR N1 z 0 (z + 1) = N2 at h2 ⊢
  have hj2 : ∀ b, z + 3 ≤ b → b < z + 7 → jW (z + 2) jj (wC 21) b = fun _ => 0 := fun b q1 q2 => by
    unfold jW
    rw [if_neg (by omega)]
    exact hj b (by omega) (by omega)
  have t2 : xS (xnew N2 4 0 4) (z + 3) = (4, 0) := (h2.new 4 0 4 (hj2 _ (by omega) (by omega))).Sz
  rw [show z + 1 + 2 = z + 3 from rfl, B_14_19, t2]
  refine ⟨⟨rfl, by omega⟩, ?_⟩
  refine n_LawMaker h2 (by omega) (fun b q1 q2 => hj2 b (by omega) (by omega)) ?_
  intro N3 h3
  simp (disch := omega) only [lAdd, addL, lMul, mulL, nMul, nI_add, subL, lSub, nSub, nDec, nCl, lCl, nVp, lVp, nLe, nLt, nEq, lLe, leL, lLt, ltL, eqL, lEq, nM1, nM2, litLt0, one01, zero01, oneNe0, xupE, xupA, xupK, xI_I, xS_I, xF_I, xJ_I, xI_R, xS_R, xF_R, xJ_R, xI_L, xS_L, xF_L, xJ_L, xcat_s, le46, ge16, or_true, true_or, false_or, or_false, eq_self, Option.toList_some, Option.toList_none, List.cons_append, List.nil_append, true_and, and_true, not_false_eq_true, not_true_eq_false, if_true, if_false]
  rw [B_14_23, h3.S z (6, 0) (by rw [lkS_t (by omega), lkS_t (by omega), lkS_t (by omega), lkS_t (by omega), lkS_t (by omega), lkS_t (by omega), lkS_h])]
  refine ⟨⟨rfl, h16⟩, ?_⟩
  exact hQ _ (h3.put (a := z) 1 (z + 3) (by omega) (by omega))
end XTOK
