/-! answers: what would be in some days -/
theorem r_whereBits {M : XM} {lv : Nat} {T : XT} {F : XO} {p : Int32} {Q : Option Value → XM → Prop} (h : RR M lv T F) : RG xprog 248 0 [some (.ref 439), some (.int p), none, none] [] M Q = Q (some (.int (xbits (oW F) p (tN T)))) M := by
  have n7 := h.n7
  have l2 := h.lv2
  rw [B_248_0]
  have loop : ∀ k i, i + k = tN T → RG xprog 248 4 [some (.ref 439), some (.int p), some (.int (xbits (oW F) p i)), some (.int (nI i))] [] M Q = Q (some (.int (xbits (oW F) p (tN T)))) M := by
    intro k
    induction k with
    | zero =>
      intro i hi
      have : i = tN T := by omega
      subst this
      rw [B_248_4]
      simp (disch := omega) only [h.s.s, h.s.f, h.v, h.n, lAdd, addL, lMul, mulL, nMul, nI_add, subL, lSub, nSub, nDec, nCl, lCl, nVp, lVp, nLe, nLt, nEq, lLe, leL, lLt, ltL, eqL, lEq, nM1, nM2, litLt0, one01, zero01, oneNe0, xupE, xupA, xupK, xI_I, xS_I, xF_I, xJ_I, xI_R, xS_R, xF_R, xJ_R, xI_L, xS_L, xF_L, xJ_L, xcat_s, le46, ge16, or_true, true_or, false_or, or_false, eq_self, Option.toList_some, Option.toList_none, List.cons_append, List.nil_append, true_and, and_true, not_false_eq_true, not_true_eq_false, if_true, if_false, Nat.le_refl]
    | succ k ih =>
      intro i hi
      have e := ih (i + 1) (by omega)
      rw [xbits_s] at e
      rw [B_248_4]
      simp (disch := omega) only [h.s.s, h.s.f, h.v, h.n, lAdd, addL, lMul, mulL, nMul, nI_add, subL, lSub, nSub, nDec, nCl, lCl, nVp, lVp, nLe, nLt, nEq, lLe, leL, lLt, ltL, eqL, lEq, nM1, nM2, litLt0, one01, zero01, oneNe0, xupE, xupA, xupK, xI_I, xS_I, xF_I, xJ_I, xI_R, xS_R, xF_R, xJ_R, xI_L, xS_L, xF_L, xJ_L, xcat_s, le46, ge16, or_true, true_or, false_or, or_false, eq_self, Option.toList_some, Option.toList_none, List.cons_append, List.nil_append, true_and, and_true, not_false_eq_true, not_true_eq_false, if_true, if_false, if_neg, h.l (show i < 7 by omega)]
      split
      · rename_i hc
        rw [if_neg hc] at e
        exact e
      · rename_i hc
        rw [if_pos (Classical.not_not.mp hc)] at e
        exact e
  exact loop (tN T) 0 (by omega)
theorem xsum_s (f : Nat → Int32) (n : Nat) : xsum f (n + 1) = xsum f n + f n := rfl
theorem xsum_z (f : Nat → Int32) (n : Nat) : ∀ k, (∀ i, n ≤ i → i < n + k → f i = 0) → xsum f (n + k) = xsum f n
  | 0, _ => rfl
  | k + 1, h => by
    rw [show n + (k + 1) = (n + k) + 1 by omega, xsum_s, xsum_z f n k (fun i h1 h2 => h i h1 (by omega)), h (n + k) (by omega) (by omega), Int32.add_zero]
theorem OInv.b7 {T : XT} {F : XO} (h : OInv T F) (n7 : tN T ≤ 7) : xsum (oB F) 7 = xsum (oB F) (tN T) := by
  have := xsum_z (oB F) (tN T) (7 - tN T) (fun i h1 h2 => (h.2.2.2.1 i h1 (by omega)).2)
  rw [show tN T + (7 - tN T) = 7 by omega] at this
  exact this
theorem r_backMany {M : XM} {lv : Nat} {T : XT} {F : XO} {Q : Option Value → XM → Prop} (h : RR M lv T F) : RG xprog 253 0 [some (.ref 439), none, none] [] M Q = Q (some (.int (xsum (oB F) (tN T)))) M := by
  rw [B_253_0, ← h.i.b7 h.n7]
  have loop : ∀ k i, i + k = 7 → RG xprog 253 4 [some (.ref 439), some (.int (xsum (oB F) i)), some (.int (nI i))] [] M Q = Q (some (.int (xsum (oB F) 7))) M := by
    intro k
    induction k with
    | zero =>
      intro i hi
      have : i = 7 := by omega
      subst this
      rw [B_253_4]
      simp (disch := omega) only [h.s.s, h.s.f, lAdd, addL, lMul, mulL, nMul, nI_add, subL, lSub, nSub, nDec, nCl, lCl, nVp, lVp, nLe, nLt, nEq, lLe, leL, lLt, ltL, eqL, lEq, nM1, nM2, litLt0, one01, zero01, oneNe0, xupE, xupA, xupK, xI_I, xS_I, xF_I, xJ_I, xI_R, xS_R, xF_R, xJ_R, xI_L, xS_L, xF_L, xJ_L, xcat_s, le46, ge16, or_true, true_or, false_or, or_false, eq_self, Option.toList_some, Option.toList_none, List.cons_append, List.nil_append, true_and, and_true, not_false_eq_true, not_true_eq_false, if_true, if_false, Nat.le_refl]
    | succ k ih =>
      intro i hi
      rw [B_253_4]
      simp (disch := omega) only [h.s.s, h.s.f, lAdd, addL, lMul, mulL, nMul, nI_add, subL, lSub, nSub, nDec, nCl, lCl, nVp, lVp, nLe, nLt, nEq, lLe, leL, lLt, ltL, eqL, lEq, nM1, nM2, litLt0, one01, zero01, oneNe0, xupE, xupA, xupK, xI_I, xS_I, xF_I, xJ_I, xI_R, xS_R, xF_R, xJ_R, xI_L, xS_L, xF_L, xJ_L, xcat_s, le46, ge16, or_true, true_or, false_or, or_false, eq_self, Option.toList_some, Option.toList_none, List.cons_append, List.nil_append, true_and, and_true, not_false_eq_true, not_true_eq_false, if_true, if_false, if_neg, h.l (show i < 7 by omega)]
      exact ih (i + 1) (by omega)
  exact loop 7 0 (by omega)
/-- likes of all that readers have, by readers; by letters -/
def allR (T : XT) (F : XO) : Int32 := xsum (fun a => if oS F a = -2 then 0 else lkv T F (cN (oS F a)) a) (tR T)
def allN (T : XT) (F : XO) : Int32 := xsum (fun l => if oW F l = 2 then lkv T F l (cN (oH F l)) else 0) (tN T)
theorem xsum_congr {f g : Nat → Int32} : ∀ n, (∀ i, i < n → f i = g i) → xsum f n = xsum g n
  | 0, _ => rfl
  | n + 1, h => by rw [xsum_s, xsum_s, xsum_congr n (fun i hi => h i (by omega)), h n (by omega)]
theorem xsum_add (f g : Nat → Int32) : ∀ n, xsum (fun i => f i + g i) n = xsum f n + xsum g n
  | 0 => rfl
  | n + 1 => by
    rw [xsum_s, xsum_s, xsum_s, xsum_add f g n, Int32.add_assoc, Int32.add_assoc]
    congr 1
    rw [← Int32.add_assoc, ← Int32.add_assoc, Int32.add_comm (f n)]
theorem xsum_0 : ∀ n, xsum (fun _ => 0) n = 0
  | 0 => rfl
  | n + 1 => by rw [xsum_s, xsum_0 n]; rfl
theorem xsum_swap (g : Nat → Nat → Int32) (m : Nat) : ∀ n, xsum (fun a => xsum (fun l => g l a) n) m = xsum (fun l => xsum (fun a => g l a) m) n
  | 0 => xsum_0 m
  | n + 1 => by
    rw [xsum_s, ← xsum_swap g m n, ← xsum_add]
    rfl
theorem xsum_one {f : Nat → Int32} {j : Nat} : ∀ n, j < n → (∀ i, i < n → i ≠ j → f i = 0) → xsum f n = f j
  | 0, h, _ => absurd h (by omega)
  | n + 1, h, hz => by
    rw [xsum_s]
    by_cases hj : j = n
    · subst hj
      have : xsum f j = 0 := by
        rw [xsum_congr (g := fun _ => 0) j (fun i hi => hz i (by omega) (by omega)), xsum_0]
      rw [this, Int32.zero_add]
    · rw [xsum_one n (by omega) (fun i hi => hz i (by omega)), hz n (by omega) (fun q => hj q.symm), Int32.add_zero]
theorem all_eq {T : XT} {F : XO} (h : OInv T F) (n7 : tN T ≤ 7) (r6 : tR T ≤ 6) : allR T F = allN T F := by
  have e1 : allR T F = xsum (fun a => xsum (fun l => if oS F a = nI l then lkv T F l a else 0) (tN T)) (tR T) := by
    apply xsum_congr
    intro a ha
    rcases h.2.1 a (by omega) with q | ⟨_, j, q1, q2, _⟩
    · rw [if_pos q]
      rw [xsum_congr (g := fun _ => 0) _ (fun i hi => ?_), xsum_0]
      rw [q, if_neg]
      intro z
      have := z.symm
      rw [nM2 (by omega)] at this
      exact this
    · rw [q2, if_neg (by rw [nM2 (by omega)]; exact fun z => z), cN_n (by omega)]
      rw [xsum_one (j := j) _ q1]
      · rw [if_pos rfl]
      · intro i hi hne
        rw [if_neg]
        rw [nI_eq (by omega) (by omega)]
        exact fun z => hne z.symm
  have e2 : allN T F = xsum (fun l => xsum (fun a => if oS F a = nI l then lkv T F l a else 0) (tR T)) (tN T) := by
    apply xsum_congr
    intro l hl
    by_cases hw : oW F l = 2
    · rw [if_pos hw]
      obtain ⟨b, q1, q2, q3⟩ := h.w2 (by omega) hw
      rw [q2, cN_n (by omega), xsum_one (j := b) _ q1]
      · rw [if_pos q3]
      · intro i hi hne
        rw [if_neg]
        intro z
        have := (h.hs n7 r6 (l := l) (a := i) (by omega) (by omega)).mpr z
        rw [q2, nI_eq (by omega) (by omega)] at this
        exact hne this.symm
    · rw [if_neg hw]
      rw [xsum_congr (g := fun _ => 0) _ (fun i hi => ?_), xsum_0]
      rw [if_neg]
      intro z
      have := (h.hs n7 r6 (l := l) (a := i) (by omega) (by omega)).mpr z
      rcases h.1 l (by omega) with q | ⟨_, q, _⟩
      · rw [q.1] at this
        have := this.symm
        rw [nM2 (by omega)] at this
        exact this
      · exact hw q
  rw [e1, e2, xsum_swap]
theorem c_allLikes {M : XM} {t o : Nat} {T : XT} {F : XO} {Q : Option Value → XM → Prop} (hT : TxtAt M t T) (hF : OffIs M o F) (hI : OInv T F) (sep : o + 7 ≤ t ∨ t + 29 ≤ o)
    (hQ : ∀ M' : XM, Ex (tX t) M M' → Q (some (.int (allR T F))) M') :
    RG xprog 259 0 [some (.ref t), some (.ref o), none, none] [] M Q := by
  have n7 := hT.n7
  have r6 := hT.r6
  rw [B_259_0]
  refine x_for (tR T) (fun i (s : XM × Int32) => Ex (tX t) M s.1 ∧ s.2 = xsum (fun a => if oS F a = -2 then 0 else lkv T F (cN (oS F a)) a) i) (fun i s => RG xprog 259 4 [some (.ref t), some (.ref o), some (.int s.2), some (.int (nI i))] [] s.1 Q) ?_ ?_ 0 (M, 0) (by omega) ⟨Ex.refl _ _, rfl⟩
  · rintro ⟨M1, x⟩ ⟨e1, f1⟩
    dsimp only at e1 f1 ⊢
    have hT' := hT.ex e1 (by intro a k q; unfold tX at q; omega)
    rw [B_259_4]
    simp (disch := omega) only [hT'.f, hT'.r, lAdd, addL, lMul, mulL, nMul, nI_add, subL, lSub, nSub, nDec, nCl, lCl, nVp, lVp, nLe, nLt, nEq, lLe, leL, lLt, ltL, eqL, lEq, nM1, nM2, litLt0, one01, zero01, oneNe0, xupE, xupA, xupK, xI_I, xS_I, xF_I, xJ_I, xI_R, xS_R, xF_R, xJ_R, xI_L, xS_L, xF_L, xJ_L, xcat_s, le46, ge16, or_true, true_or, false_or, or_false, eq_self, Option.toList_some, Option.toList_none, List.cons_append, List.nil_append, true_and, and_true, not_false_eq_true, not_true_eq_false, if_true, if_false, Nat.le_refl]
    rw [f1]
    exact hQ M1 e1
  · rintro a ⟨M1, x⟩ ha ⟨e1, f1⟩ ih
    dsimp only at e1 f1 ⊢
    have hT' := hT.ex e1 (by intro a k q; unfold tX at q; omega)
    have hF' := hF.ex e1 (by intro a k q; unfold tX at q; omega)
    rw [xsum_s, ← f1] at ih
    rw [B_259_4]
    simp (disch := omega) only [hT'.f, hT'.r, hF'.f, hF'.v, lAdd, addL, lMul, mulL, nMul, nI_add, subL, lSub, nSub, nDec, nCl, lCl, nVp, lVp, nLe, nLt, nEq, lLe, leL, lLt, ltL, eqL, lEq, nM1, nM2, litLt0, one01, zero01, oneNe0, xupE, xupA, xupK, xI_I, xS_I, xF_I, xJ_I, xI_R, xS_R, xF_R, xJ_R, xI_L, xS_L, xF_L, xJ_L, xcat_s, le46, ge16, or_true, true_or, false_or, or_false, eq_self, Option.toList_some, Option.toList_none, List.cons_append, List.nil_append, true_and, and_true, not_false_eq_true, not_true_eq_false, if_true, if_false, if_neg]
    by_cases hs : oS F a = -2
    · rw [if_pos hs]
      rw [if_pos hs, Int32.add_zero] at ih
      exact ih (M1, x) ⟨e1, rfl⟩
    · rw [if_neg hs]
      obtain ⟨l, hl, hl2⟩ := hI.s2 (show a < 6 by omega) hs
      rw [if_neg hs, hl2, cN_n (by omega)] at ih
      rw [hl2]
      refine c_likesOf hT' hF' (by omega) (by omega) sep ?_
      intro M2 e2
      simp (disch := omega) only [lAdd, addL, lMul, mulL, nMul, nI_add, subL, lSub, nSub, nDec, nCl, lCl, nVp, lVp, nLe, nLt, nEq, lLe, leL, lLt, ltL, eqL, lEq, nM1, nM2, litLt0, one01, zero01, oneNe0, xupE, xupA, xupK, xI_I, xS_I, xF_I, xJ_I, xI_R, xS_R, xF_R, xJ_R, xI_L, xS_L, xF_L, xJ_L, xcat_s, le46, ge16, or_true, true_or, false_or, or_false, eq_self, Option.toList_some, Option.toList_none, List.cons_append, List.nil_append, true_and, and_true, not_false_eq_true, not_true_eq_false, if_true, if_false, B_259_36]
      exact ih (M2, _) ⟨e1.trans e2, rfl⟩
theorem q_likedAll {M0 M : XM} {lv : Nat} {S : XS} {F : XO} {sd st : Int32} {Q : Option Value → XM → Prop} (h : RQ M0 lv S F sd st M)
    (hQ : ∀ M' : XM, RQ M0 lv S F sd st M' → Q (some (.int (allR (zT S) F))) M') :
    RG xprog 261 0 [some (.ref 439), none, none] [] M Q := by
  have n7 := h.2.1.n7
  have r6 := h.2.1.r6
  have l2 := h.2.1.lv2
  have hi := h.2.1.i
  rw [all_eq hi n7 r6] at hQ
  rw [B_261_0]
  refine x_for (tN (zT S)) (fun i (s : XM × Int32) => RQ M0 lv S F sd st s.1 ∧ s.2 = xsum (fun l => if oW F l = 2 then lkv (zT S) F l (cN (oH F l)) else 0) i) (fun i s => RG xprog 261 4 [some (.ref 439), some (.int s.2), some (.int (nI i))] [] s.1 Q) ?_ ?_ 0 (M, 0) (by omega) ⟨h, rfl⟩
  · rintro ⟨M1, x⟩ ⟨k1, f1⟩
    dsimp only at k1 f1 ⊢
    rw [B_261_4]
    simp (disch := omega) only [k1.2.1.s.s, k1.2.1.s.f, k1.2.1.v, k1.2.1.n, k1.2.1.r, lAdd, addL, lMul, mulL, nMul, nI_add, subL, lSub, nSub, nDec, nCl, lCl, nVp, lVp, nLe, nLt, nEq, lLe, leL, lLt, ltL, eqL, lEq, nM1, nM2, litLt0, one01, zero01, oneNe0, xupE, xupA, xupK, xI_I, xS_I, xF_I, xJ_I, xI_R, xS_R, xF_R, xJ_R, xI_L, xS_L, xF_L, xJ_L, xcat_s, le46, ge16, or_true, true_or, false_or, or_false, eq_self, Option.toList_some, Option.toList_none, List.cons_append, List.nil_append, true_and, and_true, not_false_eq_true, not_true_eq_false, if_true, if_false, Nat.le_refl]
    rw [f1]
    exact hQ M1 k1
  · rintro l ⟨M1, x⟩ hl ⟨k1, f1⟩ ih
    dsimp only at k1 f1 ⊢
    rw [xsum_s, ← f1] at ih
    rw [B_261_4]
    simp (disch := omega) only [k1.2.1.s.s, k1.2.1.s.f, k1.2.1.v, k1.2.1.n, k1.2.1.r, lAdd, addL, lMul, mulL, nMul, nI_add, subL, lSub, nSub, nDec, nCl, lCl, nVp, lVp, nLe, nLt, nEq, lLe, leL, lLt, ltL, eqL, lEq, nM1, nM2, litLt0, one01, zero01, oneNe0, xupE, xupA, xupK, xI_I, xS_I, xF_I, xJ_I, xI_R, xS_R, xF_R, xJ_R, xI_L, xS_L, xF_L, xJ_L, xcat_s, le46, ge16, or_true, true_or, false_or, or_false, eq_self, Option.toList_some, Option.toList_none, List.cons_append, List.nil_append, true_and, and_true, not_false_eq_true, not_true_eq_false, if_true, if_false, if_neg, k1.2.1.l (show l < 7 by omega)]
    by_cases hw : oW F l = 2
    · rw [if_neg (fun q => q hw)]
      obtain ⟨b, q1, q2, q3⟩ := hi.w2 (show l < 7 by omega) hw
      rw [if_pos hw, q2, cN_n (by omega)] at ih
      rw [q2]
      refine q_likesOf k1 hl q1 ?_
      intro M2 k2
      simp (disch := omega) only [lAdd, addL, lMul, mulL, nMul, nI_add, subL, lSub, nSub, nDec, nCl, lCl, nVp, lVp, nLe, nLt, nEq, lLe, leL, lLt, ltL, eqL, lEq, nM1, nM2, litLt0, one01, zero01, oneNe0, xupE, xupA, xupK, xI_I, xS_I, xF_I, xJ_I, xI_R, xS_R, xF_R, xJ_R, xI_L, xS_L, xF_L, xJ_L, xcat_s, le46, ge16, or_true, true_or, false_or, or_false, eq_self, Option.toList_some, Option.toList_none, List.cons_append, List.nil_append, true_and, and_true, not_false_eq_true, not_true_eq_false, if_true, if_false, B_261_42]
      exact ih (M2, _) ⟨k2, rfl⟩
    · rw [if_pos hw]
      rw [if_neg hw, Int32.add_zero] at ih
      exact ih (M1, x) ⟨k1, rfl⟩
theorem r_copiesStill {M0 M : XM} {lv B : Nat} {S : XS} {Q : Option Value → XM → Prop} (h : RK M0 lv S M) (hi : SInv B S) (hB : B ≤ 99999)
    (hQ : ∀ M' : XM, RQ M0 lv S (zF S) (tS (zT S) 2) 1 M' → Q none M') :
    RG xprog 247 0 [some (.ref 439)] [] M Q := by
  rw [B_247_0]
  simp (disch := omega) only [h.1.1.1.s, lAdd, addL, lMul, mulL, nMul, nI_add, subL, lSub, nSub, nDec, nCl, lCl, nVp, lVp, nLe, nLt, nEq, lLe, leL, lLt, ltL, eqL, lEq, nM1, nM2, litLt0, one01, zero01, oneNe0, xupE, xupA, xupK, xI_I, xS_I, xF_I, xJ_I, xI_R, xS_R, xF_R, xJ_R, xI_L, xS_L, xF_L, xJ_L, xcat_s, le46, ge16, or_true, true_or, false_or, or_false, eq_self, Option.toList_some, Option.toList_none, List.cons_append, List.nil_append, true_and, and_true, not_false_eq_true, not_true_eq_false, if_true, if_false]
  refine r_copies h hi hB ?_
  intro M1 h1
  simp (disch := omega) only [lAdd, addL, lMul, mulL, nMul, nI_add, subL, lSub, nSub, nDec, nCl, lCl, nVp, lVp, nLe, nLt, nEq, lLe, leL, lLt, ltL, eqL, lEq, nM1, nM2, litLt0, one01, zero01, oneNe0, xupE, xupA, xupK, xI_I, xS_I, xF_I, xJ_I, xI_R, xS_R, xF_R, xJ_R, xI_L, xS_L, xF_L, xJ_L, xcat_s, le46, ge16, or_true, true_or, false_or, or_false, eq_self, Option.toList_some, Option.toList_none, List.cons_append, List.nil_append, true_and, and_true, not_false_eq_true, not_true_eq_false, if_true, if_false, B_247_4, h1.2.1.s.s]
  apply hQ
  have e : Ex (fun a k => a = 439 ∧ k = 53) M1 (xmI M1 439 53 1) := (Ex.refl _ _).wr _ ⟨rfl, rfl⟩
  refine ⟨h1.1.step e (fun a k q => ?_), h1.2.1.ex e (fun a k q => ?_), ?_, ?_⟩
  · unfold rS
    omega
  · unfold rNT
    omega
  · simp (disch := omega) only [lAdd, addL, lMul, mulL, nMul, nI_add, subL, lSub, nSub, nDec, nCl, lCl, nVp, lVp, nLe, nLt, nEq, lLe, leL, lLt, ltL, eqL, lEq, nM1, nM2, litLt0, one01, zero01, oneNe0, xupE, xupA, xupK, xI_I, xS_I, xF_I, xJ_I, xI_R, xS_R, xF_R, xJ_R, xI_L, xS_L, xF_L, xJ_L, xcat_s, le46, ge16, or_true, true_or, false_or, or_false, eq_self, Option.toList_some, Option.toList_none, List.cons_append, List.nil_append, true_and, and_true, not_false_eq_true, not_true_eq_false, if_true, if_false]
    exact h1.2.2.1
  · simp (disch := omega) only [lAdd, addL, lMul, mulL, nMul, nI_add, subL, lSub, nSub, nDec, nCl, lCl, nVp, lVp, nLe, nLt, nEq, lLe, leL, lLt, ltL, eqL, lEq, nM1, nM2, litLt0, one01, zero01, oneNe0, xupE, xupA, xupK, xI_I, xS_I, xF_I, xJ_I, xI_R, xS_R, xF_R, xJ_R, xI_L, xS_L, xF_L, xJ_L, xcat_s, le46, ge16, or_true, true_or, false_or, or_false, eq_self, Option.toList_some, Option.toList_none, List.cons_append, List.nil_append, true_and, and_true, not_false_eq_true, not_true_eq_false, if_true, if_false]
def wsF (T : XT) (F : XO) : Nat := bn (fun i => decide (oW F i = 1)) (tN T)
def A_waiting (S : XS) (x : Int32) : Int32 := if inb x 0 60 then nI (pcn (wsF (zT S) (daysF (zT S) (tS (zT S) 2) 0 (cN x) (zF S)))) else -1
theorem inb60 {x : Int32} (h : inb x 0 60) : ∃ n, n ≤ 60 ∧ x = nI n := inb_get (n := 60) h (by omega)
theorem c_waiting {M0 M : XM} {t B : Nat} {S : XS} {x : Int32} {Q : Option Value → XM → Prop} (h : CK M0 t S M) (hi : SInv B S)
    (hQ : ∀ M' : XM, CK M0 t S M' → Q (some (.int (A_waiting S x))) M') :
    RG xprog 246 0 [some (.ref 16), some (.int x)] [] M Q := by
  have n7 := h.1.tx.n7
  unfold A_waiting at hQ
  rw [B_246_0]
  simp (disch := omega) only [c_isSpan, B_246_4, lAdd, addL, lMul, mulL, nMul, nI_add, subL, lSub, nSub, nDec, nCl, lCl, nVp, lVp, nLe, nLt, nEq, lLe, leL, lLt, ltL, eqL, lEq, nM1, nM2, litLt0, one01, zero01, oneNe0, xupE, xupA, xupK, xI_I, xS_I, xF_I, xJ_I, xI_R, xS_R, xF_R, xJ_R, xI_L, xS_L, xF_L, xJ_L, xcat_s, le46, ge16, or_true, true_or, false_or, or_false, eq_self, Option.toList_some, Option.toList_none, List.cons_append, List.nil_append, true_and, and_true, not_false_eq_true, not_true_eq_false, if_true, if_false]
  by_cases hx : inb x 0 60
  · rw [if_pos hx, if_pos (by decide)]
    rw [if_pos hx] at hQ
    obtain ⟨n, hn, rfl⟩ := inb60 hx
    rw [cN_n (by omega)] at hQ
    simp (disch := omega) only [h.1.d, h.1.tx.f, h.1.tx.n, h.1.tx.r, h.1.of.f, h.1.of.v, lAdd, addL, lMul, mulL, nMul, nI_add, subL, lSub, nSub, nDec, nCl, lCl, nVp, lVp, nLe, nLt, nEq, lLe, leL, lLt, ltL, eqL, lEq, nM1, nM2, litLt0, one01, zero01, oneNe0, xupE, xupA, xupK, xI_I, xS_I, xF_I, xJ_I, xI_R, xS_R, xF_R, xJ_R, xI_L, xS_L, xF_L, xJ_L, xcat_s, le46, ge16, or_true, true_or, false_or, or_false, eq_self, Option.toList_some, Option.toList_none, List.cons_append, List.nil_append, true_and, and_true, not_false_eq_true, not_true_eq_false, if_true, if_false, c_seed h.1.tx, B_246_18]
    refine c_goAhead (wet := 0) h hi hn ?_
    intro M1 k1 f1
    simp (disch := omega) only [lAdd, addL, lMul, mulL, nMul, nI_add, subL, lSub, nSub, nDec, nCl, lCl, nVp, lVp, nLe, nLt, nEq, lLe, leL, lLt, ltL, eqL, lEq, nM1, nM2, litLt0, one01, zero01, oneNe0, xupE, xupA, xupK, xI_I, xS_I, xF_I, xJ_I, xI_R, xS_R, xF_R, xJ_R, xI_L, xS_L, xF_L, xJ_L, xcat_s, le46, ge16, or_true, true_or, false_or, or_false, eq_self, Option.toList_some, Option.toList_none, List.cons_append, List.nil_append, true_and, and_true, not_false_eq_true, not_true_eq_false, if_true, if_false, B_246_22, k1.1.d, k1.1.tx.f, k1.1.tx.n, k1.1.tx.r, k1.1.of.f, k1.1.of.v, f1.f, c_lettersAt f1.1 n7, B_246_37, f1.v, xbits_n _ _ _ n7]
    rw [c_bitCount (bn128 _ n7)]
    simp (disch := omega) only [lAdd, addL, lMul, mulL, nMul, nI_add, subL, lSub, nSub, nDec, nCl, lCl, nVp, lVp, nLe, nLt, nEq, lLe, leL, lLt, ltL, eqL, lEq, nM1, nM2, litLt0, one01, zero01, oneNe0, xupE, xupA, xupK, xI_I, xS_I, xF_I, xJ_I, xI_R, xS_R, xF_R, xJ_R, xI_L, xS_L, xF_L, xJ_L, xcat_s, le46, ge16, or_true, true_or, false_or, or_false, eq_self, Option.toList_some, Option.toList_none, List.cons_append, List.nil_append, true_and, and_true, not_false_eq_true, not_true_eq_false, if_true, if_false, B_246_40]
    exact hQ M1 k1
  · rw [if_neg hx, if_neg (by decide)]
    rw [if_neg hx] at hQ
    exact hQ M h
theorem r_waiting {M0 M : XM} {lv B : Nat} {S : XS} {x : Int32} {Q : Option Value → XM → Prop} (h : RK M0 lv S M) (hi : SInv B S) (hB : B ≤ 99000)
    (hQ : ∀ M' : XM, RK M0 lv S M' → Q (some (.int (A_waiting S x))) M') :
    RG xprog 250 0 [some (.ref 439), some (.int x)] [] M Q := by
  have n7 := h.1.1.n7
  unfold A_waiting at hQ
  rw [B_250_0]
  simp (disch := omega) only [r_isLong, B_250_4, lAdd, addL, lMul, mulL, nMul, nI_add, subL, lSub, nSub, nDec, nCl, lCl, nVp, lVp, nLe, nLt, nEq, lLe, leL, lLt, ltL, eqL, lEq, nM1, nM2, litLt0, one01, zero01, oneNe0, xupE, xupA, xupK, xI_I, xS_I, xF_I, xJ_I, xI_R, xS_R, xF_R, xJ_R, xI_L, xS_L, xF_L, xJ_L, xcat_s, le46, ge16, or_true, true_or, false_or, or_false, eq_self, Option.toList_some, Option.toList_none, List.cons_append, List.nil_append, true_and, and_true, not_false_eq_true, not_true_eq_false, if_true, if_false]
  by_cases hx : inb x 0 60
  · rw [if_pos hx, if_pos (by decide)]
    rw [if_pos hx] at hQ
    obtain ⟨n, hn, rfl⟩ := inb60 hx
    rw [cN_n (by omega)] at hQ
    simp (disch := omega) only [h.1.1.1.s, lAdd, addL, lMul, mulL, nMul, nI_add, subL, lSub, nSub, nDec, nCl, lCl, nVp, lVp, nLe, nLt, nEq, lLe, leL, lLt, ltL, eqL, lEq, nM1, nM2, litLt0, one01, zero01, oneNe0, xupE, xupA, xupK, xI_I, xS_I, xF_I, xJ_I, xI_R, xS_R, xF_R, xJ_R, xI_L, xS_L, xF_L, xJ_L, xcat_s, le46, ge16, or_true, true_or, false_or, or_false, eq_self, Option.toList_some, Option.toList_none, List.cons_append, List.nil_append, true_and, and_true, not_false_eq_true, not_true_eq_false, if_true, if_false]
    refine r_copiesStill h hi (by omega) ?_
    intro M1 h1
    simp (disch := omega) only [lAdd, addL, lMul, mulL, nMul, nI_add, subL, lSub, nSub, nDec, nCl, lCl, nVp, lVp, nLe, nLt, nEq, lLe, leL, lLt, ltL, eqL, lEq, nM1, nM2, litLt0, one01, zero01, oneNe0, xupE, xupA, xupK, xI_I, xS_I, xF_I, xJ_I, xI_R, xS_R, xF_R, xJ_R, xI_L, xS_L, xF_L, xJ_L, xcat_s, le46, ge16, or_true, true_or, false_or, or_false, eq_self, Option.toList_some, Option.toList_none, List.cons_append, List.nil_append, true_and, and_true, not_false_eq_true, not_true_eq_false, if_true, if_false, B_250_13, h1.2.1.s.s, h1.2.1.s.f, h1.2.1.v, h1.2.1.n, h1.2.1.r]
    refine q_goes (wet := 0) h1 (Or.inl ⟨by decide, rfl⟩) hi.2.2.1 (by omega) ?_
    intro M2 h2
    simp (disch := omega) only [lAdd, addL, lMul, mulL, nMul, nI_add, subL, lSub, nSub, nDec, nCl, lCl, nVp, lVp, nLe, nLt, nEq, lLe, leL, lLt, ltL, eqL, lEq, nM1, nM2, litLt0, one01, zero01, oneNe0, xupE, xupA, xupK, xI_I, xS_I, xF_I, xJ_I, xI_R, xS_R, xF_R, xJ_R, xI_L, xS_L, xF_L, xJ_L, xcat_s, le46, ge16, or_true, true_or, false_or, or_false, eq_self, Option.toList_some, Option.toList_none, List.cons_append, List.nil_append, true_and, and_true, not_false_eq_true, not_true_eq_false, if_true, if_false, B_250_18, h2.2.1.s.s, h2.2.1.s.f, h2.2.1.v, h2.2.1.n, h2.2.1.r, r_whereBits h2.2.1, B_250_23, xbits_n _ _ _ n7]
    rw [r_bits (bn128 _ n7)]
    simp (disch := omega) only [lAdd, addL, lMul, mulL, nMul, nI_add, subL, lSub, nSub, nDec, nCl, lCl, nVp, lVp, nLe, nLt, nEq, lLe, leL, lLt, ltL, eqL, lEq, nM1, nM2, litLt0, one01, zero01, oneNe0, xupE, xupA, xupK, xI_I, xS_I, xF_I, xJ_I, xI_R, xS_R, xF_R, xJ_R, xI_L, xS_L, xF_L, xJ_L, xcat_s, le46, ge16, or_true, true_or, false_or, or_false, eq_self, Option.toList_some, Option.toList_none, List.cons_append, List.nil_append, true_and, and_true, not_false_eq_true, not_true_eq_false, if_true, if_false, B_250_26]
    exact hQ M2 h2.1
  · rw [if_neg hx, if_neg (by decide)]
    rw [if_neg hx] at hQ
    exact hQ M h
def A_then (S : XS) (x y w : Int32) : Int32 := if isLb (tN (zT S)) x ∧ inb y 0 60 ∧ is01 w then (if w = 0 then oW (daysF (zT S) (tS (zT S) 2) (tS (zT S) 1) (cN y) (zF S)) (cN x) else oH (daysF (zT S) (tS (zT S) 2) (tS (zT S) 1) (cN y) (zF S)) (cN x)) else -1
theorem c_then {M0 M : XM} {t B : Nat} {S : XS} {x y w : Int32} {Q : Option Value → XM → Prop} (h : CK M0 t S M) (hi : SInv B S)
    (hQ : ∀ M' : XM, CK M0 t S M' → Q (some (.int (A_then S x y w))) M') :
    RG xprog 255 0 [some (.ref 16), some (.int x), some (.int y), some (.int w)] [] M Q := by
  have n7 := h.1.tx.n7
  unfold A_then at hQ
  rw [B_255_0]
  simp (disch := omega) only [h.1.d, c_isLetter h.1, B_255_5, c_isSpan, B_255_12, lAdd, addL, lMul, mulL, nMul, nI_add, subL, lSub, nSub, nDec, nCl, lCl, nVp, lVp, nLe, nLt, nEq, lLe, leL, lLt, ltL, eqL, lEq, nM1, nM2, litLt0, one01, zero01, oneNe0, xupE, xupA, xupK, xI_I, xS_I, xF_I, xJ_I, xI_R, xS_R, xF_R, xJ_R, xI_L, xS_L, xF_L, xJ_L, xcat_s, le46, ge16, or_true, true_or, false_or, or_false, eq_self, Option.toList_some, Option.toList_none, List.cons_append, List.nil_append, true_and, and_true, not_false_eq_true, not_true_eq_false, if_true, if_false]
  by_cases hx : isLb (tN (zT S)) x
  · rw [if_pos hx, if_neg (by decide)]
    by_cases hy : inb y 0 60
    · rw [if_pos hy, if_neg (by decide)]
      by_cases hw : is01 w
      · have hw' := (in01 w).mpr hw
        rw [if_neg hw'.1, if_pos (by rw [le_nlt]; exact hw'.2)]
        rw [if_pos ⟨hx, hy, hw⟩] at hQ
        obtain ⟨l, hl, rfl⟩ := isLb_get hx (by omega)
        obtain ⟨n, hn, rfl⟩ := inb60 hy
        rw [cN_n (by omega), cN_n (by omega)] at hQ
        simp (disch := omega) only [h.1.d, h.1.tx.f, h.1.tx.n, h.1.tx.r, h.1.of.f, h.1.of.v, lAdd, addL, lMul, mulL, nMul, nI_add, subL, lSub, nSub, nDec, nCl, lCl, nVp, lVp, nLe, nLt, nEq, lLe, leL, lLt, ltL, eqL, lEq, nM1, nM2, litLt0, one01, zero01, oneNe0, xupE, xupA, xupK, xI_I, xS_I, xF_I, xJ_I, xI_R, xS_R, xF_R, xJ_R, xI_L, xS_L, xF_L, xJ_L, xcat_s, le46, ge16, or_true, true_or, false_or, or_false, eq_self, Option.toList_some, Option.toList_none, List.cons_append, List.nil_append, true_and, and_true, not_false_eq_true, not_true_eq_false, if_true, if_false, c_seed h.1.tx, c_wet h.1.tx, B_255_35, B_255_42]
        refine c_goAhead h hi hn ?_
        intro M1 k1 f1
        have q := hQ M1 k1
        simp (disch := omega) only [lAdd, addL, lMul, mulL, nMul, nI_add, subL, lSub, nSub, nDec, nCl, lCl, nVp, lVp, nLe, nLt, nEq, lLe, leL, lLt, ltL, eqL, lEq, nM1, nM2, litLt0, one01, zero01, oneNe0, xupE, xupA, xupK, xI_I, xS_I, xF_I, xJ_I, xI_R, xS_R, xF_R, xJ_R, xI_L, xS_L, xF_L, xJ_L, xcat_s, le46, ge16, or_true, true_or, false_or, or_false, eq_self, Option.toList_some, Option.toList_none, List.cons_append, List.nil_append, true_and, and_true, not_false_eq_true, not_true_eq_false, if_true, if_false, B_255_45, k1.1.d, k1.1.tx.f, k1.1.tx.n, k1.1.tx.r, k1.1.of.f, k1.1.of.v, f1.f, f1.v]
        by_cases w0 : w = 0
        · rw [if_neg (fun z => z w0)]
          rw [if_pos w0] at q
          exact q
        · rw [if_pos w0]
          rw [if_neg w0] at q
          exact q
      · rw [if_neg (fun q => hw q.2.2)] at hQ
        by_cases h0 : w < 0
        · rw [if_pos h0]
          exact hQ M h
        · rw [if_neg h0, if_neg (fun q => hw ((in01 w).mp ⟨h0, by rw [← le_nlt]; exact q⟩))]
          exact hQ M h
    · rw [if_neg hy, if_pos rfl]
      rw [if_neg (fun q => hy q.2.1)] at hQ
      exact hQ M h
  · rw [if_neg hx, if_pos rfl]
    rw [if_neg (fun q => hx q.1)] at hQ
    exact hQ M h
theorem r_then {M0 M : XM} {lv B : Nat} {S : XS} {x y w : Int32} {Q : Option Value → XM → Prop} (h : RK M0 lv S M) (hi : SInv B S) (hB : B ≤ 99000)
    (hQ : ∀ M' : XM, RK M0 lv S M' → Q (some (.int (A_then S x y w))) M') :
    RG xprog 256 0 [some (.ref 439), some (.int x), some (.int y), some (.int w)] [] M Q := by
  have n7 := h.1.1.n7
  unfold A_then at hQ
  rw [B_256_0]
  simp (disch := omega) only [h.1.1.1.s, r_isLetter h.1.1, B_256_5, r_isLong, B_256_12, r_in, B_256_21, lAdd, addL, lMul, mulL, nMul, nI_add, subL, lSub, nSub, nDec, nCl, lCl, nVp, lVp, nLe, nLt, nEq, lLe, leL, lLt, ltL, eqL, lEq, nM1, nM2, litLt0, one01, zero01, oneNe0, xupE, xupA, xupK, xI_I, xS_I, xF_I, xJ_I, xI_R, xS_R, xF_R, xJ_R, xI_L, xS_L, xF_L, xJ_L, xcat_s, le46, ge16, or_true, true_or, false_or, or_false, eq_self, Option.toList_some, Option.toList_none, List.cons_append, List.nil_append, true_and, and_true, not_false_eq_true, not_true_eq_false, if_true, if_false]
  by_cases hx : isLb (tN (zT S)) x
  · rw [if_pos hx, if_neg (by decide)]
    by_cases hy : inb y 0 60
    · rw [if_pos hy, if_neg (by decide)]
      by_cases hw : is01 w
      · rw [if_pos ((in01 w).mpr hw), if_pos (by decide)]
        rw [if_pos ⟨hx, hy, hw⟩] at hQ
        obtain ⟨l, hl, rfl⟩ := isLb_get hx (by omega)
        obtain ⟨n, hn, rfl⟩ := inb60 hy
        rw [cN_n (by omega), cN_n (by omega)] at hQ
        refine r_copies h hi (by omega) ?_
        intro M1 h1
        simp (disch := omega) only [lAdd, addL, lMul, mulL, nMul, nI_add, subL, lSub, nSub, nDec, nCl, lCl, nVp, lVp, nLe, nLt, nEq, lLe, leL, lLt, ltL, eqL, lEq, nM1, nM2, litLt0, one01, zero01, oneNe0, xupE, xupA, xupK, xI_I, xS_I, xF_I, xJ_I, xI_R, xS_R, xF_R, xJ_R, xI_L, xS_L, xF_L, xJ_L, xcat_s, le46, ge16, or_true, true_or, false_or, or_false, eq_self, Option.toList_some, Option.toList_none, List.cons_append, List.nil_append, true_and, and_true, not_false_eq_true, not_true_eq_false, if_true, if_false, B_256_30, h1.2.1.s.s, h1.2.1.s.f, h1.2.1.v, h1.2.1.n, h1.2.1.r]
        refine q_goes (wet := tS (zT S) 1) h1 (Or.inr ⟨rfl, rfl⟩) hi.2.2.1 (by omega) ?_
        intro M2 h2
        have q := hQ M2 h2.1
        have l7 : l < 7 := by omega
        simp (disch := omega) only [lAdd, addL, lMul, mulL, nMul, nI_add, subL, lSub, nSub, nDec, nCl, lCl, nVp, lVp, nLe, nLt, nEq, lLe, leL, lLt, ltL, eqL, lEq, nM1, nM2, litLt0, one01, zero01, oneNe0, xupE, xupA, xupK, xI_I, xS_I, xF_I, xJ_I, xI_R, xS_R, xF_R, xJ_R, xI_L, xS_L, xF_L, xJ_L, xcat_s, le46, ge16, or_true, true_or, false_or, or_false, eq_self, Option.toList_some, Option.toList_none, List.cons_append, List.nil_append, true_and, and_true, not_false_eq_true, not_true_eq_false, if_true, if_false]
        rw [B_256_35]
        rcases hw with rfl | rfl
        · have e : (7 : Int32) * 0 + nI l = nI l := by rw [show (7 : Int32) * 0 = nI 0 from rfl, nI_add, Nat.zero_add]
          simp (disch := omega) only [e, lAdd, addL, lMul, mulL, nMul, nI_add, subL, lSub, nSub, nDec, nCl, lCl, nVp, lVp, nLe, nLt, nEq, lLe, leL, lLt, ltL, eqL, lEq, nM1, nM2, litLt0, one01, zero01, oneNe0, xupE, xupA, xupK, xI_I, xS_I, xF_I, xJ_I, xI_R, xS_R, xF_R, xJ_R, xI_L, xS_L, xF_L, xJ_L, xcat_s, le46, ge16, or_true, true_or, false_or, or_false, eq_self, Option.toList_some, Option.toList_none, List.cons_append, List.nil_append, true_and, and_true, not_false_eq_true, not_true_eq_false, if_true, if_false, h2.2.1.s.s, h2.2.1.s.f, h2.2.1.v, h2.2.1.n, h2.2.1.r, h2.2.1.l l7] at q ⊢
          exact q
        · have e : (7 : Int32) * 1 + nI l = nI (7 + l) := by rw [show (7 : Int32) * 1 = nI 7 from rfl, nI_add]
          simp (disch := omega) only [e, lAdd, addL, lMul, mulL, nMul, nI_add, subL, lSub, nSub, nDec, nCl, lCl, nVp, lVp, nLe, nLt, nEq, lLe, leL, lLt, ltL, eqL, lEq, nM1, nM2, litLt0, one01, zero01, oneNe0, xupE, xupA, xupK, xI_I, xS_I, xF_I, xJ_I, xI_R, xS_R, xF_R, xJ_R, xI_L, xS_L, xF_L, xJ_L, xcat_s, le46, ge16, or_true, true_or, false_or, or_false, eq_self, Option.toList_some, Option.toList_none, List.cons_append, List.nil_append, true_and, and_true, not_false_eq_true, not_true_eq_false, if_true, if_false, h2.2.1.s.s, h2.2.1.s.f, h2.2.1.v, h2.2.1.n, h2.2.1.r, h2.2.1.l l7] at q ⊢
          exact q
      · rw [if_neg (fun q => hw ((in01 w).mp q)), if_neg (by decide)]
        rw [if_neg (fun q => hw q.2.2)] at hQ
        exact hQ M h
    · rw [if_neg hy, if_pos rfl]
      rw [if_neg (fun q => hy q.2.1)] at hQ
      exact hQ M h
  · rw [if_neg hx, if_pos rfl]
    rw [if_neg (fun q => hx q.1)] at hQ
    exact hQ M h
def A_readerIn (S : XS) (x y w : Int32) : Int32 := if isLb (tR (zT S)) x ∧ inb y 0 60 ∧ is01 w then (if w = 0 then oS (daysF (zT S) (tS (zT S) 2) (tS (zT S) 1) (cN y) (zF S)) (cN x) else oA (daysF (zT S) (tS (zT S) 2) (tS (zT S) 1) (cN y) (zF S)) (cN x)) else -1
theorem c_readerIn {M0 M : XM} {t B : Nat} {S : XS} {x y w : Int32} {Q : Option Value → XM → Prop} (h : CK M0 t S M) (hi : SInv B S)
    (hQ : ∀ M' : XM, CK M0 t S M' → Q (some (.int (A_readerIn S x y w))) M') :
    RG xprog 257 0 [some (.ref 16), some (.int x), some (.int y), some (.int w)] [] M Q := by
  have r6 := h.1.tx.r6
  unfold A_readerIn at hQ
  rw [B_257_0]
  simp (disch := omega) only [h.1.d, c_isReader h.1, B_257_5, c_isSpan, B_257_12, lAdd, addL, lMul, mulL, nMul, nI_add, subL, lSub, nSub, nDec, nCl, lCl, nVp, lVp, nLe, nLt, nEq, lLe, leL, lLt, ltL, eqL, lEq, nM1, nM2, litLt0, one01, zero01, oneNe0, xupE, xupA, xupK, xI_I, xS_I, xF_I, xJ_I, xI_R, xS_R, xF_R, xJ_R, xI_L, xS_L, xF_L, xJ_L, xcat_s, le46, ge16, or_true, true_or, false_or, or_false, eq_self, Option.toList_some, Option.toList_none, List.cons_append, List.nil_append, true_and, and_true, not_false_eq_true, not_true_eq_false, if_true, if_false]
  by_cases hx : isLb (tR (zT S)) x
  · rw [if_pos hx, if_neg (by decide)]
    by_cases hy : inb y 0 60
    · rw [if_pos hy, if_neg (by decide)]
      by_cases hw : is01 w
      · have hw' := (in01 w).mpr hw
        rw [if_neg hw'.1, if_pos (by rw [le_nlt]; exact hw'.2)]
        rw [if_pos ⟨hx, hy, hw⟩] at hQ
        obtain ⟨l, hl, rfl⟩ := isLb_get hx (by omega)
        obtain ⟨n, hn, rfl⟩ := inb60 hy
        rw [cN_n (by omega), cN_n (by omega)] at hQ
        simp (disch := omega) only [h.1.d, h.1.tx.f, h.1.tx.n, h.1.tx.r, h.1.of.f, h.1.of.v, lAdd, addL, lMul, mulL, nMul, nI_add, subL, lSub, nSub, nDec, nCl, lCl, nVp, lVp, nLe, nLt, nEq, lLe, leL, lLt, ltL, eqL, lEq, nM1, nM2, litLt0, one01, zero01, oneNe0, xupE, xupA, xupK, xI_I, xS_I, xF_I, xJ_I, xI_R, xS_R, xF_R, xJ_R, xI_L, xS_L, xF_L, xJ_L, xcat_s, le46, ge16, or_true, true_or, false_or, or_false, eq_self, Option.toList_some, Option.toList_none, List.cons_append, List.nil_append, true_and, and_true, not_false_eq_true, not_true_eq_false, if_true, if_false, c_seed h.1.tx, c_wet h.1.tx, B_257_35, B_257_42]
        refine c_goAhead h hi hn ?_
        intro M1 k1 f1
        have q := hQ M1 k1
        simp (disch := omega) only [lAdd, addL, lMul, mulL, nMul, nI_add, subL, lSub, nSub, nDec, nCl, lCl, nVp, lVp, nLe, nLt, nEq, lLe, leL, lLt, ltL, eqL, lEq, nM1, nM2, litLt0, one01, zero01, oneNe0, xupE, xupA, xupK, xI_I, xS_I, xF_I, xJ_I, xI_R, xS_R, xF_R, xJ_R, xI_L, xS_L, xF_L, xJ_L, xcat_s, le46, ge16, or_true, true_or, false_or, or_false, eq_self, Option.toList_some, Option.toList_none, List.cons_append, List.nil_append, true_and, and_true, not_false_eq_true, not_true_eq_false, if_true, if_false, B_257_45, k1.1.d, k1.1.tx.f, k1.1.tx.n, k1.1.tx.r, k1.1.of.f, k1.1.of.v, f1.f, f1.v]
        by_cases w0 : w = 0
        · rw [if_neg (fun z => z w0)]
          rw [if_pos w0] at q
          exact q
        · rw [if_pos w0]
          rw [if_neg w0] at q
          exact q
      · rw [if_neg (fun q => hw q.2.2)] at hQ
        by_cases h0 : w < 0
        · rw [if_pos h0]
          exact hQ M h
        · rw [if_neg h0, if_neg (fun q => hw ((in01 w).mp ⟨h0, by rw [← le_nlt]; exact q⟩))]
          exact hQ M h
    · rw [if_neg hy, if_pos rfl]
      rw [if_neg (fun q => hy q.2.1)] at hQ
      exact hQ M h
  · rw [if_neg hx, if_pos rfl]
    rw [if_neg (fun q => hx q.1)] at hQ
    exact hQ M h
theorem r_readerIn {M0 M : XM} {lv B : Nat} {S : XS} {x y w : Int32} {Q : Option Value → XM → Prop} (h : RK M0 lv S M) (hi : SInv B S) (hB : B ≤ 99000)
    (hQ : ∀ M' : XM, RK M0 lv S M' → Q (some (.int (A_readerIn S x y w))) M') :
    RG xprog 258 0 [some (.ref 439), some (.int x), some (.int y), some (.int w)] [] M Q := by
  have r6 := h.1.1.r6
  unfold A_readerIn at hQ
  rw [B_258_0]
  simp (disch := omega) only [h.1.1.1.s, r_isReader h.1.1, B_258_5, r_isLong, B_258_12, r_in, B_258_21, lAdd, addL, lMul, mulL, nMul, nI_add, subL, lSub, nSub, nDec, nCl, lCl, nVp, lVp, nLe, nLt, nEq, lLe, leL, lLt, ltL, eqL, lEq, nM1, nM2, litLt0, one01, zero01, oneNe0, xupE, xupA, xupK, xI_I, xS_I, xF_I, xJ_I, xI_R, xS_R, xF_R, xJ_R, xI_L, xS_L, xF_L, xJ_L, xcat_s, le46, ge16, or_true, true_or, false_or, or_false, eq_self, Option.toList_some, Option.toList_none, List.cons_append, List.nil_append, true_and, and_true, not_false_eq_true, not_true_eq_false, if_true, if_false]
  by_cases hx : isLb (tR (zT S)) x
  · rw [if_pos hx, if_neg (by decide)]
    by_cases hy : inb y 0 60
    · rw [if_pos hy, if_neg (by decide)]
      by_cases hw : is01 w
      · rw [if_pos ((in01 w).mpr hw), if_pos (by decide)]
        rw [if_pos ⟨hx, hy, hw⟩] at hQ
        obtain ⟨l, hl, rfl⟩ := isLb_get hx (by omega)
        obtain ⟨n, hn, rfl⟩ := inb60 hy
        rw [cN_n (by omega), cN_n (by omega)] at hQ
        refine r_copies h hi (by omega) ?_
        intro M1 h1
        simp (disch := omega) only [lAdd, addL, lMul, mulL, nMul, nI_add, subL, lSub, nSub, nDec, nCl, lCl, nVp, lVp, nLe, nLt, nEq, lLe, leL, lLt, ltL, eqL, lEq, nM1, nM2, litLt0, one01, zero01, oneNe0, xupE, xupA, xupK, xI_I, xS_I, xF_I, xJ_I, xI_R, xS_R, xF_R, xJ_R, xI_L, xS_L, xF_L, xJ_L, xcat_s, le46, ge16, or_true, true_or, false_or, or_false, eq_self, Option.toList_some, Option.toList_none, List.cons_append, List.nil_append, true_and, and_true, not_false_eq_true, not_true_eq_false, if_true, if_false, B_258_30, h1.2.1.s.s, h1.2.1.s.f, h1.2.1.v, h1.2.1.n, h1.2.1.r]
        refine q_goes (wet := tS (zT S) 1) h1 (Or.inr ⟨rfl, rfl⟩) hi.2.2.1 (by omega) ?_
        intro M2 h2
        have q := hQ M2 h2.1
        simp (disch := omega) only [lAdd, addL, lMul, mulL, nMul, nI_add, subL, lSub, nSub, nDec, nCl, lCl, nVp, lVp, nLe, nLt, nEq, lLe, leL, lLt, ltL, eqL, lEq, nM1, nM2, litLt0, one01, zero01, oneNe0, xupE, xupA, xupK, xI_I, xS_I, xF_I, xJ_I, xI_R, xS_R, xF_R, xJ_R, xI_L, xS_L, xF_L, xJ_L, xcat_s, le46, ge16, or_true, true_or, false_or, or_false, eq_self, Option.toList_some, Option.toList_none, List.cons_append, List.nil_append, true_and, and_true, not_false_eq_true, not_true_eq_false, if_true, if_false, B_258_35, h2.2.1.s.s, h2.2.1.s.f, h2.2.1.v, h2.2.1.n, h2.2.1.r, h2.2.1.a hl, r_letterOf h2.2.1 (show l < 6 by omega), B_258_44]
        by_cases w0 : w = 0
        · rw [if_neg (fun z => z w0)]
          rw [if_pos w0] at q
          exact q
        · rw [if_pos w0]
          rw [if_neg w0] at q
          exact q
      · rw [if_neg (fun q => hw ((in01 w).mp q)), if_neg (by decide)]
        rw [if_neg (fun q => hw q.2.2)] at hQ
        exact hQ M h
    · rw [if_neg hy, if_pos rfl]
      rw [if_neg (fun q => hy q.2.1)] at hQ
      exact hQ M h
  · rw [if_neg hx, if_pos rfl]
    rw [if_neg (fun q => hx q.1)] at hQ
    exact hQ M h
def A_likedIn (S : XS) (x : Int32) : Int32 := if inb x 0 60 then allR (zT S) (daysF (zT S) (tS (zT S) 2) (tS (zT S) 1) (cN x) (zF S)) else -1
theorem c_likedIn {M0 M : XM} {t B : Nat} {S : XS} {x : Int32} {Q : Option Value → XM → Prop} (h : CK M0 t S M) (hi : SInv B S)
    (hQ : ∀ M' : XM, CK M0 t S M' → Q (some (.int (A_likedIn S x))) M') :
    RG xprog 260 0 [some (.ref 16), some (.int x)] [] M Q := by
  have n7 := h.1.tx.n7
  have r6 := h.1.tx.r6
  unfold A_likedIn at hQ
  rw [B_260_0]
  simp (disch := omega) only [c_isSpan, B_260_4, lAdd, addL, lMul, mulL, nMul, nI_add, subL, lSub, nSub, nDec, nCl, lCl, nVp, lVp, nLe, nLt, nEq, lLe, leL, lLt, ltL, eqL, lEq, nM1, nM2, litLt0, one01, zero01, oneNe0, xupE, xupA, xupK, xI_I, xS_I, xF_I, xJ_I, xI_R, xS_R, xF_R, xJ_R, xI_L, xS_L, xF_L, xJ_L, xcat_s, le46, ge16, or_true, true_or, false_or, or_false, eq_self, Option.toList_some, Option.toList_none, List.cons_append, List.nil_append, true_and, and_true, not_false_eq_true, not_true_eq_false, if_true, if_false]
  by_cases hx : inb x 0 60
  · rw [if_pos hx, if_pos (by decide)]
    rw [if_pos hx] at hQ
    obtain ⟨n, hn, rfl⟩ := inb60 hx
    rw [cN_n (by omega)] at hQ
    simp (disch := omega) only [h.1.d, h.1.tx.f, h.1.tx.n, h.1.tx.r, h.1.of.f, h.1.of.v, lAdd, addL, lMul, mulL, nMul, nI_add, subL, lSub, nSub, nDec, nCl, lCl, nVp, lVp, nLe, nLt, nEq, lLe, leL, lLt, ltL, eqL, lEq, nM1, nM2, litLt0, one01, zero01, oneNe0, xupE, xupA, xupK, xI_I, xS_I, xF_I, xJ_I, xI_R, xS_R, xF_R, xJ_R, xI_L, xS_L, xF_L, xJ_L, xcat_s, le46, ge16, or_true, true_or, false_or, or_false, eq_self, Option.toList_some, Option.toList_none, List.cons_append, List.nil_append, true_and, and_true, not_false_eq_true, not_true_eq_false, if_true, if_false, c_seed h.1.tx, c_wet h.1.tx, B_260_18, B_260_25]
    refine c_goAhead h hi hn ?_
    intro M1 k1 f1
    simp (disch := omega) only [lAdd, addL, lMul, mulL, nMul, nI_add, subL, lSub, nSub, nDec, nCl, lCl, nVp, lVp, nLe, nLt, nEq, lLe, leL, lLt, ltL, eqL, lEq, nM1, nM2, litLt0, one01, zero01, oneNe0, xupE, xupA, xupK, xI_I, xS_I, xF_I, xJ_I, xI_R, xS_R, xF_R, xJ_R, xI_L, xS_L, xF_L, xJ_L, xcat_s, le46, ge16, or_true, true_or, false_or, or_false, eq_self, Option.toList_some, Option.toList_none, List.cons_append, List.nil_append, true_and, and_true, not_false_eq_true, not_true_eq_false, if_true, if_false, B_260_28, k1.1.d, k1.1.tx.f, k1.1.tx.n, k1.1.tx.r, k1.1.of.f, k1.1.of.v, f1.f]
    refine c_allLikes k1.1.tx f1 (days_inv hi.2.1 r6 n7 _ _ hi.2.2.1 n).1 k1.1.sepA ?_
    intro M2 e2
    simp (disch := omega) only [lAdd, addL, lMul, mulL, nMul, nI_add, subL, lSub, nSub, nDec, nCl, lCl, nVp, lVp, nLe, nLt, nEq, lLe, leL, lLt, ltL, eqL, lEq, nM1, nM2, litLt0, one01, zero01, oneNe0, xupE, xupA, xupK, xI_I, xS_I, xF_I, xJ_I, xI_R, xS_R, xF_R, xJ_R, xI_L, xS_L, xF_L, xJ_L, xcat_s, le46, ge16, or_true, true_or, false_or, or_false, eq_self, Option.toList_some, Option.toList_none, List.cons_append, List.nil_append, true_and, and_true, not_false_eq_true, not_true_eq_false, if_true, if_false, B_260_39]
    exact hQ M2 (k1.stepX e2)
  · rw [if_neg hx, if_neg (by decide)]
    rw [if_neg hx] at hQ
    exact hQ M h
theorem r_likedIn {M0 M : XM} {lv B : Nat} {S : XS} {x : Int32} {Q : Option Value → XM → Prop} (h : RK M0 lv S M) (hi : SInv B S) (hB : B ≤ 99000)
    (hQ : ∀ M' : XM, RK M0 lv S M' → Q (some (.int (A_likedIn S x))) M') :
    RG xprog 262 0 [some (.ref 439), some (.int x)] [] M Q := by
  have n7 := h.1.1.n7
  unfold A_likedIn at hQ
  rw [B_262_0]
  simp (disch := omega) only [r_isLong, B_262_4, lAdd, addL, lMul, mulL, nMul, nI_add, subL, lSub, nSub, nDec, nCl, lCl, nVp, lVp, nLe, nLt, nEq, lLe, leL, lLt, ltL, eqL, lEq, nM1, nM2, litLt0, one01, zero01, oneNe0, xupE, xupA, xupK, xI_I, xS_I, xF_I, xJ_I, xI_R, xS_R, xF_R, xJ_R, xI_L, xS_L, xF_L, xJ_L, xcat_s, le46, ge16, or_true, true_or, false_or, or_false, eq_self, Option.toList_some, Option.toList_none, List.cons_append, List.nil_append, true_and, and_true, not_false_eq_true, not_true_eq_false, if_true, if_false]
  by_cases hx : inb x 0 60
  · rw [if_pos hx, if_pos (by decide)]
    rw [if_pos hx] at hQ
    obtain ⟨n, hn, rfl⟩ := inb60 hx
    rw [cN_n (by omega)] at hQ
    simp (disch := omega) only [h.1.1.1.s, lAdd, addL, lMul, mulL, nMul, nI_add, subL, lSub, nSub, nDec, nCl, lCl, nVp, lVp, nLe, nLt, nEq, lLe, leL, lLt, ltL, eqL, lEq, nM1, nM2, litLt0, one01, zero01, oneNe0, xupE, xupA, xupK, xI_I, xS_I, xF_I, xJ_I, xI_R, xS_R, xF_R, xJ_R, xI_L, xS_L, xF_L, xJ_L, xcat_s, le46, ge16, or_true, true_or, false_or, or_false, eq_self, Option.toList_some, Option.toList_none, List.cons_append, List.nil_append, true_and, and_true, not_false_eq_true, not_true_eq_false, if_true, if_false]
    refine r_copies h hi (by omega) ?_
    intro M1 h1
    simp (disch := omega) only [lAdd, addL, lMul, mulL, nMul, nI_add, subL, lSub, nSub, nDec, nCl, lCl, nVp, lVp, nLe, nLt, nEq, lLe, leL, lLt, ltL, eqL, lEq, nM1, nM2, litLt0, one01, zero01, oneNe0, xupE, xupA, xupK, xI_I, xS_I, xF_I, xJ_I, xI_R, xS_R, xF_R, xJ_R, xI_L, xS_L, xF_L, xJ_L, xcat_s, le46, ge16, or_true, true_or, false_or, or_false, eq_self, Option.toList_some, Option.toList_none, List.cons_append, List.nil_append, true_and, and_true, not_false_eq_true, not_true_eq_false, if_true, if_false, B_262_13, h1.2.1.s.s, h1.2.1.s.f, h1.2.1.v, h1.2.1.n, h1.2.1.r]
    refine q_goes (wet := tS (zT S) 1) h1 (Or.inr ⟨rfl, rfl⟩) hi.2.2.1 (by omega) ?_
    intro M2 h2
    simp (disch := omega) only [lAdd, addL, lMul, mulL, nMul, nI_add, subL, lSub, nSub, nDec, nCl, lCl, nVp, lVp, nLe, nLt, nEq, lLe, leL, lLt, ltL, eqL, lEq, nM1, nM2, litLt0, one01, zero01, oneNe0, xupE, xupA, xupK, xI_I, xS_I, xF_I, xJ_I, xI_R, xS_R, xF_R, xJ_R, xI_L, xS_L, xF_L, xJ_L, xcat_s, le46, ge16, or_true, true_or, false_or, or_false, eq_self, Option.toList_some, Option.toList_none, List.cons_append, List.nil_append, true_and, and_true, not_false_eq_true, not_true_eq_false, if_true, if_false, B_262_18, h2.2.1.s.s, h2.2.1.s.f, h2.2.1.v, h2.2.1.n, h2.2.1.r]
    refine q_likedAll h2 ?_
    intro M3 h3
    simp (disch := omega) only [lAdd, addL, lMul, mulL, nMul, nI_add, subL, lSub, nSub, nDec, nCl, lCl, nVp, lVp, nLe, nLt, nEq, lLe, leL, lLt, ltL, eqL, lEq, nM1, nM2, litLt0, one01, zero01, oneNe0, xupE, xupA, xupK, xI_I, xS_I, xF_I, xJ_I, xI_R, xS_R, xF_R, xJ_R, xI_L, xS_L, xF_L, xJ_L, xcat_s, le46, ge16, or_true, true_or, false_or, or_false, eq_self, Option.toList_some, Option.toList_none, List.cons_append, List.nil_append, true_and, and_true, not_false_eq_true, not_true_eq_false, if_true, if_false, B_262_22]
    exact hQ M3 h3.1
  · rw [if_neg hx, if_neg (by decide)]
    rw [if_neg hx] at hQ
    exact hQ M h
