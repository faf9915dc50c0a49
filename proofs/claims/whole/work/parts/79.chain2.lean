/-! chain: the class -/
def thN (T : XT) (F : XO) : Nat := bn (fun l => decide (¬ oW F l = 3)) (tN T)
def pA (T : XT) (F : XO) (o l : Nat) : Bool := (lnk T (oD F) (thN T F) l).testBit o
def dA (T : XT) (l : Nat) : Nat := cnt (fun o => decide (tL T l 3 < tL T o 3)) (tN T)
def h0A (T : XT) (F : XO) (l : Nat) : Nat := if (thN T F).testBit l = true then 1 else 0
def HF (T : XT) (F : XO) : Nat → Nat := iter (fun _ g => mr (pA T F) (tN T) g) (tN T) (h0A T F)
def mxF (T : XT) (F : XO) : Nat := mxN (HF T F) (tN T)
theorem pA_iff (T : XT) (F : XO) (o l : Nat) : pA T F o l = true ↔ o < tN T ∧ (thN T F).testBit l = true ∧ (thN T F).testBit o = true ∧ ansb T (oD F) o l := by
  unfold pA lnk
  rw [bn_test]
  simp only [Bool.and_eq_true, decide_eq_true_eq]
theorem thN_iff (T : XT) (F : XO) (l : Nat) : (thN T F).testBit l = true ↔ l < tN T ∧ ¬ oW F l = 3 := by
  unfold thN
  rw [bn_test]
  simp only [Bool.and_eq_true, decide_eq_true_eq]
theorem dA_lt (T : XT) (F : XO) : ∀ l o, l < tN T → o < tN T → pA T F o l = true → dA T o < dA T l := by
  intro l o hl ho hp
  obtain ⟨_, _, _, h4⟩ := (pA_iff T F o l).mp hp
  have h5 : tL T l 3 < tL T o 3 := by
    have := h4.1
    rw [le_nlt, Classical.not_not] at this
    exact this
  refine cnt_lt (j := o) (decide_eq_true h5) (decide_eq_false ?_) _ ho ?_
  · rw [i32_lt]; omega
  · intro i _ hi
    rw [decide_eq_true_eq] at hi ⊢
    rw [i32_lt] at hi h5 ⊢
    omega
theorem dA_n (T : XT) : ∀ l, l < tN T → dA T l < tN T := by
  intro l hl
  have := cnt_lt (p := fun o => decide (tL T l 3 < tL T o 3)) (q := fun _ => true) (j := l) rfl (decide_eq_false (by rw [i32_lt]; omega)) (tN T) hl (fun _ _ _ => rfl)
  rw [cnt_all (p := fun _ => true) (tN T) (fun _ _ => rfl)] at this
  exact this
theorem Wt0 (T : XT) (F : XO) : Wt (pA T F) (dA T) (tN T) (h0A T F) := by
  refine ⟨fun l _ => Or.inl ?_, fun l _ => ?_⟩
  · unfold h0A
    split <;> omega
  · unfold h0A
    split <;> omega
/-- all that stands while measuring -/
def midH (T : XT) (F : XO) (k l o : Nat) : Nat → Nat := iter (mst (pA T F) l) o (iter (mrl (pA T F) (tN T)) l (iter (fun _ g => mr (pA T F) (tN T) g) k (h0A T F)))
theorem midH_W (T : XT) (F : XO) {k l o : Nat} (hl : l ≤ tN T) (ho : o ≤ tN T) (hlo : l < tN T ∨ o = 0) : Wt (pA T F) (dA T) (tN T) (midH T F k l o) := by
  have h1 := Wt_all (dA_lt T F) (Wt0 T F) k
  have h2 : Wt (pA T F) (dA T) (tN T) (iter (mrl (pA T F) (tN T)) l (iter (fun _ g => mr (pA T F) (tN T) g) k (h0A T F))) := iter_inv (fun _ g => Wt (pA T F) (dA T) (tN T) g) _ _ l h1 fun l g hl' hg => iter_inv (fun _ g => Wt (pA T F) (dA T) (tN T) g) (mst (pA T F) l) g (tN T) hg fun o g ho hg => Wt_step (dA_lt T F) hg (by omega) ho
  unfold midH
  rcases hlo with q | q
  · exact iter_inv (fun _ g => Wt (pA T F) (dA T) (tN T) g) (mst (pA T F) l) _ o h2 fun o g ho hg => Wt_step (dA_lt T F) hg q (by omega)
  · subst q
    exact h2
theorem midH_t (T : XT) (F : XO) (k l o : Nat) : ∀ x, 0 < midH T F k l o x ↔ (thN T F).testBit x = true := by
  have hp : ∀ o l, pA T F o l = true → (thN T F).testBit l = true := fun o l h => ((pA_iff T F o l).mp h).2.1
  have st : ∀ (l o : Nat) (g : Nat → Nat), (∀ x, 0 < g x ↔ (thN T F).testBit x = true) → ∀ x, 0 < mst (pA T F) l o g x ↔ (thN T F).testBit x = true := fun l o g hg => mst_th (n := 0) (th := fun x => (thN T F).testBit x = true) hp hg
  have row : ∀ (l o : Nat) (g : Nat → Nat), (∀ x, 0 < g x ↔ (thN T F).testBit x = true) → ∀ x, 0 < iter (mst (pA T F) l) o g x ↔ (thN T F).testBit x = true := fun l o g hg => iter_inv (fun _ g => ∀ x, 0 < g x ↔ (thN T F).testBit x = true) (mst (pA T F) l) g o hg fun i g _ h => st l i g h
  have rows : ∀ (l : Nat) (g : Nat → Nat), (∀ x, 0 < g x ↔ (thN T F).testBit x = true) → ∀ x, 0 < iter (mrl (pA T F) (tN T)) l g x ↔ (thN T F).testBit x = true := fun l g hg => iter_inv (fun _ g => ∀ x, 0 < g x ↔ (thN T F).testBit x = true) (mrl (pA T F) (tN T)) g l hg fun i g _ h => row i (tN T) g h
  have all : ∀ k, ∀ x, 0 < iter (fun _ g => mr (pA T F) (tN T) g) k (h0A T F) x ↔ (thN T F).testBit x = true := fun k => iter_inv (fun _ g => ∀ x, 0 < g x ↔ (thN T F).testBit x = true) (fun _ g => mr (pA T F) (tN T) g) (h0A T F) k (fun x => by
    unfold h0A
    split
    · rename_i h; exact ⟨fun _ => h, fun _ => by omega⟩
    · rename_i h; exact ⟨fun q => by omega, fun q => absurd q h⟩) fun i g _ h => rows (tN T) g h
  exact row l o _ (rows l _ (all k))
theorem iter_z0 {α : Type} (f : Nat → α → α) (x : α) : iter f 0 x = x := rfl
theorem HF_mid (T : XT) (F : XO) : HF T F = midH T F (tN T) 0 0 := by
  unfold HF midH
  rw [iter_z0, iter_z0]
theorem HF_J (T : XT) (F : XO) : Jx (pA T F) (tN T) (fun _ => True) (HF T F) := fun l hl _ o ho hp => mr_Jn (dA_lt T F) (h0A T F) (tN T) l hl (dA_n T l hl) o ho hp
theorem HF_W (T : XT) (F : XO) : Wt (pA T F) (dA T) (tN T) (HF T F) := by rw [HF_mid]; exact midH_W T F (by omega) (by omega) (Or.inr rfl)
theorem mid_b {T : XT} {F : XO} (n7 : tN T ≤ 7) {k l o x : Nat} (hl : l ≤ tN T) (ho : o ≤ tN T) (hlo : l < tN T ∨ o = 0) (hx : x < tN T) : midH T F k l o x ≤ 7 := by
  have := (midH_W T F (k := k) hl ho hlo).2 x hx
  have := dA_n T x hx
  omega
theorem iter_zz {α : Type} (f : Nat → α → α) (x : α) : iter f 0 x = x := rfl
theorem mid_o (T : XT) (F : XO) (k l o : Nat) : midH T F k l (o + 1) = mst (pA T F) l o (midH T F k l o) := rfl
theorem mid_l (T : XT) (F : XO) (k l : Nat) : midH T F k (l + 1) 0 = midH T F k l (tN T) := by
  unfold midH
  rw [iter_zz, iter_s, mrl]
theorem iter_z {α : Type} (f : Nat → α → α) (x : α) : iter f 0 x = x := rfl
theorem mid_0 (T : XT) (F : XO) : midH T F 0 0 0 = h0A T F := by
  unfold midH
  rw [iter_z, iter_z, iter_z]
theorem mid_k (T : XT) (F : XO) (k : Nat) : midH T F (k + 1) 0 0 = midH T F k (tN T) 0 := by
  unfold midH
  rw [iter_z, iter_z, iter_z, iter_s, mr]
/-- answeredBy stands -/
def AB (M : XM) (S : XS) : Prop := ∀ l, l < tN (zT S) → xI M 436 l = nI (lnk (zT S) (oD (zF S)) (thN (zT S) (zF S)) l)
theorem c_measure {M0 M : XM} {t : Nat} {S : XS} {Q : Option Value → XM → Prop} (h : CK M0 t S M) (hA : AB M S)
    (hQ : ∀ M' : XM, CK M0 t S M' → AB M' S → (∀ l, l < tN (zT S) → xI M' 437 l = nI (HF (zT S) (zF S) l)) → Q none M') :
    RG xprog 221 0 [some (.ref 435), some (.int (nI (tN (zT S)))), some (.int (nI (thN (zT S) (zF S)))), none, none, none] [] M Q := by
  have n7 := h.1.tx.n7
  have t8 := bn128 (fun l => decide (¬ oW (zF S) l = 3)) n7
  rw [B_221_0]
  have wAB : ∀ (M1 : XM) (k : Nat) (x : Int32), AB M1 S → AB (xmI M1 437 k x) S := fun M1 k x ha l hl => by rw [xI_I, xupA _ _ _ _ (by omega)]; exact ha l hl
  refine x_for (tN (zT S)) (fun i M1 => CK M0 t S M1 ∧ AB M1 S ∧ ∀ l, l < i → xI M1 437 l = nI (h0A (zT S) (zF S) l)) (fun i M1 => RG xprog 221 2 [some (.ref 435), some (.int (nI (tN (zT S)))), some (.int (nI (thN (zT S) (zF S)))), some (.int (nI i)), none, none] [] M1 Q) ?_ ?_ 0 M (by omega) ⟨h, hA, fun l hl => by omega⟩
  · intro M1 ⟨k1, a1, f1⟩
    rw [B_221_2]
    simp (disch := omega) only [lAdd, addL, lMul, mulL, nMul, nI_add, subL, lSub, nSub, nDec, nCl, lCl, nVp, lVp, nLe, nLt, nEq, lLe, leL, lLt, ltL, eqL, lEq, nM1, nM2, litLt0, one01, zero01, oneNe0, xupE, xupA, xupK, xI_I, xS_I, xF_I, xJ_I, xI_R, xS_R, xF_R, xJ_R, xI_L, xS_L, xF_L, xJ_L, xcat_s, le46, ge16, or_true, true_or, false_or, or_false, eq_self, Option.toList_some, Option.toList_none, List.cons_append, List.nil_append, true_and, and_true, not_false_eq_true, not_true_eq_false, if_true, if_false, Nat.le_refl]
    refine x_for (tN (zT S)) (fun k (s : XM × Option Value × Option Value) => CK M0 t S s.1 ∧ AB s.1 S ∧ ∀ x, x < tN (zT S) → xI s.1 437 x = nI (midH (zT S) (zF S) k 0 0 x)) (fun k s => RG xprog 221 34 [some (.ref 435), some (.int (nI (tN (zT S)))), some (.int (nI (thN (zT S) (zF S)))), some (.int (nI k)), s.2.1, s.2.2] [] s.1 Q) ?_ ?_ 0 (M1, none, none) (by omega) ⟨k1, a1, fun x hx => by rw [mid_0]; exact f1 x hx⟩
    · rintro ⟨M2, z1, z2⟩ ⟨k2, a2, f2⟩
      dsimp only at k2 a2 f2 ⊢
      rw [B_221_34]
      simp (disch := omega) only [lAdd, addL, lMul, mulL, nMul, nI_add, subL, lSub, nSub, nDec, nCl, lCl, nVp, lVp, nLe, nLt, nEq, lLe, leL, lLt, ltL, eqL, lEq, nM1, nM2, litLt0, one01, zero01, oneNe0, xupE, xupA, xupK, xI_I, xS_I, xF_I, xJ_I, xI_R, xS_R, xF_R, xJ_R, xI_L, xS_L, xF_L, xJ_L, xcat_s, le46, ge16, or_true, true_or, false_or, or_false, eq_self, Option.toList_some, Option.toList_none, List.cons_append, List.nil_append, true_and, and_true, not_false_eq_true, not_true_eq_false, if_true, if_false, Nat.le_refl]
      exact hQ M2 k2 a2 fun x hx => by rw [HF_mid]; exact f2 x hx
    · rintro k ⟨M2, z1, z2⟩ hk ⟨k2, a2, f2⟩ ih
      dsimp only at k2 a2 f2 ⊢
      rw [B_221_34]
      simp (disch := omega) only [lAdd, addL, lMul, mulL, nMul, nI_add, subL, lSub, nSub, nDec, nCl, lCl, nVp, lVp, nLe, nLt, nEq, lLe, leL, lLt, ltL, eqL, lEq, nM1, nM2, litLt0, one01, zero01, oneNe0, xupE, xupA, xupK, xI_I, xS_I, xF_I, xJ_I, xI_R, xS_R, xF_R, xJ_R, xI_L, xS_L, xF_L, xJ_L, xcat_s, le46, ge16, or_true, true_or, false_or, or_false, eq_self, Option.toList_some, Option.toList_none, List.cons_append, List.nil_append, true_and, and_true, not_false_eq_true, not_true_eq_false, if_true, if_false, if_neg]
      refine x_for (tN (zT S)) (fun l (s : XM × Option Value) => CK M0 t S s.1 ∧ AB s.1 S ∧ ∀ x, x < tN (zT S) → xI s.1 437 x = nI (midH (zT S) (zF S) k l 0 x)) (fun l s => RG xprog 221 42 [some (.ref 435), some (.int (nI (tN (zT S)))), some (.int (nI (thN (zT S) (zF S)))), some (.int (nI k)), some (.int (nI l)), s.2] [] s.1 Q) ?_ ?_ 0 (M2, z2) (by omega) ⟨k2, a2, f2⟩
      · rintro ⟨M3, z3⟩ ⟨k3, a3, f3⟩
        dsimp only at k3 a3 f3 ⊢
        rw [B_221_42]
        simp (disch := omega) only [lAdd, addL, lMul, mulL, nMul, nI_add, subL, lSub, nSub, nDec, nCl, lCl, nVp, lVp, nLe, nLt, nEq, lLe, leL, lLt, ltL, eqL, lEq, nM1, nM2, litLt0, one01, zero01, oneNe0, xupE, xupA, xupK, xI_I, xS_I, xF_I, xJ_I, xI_R, xS_R, xF_R, xJ_R, xI_L, xS_L, xF_L, xJ_L, xcat_s, le46, ge16, or_true, true_or, false_or, or_false, eq_self, Option.toList_some, Option.toList_none, List.cons_append, List.nil_append, true_and, and_true, not_false_eq_true, not_true_eq_false, if_true, if_false, Nat.le_refl]
        exact ih (M3, _, _) ⟨k3, a3, fun x hx => by rw [mid_k]; exact f3 x hx⟩
      · rintro l ⟨M3, z3⟩ hl ⟨k3, a3, f3⟩ ih2
        dsimp only at k3 a3 f3 ⊢
        rw [B_221_42]
        simp (disch := omega) only [lAdd, addL, lMul, mulL, nMul, nI_add, subL, lSub, nSub, nDec, nCl, lCl, nVp, lVp, nLe, nLt, nEq, lLe, leL, lLt, ltL, eqL, lEq, nM1, nM2, litLt0, one01, zero01, oneNe0, xupE, xupA, xupK, xI_I, xS_I, xF_I, xJ_I, xI_R, xS_R, xF_R, xJ_R, xI_L, xS_L, xF_L, xJ_L, xcat_s, le46, ge16, or_true, true_or, false_or, or_false, eq_self, Option.toList_some, Option.toList_none, List.cons_append, List.nil_append, true_and, and_true, not_false_eq_true, not_true_eq_false, if_true, if_false, if_neg]
        refine x_for (tN (zT S)) (fun o M4 => CK M0 t S M4 ∧ AB M4 S ∧ ∀ x, x < tN (zT S) → xI M4 437 x = nI (midH (zT S) (zF S) k l o x)) (fun o M4 => RG xprog 221 51 [some (.ref 435), some (.int (nI (tN (zT S)))), some (.int (nI (thN (zT S) (zF S)))), some (.int (nI k)), some (.int (nI l)), some (.int (nI o))] [] M4 Q) ?_ ?_ 0 M3 (by omega) ⟨k3, a3, f3⟩
        · intro M4 ⟨k4, a4, f4⟩
          rw [B_221_51]
          simp (disch := omega) only [lAdd, addL, lMul, mulL, nMul, nI_add, subL, lSub, nSub, nDec, nCl, lCl, nVp, lVp, nLe, nLt, nEq, lLe, leL, lLt, ltL, eqL, lEq, nM1, nM2, litLt0, one01, zero01, oneNe0, xupE, xupA, xupK, xI_I, xS_I, xF_I, xJ_I, xI_R, xS_R, xF_R, xJ_R, xI_L, xS_L, xF_L, xJ_L, xcat_s, le46, ge16, or_true, true_or, false_or, or_false, eq_self, Option.toList_some, Option.toList_none, List.cons_append, List.nil_append, true_and, and_true, not_false_eq_true, not_true_eq_false, if_true, if_false, Nat.le_refl]
          exact ih2 (M4, _) ⟨k4, a4, fun x hx => by rw [mid_l]; exact f4 x hx⟩
        · intro o M4 ho ⟨k4, a4, f4⟩ ih3
          have b1 := mid_b (T := zT S) (F := zF S) n7 (k := k) (l := l) (o := o) (x := l) (by omega) (by omega) (Or.inl hl) hl
          have b2 := mid_b (T := zT S) (F := zF S) n7 (k := k) (l := l) (o := o) (x := o) (by omega) (by omega) (Or.inl hl) ho
          have a8 := lt128 n7 (lnk_lt (zT S) (oD (zF S)) (thN (zT S) (zF S)) l)
          have ab := and_bit (m := lnk (zT S) (oD (zF S)) (thN (zT S) (zF S)) l) (i := o) (by omega) (by omega)
          rw [mid_o] at ih3
          unfold mst at ih3
          rw [B_221_51]
          simp (disch := omega) only [k4.1.an, lAdd, addL, lMul, mulL, nMul, nI_add, subL, lSub, nSub, nDec, nCl, lCl, nVp, lVp, nLe, nLt, nEq, lLe, leL, lLt, ltL, eqL, lEq, nM1, nM2, litLt0, one01, zero01, oneNe0, xupE, xupA, xupK, xI_I, xS_I, xF_I, xJ_I, xI_R, xS_R, xF_R, xJ_R, xI_L, xS_L, xF_L, xJ_L, xcat_s, le46, ge16, or_true, true_or, false_or, or_false, eq_self, Option.toList_some, Option.toList_none, List.cons_append, List.nil_append, true_and, and_true, not_false_eq_true, not_true_eq_false, if_true, if_false, if_neg, a4 l hl, f4 l hl, f4 o ho, B_221_98]
          by_cases hp : pA (zT S) (zF S) o l = true
          · rw [if_neg (by rw [ab]; unfold pA at hp; rw [hp]; decide)]
            by_cases hc : midH (zT S) (zF S) k l o l ≤ midH (zT S) (zF S) k l o o
            · rw [if_pos ⟨hp, hc⟩] at ih3
              rw [if_pos (show midH (zT S) (zF S) k l o l < midH (zT S) (zF S) k l o o + 1 by omega)]
              refine ih3 _ ⟨k4.wA _ (by unfold aP; omega), wAB _ _ _ a4, fun x hx => ?_⟩
              rw [xI_I, xo_at]
              by_cases q : x = l
              · rw [q, xupE, if_pos rfl]
              · rw [xupK _ _ q, if_neg q]; exact f4 x hx
            · rw [if_neg (fun z => hc z.2)] at ih3
              rw [if_neg (show ¬ midH (zT S) (zF S) k l o l < midH (zT S) (zF S) k l o o + 1 by omega)]
              refine ih3 _ ⟨k4.wA _ (by unfold aP; omega), wAB _ _ _ a4, fun x hx => ?_⟩
              rw [xI_I]
              by_cases q : x = l
              · rw [q, xupE]
              · rw [xupK _ _ q]; exact f4 x hx
          · rw [if_neg (fun z => hp z.1)] at ih3
            rw [if_pos (by rw [ab]; unfold pA at hp; simpa using hp)]
            exact ih3 M4 ⟨k4, a4, f4⟩
  · intro l M1 hl ⟨k1, a1, f1⟩ ih
    have ab := and_bit (m := thN (zT S) (zF S)) (i := l) (by unfold thN; omega) (by omega)
    have put : ∀ x : Nat, x = h0A (zT S) (zF S) l → RG xprog 221 25 [some (.ref 435), some (.int (nI (tN (zT S)))), some (.int (nI (thN (zT S) (zF S)))), some (.int (nI l)), none, none] [.int (nI x), .int (nI l), .ref 437] M1 Q := by
      intro x hx
      rw [B_221_25]
      simp (disch := omega) only [k1.1.an, lAdd, addL, lMul, mulL, nMul, nI_add, subL, lSub, nSub, nDec, nCl, lCl, nVp, lVp, nLe, nLt, nEq, lLe, leL, lLt, ltL, eqL, lEq, nM1, nM2, litLt0, one01, zero01, oneNe0, xupE, xupA, xupK, xI_I, xS_I, xF_I, xJ_I, xI_R, xS_R, xF_R, xJ_R, xI_L, xS_L, xF_L, xJ_L, xcat_s, le46, ge16, or_true, true_or, false_or, or_false, eq_self, Option.toList_some, Option.toList_none, List.cons_append, List.nil_append, true_and, and_true, not_false_eq_true, not_true_eq_false, if_true, if_false]
      refine ih _ ⟨k1.wA _ (by unfold aP; omega), wAB _ _ _ a1, fun j hj => ?_⟩
      rw [xI_I]
      by_cases q : j = l
      · rw [q, xupE, hx]
      · rw [xupK _ _ q]; exact f1 j (by omega)
    rw [B_221_2]
    simp (disch := omega) only [k1.1.an, lAdd, addL, lMul, mulL, nMul, nI_add, subL, lSub, nSub, nDec, nCl, lCl, nVp, lVp, nLe, nLt, nEq, lLe, leL, lLt, ltL, eqL, lEq, nM1, nM2, litLt0, one01, zero01, oneNe0, xupE, xupA, xupK, xI_I, xS_I, xF_I, xJ_I, xI_R, xS_R, xF_R, xJ_R, xI_L, xS_L, xF_L, xJ_L, xcat_s, le46, ge16, or_true, true_or, false_or, or_false, eq_self, Option.toList_some, Option.toList_none, List.cons_append, List.nil_append, true_and, and_true, not_false_eq_true, not_true_eq_false, if_true, if_false, if_neg]
    by_cases ht : (thN (zT S) (zF S)).testBit l = true
    · rw [if_neg (by rw [ab, ht]; decide)]
      exact put 1 (by unfold h0A; rw [if_pos ht])
    · rw [if_pos (by rw [ab]; simpa using ht)]
      exact put 0 (by unfold h0A; rw [if_neg ht])
theorem c_lowestWith {M0 M : XM} {t len op : Nat} {S : XS} {Q : Option Value → XM → Prop} (h : CK M0 t S M) (hH : ∀ l, l < tN (zT S) → xI M 437 l = nI (HF (zT S) (zF S) l)) (hop : op < 128) (hlen : len < 100) :
    RG xprog 222 0 [some (.ref 435), some (.int (nI len)), some (.int (nI op)), some (.int (nI (tN (zT S)))), none] [] M Q = Q (some (.int (if fstN (fun l => op.testBit l && decide (HF (zT S) (zF S) l = len)) (tN (zT S)) 0 < tN (zT S) then nI (fstN (fun l => op.testBit l && decide (HF (zT S) (zF S) l = len)) (tN (zT S)) 0) else -1))) M := by
  have n7 := h.1.tx.n7
  rw [B_222_0]
  have loop : ∀ k a, a + k = tN (zT S) → RG xprog 222 3 [some (.ref 435), some (.int (nI len)), some (.int (nI op)), some (.int (nI (tN (zT S)))), some (.int (nI a))] [] M Q = Q (some (.int (if fstN (fun l => op.testBit l && decide (HF (zT S) (zF S) l = len)) k a < tN (zT S) then nI (fstN (fun l => op.testBit l && decide (HF (zT S) (zF S) l = len)) k a) else -1))) M := by
    intro k
    induction k with
    | zero =>
      intro a ha
      rw [B_222_3]
      simp (disch := omega) only [lAdd, addL, lMul, mulL, nMul, nI_add, subL, lSub, nSub, nDec, nCl, lCl, nVp, lVp, nLe, nLt, nEq, lLe, leL, lLt, ltL, eqL, lEq, nM1, nM2, litLt0, one01, zero01, oneNe0, xupE, xupA, xupK, xI_I, xS_I, xF_I, xJ_I, xI_R, xS_R, xF_R, xJ_R, xI_L, xS_L, xF_L, xJ_L, xcat_s, le46, ge16, or_true, true_or, false_or, or_false, eq_self, Option.toList_some, Option.toList_none, List.cons_append, List.nil_append, true_and, and_true, not_false_eq_true, not_true_eq_false, if_true, if_false, if_pos]
      show _ = Q (some (.int (if a < tN (zT S) then nI a else -1))) M
      rw [if_neg (by omega)]
    | succ k ih =>
      intro a ha
      have hal : a < tN (zT S) := by omega
      have ab := and_bit (m := op) (i := a) (by omega) (by omega)
      have hb : HF (zT S) (zF S) a ≤ 7 := mid_b n7 (k := tN (zT S)) (l := 0) (o := 0) (by omega) (by omega) (Or.inr rfl) hal
      rw [B_222_3, fstN_s]
      simp (disch := omega) only [lAdd, addL, lMul, mulL, nMul, nI_add, subL, lSub, nSub, nDec, nCl, lCl, nVp, lVp, nLe, nLt, nEq, lLe, leL, lLt, ltL, eqL, lEq, nM1, nM2, litLt0, one01, zero01, oneNe0, xupE, xupA, xupK, xI_I, xS_I, xF_I, xJ_I, xI_R, xS_R, xF_R, xJ_R, xI_L, xS_L, xF_L, xJ_L, xcat_s, le46, ge16, or_true, true_or, false_or, or_false, eq_self, Option.toList_some, Option.toList_none, List.cons_append, List.nil_append, true_and, and_true, not_false_eq_true, not_true_eq_false, if_true, if_false, if_neg, h.1.an, hH a hal]
      by_cases hbit : op.testBit a = true
      · rw [if_neg (by rw [ab, hbit]; decide)]
        by_cases he : HF (zT S) (zF S) a = len
        · rw [if_neg (fun z => z he), if_pos (c := (op.testBit a && decide (HF (zT S) (zF S) a = len)) = true) (by rw [hbit, decide_eq_true he]; rfl), if_pos hal]
        · rw [if_pos he, if_neg (c := (op.testBit a && decide (HF (zT S) (zF S) a = len)) = true) (by rw [decide_eq_false he]; simp)]
          exact ih (a + 1) (by omega)
      · rw [if_pos (by rw [ab]; simpa using hbit), if_neg (c := (op.testBit a && decide (HF (zT S) (zF S) a = len)) = true) (by simp only [Bool.not_eq_true] at hbit; rw [hbit]; simp)]
        exact ih (a + 1) (by omega)
  exact loop (tN (zT S)) 0 (by omega)
def chF (T : XT) (F : XO) (k : Nat) : Nat := chN (pA T F) (HF T F) (tN T) (mxF T F) k
/-- which may come next -/
def opF (T : XT) (F : XO) : Nat → Nat
  | 0 => thN T F
  | k + 1 => lnk T (oD F) (thN T F) (chF T F k)
theorem opF_lt {T : XT} {F : XO} (n7 : tN T ≤ 7) : ∀ k, opF T F k < 128
  | 0 => bn128 _ n7
  | k + 1 => lt128 n7 (lnk_lt _ _ _ _)
theorem mxF_le {T : XT} {F : XO} (n7 : tN T ≤ 7) : mxF T F ≤ 7 := by
  rcases (mxN_p (HF T F) (tN T)).2 with q | ⟨l, q1, q2⟩
  · unfold mxF; omega
  · unfold mxF
    rw [← q2]
    exact mid_b n7 (k := tN T) (l := 0) (o := 0) (by omega) (by omega) (Or.inr rfl) q1
theorem chF_op {T : XT} {F : XO} {k : Nat} (hk : k < mxF T F) : fstN (fun l => (opF T F k).testBit l && decide (HF T F l = mxF T F - k)) (tN T) 0 = chF T F k := by
  cases k with
  | zero =>
    refine fstN_congr (tN T) 0 fun l _ hl => ?_
    rw [Nat.sub_zero]
    by_cases he : HF T F l = mxF T F
    · have ht : (opF T F 0).testBit l = true := (midH_t T F (tN T) 0 0 l).mp (by rw [← HF_mid, he]; omega)
      rw [ht, decide_eq_true he]; rfl
    · rw [decide_eq_false he, Bool.and_false]
  | succ k =>
    refine fstN_congr (tN T) 0 fun l _ hl => ?_
    show ((lnk T (oD F) (thN T F) (chF T F k)).testBit l && decide (HF T F l = mxF T F - (k + 1))) = (decide (HF T F l = mxF T F - (k + 1)) && pA T F l (chN (pA T F) (HF T F) (tN T) (mxF T F) k))
    rw [Bool.and_comm]
    rfl
theorem c_follow {M0 M : XM} {t : Nat} {S : XS} {Q : Option Value → XM → Prop} (h : CK M0 t S M) (hA : AB M S) (hH : ∀ l, l < tN (zT S) → xI M 437 l = nI (HF (zT S) (zF S) l))
    (hQ : ∀ M' : XM, CK M0 t S M' → xI M' 435 3 = nI (mxF (zT S) (zF S)) → (∀ k, k < mxF (zT S) (zF S) → xI M' 438 k = nI (chF (zT S) (zF S) k)) → Q none M') :
    RG xprog 223 0 [some (.ref 435), some (.int (nI (tN (zT S)))), some (.int (nI (thN (zT S) (zF S)))), none, none] [] M Q := by
  have n7 := h.1.tx.n7
  have m7 := mxF_le (F := zF S) n7
  have cp := chN_p (HF_J (zT S) (zF S)) (HF_W (zT S) (zF S))
  rw [B_223_0]
  simp (disch := omega) only [h.1.an, lAdd, addL, lMul, mulL, nMul, nI_add, subL, lSub, nSub, nDec, nCl, lCl, nVp, lVp, nLe, nLt, nEq, lLe, leL, lLt, ltL, eqL, lEq, nM1, nM2, litLt0, one01, zero01, oneNe0, xupE, xupA, xupK, xI_I, xS_I, xF_I, xJ_I, xI_R, xS_R, xF_R, xJ_R, xI_L, xS_L, xF_L, xJ_L, xcat_s, le46, ge16, or_true, true_or, false_or, or_false, eq_self, Option.toList_some, Option.toList_none, List.cons_append, List.nil_append, true_and, and_true, not_false_eq_true, not_true_eq_false, if_true, if_false]
  have k0 : CK M0 t S (xmI M 435 3 0) := h.wA _ (by unfold aP; omega)
  have mxb : ∀ i, i ≤ tN (zT S) → mxN (HF (zT S) (zF S)) i ≤ 7 := by
    intro i hi
    rcases (mxN_p (HF (zT S) (zF S)) i).2 with q | ⟨l, q1, q2⟩
    · omega
    · rw [← q2]
      exact mid_b n7 (k := tN (zT S)) (l := 0) (o := 0) (by omega) (by omega) (Or.inr rfl) (by omega)
  refine x_for (tN (zT S)) (fun i M1 => CK M0 t S M1 ∧ Ex (fun a k => a = 435 ∧ k = 3) M M1 ∧ xI M1 435 3 = nI (mxN (HF (zT S) (zF S)) i)) (fun i M1 => RG xprog 223 7 [some (.ref 435), some (.int (nI (tN (zT S)))), some (.int (nI (thN (zT S) (zF S)))), some (.int (nI i)), none] [] M1 Q) ?_ ?_ 0 _ (by omega) ⟨k0, (Ex.refl _ _).wr _ ⟨rfl, rfl⟩, by rw [xI_I, xupE]; rfl⟩
  · intro M1 ⟨k1, e1, v1⟩
    have A1 : AB M1 S := fun l hl => by rw [e1.I (by omega)]; exact hA l hl
    have H1 : ∀ l, l < tN (zT S) → xI M1 437 l = nI (HF (zT S) (zF S) l) := fun l hl => by rw [e1.I (by omega)]; exact hH l hl
    have v1' : xI M1 435 3 = nI (mxF (zT S) (zF S)) := v1
    rw [B_223_7]
    simp (disch := omega) only [lAdd, addL, lMul, mulL, nMul, nI_add, subL, lSub, nSub, nDec, nCl, lCl, nVp, lVp, nLe, nLt, nEq, lLe, leL, lLt, ltL, eqL, lEq, nM1, nM2, litLt0, one01, zero01, oneNe0, xupE, xupA, xupK, xI_I, xS_I, xF_I, xJ_I, xI_R, xS_R, xF_R, xJ_R, xI_L, xS_L, xF_L, xJ_L, xcat_s, le46, ge16, or_true, true_or, false_or, or_false, eq_self, Option.toList_some, Option.toList_none, List.cons_append, List.nil_append, true_and, and_true, not_false_eq_true, not_true_eq_false, if_true, if_false, Nat.le_refl]
    refine x_for (mxF (zT S) (zF S)) (fun k M2 => CK M0 t S M2 ∧ Ex (fun a _ => a = 438) M1 M2 ∧ ∀ j, j < k → xI M2 438 j = nI (chF (zT S) (zF S) j)) (fun k M2 => RG xprog 223 40 [some (.ref 435), some (.int (nI (tN (zT S)))), some (.int (nI (thN (zT S) (zF S)))), some (.int (nI (opF (zT S) (zF S) k))), some (.int (nI k))] [] M2 Q) ?_ ?_ 0 M1 (by omega) ⟨k1, Ex.refl _ _, fun j hj => by omega⟩
    · intro M2 ⟨k2, e2, f2⟩
      have v2 : xI M2 435 3 = nI (mxF (zT S) (zF S)) := by rw [e2.I (by omega)]; exact v1'
      rw [B_223_40]
      simp (disch := omega) only [k2.1.an, lAdd, addL, lMul, mulL, nMul, nI_add, subL, lSub, nSub, nDec, nCl, lCl, nVp, lVp, nLe, nLt, nEq, lLe, leL, lLt, ltL, eqL, lEq, nM1, nM2, litLt0, one01, zero01, oneNe0, xupE, xupA, xupK, xI_I, xS_I, xF_I, xJ_I, xI_R, xS_R, xF_R, xJ_R, xI_L, xS_L, xF_L, xJ_L, xcat_s, le46, ge16, or_true, true_or, false_or, or_false, eq_self, Option.toList_some, Option.toList_none, List.cons_append, List.nil_append, true_and, and_true, not_false_eq_true, not_true_eq_false, if_true, if_false, v2, Nat.le_refl]
      exact hQ M2 k2 v2 f2
    · intro k M2 hk ⟨k2, e2, f2⟩ ih
      have v2 : xI M2 435 3 = nI (mxF (zT S) (zF S)) := by rw [e2.I (by omega)]; exact v1'
      have H2 : ∀ l, l < tN (zT S) → xI M2 437 l = nI (HF (zT S) (zF S) l) := fun l hl => by rw [e2.I (by omega)]; exact H1 l hl
      have A2 : AB M2 S := fun l hl => by rw [e2.I (by omega)]; exact A1 l hl
      obtain ⟨c1, c2⟩ := cp k hk
      have c1' : chF (zT S) (zF S) k < tN (zT S) := c1
      rw [B_223_40]
      simp (disch := omega) only [k2.1.an, lAdd, addL, lMul, mulL, nMul, nI_add, subL, lSub, nSub, nDec, nCl, lCl, nVp, lVp, nLe, nLt, nEq, lLe, leL, lLt, ltL, eqL, lEq, nM1, nM2, litLt0, one01, zero01, oneNe0, xupE, xupA, xupK, xI_I, xS_I, xF_I, xJ_I, xI_R, xS_R, xF_R, xJ_R, xI_L, xS_L, xF_L, xJ_L, xcat_s, le46, ge16, or_true, true_or, false_or, or_false, eq_self, Option.toList_some, Option.toList_none, List.cons_append, List.nil_append, true_and, and_true, not_false_eq_true, not_true_eq_false, if_true, if_false, v2, if_neg]
      rw [c_lowestWith k2 H2 (opF_lt n7 k) (by omega), chF_op hk, if_pos c1']
      simp (disch := omega) only [k2.1.an, lAdd, addL, lMul, mulL, nMul, nI_add, subL, lSub, nSub, nDec, nCl, lCl, nVp, lVp, nLe, nLt, nEq, lLe, leL, lLt, ltL, eqL, lEq, nM1, nM2, litLt0, one01, zero01, oneNe0, xupE, xupA, xupK, xI_I, xS_I, xF_I, xJ_I, xI_R, xS_R, xF_R, xJ_R, xI_L, xS_L, xF_L, xJ_L, xcat_s, le46, ge16, or_true, true_or, false_or, or_false, eq_self, Option.toList_some, Option.toList_none, List.cons_append, List.nil_append, true_and, and_true, not_false_eq_true, not_true_eq_false, if_true, if_false, B_223_75, A2 _ c1']
      refine ih _ ⟨k2.wA _ (by unfold aP; omega), e2.wr _ rfl, fun j hj => ?_⟩
      rw [xI_I]
      by_cases q : j = k
      · rw [q, xupE]
      · rw [xupK _ _ q]; exact f2 j (by omega)
  · intro i M1 hi ⟨k1, e1, v1⟩ ih
    have H1 : xI M1 437 i = nI (HF (zT S) (zF S) i) := by rw [e1.I (by omega)]; exact hH i hi
    have b1 := mxb i (by omega)
    have b2 : HF (zT S) (zF S) i ≤ 7 := mid_b n7 (k := tN (zT S)) (l := 0) (o := 0) (by omega) (by omega) (Or.inr rfl) hi
    rw [B_223_7]
    simp (disch := omega) only [k1.1.an, lAdd, addL, lMul, mulL, nMul, nI_add, subL, lSub, nSub, nDec, nCl, lCl, nVp, lVp, nLe, nLt, nEq, lLe, leL, lLt, ltL, eqL, lEq, nM1, nM2, litLt0, one01, zero01, oneNe0, xupE, xupA, xupK, xI_I, xS_I, xF_I, xJ_I, xI_R, xS_R, xF_R, xJ_R, xI_L, xS_L, xF_L, xJ_L, xcat_s, le46, ge16, or_true, true_or, false_or, or_false, eq_self, Option.toList_some, Option.toList_none, List.cons_append, List.nil_append, true_and, and_true, not_false_eq_true, not_true_eq_false, if_true, if_false, if_neg, v1, H1, B_223_29]
    refine ih _ ⟨k1.wA _ (by unfold aP; omega), e1.wr _ ⟨rfl, rfl⟩, ?_⟩
    rw [xI_I, xupE, mxN_s]
    split <;> rfl
def A_chain (S : XS) (x : Int32) : Int32 := if (-1 : Int32) ≤ x then (if x = -1 then nI (mxF (zT S) (zF S)) else if nI (mxF (zT S) (zF S)) ≤ x then -1 else nI (chF (zT S) (zF S) (cN x))) else -1
theorem c_chain {M0 M : XM} {t : Nat} {S : XS} {x : Int32} {Q : Option Value → XM → Prop} (h : CK M0 t S M)
    (hQ : ∀ M' : XM, CK M0 t S M' → Q (some (.int (A_chain S x))) M') :
    RG xprog 225 0 [some (.ref 16), some (.int x)] [] M Q := by
  have n7 := h.1.tx.n7
  have m7 := mxF_le (F := zF S) n7
  unfold A_chain at hQ
  rw [B_225_0]
  by_cases hx : (-1 : Int32) ≤ x
  · rw [if_pos hx]
    rw [if_pos hx] at hQ
    simp (disch := omega) only [h.1.d, h.1.tx.f, h.1.tx.n, h.1.tx.r, h.1.of.f, h.1.of.v, h.1.an, lAdd, addL, lMul, mulL, nMul, nI_add, subL, lSub, nSub, nDec, nCl, lCl, nVp, lVp, nLe, nLt, nEq, lLe, leL, lLt, ltL, eqL, lEq, nM1, nM2, litLt0, one01, zero01, oneNe0, xupE, xupA, xupK, xI_I, xS_I, xF_I, xJ_I, xI_R, xS_R, xF_R, xJ_R, xI_L, xS_L, xF_L, xJ_L, xcat_s, le46, ge16, or_true, true_or, false_or, or_false, eq_self, Option.toList_some, Option.toList_none, List.cons_append, List.nil_append, true_and, and_true, not_false_eq_true, not_true_eq_false, if_true, if_false, B_224_0]
    have loop : ∀ j i, i + j = tN (zT S) → RG xprog 224 5 [some (.ref 435), some (.ref t), some (.ref 84), some (.int (nI (bn (fun l => decide (¬ oW (zF S) l = 3)) i))), some (.int (nI i))] [] M (fun v M' => RG xprog 225 22 [some (.ref 16), some (.int x)] (v.toList ++ []) M' Q) := by
      intro j
      induction j with
      | zero =>
        intro i hi
        have : i = tN (zT S) := by omega
        subst this
        rw [B_224_5]
        simp (disch := omega) only [h.1.d, h.1.tx.f, h.1.tx.n, h.1.tx.r, h.1.of.f, h.1.of.v, h.1.an, lAdd, addL, lMul, mulL, nMul, nI_add, subL, lSub, nSub, nDec, nCl, lCl, nVp, lVp, nLe, nLt, nEq, lLe, leL, lLt, ltL, eqL, lEq, nM1, nM2, litLt0, one01, zero01, oneNe0, xupE, xupA, xupK, xI_I, xS_I, xF_I, xJ_I, xI_R, xS_R, xF_R, xJ_R, xI_L, xS_L, xF_L, xJ_L, xcat_s, le46, ge16, or_true, true_or, false_or, or_false, eq_self, Option.toList_some, Option.toList_none, List.cons_append, List.nil_append, true_and, and_true, not_false_eq_true, not_true_eq_false, if_true, if_false, Nat.le_refl]
        refine c_link h (bn128 _ n7) ?_
        intro M1 k1 f1
        have a1 : AB M1 S := f1
        simp (disch := omega) only [lAdd, addL, lMul, mulL, nMul, nI_add, subL, lSub, nSub, nDec, nCl, lCl, nVp, lVp, nLe, nLt, nEq, lLe, leL, lLt, ltL, eqL, lEq, nM1, nM2, litLt0, one01, zero01, oneNe0, xupE, xupA, xupK, xI_I, xS_I, xF_I, xJ_I, xI_R, xS_R, xF_R, xJ_R, xI_L, xS_L, xF_L, xJ_L, xcat_s, le46, ge16, or_true, true_or, false_or, or_false, eq_self, Option.toList_some, Option.toList_none, List.cons_append, List.nil_append, true_and, and_true, not_false_eq_true, not_true_eq_false, if_true, if_false, B_224_52, k1.1.d, k1.1.tx.f, k1.1.tx.n, k1.1.tx.r, k1.1.of.f, k1.1.of.v, k1.1.an]
        refine c_measure k1 a1 ?_
        intro M2 k2 a2 f2
        simp (disch := omega) only [lAdd, addL, lMul, mulL, nMul, nI_add, subL, lSub, nSub, nDec, nCl, lCl, nVp, lVp, nLe, nLt, nEq, lLe, leL, lLt, ltL, eqL, lEq, nM1, nM2, litLt0, one01, zero01, oneNe0, xupE, xupA, xupK, xI_I, xS_I, xF_I, xJ_I, xI_R, xS_R, xF_R, xJ_R, xI_L, xS_L, xF_L, xJ_L, xcat_s, le46, ge16, or_true, true_or, false_or, or_false, eq_self, Option.toList_some, Option.toList_none, List.cons_append, List.nil_append, true_and, and_true, not_false_eq_true, not_true_eq_false, if_true, if_false, B_224_61, k2.1.d, k2.1.tx.f, k2.1.tx.n, k2.1.tx.r, k2.1.of.f, k2.1.of.v, k2.1.an]
        refine c_follow k2 a2 f2 ?_
        intro M3 k3 v3 f3
        have q := hQ M3 k3
        simp (disch := omega) only [lAdd, addL, lMul, mulL, nMul, nI_add, subL, lSub, nSub, nDec, nCl, lCl, nVp, lVp, nLe, nLt, nEq, lLe, leL, lLt, ltL, eqL, lEq, nM1, nM2, litLt0, one01, zero01, oneNe0, xupE, xupA, xupK, xI_I, xS_I, xF_I, xJ_I, xI_R, xS_R, xF_R, xJ_R, xI_L, xS_L, xF_L, xJ_L, xcat_s, le46, ge16, or_true, true_or, false_or, or_false, eq_self, Option.toList_some, Option.toList_none, List.cons_append, List.nil_append, true_and, and_true, not_false_eq_true, not_true_eq_false, if_true, if_false, B_224_70, B_225_22, k3.1.d, k3.1.tx.f, k3.1.tx.n, k3.1.tx.r, k3.1.of.f, k3.1.of.v, k3.1.an, v3]
        by_cases h1 : x = -1
        · rw [if_neg (fun z => z h1)]
          rw [if_pos h1] at q
          exact q
        · rw [if_pos h1]
          rw [if_neg h1] at q
          by_cases h2 : nI (mxF (zT S) (zF S)) ≤ x
          · rw [if_pos h2]
            rw [if_pos h2] at q
            exact q
          · rw [if_neg h2]
            rw [if_neg h2] at q
            have h0 : ¬ x < 0 := by
              rw [i32_le] at hx
              have e1 : (-1 : Int32).toInt = -1 := rfl
              have e0 : (0 : Int32).toInt = 0 := rfl
              rw [i32_lt, e0]
              have : x.toInt ≠ -1 := fun z => h1 (Int32.toInt_inj.mp (by rw [z, e1]))
              omega
            obtain ⟨k, hk, rfl⟩ := nOf h0 h2 (by omega)
            rw [cN_n (by omega)] at q
            simp (disch := omega) only [lAdd, addL, lMul, mulL, nMul, nI_add, subL, lSub, nSub, nDec, nCl, lCl, nVp, lVp, nLe, nLt, nEq, lLe, leL, lLt, ltL, eqL, lEq, nM1, nM2, litLt0, one01, zero01, oneNe0, xupE, xupA, xupK, xI_I, xS_I, xF_I, xJ_I, xI_R, xS_R, xF_R, xJ_R, xI_L, xS_L, xF_L, xJ_L, xcat_s, le46, ge16, or_true, true_or, false_or, or_false, eq_self, Option.toList_some, Option.toList_none, List.cons_append, List.nil_append, true_and, and_true, not_false_eq_true, not_true_eq_false, if_true, if_false, f3 k hk]
            exact q
      | succ j ih =>
        intro i hi
        have e := ih (i + 1) (by omega)
        rw [bn_s] at e
        rw [B_224_5]
        simp (disch := omega) only [h.1.d, h.1.tx.f, h.1.tx.n, h.1.tx.r, h.1.of.f, h.1.of.v, lAdd, addL, lMul, mulL, nMul, nI_add, subL, lSub, nSub, nDec, nCl, lCl, nVp, lVp, nLe, nLt, nEq, lLe, leL, lLt, ltL, eqL, lEq, nM1, nM2, litLt0, one01, zero01, oneNe0, xupE, xupA, xupK, xI_I, xS_I, xF_I, xJ_I, xI_R, xS_R, xF_R, xJ_R, xI_L, xS_L, xF_L, xJ_L, xcat_s, le46, ge16, or_true, true_or, false_or, or_false, eq_self, Option.toList_some, Option.toList_none, List.cons_append, List.nil_append, true_and, and_true, not_false_eq_true, not_true_eq_false, if_true, if_false, if_neg, B_224_34]
        by_cases hw : oW (zF S) i = 3
        · rw [if_neg (fun z => z hw), Int32.or_zero]
          rw [if_neg (by simp [hw])] at e
          exact e
        · rw [if_pos hw, or_bit (by omega)]
          rw [if_pos (decide_eq_true hw)] at e
          exact e
    exact loop (tN (zT S)) 0 (by omega)
  · rw [if_neg hx]
    rw [if_neg hx] at hQ
    exact hQ M h
