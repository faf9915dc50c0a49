/-! Office: copies, what holds of all offices, a day's rest -/
def Ocl (F : XO) : Prop := (∀ k, 7 ≤ k → oW F k = 0 ∧ oH F k = 0 ∧ oB F k = 0) ∧ ∀ k, 6 ≤ k → oA F k = 0 ∧ oS F k = 0 ∧ oU F k = 0
/-- what holds of all offices over a text -/
def OInv (T : XT) (F : XO) : Prop :=
  (∀ l, l < 7 → (oH F l = -2 ∧ ¬ oW F l = 2) ∨ (l < tN T ∧ oW F l = 2 ∧ ∃ a, a < tR T ∧ oH F l = nI a ∧ oS F a = nI l)) ∧
  (∀ a, a < 6 → oS F a = -2 ∨ (a < tR T ∧ ∃ l, l < tN T ∧ oS F a = nI l ∧ oH F l = nI a ∧ oW F l = 2)) ∧
  (∀ l, l < 7 → (oW F l = 0 ∨ oW F l = 1 ∨ oW F l = 2 ∨ oW F l = 3) ∧ (oB F l = 0 ∨ oB F l = 1 ∨ (oB F l = 2 ∧ oW F l = 3))) ∧
  (∀ l, tN T ≤ l → l < 7 → oW F l = 0 ∧ oB F l = 0) ∧
  (∀ a, a < tR T → ∃ w, w < 10 ∧ oA F a = nI w) ∧ Ocl F
theorem xI_cp (M : XM) (so si to ti n b : Nat) : xI (xcopy M so si to ti n) b = if b = to then va_cpy (xI M so) (xI M to) si ti n else xI M b := rfl
theorem xI_cpE (M : XM) (so si to ti n : Nat) : xI (xcopy M so si to ti n) to = va_cpy (xI M so) (xI M to) si ti n := if_pos rfl
theorem xI_cpN (M : XM) (so si ti n : Nat) {b to : Nat} (h : b ≠ to) : xI (xcopy M so si to ti n) b = xI M b := if_neg h
theorem xS_cp (M : XM) (so si to ti n : Nat) : xS (xcopy M so si to ti n) = xS M := rfl
theorem xF_cp (M : XM) (so si to ti n : Nat) : xF (xcopy M so si to ti n) = xF M := rfl
theorem Ex.cp {P : Nat → Nat → Prop} {M M' : XM} (h : Ex P M M') {so si to ti n : Nat} (hp : ∀ k, P to k) : Ex P M (xcopy M' so si to ti n) := ⟨h.1, h.2.1, h.2.2.1, h.2.2.2.1, fun b j q => by
  rw [xI_cp, if_neg (fun e => q (by rw [e]; exact hp j))]
  exact h.I q⟩
theorem cpy_row {f g : Nat → Int32} {n : Nat} (hf : ∀ k, n ≤ k → f k = 0) (hg : ∀ k, n ≤ k → g k = 0) : va_cpy f g 0 0 n = f := by
  funext k
  unfold va_cpy
  by_cases h : k < n
  · rw [if_pos ⟨by omega, by omega⟩]; congr 1; omega
  · rw [if_neg (fun q => h (by omega)), hf k (by omega), hg k (by omega)]
theorem c_copyFrom {M : XM} {o p : Nat} {F G : XO} {Q : Option Value → XM → Prop} (hF : OffIs M o F) (hG : OffIs M p G) (cF : Ocl F) (cG : Ocl G) (sep : o + 7 ≤ p ∨ p + 7 ≤ o)
    (hQ : ∀ M' : XM, Ex (oP o) M M' → OffIs M' o G → Q none M') :
    RG xprog 148 0 [some (.ref o), some (.ref p)] [] M Q := by
  have h16 := hF.f.1
  have k16 := hG.f.1
  rw [B_148_0]
  have l1 : (7 : Nat) ≤ 7 := by omega
  simp (disch := omega) only [B_148_23, B_148_38, B_148_53, B_148_68, B_148_83, B_148_98, xS_I, xF_I, xS_cp, xF_cp, hF.f, hG.f, lAdd, addL, lMul, mulL, nMul, nI_add, subL, lSub, nSub, nDec, nCl, lCl, nVp, lVp, nLe, nLt, nEq, lLe, leL, lLt, ltL, eqL, lEq, nM1, nM2, litLt0, one01, zero01, oneNe0, xupE, xupA, xupK, xI_I, xS_I, xF_I, xJ_I, xI_R, xS_R, xF_R, xJ_R, xI_L, xS_L, xF_L, xJ_L, xcat_s, le46, ge16, Option.toList_some, Option.toList_none, List.cons_append, List.nil_append, true_and, and_true, not_false_eq_true, not_true_eq_false, if_true, if_false, h16, k16, Nat.zero_add, Nat.le_refl]
  apply hQ
  · iterate 6 refine Ex.cp ?_ (fun k => by unfold oP; omega)
    exact Ex.wr (Ex.refl _ _) _ (by unfold oP; omega)
  · refine ⟨hF.1, ?_⟩
    unfold offOf
    simp (disch := omega) only [xI_cpE, xI_cpN, xI_I, xupR, hF.v, hG.v, xup_s, xone_s]
    rw [cpy_row (fun k hk => (cG.1 k hk).1) (fun k hk => (cF.1 k hk).1), cpy_row (fun k hk => (cG.1 k hk).2.1) (fun k hk => (cF.1 k hk).2.1), cpy_row (fun k hk => (cG.1 k hk).2.2) (fun k hk => (cF.1 k hk).2.2), cpy_row (fun k hk => (cG.2 k hk).1) (fun k hk => (cF.2 k hk).1), cpy_row (fun k hk => (cG.2 k hk).2.1) (fun k hk => (cF.2 k hk).2.1), cpy_row (fun k hk => (cG.2 k hk).2.2) (fun k hk => (cF.2 k hk).2.2)]
    rfl
def cN (x : Int32) : Nat := Int32.toNatClampNeg x
/-- does RETURNS tell so -/
def rtb (T : XT) (F : XO) (l : Nat) : Bool := decide (oW F l = 2) && decide (¬ tW T 2 (vvar T F l (cN (oH F l))) ≤ 0)
def ret1 (T : XT) (b : Nat → Bool) (l : Nat) (F : XO) : XO := if b l then takeF (sB F l (oB F l + 1)) l (if oB F l + 1 < 2 then 1 else 3) else F
def retF (T : XT) (F : XO) : XO := iter (ret1 T (rtb T F)) (tN T) F
def Hok (F : XO) : Prop := ∀ l, l < 7 → oH F l = -2 ∨ ∃ a, a < 6 ∧ oH F l = nI a
theorem OInv.hok {T : XT} {F : XO} (h : OInv T F) (hr : tR T ≤ 6) : Hok F := fun l hl => by
  rcases h.1 l hl with q | ⟨_, _, a, h1, h2, _⟩
  · exact Or.inl q.1
  · exact Or.inr ⟨a, by omega, h2⟩
theorem Hok.take {F : XO} (h : Hok F) (l : Nat) (x p : Int32) : Hok (takeF (sB F l x) l p) := fun j hj => by
  have e : oH (takeF (sB F l x) l p) = xone (oH F) l (-2) := by
    unfold takeF
    split <;> rfl
  rw [e]
  unfold xone
  split
  · exact Or.inl rfl
  · exact h j hj
theorem Hok.ret {F : XO} (h : Hok F) (T : XT) (b : Nat → Bool) (l : Nat) : Hok (ret1 T b l F) := by
  unfold ret1
  split
  · exact h.take _ _ _
  · exact h
theorem Hok.rets {F : XO} (h : Hok F) (T : XT) (b : Nat → Bool) (n : Nat) : Hok (iter (ret1 T b) n F) := iter_inv (fun _ G => Hok G) _ _ n h fun i G _ q => q.ret T b i
theorem c_returns {M : XM} {t o : Nat} {T : XT} {F : XO} {Q : Option Value → XM → Prop} (hT : TxtAt M t T) (hF : OffIs M o F) (hI : OInv T F) (sep : o + 7 ≤ t ∨ t + 29 ≤ o)
    (hQ : ∀ M' : XM, Ex (oX o t) M M' → OffIs M' o (retF T F) → Q none M') :
    RG xprog 168 0 [some (.ref o), some (.ref t), none, none] [] M Q := by
  rw [B_168_0]
  have n7 := hT.n7
  have r6 := hT.r6
  have h16 := hF.f.1
  refine x_for (tN T) (fun i M' => Ex (tX t) M M') (fun i M' => RG xprog 168 4 [some (.ref o), some (.ref t), some (.int (nI (bn (rtb T F) i))), some (.int (nI i))] [] M' Q) ?_ ?_ 0 M (by omega) (Ex.refl _ _)
  · intro M1 e1
    have hT' := hT.ex e1 (by intro a k q; unfold tX at q; omega)
    have hF' := hF.ex e1 (by intro a k q; unfold tX at q; omega)
    rw [B_168_4]
    simp (disch := omega) only [hT'.f, hT'.n, lAdd, addL, lMul, mulL, nMul, nI_add, subL, lSub, nSub, nDec, nCl, lCl, nVp, lVp, nLe, nLt, nEq, lLe, leL, lLt, ltL, eqL, lEq, nM1, nM2, litLt0, one01, zero01, oneNe0, xupE, xupA, xupK, xI_I, xS_I, xF_I, xJ_I, xI_R, xS_R, xF_R, xJ_R, xI_L, xS_L, xF_L, xJ_L, xcat_s, le46, ge16, Option.toList_some, Option.toList_none, List.cons_append, List.nil_append, true_and, and_true, not_false_eq_true, not_true_eq_false, if_true, if_false, Nat.le_refl]
    have b8 := bn128 (rtb T F) n7
    refine x_for (tN T) (fun i M' => Ex (oX o t) M M' ∧ OffIs M' o (iter (ret1 T (rtb T F)) i F)) (fun i M' => RG xprog 168 51 [some (.ref o), some (.ref t), some (.int (nI (bn (rtb T F) (tN T)))), some (.int (nI i))] [] M' Q) ?_ ?_ 0 M1 (by omega) ⟨e1.mono (by intro a k q; exact Or.inr q), hF'⟩
    · intro M2 ⟨e2, h2⟩
      have hT2 := hT.ex e2 (by intro a k q; unfold oX at q; omega)
      rw [B_168_51]
      simp (disch := omega) only [hT2.f, hT2.n, lAdd, addL, lMul, mulL, nMul, nI_add, subL, lSub, nSub, nDec, nCl, lCl, nVp, lVp, nLe, nLt, nEq, lLe, leL, lLt, ltL, eqL, lEq, nM1, nM2, litLt0, one01, zero01, oneNe0, xupE, xupA, xupK, xI_I, xS_I, xF_I, xJ_I, xI_R, xS_R, xF_R, xJ_R, xI_L, xS_L, xF_L, xJ_L, xcat_s, le46, ge16, Option.toList_some, Option.toList_none, List.cons_append, List.nil_append, true_and, and_true, not_false_eq_true, not_true_eq_false, if_true, if_false, Nat.le_refl]
      exact hQ M2 e2 h2
    · intro i M2 hi ⟨e2, h2⟩ ih
      have hT2 := hT.ex e2 (by intro a k q; unfold oX at q; omega)
      rw [B_168_51]
      have ab := and_bit (m := bn (rtb T F) (tN T)) (i := i) (by omega) (by omega)
      rw [bn_test] at ab
      simp (disch := omega) only [hT2.f, hT2.n, h2.f, h2.v, lAdd, addL, lMul, mulL, nMul, nI_add, subL, lSub, nSub, nDec, nCl, lCl, nVp, lVp, nLe, nLt, nEq, lLe, leL, lLt, ltL, eqL, lEq, nM1, nM2, litLt0, one01, zero01, oneNe0, xupE, xupA, xupK, xI_I, xS_I, xF_I, xJ_I, xI_R, xS_R, xF_R, xJ_R, xI_L, xS_L, xF_L, xJ_L, xcat_s, le46, ge16, Option.toList_some, Option.toList_none, List.cons_append, List.nil_append, true_and, and_true, not_false_eq_true, not_true_eq_false, if_true, if_false, if_neg]
      rw [iter_s, ret1] at ih
      by_cases hb : rtb T F i = true
      · rw [if_neg (by rw [ab, hb]; simp only [decide_eq_true hi]; decide)]
        rw [if_pos hb] at ih
        have go : ∀ p : Int32, (∀ M' : XM, Ex (oX o t) M M' ∧ OffIs M' o (takeF (sB (iter (ret1 T (rtb T F)) i F) i (oB (iter (ret1 T (rtb T F)) i F) i + 1)) i p) → RG xprog 168 51 [some (.ref o), some (.ref t), some (.int (nI (bn (rtb T F) (tN T)))), some (.int (nI (i + 1)))] [] M' Q) → RG xprog 168 94 [some (.ref o), some (.ref t), some (.int (nI (bn (rtb T F) (tN T)))), some (.int (nI i))] [.int p, .int (nI i), .ref o] (xmI M2 (o + 3) i (oB (iter (ret1 T (rtb T F)) i F) i + 1)) Q := by
          intro p hp
          rw [B_168_94]
          simp (disch := omega) only [h2.f, lAdd, addL, lMul, mulL, nMul, nI_add, subL, lSub, nSub, nDec, nCl, lCl, nVp, lVp, nLe, nLt, nEq, lLe, leL, lLt, ltL, eqL, lEq, nM1, nM2, litLt0, one01, zero01, oneNe0, xupE, xupA, xupK, xI_I, xS_I, xF_I, xJ_I, xI_R, xS_R, xF_R, xJ_R, xI_L, xS_L, xF_L, xJ_L, xcat_s, le46, ge16, Option.toList_some, Option.toList_none, List.cons_append, List.nil_append, true_and, and_true, not_false_eq_true, not_true_eq_false, if_true, if_false]
          refine c_takeFrom (h2.w3 _ _) (by omega) (((hI.hok r6).rets T (rtb T F) i) i (by omega)) ?_
          intro M3 e3 h3
          simp (disch := omega) only [lAdd, addL, lMul, mulL, nMul, nI_add, subL, lSub, nSub, nDec, nCl, lCl, nVp, lVp, nLe, nLt, nEq, lLe, leL, lLt, ltL, eqL, lEq, nM1, nM2, litLt0, one01, zero01, oneNe0, xupE, xupA, xupK, xI_I, xS_I, xF_I, xJ_I, xI_R, xS_R, xF_R, xJ_R, xI_L, xS_L, xF_L, xJ_L, xcat_s, le46, ge16, Option.toList_some, Option.toList_none, List.cons_append, List.nil_append, true_and, and_true, not_false_eq_true, not_true_eq_false, if_true, if_false, B_168_97]
          refine hp M3 ⟨?_, h3⟩
          exact (e2.wr _ (by unfold oX; omega)).trans (e3.mono (by intro a k q; exact Or.inl q))
        split
        · rename_i hc
          rw [if_pos hc] at ih
          exact go 1 ih
        · rename_i hc
          rw [if_neg hc] at ih
          exact go 3 ih
      · rw [if_pos (by rw [ab]; simp only [Bool.not_eq_true] at hb; rw [hb]; simp)]
        rw [if_neg hb] at ih
        simp (disch := omega) only [lAdd, addL, lMul, mulL, nMul, nI_add, subL, lSub, nSub, nDec, nCl, lCl, nVp, lVp, nLe, nLt, nEq, lLe, leL, lLt, ltL, eqL, lEq, nM1, nM2, litLt0, one01, zero01, oneNe0, xupE, xupA, xupK, xI_I, xS_I, xF_I, xJ_I, xI_R, xS_R, xF_R, xJ_R, xI_L, xS_L, xF_L, xJ_L, xcat_s, le46, ge16, Option.toList_some, Option.toList_none, List.cons_append, List.nil_append, true_and, and_true, not_false_eq_true, not_true_eq_false, if_true, if_false, B_168_97]
        exact ih M2 ⟨e2, h2⟩
  · intro i M1 hi e1 ih
    have hT' := hT.ex e1 (by intro a k q; unfold tX at q; omega)
    have hF' := hF.ex e1 (by intro a k q; unfold tX at q; omega)
    rw [B_168_4]
    simp (disch := omega) only [hT'.f, hT'.n, hF'.f, hF'.v, lAdd, addL, lMul, mulL, nMul, nI_add, subL, lSub, nSub, nDec, nCl, lCl, nVp, lVp, nLe, nLt, nEq, lLe, leL, lLt, ltL, eqL, lEq, nM1, nM2, litLt0, one01, zero01, oneNe0, xupE, xupA, xupK, xI_I, xS_I, xF_I, xJ_I, xI_R, xS_R, xF_R, xJ_R, xI_L, xS_L, xF_L, xJ_L, xcat_s, le46, ge16, Option.toList_some, Option.toList_none, List.cons_append, List.nil_append, true_and, and_true, not_false_eq_true, not_true_eq_false, if_true, if_false, if_neg]
    rw [bn_s] at ih
    by_cases hw : oW F i = 2
    · rw [if_neg (fun q => q hw)]
      rcases hI.1 i (by omega) with q | ⟨_, _, a, ha, hh, _⟩
      · exact absurd hw q.2
      rw [hh]
      refine c_isReturned hT' hF' (by omega) (by omega) sep ?_
      intro M2 e2
      have ht : rtb T F i = decide (¬ tW T 2 (vvar T F i a) ≤ 0) := by
        unfold rtb cN
        rw [hw, hh, nI_clamp (by omega)]
        rfl
      simp (disch := omega) only [lAdd, addL, lMul, mulL, nMul, nI_add, subL, lSub, nSub, nDec, nCl, lCl, nVp, lVp, nLe, nLt, nEq, lLe, leL, lLt, ltL, eqL, lEq, nM1, nM2, litLt0, one01, zero01, oneNe0, xupE, xupA, xupK, xI_I, xS_I, xF_I, xJ_I, xI_R, xS_R, xF_R, xJ_R, xI_L, xS_L, xF_L, xJ_L, xcat_s, le46, ge16, Option.toList_some, Option.toList_none, List.cons_append, List.nil_append, true_and, and_true, not_false_eq_true, not_true_eq_false, if_true, if_false, B_168_34]
      by_cases hc : tW T 2 (vvar T F i a) ≤ 0
      · rw [if_pos hc, if_pos rfl]
        rw [ht, if_neg (by simp only [hc]; decide)] at ih
        exact ih M2 (e1.trans e2)
      · rw [if_neg hc, if_neg (by decide), or_bit (by omega)]
        rw [ht, if_pos (by simp only [hc]; decide)] at ih
        exact ih M2 (e1.trans e2)
    · rw [if_pos hw]
      rw [if_neg (by unfold rtb; simp only [hw]; simp)] at ih
      exact ih M1 e1
def best1 (T : XT) (F : XO) (l a : Nat) (s : Int32 × Int32) : Int32 × Int32 := if oS F a = -2 ∧ ¬ lkv T F l a ≤ s.2 then (nI a, lkv T F l a) else s
def bestF (T : XT) (F : XO) (l : Nat) : Int32 := (iter (best1 T F l) (tR T) (-2, 0)).1
theorem c_whoLikes {M : XM} {t o l : Nat} {T : XT} {F : XO} {Q : Option Value → XM → Prop} (hT : TxtAt M t T) (hF : OffIs M o F) (hl : l < 7) (sep : o + 7 ≤ t ∨ t + 29 ≤ o)
    (hQ : ∀ M' : XM, Ex (tX t) M M' → Q (some (.int (bestF T F l))) M') :
    RG xprog 169 0 [some (.ref o), some (.ref t), some (.int (nI l)), none, none, none, none] [] M Q := by
  rw [B_169_0]
  have r6 := hT.r6
  refine x_for (tR T) (fun i (s : XM × Int32 × Int32 × Option Value) => Ex (tX t) M s.1 ∧ (s.2.1, s.2.2.1) = iter (best1 T F l) i (-2, 0)) (fun i s => RG xprog 169 9 [some (.ref o), some (.ref t), some (.int (nI l)), some (.int s.2.1), some (.int s.2.2.1), some (.int (nI i)), s.2.2.2] [] s.1 Q) ?_ ?_ 0 (M, -2, 0, none) (by omega) ⟨Ex.refl _ _, rfl⟩
  · rintro ⟨M1, x, y, z⟩ ⟨e1, he⟩
    have hT' := hT.ex e1 (by intro a k q; unfold tX at q; omega)
    dsimp only at he ⊢
    rw [B_169_9]
    simp (disch := omega) only [hT'.f, hT'.r, lAdd, addL, lMul, mulL, nMul, nI_add, subL, lSub, nSub, nDec, nCl, lCl, nVp, lVp, nLe, nLt, nEq, lLe, leL, lLt, ltL, eqL, lEq, nM1, nM2, litLt0, one01, zero01, oneNe0, xupE, xupA, xupK, xI_I, xS_I, xF_I, xJ_I, xI_R, xS_R, xF_R, xJ_R, xI_L, xS_L, xF_L, xJ_L, xcat_s, le46, ge16, Option.toList_some, Option.toList_none, List.cons_append, List.nil_append, true_and, and_true, not_false_eq_true, not_true_eq_false, if_true, if_false, Nat.le_refl]
    have := hQ M1 e1
    unfold bestF at this
    rw [← he] at this
    exact this
  · rintro i ⟨M1, x, y, z⟩ hi ⟨e1, he⟩ ih
    have hT' := hT.ex e1 (by intro a k q; unfold tX at q; omega)
    have hF' := hF.ex e1 (by intro a k q; unfold tX at q; omega)
    dsimp only at he ⊢
    rw [iter_s, ← he] at ih
    rw [B_169_9]
    simp (disch := omega) only [hT'.f, hT'.r, hF'.f, hF'.v, lAdd, addL, lMul, mulL, nMul, nI_add, subL, lSub, nSub, nDec, nCl, lCl, nVp, lVp, nLe, nLt, nEq, lLe, leL, lLt, ltL, eqL, lEq, nM1, nM2, litLt0, one01, zero01, oneNe0, xupE, xupA, xupK, xI_I, xS_I, xF_I, xJ_I, xI_R, xS_R, xF_R, xJ_R, xI_L, xS_L, xF_L, xJ_L, xcat_s, le46, ge16, Option.toList_some, Option.toList_none, List.cons_append, List.nil_append, true_and, and_true, not_false_eq_true, not_true_eq_false, if_true, if_false, if_neg]
    unfold best1 at ih
    by_cases hs : oS F i = -2
    · rw [if_neg (fun q => q hs)]
      refine c_likesOf hT' hF' hl (by omega) sep ?_
      intro M2 e2
      simp (disch := omega) only [lAdd, addL, lMul, mulL, nMul, nI_add, subL, lSub, nSub, nDec, nCl, lCl, nVp, lVp, nLe, nLt, nEq, lLe, leL, lLt, ltL, eqL, lEq, nM1, nM2, litLt0, one01, zero01, oneNe0, xupE, xupA, xupK, xI_I, xS_I, xF_I, xJ_I, xI_R, xS_R, xF_R, xJ_R, xI_L, xS_L, xF_L, xJ_L, xcat_s, le46, ge16, Option.toList_some, Option.toList_none, List.cons_append, List.nil_append, true_and, and_true, not_false_eq_true, not_true_eq_false, if_true, if_false, B_169_38]
      by_cases hc : lkv T F l i ≤ y
      · rw [if_pos hc]
        rw [if_neg (fun q => q.2 hc)] at ih
        exact ih (M2, x, y, _) ⟨e1.trans e2, rfl⟩
      · rw [if_neg hc]
        rw [if_pos ⟨hs, hc⟩] at ih
        exact ih (M2, nI i, lkv T F l i, _) ⟨e1.trans e2, rfl⟩
    · rw [if_pos hs]
      rw [if_neg (fun q => hs q.1)] at ih
      exact ih (M1, x, y, z) ⟨e1, rfl⟩
theorem best_or (T : XT) (F : XO) (l : Nat) : bestF T F l = -2 ∨ ∃ a, a < tR T ∧ bestF T F l = nI a ∧ oS F a = -2 := by
  unfold bestF
  have := iter_inv (fun i (s : Int32 × Int32) => s.1 = -2 ∨ ∃ a, a < i ∧ s.1 = nI a ∧ oS F a = -2) (best1 T F l) (-2, 0) (tR T) (Or.inl rfl) (by
    intro i s hi h
    unfold best1
    split
    · rename_i hc
      exact Or.inr ⟨i, by omega, rfl, hc.1⟩
    · rcases h with h | ⟨a, h1, h2⟩
      · exact Or.inl h
      · exact Or.inr ⟨a, by omega, h2⟩)
  exact this
def send1 (T : XT) (l : Nat) (F : XO) : XO := if oW F l = 1 ∧ ¬ bestF T F l = -2 then giveF F l (cN (bestF T F l)) else F
def sendF (T : XT) (F : XO) : XO := iter (send1 T) (tN T) F
theorem c_sendLetters {M : XM} {t o : Nat} {T : XT} {F : XO} {Q : Option Value → XM → Prop} (hT : TxtAt M t T) (hF : OffIs M o F) (sep : o + 7 ≤ t ∨ t + 29 ≤ o)
    (hQ : ∀ M' : XM, Ex (oX o t) M M' → OffIs M' o (sendF T F) → Q none M') :
    RG xprog 170 0 [some (.ref o), some (.ref t), none, none] [] M Q := by
  rw [B_170_0]
  have n7 := hT.n7
  have r6 := hT.r6
  have h16 := hF.f.1
  refine x_for (tN T) (fun i (s : XM × Option Value) => Ex (oX o t) M s.1 ∧ OffIs s.1 o (iter (send1 T) i F)) (fun i s => RG xprog 170 2 [some (.ref o), some (.ref t), some (.int (nI i)), s.2] [] s.1 Q) ?_ ?_ 0 (M, none) (by omega) ⟨Ex.refl _ _, hF⟩
  · rintro ⟨M1, z⟩ ⟨e1, h1⟩
    have hT' := hT.ex e1 (by intro a k q; unfold oX at q; omega)
    dsimp only at e1 h1 hT' ⊢
    rw [B_170_2]
    simp (disch := omega) only [hT'.f, hT'.n, lAdd, addL, lMul, mulL, nMul, nI_add, subL, lSub, nSub, nDec, nCl, lCl, nVp, lVp, nLe, nLt, nEq, lLe, leL, lLt, ltL, eqL, lEq, nM1, nM2, litLt0, one01, zero01, oneNe0, xupE, xupA, xupK, xI_I, xS_I, xF_I, xJ_I, xI_R, xS_R, xF_R, xJ_R, xI_L, xS_L, xF_L, xJ_L, xcat_s, le46, ge16, Option.toList_some, Option.toList_none, List.cons_append, List.nil_append, true_and, and_true, not_false_eq_true, not_true_eq_false, if_true, if_false, Nat.le_refl]
    exact hQ M1 e1 h1
  · rintro i ⟨M1, z⟩ hi ⟨e1, h1⟩ ih
    have hT' := hT.ex e1 (by intro a k q; unfold oX at q; omega)
    dsimp only at e1 h1 hT' ⊢
    rw [iter_s, send1] at ih
    rw [B_170_2]
    simp (disch := omega) only [hT'.f, hT'.n, h1.f, h1.v, lAdd, addL, lMul, mulL, nMul, nI_add, subL, lSub, nSub, nDec, nCl, lCl, nVp, lVp, nLe, nLt, nEq, lLe, leL, lLt, ltL, eqL, lEq, nM1, nM2, litLt0, one01, zero01, oneNe0, xupE, xupA, xupK, xI_I, xS_I, xF_I, xJ_I, xI_R, xS_R, xF_R, xJ_R, xI_L, xS_L, xF_L, xJ_L, xcat_s, le46, ge16, Option.toList_some, Option.toList_none, List.cons_append, List.nil_append, true_and, and_true, not_false_eq_true, not_true_eq_false, if_true, if_false, if_neg]
    by_cases hw : oW (iter (send1 T) i F) i = 1
    · rw [if_neg (fun q => q hw)]
      refine c_whoLikes hT' h1 (by omega) sep ?_
      intro M2 e2
      have h2 := h1.ex e2 (by intro a k q; unfold tX at q; omega)
      have e3 := e1.trans (e2.mono (P' := oX o t) (by intro a k q; exact Or.inr q))
      simp (disch := omega) only [lAdd, addL, lMul, mulL, nMul, nI_add, subL, lSub, nSub, nDec, nCl, lCl, nVp, lVp, nLe, nLt, nEq, lLe, leL, lLt, ltL, eqL, lEq, nM1, nM2, litLt0, one01, zero01, oneNe0, xupE, xupA, xupK, xI_I, xS_I, xF_I, xJ_I, xI_R, xS_R, xF_R, xJ_R, xI_L, xS_L, xF_L, xJ_L, xcat_s, le46, ge16, Option.toList_some, Option.toList_none, List.cons_append, List.nil_append, true_and, and_true, not_false_eq_true, not_true_eq_false, if_true, if_false, B_170_26]
      rcases best_or T (iter (send1 T) i F) i with hb | ⟨a, ha, hb, _⟩
      · rw [hb, if_pos rfl, B_170_39]
        rw [if_neg (fun q => q.2 hb)] at ih
        simp (disch := omega) only [lAdd, addL, lMul, mulL, nMul, nI_add, subL, lSub, nSub, nDec, nCl, lCl, nVp, lVp, nLe, nLt, nEq, lLe, leL, lLt, ltL, eqL, lEq, nM1, nM2, litLt0, one01, zero01, oneNe0, xupE, xupA, xupK, xI_I, xS_I, xF_I, xJ_I, xI_R, xS_R, xF_R, xJ_R, xI_L, xS_L, xF_L, xJ_L, xcat_s, le46, ge16, Option.toList_some, Option.toList_none, List.cons_append, List.nil_append, true_and, and_true, not_false_eq_true, not_true_eq_false, if_true, if_false]
        exact ih (M2, _) ⟨e3, h2⟩
      · rw [hb, if_neg (by rw [nM2 (by omega)]; exact fun q => q)]
        rw [if_pos ⟨hw, by rw [hb, nM2 (by omega)]; exact fun q => q⟩] at ih
        unfold cN at ih
        rw [hb, nI_clamp (by omega)] at ih
        refine ⟨by rw [e2.S]; simp only [h1.f], ?_⟩
        refine c_giveTo h2 (by omega) (by omega) ?_
        intro M3 e4 h3
        simp (disch := omega) only [lAdd, addL, lMul, mulL, nMul, nI_add, subL, lSub, nSub, nDec, nCl, lCl, nVp, lVp, nLe, nLt, nEq, lLe, leL, lLt, ltL, eqL, lEq, nM1, nM2, litLt0, one01, zero01, oneNe0, xupE, xupA, xupK, xI_I, xS_I, xF_I, xJ_I, xI_R, xS_R, xF_R, xJ_R, xI_L, xS_L, xF_L, xJ_L, xcat_s, le46, ge16, Option.toList_some, Option.toList_none, List.cons_append, List.nil_append, true_and, and_true, not_false_eq_true, not_true_eq_false, if_true, if_false, B_170_39]
        exact ih (M3, _) ⟨e3.trans (e4.mono (by intro a k q; exact Or.inl q)), h3⟩
    · rw [if_pos hw, B_170_39]
      rw [if_neg (fun q => hw q.1)] at ih
      simp (disch := omega) only [lAdd, addL, lMul, mulL, nMul, nI_add, subL, lSub, nSub, nDec, nCl, lCl, nVp, lVp, nLe, nLt, nEq, lLe, leL, lLt, ltL, eqL, lEq, nM1, nM2, litLt0, one01, zero01, oneNe0, xupE, xupA, xupK, xI_I, xS_I, xF_I, xJ_I, xI_R, xS_R, xF_R, xJ_R, xI_L, xS_L, xF_L, xJ_L, xcat_s, le46, ge16, Option.toList_some, Option.toList_none, List.cons_append, List.nil_append, true_and, and_true, not_false_eq_true, not_true_eq_false, if_true, if_false]
      exact ih (M1, z) ⟨e1, h1⟩
def rem32 (x y : Int32) : Int32 := x - x / y * y
def turn1 (a : Nat) (F : XO) : XO := sA F a (rem32 (oA F a + 1) 10)
theorem c_turnWants {M : XM} {o n : Nat} {F : XO} {Q : Option Value → XM → Prop} (hF : OffIs M o F) (hn : n ≤ 6)
    (hQ : ∀ M' : XM, Ex (oP o) M M' → OffIs M' o (iter turn1 n F) → Q none M') :
    RG xprog 172 0 [some (.ref o), some (.int (nI n)), none] [] M Q := by
  rw [B_172_0]
  have h16 := hF.f.1
  refine x_for n (fun i M' => Ex (oP o) M M' ∧ OffIs M' o (iter turn1 i F)) (fun i M' => RG xprog 172 2 [some (.ref o), some (.int (nI n)), some (.int (nI i))] [] M' Q) ?_ ?_ 0 M (by omega) ⟨Ex.refl _ _, hF⟩
  · intro M1 ⟨e1, h1⟩
    rw [B_172_2]
    simp (disch := omega) only [lAdd, addL, lMul, mulL, nMul, nI_add, subL, lSub, nSub, nDec, nCl, lCl, nVp, lVp, nLe, nLt, nEq, lLe, leL, lLt, ltL, eqL, lEq, nM1, nM2, litLt0, one01, zero01, oneNe0, xupE, xupA, xupK, xI_I, xS_I, xF_I, xJ_I, xI_R, xS_R, xF_R, xJ_R, xI_L, xS_L, xF_L, xJ_L, xcat_s, le46, ge16, Option.toList_some, Option.toList_none, List.cons_append, List.nil_append, true_and, and_true, not_false_eq_true, not_true_eq_false, if_true, if_false, Nat.le_refl]
    exact hQ M1 e1 h1
  · intro i M1 hi ⟨e1, h1⟩ ih
    rw [B_172_2]
    simp (disch := omega) only [h1.f, h1.v, lAdd, addL, lMul, mulL, nMul, nI_add, subL, lSub, nSub, nDec, nCl, lCl, nVp, lVp, nLe, nLt, nEq, lLe, leL, lLt, ltL, eqL, lEq, nM1, nM2, litLt0, one01, zero01, oneNe0, xupE, xupA, xupK, xI_I, xS_I, xF_I, xJ_I, xI_R, xS_R, xF_R, xJ_R, xI_L, xS_L, xF_L, xJ_L, xcat_s, le46, ge16, Option.toList_some, Option.toList_none, List.cons_append, List.nil_append, true_and, and_true, not_false_eq_true, not_true_eq_false, if_true, if_false, if_neg, B_172_24]
    refine ⟨by decide, ?_⟩
    exact ih _ ⟨e1.wr _ (by unfold oP; omega), h1.w4 _ _⟩
def dayF (T : XT) (seed wet : Int32) (F : XO) : XO :=
  let F1 := if wet ≤ lotv seed (oD F) then bringF T F else F
  let F2 := sendF T (retF T F1)
  let F3 := if tS T 0 ≤ 0 ∨ ¬ rem32 (oD F2 + 1) (tS T 0) = 0 then F2 else iter turn1 (tR T) F2
  sD F3 (oD F3 + 1)
