/-! the reference: a day goes -/
theorem rL_N : ∀ a k, rL a k → rNT a k ∧ a ≠ 473 := fun a k q => by unfold rL at q; unfold rNT; omega
theorem RR.exL {M M' : XM} {lv : Nat} {T : XT} {F : XO} (h : RR M lv T F) (e : Ex rL M M') : RR M' lv T F := h.ex e rL_N
theorem r_bestFor {M : XM} {lv l : Nat} {T : XT} {F : XO} {Q : Option Value → XM → Prop} (h : RR M lv T F) (hl : l < tN T)
    (hQ : ∀ M' : XM, Ex rL M M' → Q (some (.int (bestF T F l))) M') :
    RG xprog 179 0 [some (.ref 439), some (.int (nI l)), none, none, none] [] M Q := by
  have n7 := h.n7
  have r6 := h.r6
  have l2 := h.lv2
  rw [B_179_0]
  refine x_for (tR T) (fun i (s : XM × Int32 × Int32) => Ex rL M s.1 ∧ (s.2.1, s.2.2) = iter (best1 T F l) i (-2, 0)) (fun i s => RG xprog 179 8 [some (.ref 439), some (.int (nI l)), some (.int s.2.1), some (.int s.2.2), some (.int (nI i))] [] s.1 Q) ?_ ?_ 0 (M, -2, 0) (by omega) ⟨Ex.refl _ _, rfl⟩
  · rintro ⟨M1, x, y⟩ ⟨e1, he⟩
    have h1 := h.exL e1
    dsimp only at he h1 ⊢
    rw [B_179_8]
    simp (disch := omega) only [h1.s.s, h1.s.f, h1.v, h1.r, lAdd, addL, lMul, mulL, nMul, nI_add, subL, lSub, nSub, nDec, nCl, lCl, nVp, lVp, nLe, nLt, nEq, lLe, leL, lLt, ltL, eqL, lEq, nM1, nM2, litLt0, one01, zero01, oneNe0, xupE, xupA, xupK, xI_I, xS_I, xF_I, xJ_I, xI_R, xS_R, xF_R, xJ_R, xI_L, xS_L, xF_L, xJ_L, xcat_s, le46, ge16, or_true, true_or, false_or, or_false, eq_self, Option.toList_some, Option.toList_none, List.cons_append, List.nil_append, true_and, and_true, not_false_eq_true, not_true_eq_false, if_true, if_false, Nat.le_refl]
    have := hQ M1 e1
    unfold bestF at this
    rw [← he] at this
    exact this
  · rintro i ⟨M1, x, y⟩ hi ⟨e1, he⟩ ih
    have h1 := h.exL e1
    dsimp only at he h1 ⊢
    rw [iter_s, ← he, best1] at ih
    rw [B_179_8]
    simp (disch := omega) only [h1.s.s, h1.s.f, h1.v, h1.r, lAdd, addL, lMul, mulL, nMul, nI_add, subL, lSub, nSub, nDec, nCl, lCl, nVp, lVp, nLe, nLt, nEq, lLe, leL, lLt, ltL, eqL, lEq, nM1, nM2, litLt0, one01, zero01, oneNe0, xupE, xupA, xupK, xI_I, xS_I, xF_I, xJ_I, xI_R, xS_R, xF_R, xJ_R, xI_L, xS_L, xF_L, xJ_L, xcat_s, le46, ge16, or_true, true_or, false_or, or_false, eq_self, Option.toList_some, Option.toList_none, List.cons_append, List.nil_append, true_and, and_true, not_false_eq_true, not_true_eq_false, if_true, if_false, if_neg, r_letterOf h1 (show i < 6 by omega), B_179_28]
    rcases h.i.2.1 i (by omega) with z | ⟨_, j, z2, z3, _⟩
    · rw [z, if_neg (by decide)]
      refine r_likesOf h1 hl hi ?_
      intro M2 e2
      have h2 := h1.exL e2
      simp (disch := omega) only [lAdd, addL, lMul, mulL, nMul, nI_add, subL, lSub, nSub, nDec, nCl, lCl, nVp, lVp, nLe, nLt, nEq, lLe, leL, lLt, ltL, eqL, lEq, nM1, nM2, litLt0, one01, zero01, oneNe0, xupE, xupA, xupK, xI_I, xS_I, xF_I, xJ_I, xI_R, xS_R, xF_R, xJ_R, xI_L, xS_L, xF_L, xJ_L, xcat_s, le46, ge16, or_true, true_or, false_or, or_false, eq_self, Option.toList_some, Option.toList_none, List.cons_append, List.nil_append, true_and, and_true, not_false_eq_true, not_true_eq_false, if_true, if_false, B_179_38, h2.s.s]
      by_cases hc : lkv T F l i ≤ y
      · rw [if_neg (by rw [i32_lt]; rw [i32_le] at hc; omega)]
        rw [if_neg (fun q => q.2 hc)] at ih
        exact ih (M2, x, y) ⟨e1.trans e2, rfl⟩
      · rw [if_pos (by rw [i32_lt]; rw [i32_le] at hc; omega)]
        rw [if_pos ⟨z, hc⟩] at ih
        refine r_likesOf h2 hl hi ?_
        intro M3 e3
        simp (disch := omega) only [lAdd, addL, lMul, mulL, nMul, nI_add, subL, lSub, nSub, nDec, nCl, lCl, nVp, lVp, nLe, nLt, nEq, lLe, leL, lLt, ltL, eqL, lEq, nM1, nM2, litLt0, one01, zero01, oneNe0, xupE, xupA, xupK, xI_I, xS_I, xF_I, xJ_I, xI_R, xS_R, xF_R, xJ_R, xI_L, xS_L, xF_L, xJ_L, xcat_s, le46, ge16, or_true, true_or, false_or, or_false, eq_self, Option.toList_some, Option.toList_none, List.cons_append, List.nil_append, true_and, and_true, not_false_eq_true, not_true_eq_false, if_true, if_false, B_179_55]
        exact ih (M3, nI i, lkv T F l i) ⟨(e1.trans e2).trans e3, rfl⟩
    · rw [z3, if_pos (by rw [lLe (by omega) (by omega)]; omega)]
      rw [if_neg (fun q => by rw [z3] at q; exact absurd q.1 (by rw [nM2 (by omega)]; exact fun w => w))] at ih
      exact ih (M1, x, y) ⟨e1, rfl⟩
theorem r_isWet {M : XM} {lv : Nat} {T : XT} {F : XO} {Q : Option Value → XM → Prop} (h : RR M lv T F) :
    RG xprog 177 0 [some (.ref 439)] [] M Q = Q (some (.int (if tS T 1 ≤ lotv (xI M 439 52) (oD F) then 0 else 1))) M := by
  have l2 := h.lv2
  rw [B_177_0]
  simp (disch := omega) only [h.s.s, h.s.f, h.v, h.d, lAdd, addL, lMul, mulL, nMul, nI_add, subL, lSub, nSub, nDec, nCl, lCl, nVp, lVp, nLe, nLt, nEq, lLe, leL, lLt, ltL, eqL, lEq, nM1, nM2, litLt0, one01, zero01, oneNe0, xupE, xupA, xupK, xI_I, xS_I, xF_I, xJ_I, xI_R, xS_R, xF_R, xJ_R, xI_L, xS_L, xF_L, xJ_L, xcat_s, le46, ge16, or_true, true_or, false_or, or_false, eq_self, Option.toList_some, Option.toList_none, List.cons_append, List.nil_append, true_and, and_true, not_false_eq_true, not_true_eq_false, if_true, if_false, B_176_0, B_177_10, B_177_22, h.1.st, show ¬ (100 : Int32) = 0 by decide, ite_i]
  rfl
theorem r_sends {M : XM} {lv l a : Nat} {T : XT} {F : XO} {Q : Option Value → XM → Prop} (h : RR M lv T F) (hl : l < 7) (ha : a < tR T)
    (hQ : ∀ M' : XM, Ex (fun b _ => b = 473) M M' → RowIs T (xI M' 473) (giveF F l a) → Q none M') :
    RG xprog 152 0 [some (.ref 439), some (.int (nI l)), some (.int (nI a))] [] M Q := by
  have r6 := h.r6
  rw [B_152_0]
  simp (disch := omega) only [h.s.s, h.s.f, lAdd, addL, lMul, mulL, nMul, nI_add, subL, lSub, nSub, nDec, nCl, lCl, nVp, lVp, nLe, nLt, nEq, lLe, leL, lLt, ltL, eqL, lEq, nM1, nM2, litLt0, one01, zero01, oneNe0, xupE, xupA, xupK, xI_I, xS_I, xF_I, xJ_I, xI_R, xS_R, xF_R, xJ_R, xI_L, xS_L, xF_L, xJ_L, xcat_s, le46, ge16, or_true, true_or, false_or, or_false, eq_self, Option.toList_some, Option.toList_none, List.cons_append, List.nil_append, true_and, and_true, not_false_eq_true, not_true_eq_false, if_true, if_false, h.a ha, B_152_30]
  apply hQ
  · iterate 3 refine Ex.wr ?_ _ rfl
    exact Ex.refl _ _
  · simp only [xI_I, xup_s]
    exact ((h.2.1.w r6 hl 2).h r6 hl (nI a)).u r6 (by omega) (oU F a + 1)
theorem r_sendsBack {M : XM} {l : Nat} {T : XT} {F : XO} {Q : Option Value → XM → Prop} (hS : RSh M) (hr : RowIs T (xI M 473) F) (r6 : tR T ≤ 6) (hl : l < 7)
    (hQ : ∀ M' : XM, Ex (fun b _ => b = 473) M M' → RowIs T (xI M' 473) (sW (sB (sH F l (-2)) l (oB F l + 1)) l (if oB F l + 1 = 2 then 3 else 1)) → Q none M') :
    RG xprog 178 0 [some (.ref 439), some (.int (nI l))] [] M Q := by
  rw [B_178_0]
  simp (disch := omega) only [hS.s, hS.f, lAdd, addL, lMul, mulL, nMul, nI_add, subL, lSub, nSub, nDec, nCl, lCl, nVp, lVp, nLe, nLt, nEq, lLe, leL, lLt, ltL, eqL, lEq, nM1, nM2, litLt0, one01, zero01, oneNe0, xupE, xupA, xupK, xI_I, xS_I, xF_I, xJ_I, xI_R, xS_R, xF_R, xJ_R, xI_L, xS_L, xF_L, xJ_L, xcat_s, le46, ge16, or_true, true_or, false_or, or_false, eq_self, Option.toList_some, Option.toList_none, List.cons_append, List.nil_append, true_and, and_true, not_false_eq_true, not_true_eq_false, if_true, if_false, (hr.1 l hl).2.2, B_178_24]
  have go : ∀ x : Int32, x = (if oB F l + 1 = 2 then 3 else 1) → RG xprog 178 47 [some (.ref 439), some (.int (nI l))] [.int x, .int (nI l), .ref 473] (xmI (xmI M 473 (7 + l) (-2)) 473 (14 + l) (oB F l + 1)) Q := by
    intro x hx
    rw [B_178_47]
    simp (disch := omega) only [hS.s, hS.f, lAdd, addL, lMul, mulL, nMul, nI_add, subL, lSub, nSub, nDec, nCl, lCl, nVp, lVp, nLe, nLt, nEq, lLe, leL, lLt, ltL, eqL, lEq, nM1, nM2, litLt0, one01, zero01, oneNe0, xupE, xupA, xupK, xI_I, xS_I, xF_I, xJ_I, xI_R, xS_R, xF_R, xJ_R, xI_L, xS_L, xF_L, xJ_L, xcat_s, le46, ge16, or_true, true_or, false_or, or_false, eq_self, Option.toList_some, Option.toList_none, List.cons_append, List.nil_append, true_and, and_true, not_false_eq_true, not_true_eq_false, if_true, if_false]
    apply hQ
    · iterate 3 refine Ex.wr ?_ _ rfl
      exact Ex.refl _ _
    · simp only [xI_I, xup_s]
      rw [hx]
      exact ((hr.h r6 hl (-2)).b r6 hl (oB F l + 1)).w r6 hl _
  by_cases hc : oB F l + 1 = 2
  · rw [if_neg (fun q => q hc)]
    exact go 3 (by rw [if_pos hc])
  · rw [if_pos hc]
    exact go 1 (by rw [if_neg hc])
theorem n4241 : ((42 : Nat) = 41) = False := by decide
theorem nar01 : vp_nar .boolean 0 = 0 ∧ vp_nar .boolean 1 = 1 := by decide
def rD : Nat → Nat → Prop := fun a k => a = 473 ∨ a = 474 ∨ rL a k
theorem rD_N : ∀ a k, rD a k → rNT a k := fun a k q => by unfold rD rL at q; unfold rNT; omega
theorem lotv0 (s d : Int32) : (0 : Int32) ≤ lotv s d := by
  unfold lotv
  generalize stir (stir s 149) (4 * d) = x
  have key : ∀ y : Int32, 0 ≤ y.toInt → (0 : Int32) ≤ y - y / 100 * 100 := by
    intro y hy
    have e1 : (100 : Int32).toInt = 100 := rfl
    have hb : y.toInt < 2 ^ 31 := Int32.toInt_lt y
    have e2 : (y / 100).toInt = y.toInt / 100 := by
      rw [Int32.toInt_div_of_ne_right _ _ (by decide), e1, Int.tdiv_eq_ediv_of_nonneg hy]
    have e3 : (y / 100 * 100).toInt = y.toInt / 100 * 100 := by
      rw [Int32.toInt_mul, e2, e1, Int.bmod_eq_of_le (by omega) (by omega)]
    rw [i32_le, Int32.toInt_sub, e3, Int.bmod_eq_of_le (by omega) (by omega)]
    show (0 : Int) ≤ _
    omega
  apply key
  have e : (Int32.toUInt32 1 &&& Int32.toUInt32 31) = 1 := by decide
  rw [e]
  have h1 : (x.toUInt32 >>> 1).toNat < 2 ^ 31 := by
    rw [UInt32.toNat_shiftRight]
    have := x.toUInt32.toNat_lt
    have e1 : UInt32.toNat 1 % 32 = 1 := rfl
    rw [e1, Nat.shiftRight_eq_div_pow]
    omega
  show (0 : Int) ≤ BitVec.toInt (x.toUInt32 >>> 1).toBitVec
  rw [BitVec.toInt_eq_toNat_of_lt (by show 2 * (x.toUInt32 >>> 1).toNat < 2 ^ 32; omega)]
  omega

theorem bring_rt (T : XT) (F : XO) (l : Nat) : rtb T (bringF T F) l = rtb T F l := by
  obtain ⟨e1, e2, e3, e4, e5, e6, e7⟩ := bring_p T F
  have ev : ∀ a, vvar T (bringF T F) l a = vvar T F l a := fun a => by
    funext k
    unfold vvar
    rw [e1, e4, e6]
  unfold rtb
  rw [e2, ev]
  congr 1
  rw [e7]
  by_cases q : l < tN T ∧ oW F l = 0 ∧ ¬ oD F < tL T l 3
  · rw [if_pos q, q.2.1]; decide
  · rw [if_neg q]
/-- the row between: letters below i done -/
def RMid (T : XT) (F G : XO) (i : Nat) (f : Nat → Int32) : Prop := (∀ l, l < 7 → f l = (if l < i then oW G l else oW F l) ∧ f (7 + l) = (if l < i then oH G l else oH F l) ∧ f (14 + l) = if l < i then oB G l else oB F l) ∧ (∀ a, a < tR T → f (21 + a) = oA F a) ∧ (∀ a, a < 6 → f (27 + a) = oU F a) ∧ f 33 = oD F
theorem RMid.mk {T : XT} {F G H : XO} {i : Nat} {f : Nat → Int32} (h : RowIs T f H) (hw : ∀ l, l < 7 → oW H l = if l < i then oW G l else oW F l) (hh : ∀ l, l < 7 → oH H l = if l < i then oH G l else oH F l) (hb : ∀ l, l < 7 → oB H l = if l < i then oB G l else oB F l) (ha : oA H = oA F) (hu : oU H = oU F) (hd : oD H = oD F) : RMid T F G i f := by
  refine ⟨fun l hl => ⟨?_, ?_, ?_⟩, fun a ha' => ?_, fun a ha' => ?_, ?_⟩
  · rw [(h.1 l hl).1, hw l hl]
  · rw [(h.1 l hl).2.1, hh l hl]
  · rw [(h.1 l hl).2.2, hb l hl]
  · rw [h.2.1 a ha', ha]
  · rw [h.2.2.1 a ha', hu]
  · rw [h.2.2.2, hd]
/-- the office that such a row is -/
def offMid (F G : XO) (i : Nat) : XO := (oD F, (fun l => if l < i then oW G l else oW F l), (fun l => if l < i then oH G l else oH F l), (fun l => if l < i then oB G l else oB F l), oA F, oS F, oU F)
theorem RMid.row {T : XT} {F G : XO} {i : Nat} {f : Nat → Int32} (h : RMid T F G i f) : RowIs T f (offMid F G i) := h
