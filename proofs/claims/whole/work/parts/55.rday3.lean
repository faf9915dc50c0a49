/-! the reference: a day goes, against the class's day -/
theorem RowIs.sS {T : XT} {f : Nat → Int32} {F : XO} (h : RowIs T f F) (a : Nat) (x : Int32) : RowIs T f (sS F a x) := h
theorem RMid.zero {T : XT} {F : XO} (G : XO) {f : Nat → Int32} (h : RowIs T f F) : RMid T F G 0 f := RMid.mk h (fun l _ => by rw [if_neg (by omega)]) (fun l _ => by rw [if_neg (by omega)]) (fun l _ => by rw [if_neg (by omega)]) rfl rfl rfl
theorem RMid.all {T : XT} {F G : XO} {n : Nat} {f : Nat → Int32} (h : RMid T F G n f) (hw : ∀ l, l < 7 → n ≤ l → oW G l = oW F l ∧ oH G l = oH F l ∧ oB G l = oB F l) (ha : oA G = oA F) (hu : oU G = oU F) (hd : oD G = oD F) : RowIs T f G := by
  obtain ⟨h1, h2, h3, h4⟩ := h
  refine ⟨fun l hl => ?_, fun a q => by rw [ha]; exact h2 a q, fun a q => by rw [hu]; exact h3 a q, by rw [hd]; exact h4⟩
  obtain ⟨q1, q2, q3⟩ := h1 l hl
  by_cases hn : l < n
  · rw [if_pos hn] at q1 q2 q3
    exact ⟨q1, q2, q3⟩
  · rw [if_neg hn] at q1 q2 q3
    obtain ⟨z1, z2, z3⟩ := hw l hl (by omega)
    rw [z1, z2, z3]
    exact ⟨q1, q2, q3⟩
theorem if_step {α : Type} {l i : Nat} (x y z : α) (h1 : l = i → z = x) (h2 : l ≠ i → z = if l < i then x else y) : z = if l < i + 1 then x else y := by
  by_cases h : l = i
  · rw [if_pos (by omega)]; exact h1 h
  · rw [h2 h]
    by_cases q : l < i
    · rw [if_pos q, if_pos (by omega)]
    · rw [if_neg q, if_neg (by omega)]
theorem r_dayLast {M M4 : XM} {T : XT} {F3 : XO} {a1 a2 : Int32} {a3 : Option Value} {Q : Option Value → XM → Prop} (hs : RSh M) (r6 : tR T ≤ 6) (e4 : Ex rD M M4) (f4 : RowIs T (xI M4 473) F3)
    (hQ : ∀ M' : XM, Ex rD M M' → RowIs T (xI M' 473) (sD F3 (oD F3 + 1)) → Q none M') :
    RG xprog 180 280 [some (.ref 439), some (.int a1), some (.int a2), a3] [] M4 Q := by
  have s4 := hs.ex e4
  rw [B_180_280]
  simp (disch := omega) only [lAdd, addL, lMul, mulL, nMul, nI_add, subL, lSub, nSub, nDec, nCl, lCl, nVp, lVp, nLe, nLt, nEq, lLe, leL, lLt, ltL, eqL, lEq, nM1, nM2, litLt0, one01, zero01, oneNe0, xupE, xupA, xupK, xI_I, xS_I, xF_I, xJ_I, xI_R, xS_R, xF_R, xJ_R, xI_L, xS_L, xF_L, xJ_L, xcat_s, le46, ge16, or_true, true_or, false_or, or_false, eq_self, Option.toList_some, Option.toList_none, List.cons_append, List.nil_append, true_and, and_true, not_false_eq_true, not_true_eq_false, if_true, if_false, s4.s, s4.f, f4.2.2.2]
  refine hQ _ (e4.wr _ (Or.inl rfl)) ?_
  rw [xI_I, xup_s]
  exact f4.d r6 _
def turnF (T : XT) (F : XO) : XO := if tS T 0 ≤ 0 ∨ ¬ rem32 (oD F + 1) (tS T 0) = 0 then F else iter turn1 (tR T) F
theorem dayF_eq (T : XT) (seed wet : Int32) (F : XO) : dayF T seed wet F = sD (turnF T (sendF T (retF T (if wet ≤ lotv seed (oD F) then bringF T F else F)))) (oD (turnF T (sendF T (retF T (if wet ≤ lotv seed (oD F) then bringF T F else F)))) + 1) := rfl
theorem r_daySend {M M3 : XM} {lv : Nat} {T : XT} {G : XO} {dr : Int32} {Q : Option Value → XM → Prop} (hw : RW M lv T) (e3 : Ex rD M M3) (f3 : RowIs T (xI M3 473) G) (IG : OInv T G) (dG : DOk G)
    (hQ : ∀ M' : XM, Ex rD M M' → RowIs T (xI M' 473) (sD (turnF T (sendF T G)) (oD (turnF T (sendF T G)) + 1)) → Q none M') :
    RG xprog 180 160 [some (.ref 439), some (.int dr), some (.int 0), none] [] M3 Q := by
  have n7 := hw.n7
  have r6 := hw.r6
  have l2 := hw.lv2
  refine x_for (tN T) (fun i (s : XM × Option Value) => Ex rD M s.1 ∧ RowIs T (xI s.1 473) (iter (send1 T) i (G)) ∧ OInv T (iter (send1 T) i (G)) ∧ oD (iter (send1 T) i (G)) = oD G) (fun i s => RG xprog 180 160 [some (.ref 439), some (.int dr), some (.int (nI i)), s.2] [] s.1 Q) ?_ ?_ 0 (M3, none) (by omega) ⟨e3, f3, IG, rfl⟩
  · rintro ⟨M4, a3⟩ ⟨e4, f4, i4, d4⟩
    dsimp only at e4 f4 ⊢
    have w4 := hw.ex e4 rD_N
    rw [B_180_160]
    simp (disch := omega) only [lAdd, addL, lMul, mulL, nMul, nI_add, subL, lSub, nSub, nDec, nCl, lCl, nVp, lVp, nLe, nLt, nEq, lLe, leL, lLt, ltL, eqL, lEq, nM1, nM2, litLt0, one01, zero01, oneNe0, xupE, xupA, xupK, xI_I, xS_I, xF_I, xJ_I, xI_R, xS_R, xF_R, xJ_R, xI_L, xS_L, xF_L, xJ_L, xcat_s, le46, ge16, or_true, true_or, false_or, or_false, eq_self, Option.toList_some, Option.toList_none, List.cons_append, List.nil_append, true_and, and_true, not_false_eq_true, not_true_eq_false, if_true, if_false, w4.1.s, w4.1.f, w4.v, w4.n, w4.r, w4.st, Nat.le_refl, f4.2.2.2]
    by_cases hc : tS T 0 ≤ 0
    · rw [if_pos hc]
      have q : turnF T (sendF T G) = sendF T G := if_pos (Or.inl hc)
      rw [q] at hQ
      exact r_dayLast hw.1 r6 e4 f4 hQ
    · rw [if_neg hc]
      refine ⟨fun q => hc (by rw [q]; decide), ?_⟩
      by_cases hr : rem32 (oD (sendF T (G)) + 1) (tS T 0) = 0
      · refine (if_neg (c := ¬ rem32 _ _ = 0) (fun q => q hr)).mpr ?_
        refine x_for (tR T) (fun i M5 => Ex rD M M5 ∧ RowIs T (xI M5 473) (iter turn1 i (sendF T (G)))) (fun i M5 => RG xprog 180 238 [some (.ref 439), some (.int dr), some (.int (tS T 0)), some (.int (nI i))] [] M5 Q) ?_ ?_ 0 M4 (by omega) ⟨e4, f4⟩
        · intro M5 ⟨e5, f5⟩
          have w5 := hw.ex e5 rD_N
          rw [B_180_238]
          simp (disch := omega) only [lAdd, addL, lMul, mulL, nMul, nI_add, subL, lSub, nSub, nDec, nCl, lCl, nVp, lVp, nLe, nLt, nEq, lLe, leL, lLt, ltL, eqL, lEq, nM1, nM2, litLt0, one01, zero01, oneNe0, xupE, xupA, xupK, xI_I, xS_I, xF_I, xJ_I, xI_R, xS_R, xF_R, xJ_R, xI_L, xS_L, xF_L, xJ_L, xcat_s, le46, ge16, or_true, true_or, false_or, or_false, eq_self, Option.toList_some, Option.toList_none, List.cons_append, List.nil_append, true_and, and_true, not_false_eq_true, not_true_eq_false, if_true, if_false, w5.1.s, w5.1.f, w5.v, w5.r, Nat.le_refl]
          have q : turnF T (sendF T G) = iter turn1 (tR T) (sendF T G) := if_neg (fun q => q.elim hc (fun z => z hr))
          rw [q] at hQ
          exact r_dayLast hw.1 r6 e5 f5 hQ
        · intro i M5 hi ⟨e5, f5⟩ ih
          have w5 := hw.ex e5 rD_N
          rw [B_180_238]
          simp (disch := omega) only [lAdd, addL, lMul, mulL, nMul, nI_add, subL, lSub, nSub, nDec, nCl, lCl, nVp, lVp, nLe, nLt, nEq, lLe, leL, lLt, ltL, eqL, lEq, nM1, nM2, litLt0, one01, zero01, oneNe0, xupE, xupA, xupK, xI_I, xS_I, xF_I, xJ_I, xI_R, xS_R, xF_R, xJ_R, xI_L, xS_L, xF_L, xJ_L, xcat_s, le46, ge16, or_true, true_or, false_or, or_false, eq_self, Option.toList_some, Option.toList_none, List.cons_append, List.nil_append, true_and, and_true, not_false_eq_true, not_true_eq_false, if_true, if_false, w5.1.s, w5.1.f, w5.v, w5.r, if_neg, f5.2.1 i hi, B_180_274]
          refine ⟨by decide, ?_⟩
          refine ih _ ⟨e5.wr _ (Or.inl rfl), ?_⟩
          rw [xI_I, xup_s]
          exact f5.a r6 hi _
      · refine (if_pos (c := ¬ rem32 _ _ = 0) hr).mpr ?_
        have q : turnF T (sendF T G) = sendF T G := if_pos (Or.inr hr)
        rw [q] at hQ
        exact r_dayLast hw.1 r6 e4 f4 hQ
  · rintro i ⟨M4, a3⟩ hi ⟨e4, f4, i4, d4⟩ ih
    dsimp only at e4 f4 ⊢
    have w4 := hw.ex e4 rD_N
    have hd4 : DOk (iter (send1 T) i (G)) := by
      obtain ⟨d, q1, q2⟩ := dG
      exact ⟨d, q1, by rw [d4, q2]⟩
    have R4 : RR M4 lv T (iter (send1 T) i (G)) := ⟨w4, f4, hd4, i4⟩
    have i5 : OInv T (iter (send1 T) (i + 1) (G)) := by rw [iter_s]; exact i4.snd1 r6 n7 hi
    have d5 : oD (iter (send1 T) (i + 1) (G)) = oD G := by
      rw [iter_s]
      unfold send1
      split
      · exact d4
      · exact d4
    rw [B_180_160]
    simp (disch := omega) only [lAdd, addL, lMul, mulL, nMul, nI_add, subL, lSub, nSub, nDec, nCl, lCl, nVp, lVp, nLe, nLt, nEq, lLe, leL, lLt, ltL, eqL, lEq, nM1, nM2, litLt0, one01, zero01, oneNe0, xupE, xupA, xupK, xI_I, xS_I, xF_I, xJ_I, xI_R, xS_R, xF_R, xJ_R, xI_L, xS_L, xF_L, xJ_L, xcat_s, le46, ge16, or_true, true_or, false_or, or_false, eq_self, Option.toList_some, Option.toList_none, List.cons_append, List.nil_append, true_and, and_true, not_false_eq_true, not_true_eq_false, if_true, if_false, R4.s.s, R4.s.f, R4.v, R4.n, if_neg, R4.l (show i < 7 by omega)]
    by_cases hz : oW (iter (send1 T) i (G)) i = 1
    · rw [if_pos hz]
      refine r_bestFor R4 hi ?_
      intro M5 e5
      have R5 := R4.exL e5
      have e5' : Ex rD M M5 := e4.trans (e5.mono fun a k q => Or.inr (Or.inr q))
      simp (disch := omega) only [lAdd, addL, lMul, mulL, nMul, nI_add, subL, lSub, nSub, nDec, nCl, lCl, nVp, lVp, nLe, nLt, nEq, lLe, leL, lLt, ltL, eqL, lEq, nM1, nM2, litLt0, one01, zero01, oneNe0, xupE, xupA, xupK, xI_I, xS_I, xF_I, xJ_I, xI_R, xS_R, xF_R, xJ_R, xI_L, xS_L, xF_L, xJ_L, xcat_s, le46, ge16, or_true, true_or, false_or, or_false, eq_self, Option.toList_some, Option.toList_none, List.cons_append, List.nil_append, true_and, and_true, not_false_eq_true, not_true_eq_false, if_true, if_false, B_180_191, R5.s.s]
      rcases best_or T (iter (send1 T) i (G)) i with hb | ⟨a, ha, hb, _⟩
      · rw [hb, if_pos (by decide), B_180_202]
        simp (disch := omega) only [lAdd, addL, lMul, mulL, nMul, nI_add, subL, lSub, nSub, nDec, nCl, lCl, nVp, lVp, nLe, nLt, nEq, lLe, leL, lLt, ltL, eqL, lEq, nM1, nM2, litLt0, one01, zero01, oneNe0, xupE, xupA, xupK, xI_I, xS_I, xF_I, xJ_I, xI_R, xS_R, xF_R, xJ_R, xI_L, xS_L, xF_L, xJ_L, xcat_s, le46, ge16, or_true, true_or, false_or, or_false, eq_self, Option.toList_some, Option.toList_none, List.cons_append, List.nil_append, true_and, and_true, not_false_eq_true, not_true_eq_false, if_true, if_false]
        refine ih (M5, _) ⟨e5', ?_, i5, d5⟩
        rw [iter_s, send1, if_neg (fun q => q.2 hb)]
        exact R5.2.1
      · rw [hb, if_neg (by rw [ltL (by omega) (by omega)]; omega)]
        refine r_sends R5 (by omega) ha ?_
        intro M6 e6 f6
        simp (disch := omega) only [lAdd, addL, lMul, mulL, nMul, nI_add, subL, lSub, nSub, nDec, nCl, lCl, nVp, lVp, nLe, nLt, nEq, lLe, leL, lLt, ltL, eqL, lEq, nM1, nM2, litLt0, one01, zero01, oneNe0, xupE, xupA, xupK, xI_I, xS_I, xF_I, xJ_I, xI_R, xS_R, xF_R, xJ_R, xI_L, xS_L, xF_L, xJ_L, xcat_s, le46, ge16, or_true, true_or, false_or, or_false, eq_self, Option.toList_some, Option.toList_none, List.cons_append, List.nil_append, true_and, and_true, not_false_eq_true, not_true_eq_false, if_true, if_false, B_180_202]
        refine ih (M6, _) ⟨e5'.trans (e6.mono fun a k q => Or.inl q), ?_, i5, d5⟩
        rw [iter_s, send1, if_pos ⟨hz, by rw [hb, nM2 (by omega)]; exact fun q => q⟩]
        unfold cN
        rw [hb, nI_clamp (by omega)]
        exact f6
    · rw [if_neg hz, B_180_202]
      simp (disch := omega) only [lAdd, addL, lMul, mulL, nMul, nI_add, subL, lSub, nSub, nDec, nCl, lCl, nVp, lVp, nLe, nLt, nEq, lLe, leL, lLt, ltL, eqL, lEq, nM1, nM2, litLt0, one01, zero01, oneNe0, xupE, xupA, xupK, xI_I, xS_I, xF_I, xJ_I, xI_R, xS_R, xF_R, xJ_R, xI_L, xS_L, xF_L, xJ_L, xcat_s, le46, ge16, or_true, true_or, false_or, or_false, eq_self, Option.toList_some, Option.toList_none, List.cons_append, List.nil_append, true_and, and_true, not_false_eq_true, not_true_eq_false, if_true, if_false]
      refine ih (M4, _) ⟨e4, ?_, i5, d5⟩
      rw [iter_s, send1, if_neg (fun q => hz q.1)]
      exact f4
theorem r_dayMid {M M2 : XM} {lv : Nat} {T : XT} {F : XO} {wet seed dr : Int32} {Q : Option Value → XM → Prop} (h : RR M lv T F) (hdr : dr = if wet ≤ lotv seed (oD F) then 1 else 0) (e2 : Ex rD M M2) (f2 : RowIs T (xI M2 473) F) (t2 : ∀ j, j < tN T → xI M2 474 j = if rtb T F j = true then 1 else 0)
    (hQ : ∀ M' : XM, Ex rD M M' → RowIs T (xI M' 473) (dayF T seed wet F) → Q none M') :
    RG xprog 180 81 [some (.ref 439), some (.int dr), some (.int 0), none] [] M2 Q := by
  have n7 := h.n7
  have r6 := h.r6
  have l2 := h.lv2
  rw [dayF_eq] at hQ
  generalize hF1 : (if wet ≤ lotv seed (oD F) then bringF T F else F) = F1 at hQ
  have b1 : oD F1 = oD F ∧ oH F1 = oH F ∧ oB F1 = oB F ∧ oA F1 = oA F ∧ oU F1 = oU F ∧ ∀ l, rtb T F1 l = rtb T F l := by
    rw [← hF1]
    obtain ⟨e1, e2, e3, e4, e5, e6, e7⟩ := bring_p T F
    split
    · exact ⟨e1, e2, e3, e4, e6, bring_rt T F⟩
    · exact ⟨rfl, rfl, rfl, rfl, rfl, fun _ => rfl⟩
  have bW : ∀ l, l < tN T → oW F1 l = if (wet ≤ lotv (seed) (oD F)) ∧ oW F l = 0 ∧ ¬ oD F < tL T l 3 then 1 else oW F l := by
    intro l hl
    rw [← hF1]
    by_cases q : wet ≤ lotv (seed) (oD F)
    · rw [if_pos q, (bring_p T F).2.2.2.2.2.2]
      by_cases q2 : oW F l = 0 ∧ ¬ oD F < tL T l 3
      · rw [if_pos ⟨hl, q2⟩, if_pos ⟨q, q2⟩]
      · rw [if_neg (fun z => q2 z.2), if_neg (fun z => q2 z.2)]
    · rw [if_neg q, if_neg (fun z => q z.1)]
  have bW7 : ∀ l, tN T ≤ l → oW F1 l = oW F l := by
    intro l hl
    rw [← hF1]
    split
    · rw [(bring_p T F).2.2.2.2.2.2, if_neg (fun z => absurd z.1 (by omega))]
    · rfl
  have I1 : OInv T F1 := by
    rw [← hF1]
    split
    · exact h.i.bring n7
    · exact h.i
  have IG := I1.ret r6 n7
  obtain ⟨g1, g2, g3, g4, g5, g6, g7, g8⟩ := ret_p I1 r6 n7
  have dG : DOk (retF T F1) := by
    obtain ⟨d, q1, q2⟩ := h.2.2.1
    exact ⟨d, q1, by rw [g1, b1.1, q2]⟩
  refine x_for (tN T) (fun i M3 => Ex rD M M3 ∧ RMid T F (retF T F1) i (xI M3 473) ∧ ∀ j, j < tN T → xI M3 474 j = if rtb T F j = true then 1 else 0) (fun i M3 => RG xprog 180 81 [some (.ref 439), some (.int dr), some (.int (nI i)), none] [] M3 Q) ?_ ?_ 0 M2 (by omega) ⟨e2, RMid.zero _ f2, t2⟩
  · intro M3 ⟨e3, f3, _⟩
    have w3 := h.1.ex e3 rD_N
    rw [B_180_81]
    simp (disch := omega) only [lAdd, addL, lMul, mulL, nMul, nI_add, subL, lSub, nSub, nDec, nCl, lCl, nVp, lVp, nLe, nLt, nEq, lLe, leL, lLt, ltL, eqL, lEq, nM1, nM2, litLt0, one01, zero01, oneNe0, xupE, xupA, xupK, xI_I, xS_I, xF_I, xJ_I, xI_R, xS_R, xF_R, xJ_R, xI_L, xS_L, xF_L, xJ_L, xcat_s, le46, ge16, or_true, true_or, false_or, or_false, eq_self, Option.toList_some, Option.toList_none, List.cons_append, List.nil_append, true_and, and_true, not_false_eq_true, not_true_eq_false, if_true, if_false, w3.1.s, w3.1.f, w3.v, w3.n, Nat.le_refl]
    refine r_daySend h.1 e3 (f3.all ?_ (by rw [g2, b1.2.2.2.1]) (by rw [g3, b1.2.2.2.2.1]) (by rw [g1, b1.1])) IG dG hQ
    intro l hl hn
    rw [g4, g5, g6, if_neg (fun q => absurd q.1 (by omega)), if_neg (fun q => absurd q.1 (by omega)), if_neg (fun q => absurd q.1 (by omega)), b1.2.1, b1.2.2.1]
    exact ⟨bW7 l hn, rfl, rfl⟩
  · intro i M3 hi ⟨e3, f3, t3⟩ ih
    have w3 := h.1.ex e3 rD_N
    have o3 := f3.row
    have vW : oW (offMid F (retF T F1) i) i = oW F i := if_neg (by omega)
    have vB : oB (offMid F (retF T F1) i) i = oB F i := if_neg (by omega)
    have ti := t3 i hi
    -- behind coming
    have back : ∀ M4 : XM, Ex rD M M4 → RowIs T (xI M4 473) (sW (offMid F (retF T F1) i) i (oW F1 i)) → (∀ j, j < tN T → xI M4 474 j = if rtb T F j = true then 1 else 0) → RG xprog 180 138 [some (.ref 439), some (.int dr), some (.int (nI i)), none] [] M4 Q := by
      intro M4 e4 o4 t4
      have w4 := h.1.ex e4 rD_N
      rw [B_180_138]
      simp (disch := omega) only [lAdd, addL, lMul, mulL, nMul, nI_add, subL, lSub, nSub, nDec, nCl, lCl, nVp, lVp, nLe, nLt, nEq, lLe, leL, lLt, ltL, eqL, lEq, nM1, nM2, litLt0, one01, zero01, oneNe0, xupE, xupA, xupK, xI_I, xS_I, xF_I, xJ_I, xI_R, xS_R, xF_R, xJ_R, xI_L, xS_L, xF_L, xJ_L, xcat_s, le46, ge16, or_true, true_or, false_or, or_false, eq_self, Option.toList_some, Option.toList_none, List.cons_append, List.nil_append, true_and, and_true, not_false_eq_true, not_true_eq_false, if_true, if_false, w4.1.s, w4.1.f, t4 i hi, or_true]
      by_cases hb : rtb T F i = true
      · rw [if_pos hb, if_neg (by decide)]
        refine r_sendsBack w4.1 o4 r6 (by omega) ?_
        intro M5 e5 o5
        simp (disch := omega) only [lAdd, addL, lMul, mulL, nMul, nI_add, subL, lSub, nSub, nDec, nCl, lCl, nVp, lVp, nLe, nLt, nEq, lLe, leL, lLt, ltL, eqL, lEq, nM1, nM2, litLt0, one01, zero01, oneNe0, xupE, xupA, xupK, xI_I, xS_I, xF_I, xJ_I, xI_R, xS_R, xF_R, xJ_R, xI_L, xS_L, xF_L, xJ_L, xcat_s, le46, ge16, or_true, true_or, false_or, or_false, eq_self, Option.toList_some, Option.toList_none, List.cons_append, List.nil_append, true_and, and_true, not_false_eq_true, not_true_eq_false, if_true, if_false, B_180_152]
        have e5' : Ex rD M M5 := e4.trans (e5.mono fun a k q => Or.inl q)
        refine ih M5 ⟨e5', ?_, ?_⟩
        · have vB' : oB (sW (offMid F (retF T F1) i) i (oW F1 i)) i = oB F i := vB
          rw [vB'] at o5
          refine RMid.mk o5 ?_ ?_ ?_ rfl rfl rfl
          · intro l hl
            show xone (xone (oW (offMid F (retF T F1) i)) i (oW F1 i)) i (if oB F i + 1 = 2 then 3 else 1) l = _
            rw [xo_at]
            refine if_step _ _ _ (fun q => ?_) (fun q => ?_)
            · subst q
              rw [if_pos rfl, g4, if_pos (c := l < tN T ∧ rtb T F1 l = true) ⟨hi, by rw [b1.2.2.2.2.2]; exact hb⟩, b1.2.2.1]
              rcases (h.i.2.2.1 l (by omega)).2 with z | z | z
              · rw [z]; decide
              · rw [z]; decide
              · rw [rtb_w hb] at z; exact absurd z.2 (by decide)
            · rw [if_neg q, xo_at, if_neg q]; rfl
          · intro l hl
            show xone (oH (offMid F (retF T F1) i)) i (-2) l = _
            rw [xo_at]
            refine if_step _ _ _ (fun q => ?_) (fun q => ?_)
            · subst q
              rw [if_pos rfl, g5, if_pos (c := l < tN T ∧ rtb T F1 l = true) ⟨hi, by rw [b1.2.2.2.2.2]; exact hb⟩]
            · rw [if_neg q]; rfl
          · intro l hl
            show xone (oB (offMid F (retF T F1) i)) i (oB F i + 1) l = _
            rw [xo_at]
            refine if_step _ _ _ (fun q => ?_) (fun q => ?_)
            · subst q
              rw [if_pos rfl, g6, if_pos (c := l < tN T ∧ rtb T F1 l = true) ⟨hi, by rw [b1.2.2.2.2.2]; exact hb⟩, b1.2.2.1]
            · rw [if_neg q]; rfl
        · intro j hj
          rw [e5.I (by omega)]
          exact t4 j hj
      · rw [if_neg hb, if_pos rfl, B_180_152]
        simp (disch := omega) only [lAdd, addL, lMul, mulL, nMul, nI_add, subL, lSub, nSub, nDec, nCl, lCl, nVp, lVp, nLe, nLt, nEq, lLe, leL, lLt, ltL, eqL, lEq, nM1, nM2, litLt0, one01, zero01, oneNe0, xupE, xupA, xupK, xI_I, xS_I, xF_I, xJ_I, xI_R, xS_R, xF_R, xJ_R, xI_L, xS_L, xF_L, xJ_L, xcat_s, le46, ge16, or_true, true_or, false_or, or_false, eq_self, Option.toList_some, Option.toList_none, List.cons_append, List.nil_append, true_and, and_true, not_false_eq_true, not_true_eq_false, if_true, if_false]
        refine ih M4 ⟨e4, ?_, t4⟩
        have nb : ¬ (i < tN T ∧ rtb T F1 i = true) := fun q => hb (by rw [← b1.2.2.2.2.2]; exact q.2)
        refine RMid.mk o4 ?_ ?_ ?_ rfl rfl rfl
        · intro l hl
          show xone (oW (offMid F (retF T F1) i)) i (oW F1 i) l = _
          rw [xo_at]
          refine if_step _ _ _ (fun q => ?_) (fun q => ?_)
          · subst q
            rw [if_pos rfl, g4, if_neg nb]
          · rw [if_neg q]; rfl
        · intro l hl
          show (if l < i then _ else _) = _
          refine if_step _ _ _ (fun q => ?_) (fun q => rfl)
          subst q
          rw [if_neg (by omega), g5, if_neg nb, b1.2.1]
        · intro l hl
          show (if l < i then _ else _) = _
          refine if_step _ _ _ (fun q => ?_) (fun q => rfl)
          subst q
          rw [if_neg (by omega), g6, if_neg nb, b1.2.2.1]
    have stay : oW F1 i = oW F i → RG xprog 180 138 [some (.ref 439), some (.int dr), some (.int (nI i)), none] [] M3 Q := by
      intro hw
      refine back M3 e3 ?_ t3
      rw [hw]
      refine ⟨fun l hl => ⟨?_, (o3.1 l hl).2⟩, o3.2⟩
      show _ = xone (oW (offMid F (retF T F1) i)) i (oW F i) l
      rw [xo_at, (o3.1 l hl).1]
      by_cases q : l = i
      · rw [if_pos q, q, vW]
      · rw [if_neg q]
    rw [B_180_81]
    simp (disch := omega) only [lAdd, addL, lMul, mulL, nMul, nI_add, subL, lSub, nSub, nDec, nCl, lCl, nVp, lVp, nLe, nLt, nEq, lLe, leL, lLt, ltL, eqL, lEq, nM1, nM2, litLt0, one01, zero01, oneNe0, xupE, xupA, xupK, xI_I, xS_I, xF_I, xJ_I, xI_R, xS_R, xF_R, xJ_R, xI_L, xS_L, xF_L, xJ_L, xcat_s, le46, ge16, or_true, true_or, false_or, or_false, eq_self, Option.toList_some, Option.toList_none, List.cons_append, List.nil_append, true_and, and_true, not_false_eq_true, not_true_eq_false, if_true, if_false, w3.1.s, w3.1.f, w3.v, w3.n, if_neg, (o3.1 i (by omega)).1, vW, w3.l hi, o3.2.2.2]
    have bWi := bW i hi
    by_cases q1 : wet ≤ lotv (seed) (oD F)
    · rw [if_pos q1] at hdr
      rw [hdr, if_neg (by decide)]
      rw [hdr] at stay back
      by_cases q2 : oW F i = 0
      · rw [if_neg (fun z => z q2)]
        by_cases q3 : oD F < tL T i 3
        · refine (if_pos (c := oD (offMid F (retF T F1) i) < _) q3).mpr ?_
          exact stay (by rw [bWi, if_neg (fun z => z.2.2 q3)])
        · refine (if_neg (c := oD (offMid F (retF T F1) i) < _) q3).mpr ?_
          refine back _ (e3.wr _ (Or.inl rfl)) ?_ ?_
          · rw [xI_I, xup_s, bWi, if_pos ⟨q1, q2, q3⟩]
            exact o3.w r6 (by omega) 1
          · intro j hj
            rw [xI_I, xupA _ _ _ _ (by omega)]
            exact t3 j hj
      · rw [if_pos q2]
        exact stay (by rw [bWi, if_neg (fun z => q2 z.2.1)])
    · rw [if_neg q1] at hdr
      rw [hdr, if_pos rfl]
      rw [hdr] at stay
      exact stay (by rw [bWi, if_neg (fun z => q1 z.1)])
theorem r_dayGoes {M : XM} {lv : Nat} {T : XT} {F : XO} {wet : Int32} {Q : Option Value → XM → Prop} (h : RR M lv T F) (hst : (¬ xI M 439 53 = 0 ∧ wet = 0) ∨ (xI M 439 53 = 0 ∧ wet = tS T 1))
    (hQ : ∀ M' : XM, Ex rD M M' → RowIs T (xI M' 473) (dayF T (xI M 439 52) wet F) → Q none M') :
    RG xprog 180 0 [some (.ref 439), none, none, none] [] M Q := by
  have n7 := h.n7
  have r6 := h.r6
  have l2 := h.lv2
  -- which are sent back
  rw [B_180_0]
  refine x_for (tN T) (fun i M1 => Ex (fun a k => a = 474 ∨ rL a k) M M1 ∧ ∀ j, j < i → xI M1 474 j = if rtb T F j = true then 1 else 0) (fun i M1 => RG xprog 180 2 [some (.ref 439), some (.int (nI i)), none, none] [] M1 Q) ?_ ?_ 0 M (by omega) ⟨Ex.refl _ _, fun j hj => by omega⟩
  · intro M1 ⟨e1, t1⟩
    have R1 := h.ex e1 (by intro a k q; unfold rL at q; unfold rNT; omega)
    have e1' : Ex rD M M1 := e1.mono fun a k q => Or.inr q
    have k2 : xI M1 439 52 = xI M 439 52 := e1.I (by unfold rL; omega)
    have k3 : xI M1 439 53 = xI M 439 53 := e1.I (by unfold rL; omega)
    rw [B_180_2]
    simp (disch := omega) only [lAdd, addL, lMul, mulL, nMul, nI_add, subL, lSub, nSub, nDec, nCl, lCl, nVp, lVp, nLe, nLt, nEq, lLe, leL, lLt, ltL, eqL, lEq, nM1, nM2, litLt0, one01, zero01, oneNe0, xupE, xupA, xupK, xI_I, xS_I, xF_I, xJ_I, xI_R, xS_R, xF_R, xJ_R, xI_L, xS_L, xF_L, xJ_L, xcat_s, le46, ge16, or_true, true_or, false_or, or_false, eq_self, Option.toList_some, Option.toList_none, List.cons_append, List.nil_append, true_and, and_true, not_false_eq_true, not_true_eq_false, if_true, if_false, R1.s.s, R1.s.f, R1.v, R1.n, Nat.le_refl, r_isWet R1, B_180_70, k2, k3]
    rcases hst with ⟨q1, q2⟩ | ⟨q1, q2⟩
    · rw [if_pos q1]
      refine r_dayMid (dr := 1) h ?_ e1' R1.2.1 t1 hQ
      rw [q2, if_pos (lotv0 _ _)]
    · rw [if_neg (fun z => z q1)]
      by_cases q3 : tS T 1 ≤ lotv (xI M 439 52) (oD F)
      · rw [if_pos q3, if_neg (fun z => z rfl)]
        exact r_dayMid (dr := 1) h (by rw [q2, if_pos q3]) e1' R1.2.1 t1 hQ
      · rw [if_neg q3, if_pos (by decide)]
        exact r_dayMid (dr := 0) h (by rw [q2, if_neg q3]) e1' R1.2.1 t1 hQ
  · intro i M1 hi ⟨e1, t1⟩ ih
    have R1 := h.ex e1 (by intro a k q; unfold rL at q; unfold rNT; omega)
    have put : ∀ (M2 : XM) (x : Int32), Ex (fun a k => a = 474 ∨ rL a k) M M2 → (∀ j, j < i → xI M2 474 j = if rtb T F j = true then 1 else 0) → (x = if rtb T F i = true then 1 else 0) → RG xprog 180 52 [some (.ref 439), some (.int (nI i)), none, none] [.int x, .int (nI i), .ref 474] M2 Q := by
      intro M2 x e2 t2 hx
      have s2 := h.s.ex e2
      rw [B_180_52]
      have nx : vp_nar .boolean x = x := by
        rw [hx]
        split
        · exact nar01.2
        · exact nar01.1
      simp (disch := omega) only [lAdd, addL, lMul, mulL, nMul, nI_add, subL, lSub, nSub, nDec, nCl, lCl, nVp, lVp, nLe, nLt, nEq, lLe, leL, lLt, ltL, eqL, lEq, nM1, nM2, litLt0, one01, zero01, oneNe0, xupE, xupA, xupK, xI_I, xS_I, xF_I, xJ_I, xI_R, xS_R, xF_R, xJ_R, xI_L, xS_L, xF_L, xJ_L, xcat_s, le46, ge16, or_true, true_or, false_or, or_false, eq_self, Option.toList_some, Option.toList_none, List.cons_append, List.nil_append, true_and, and_true, not_false_eq_true, not_true_eq_false, if_true, if_false, s2.s, n4241, false_and, nx]
      refine ⟨by omega, ?_⟩
      refine ih _ ⟨e2.wr _ (Or.inl rfl), ?_⟩
      intro j hj
      rw [xI_I]
      by_cases q : j = i
      · rw [q, xupE]; exact hx
      · rw [xupK _ _ q]; exact t2 j (by omega)
    rw [B_180_2]
    simp (disch := omega) only [lAdd, addL, lMul, mulL, nMul, nI_add, subL, lSub, nSub, nDec, nCl, lCl, nVp, lVp, nLe, nLt, nEq, lLe, leL, lLt, ltL, eqL, lEq, nM1, nM2, litLt0, one01, zero01, oneNe0, xupE, xupA, xupK, xI_I, xS_I, xF_I, xJ_I, xI_R, xS_R, xF_R, xJ_R, xI_L, xS_L, xF_L, xJ_L, xcat_s, le46, ge16, or_true, true_or, false_or, or_false, eq_self, Option.toList_some, Option.toList_none, List.cons_append, List.nil_append, true_and, and_true, not_false_eq_true, not_true_eq_false, if_true, if_false, R1.s.s, R1.s.f, R1.v, R1.n, if_neg, R1.l (show i < 7 by omega)]
    by_cases hw : oW F i = 2
    · rw [if_neg (fun q => q hw)]
      rcases h.i.1 i (by omega) with q | ⟨_, _, a, ha, hh, _⟩
      · exact absurd hw q.2
      rw [hh]
      refine r_doesReturn R1 hi ha ?_
      intro M2 e2
      have e2' := e1.trans (e2.mono (P' := fun a k => a = 474 ∨ rL a k) fun a k q => Or.inr q)
      have t2 : ∀ j, j < i → xI M2 474 j = if rtb T F j = true then 1 else 0 := fun j hj => by rw [e2.I (by unfold rL; omega)]; exact t1 j hj
      have ht : rtb T F i = decide (¬ tW T 2 (vvar T F i a) ≤ 0) := by
        unfold rtb cN
        rw [hw, hh, nI_clamp (by omega)]
        rfl
      simp (disch := omega) only [lAdd, addL, lMul, mulL, nMul, nI_add, subL, lSub, nSub, nDec, nCl, lCl, nVp, lVp, nLe, nLt, nEq, lLe, leL, lLt, ltL, eqL, lEq, nM1, nM2, litLt0, one01, zero01, oneNe0, xupE, xupA, xupK, xI_I, xS_I, xF_I, xJ_I, xI_R, xS_R, xF_R, xJ_R, xI_L, xS_L, xF_L, xJ_L, xcat_s, le46, ge16, or_true, true_or, false_or, or_false, eq_self, Option.toList_some, Option.toList_none, List.cons_append, List.nil_append, true_and, and_true, not_false_eq_true, not_true_eq_false, if_true, if_false, B_180_44]
      by_cases hc : tW T 2 (vvar T F i a) ≤ 0
      · rw [if_pos hc, if_pos rfl]
        exact put M2 0 e2' t2 (by rw [ht, if_neg (by simp only [hc]; decide)])
      · rw [if_neg hc, if_neg (by decide)]
        exact put M2 1 e2' t2 (by rw [ht, if_pos (by simp only [hc]; decide)])
    · rw [if_pos hw]
      exact put M1 0 e1 t1 (by rw [if_neg (by unfold rtb; simp only [hw]; simp)])
