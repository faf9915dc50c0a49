/-! read of the class: its end -/
theorem ite_m {b : Prop} [Decidable b] {x y : Nat × YS} (hx : x.2.2.1.1.1 ≤ 5) (hy : y.2.2.1.1.1 ≤ 5) : (if b then x else y).2.2.1.1.1 ≤ 5 := by
  by_cases q : b
  · rw [if_pos q]; exact hx
  · rw [if_neg q]; exact hy
theorem ynote_5 {f j : Nat} {b : Bool} {m : Nat × Int32} (hf : f ≤ 5) (h : m.1 ≤ 5) : (ynote f j b m).1 ≤ 5 := by
  unfold ynote
  split
  · split
    · exact hf
    · exact h
  · exact h
theorem ystep_m (sm : Nat → Nat → Bool) (k v j : Nat) (p : YS) (h : p.2.1.1.1 ≤ 5) : (ystep sm k v j p).2.2.1.1.1 ≤ 5 := by
  obtain ⟨⟨st, tk, fd, ifs, ne, pe⟩, ⟨m, a, r, nm, L, R, S⟩, ⟨W, lw, l, z, sk⟩⟩ := p
  have h' : m.1 ≤ 5 := h
  unfold ystep ytell yname yint yunit ybeh
  dsimp only
  refine ite_m (ite_m h' (ite_m h' (ite_m h' (ite_m h' (ite_m h' h'))))) (ite_m (ite_m (ynote_5 (by omega) h') h') (ite_m (ite_m (ynote_5 (by omega) h') h') (ite_m h' (ite_m h' (ite_m h' (ite_m (ite_m h' (ite_m h' (ite_m h' h'))) (ite_m h' (ite_m h' (ite_m (ite_m h' (ite_m h' (ite_m h' h'))) h')))))))))
theorem yrun_m (sm : Nat → Nat → Bool) (K V P : Nat → Nat) : ∀ (f i : Nat) (p : YS), p.2.1.1.1 ≤ 5 → (yrun sm K V P f i p).1 ≤ 5
  | 0, i, p, h => by show 2 ≤ 5; omega
  | f + 1, i, p, h => by
    rw [yrun_s]
    by_cases q : (ystep sm (K i) (V i) (P i) p).1 = 0
    · rw [if_pos q]; show 1 ≤ 5; omega
    · rw [if_neg q]
      by_cases k : K i = 0
      · rw [if_pos k]; exact ystep_m _ _ _ _ _ h
      · rw [if_neg k]
        by_cases r : (ystep sm (K i) (V i) (P i) p).1 = 2 ∨ 400 ≤ i
        · rw [if_pos r]; show 2 ≤ 5; omega
        · rw [if_neg r]
          exact yrun_m sm K V P f (i + 1) _ (ystep_m _ _ _ _ _ h)
def lowP : Nat → Nat → Prop := fun a _ => 16 ≤ a ∧ a < 439
def lowJ : Nat → Nat → Prop := fun a _ => 16 ≤ a ∧ a < 439 ∧ a ≠ 21
theorem c_read {M : XM} {t L n B : Nat} {S : XS} {xs : Nat → Int32} {c : Nat → Nat} {Q : Option Value → XM → Prop} (cw : CW M t S) (sv : SInv B S) (ls : LSc L xs M) (hj : ∀ i, i < 21 → xJ M 21 i = cwF i 8) (hn : zPn S = n) (n2 : n ≤ 2000) (hb : ∀ i, i < n → zP S i &&& 255 = nI (c i)) (hc : ∀ i, c i < 256)
    (hQ : ∀ (M' : XM) (L0 R0 : Nat → Nat → Int32) (S0 : Nat → Int32) (W0 : Nat → YL), (∀ i, i < 3 → S0 i = 0) → (∀ k, k < 4 → ∀ v, lawv (W0 k).1 (W0 k).2 v = plv k v) → E3 lowP lowJ lowP M M' → ((yOut n c 401 0 (y0 L0 R0 S0 W0)).1 ≠ 0 → CW M' t (S_fail S (yOut n c 401 0 (y0 L0 R0 S0 W0)).2.1)) → ((yOut n c 401 0 (y0 L0 R0 S0 W0)).1 = 0 → CW M' (81 - t) (S0of (yT (yOut n c 401 0 (y0 L0 R0 S0 W0)).2.2))) → Q (some (.int (nI (yOut n c 401 0 (y0 L0 R0 S0 W0)).1))) M') :
    RG xprog 83 0 [some (.ref 16), none] [] M Q := by
  have ht := cw.t2
  obtain ⟨d1, d2, d3, d4, d5, d6, d7, d8, d9, d10, d11, d12⟩ := cw.d
  have s17 := cw.1.2.1.1
  have s19 := cw.1.2.2.1.1
  have sd := cw.2.2.1.1.2.1
  rw [B_83_0]
  simp (disch := omega) only [lAdd, addL, lMul, mulL, nMul, nI_add, subL, lSub, nSub, nDec, nCl, lCl, nVp, lVp, nLe, nLt, nEq, lLe, leL, lLt, ltL, eqL, lEq, nM1, nM2, litLt0, one01, zero01, oneNe0, xupE, xupA, xupK, xI_I, xS_I, xF_I, xJ_I, xI_R, xS_R, xF_R, xJ_R, xI_L, xS_L, xF_L, xJ_L, xcat_s, le46, ge16, or_true, true_or, false_or, or_false, eq_self, Option.toList_some, Option.toList_none, List.cons_append, List.nil_append, true_and, and_true, not_false_eq_true, not_true_eq_false, if_true, if_false, d1, d2, d3, d5, s19]
  refine c_parse cw ls hj hn n2 hb hc ?_
  intro M1 L0 R0 S0 W0 hs0 hw0 e1 en
  have O5 : (yOut n c 401 0 (y0 L0 R0 S0 W0)).1 ≤ 5 := yrun_m _ _ _ _ _ _ _ (Nat.zero_le _)
  have Oe : (yOut n c 401 0 (y0 L0 R0 S0 W0)).1 = 0 → (yOut n c 401 0 (y0 L0 R0 S0 W0)).2.2.1.1 = 0 := yrun_e _ _ _ _ _ _ _
  have q := fun M' => hQ M' L0 R0 S0 W0 hs0 hw0
  clear hQ
  generalize yOut n c 401 0 (y0 L0 R0 S0 W0) = O at *
  have F16 : ∀ k, xF M1 16 k = xF M 16 k := fun k => e1.FF (by unfold pF; omega)
  have s16 : xS M1 16 = (11, 0) := by rw [e1.S]; exact d1
  have s19' : xS M1 19 = (6, 0) := by rw [e1.S]; exact s19
  have s17' : xS M1 17 = (7, 0) := by rw [e1.S]; exact s17
  have f0 : xF M1 16 0 = 17 := by rw [F16]; exact d2
  have f1 : xF M1 16 1 = 19 := by rw [F16]; exact d3
  have mem : ∀ x : Int32, E3 (lP (81 - t)) (pJ (81 - t)) pF M (xmI (xmI M1 16 12 x) 17 1 0) := fun x => ((e1.mono (P' := lP (81 - t)) (fun a k q => Or.inl q) (fun _ _ q => q) (fun _ _ q => q)).wI _ (Or.inr (Or.inl ⟨rfl, rfl⟩))).wI _ (Or.inr (Or.inr ⟨rfl, rfl⟩))
  have low : ∀ {M2 : XM}, E3 (lP (81 - t)) (pJ (81 - t)) pF M M2 → E3 lowP lowJ lowP M M2 := fun e => e.mono (fun a k q => by unfold lP pP at q; unfold lowP; omega) (fun a k q => by unfold pJ at q; unfold lowJ; omega) (fun a k q => by unfold pF at q; unfold lowP; omega)
  by_cases O0 : O.1 = 0
  · rw [O0] at q
    simp (disch := omega) only [lAdd, addL, lMul, mulL, nMul, nI_add, subL, lSub, nSub, nDec, nCl, lCl, nVp, lVp, nLe, nLt, nEq, lLe, leL, lLt, ltL, eqL, lEq, nM1, nM2, litLt0, one01, zero01, oneNe0, xupE, xupA, xupK, xI_I, xS_I, xF_I, xJ_I, xI_R, xS_R, xF_R, xJ_R, xI_L, xS_L, xF_L, xJ_L, xcat_s, le46, ge16, or_true, true_or, false_or, or_false, eq_self, Option.toList_some, Option.toList_none, List.cons_append, List.nil_append, true_and, and_true, not_false_eq_true, not_true_eq_false, if_true, if_false, B_83_15, O0, if_neg, s16]
    rw [B_83_32]
    simp (disch := omega) only [lAdd, addL, lMul, mulL, nMul, nI_add, subL, lSub, nSub, nDec, nCl, lCl, nVp, lVp, nLe, nLt, nEq, lLe, leL, lLt, ltL, eqL, lEq, nM1, nM2, litLt0, one01, zero01, oneNe0, xupE, xupA, xupK, xI_I, xS_I, xF_I, xJ_I, xI_R, xS_R, xF_R, xJ_R, xI_L, xS_L, xF_L, xJ_L, xcat_s, le46, ge16, or_true, true_or, false_or, or_false, eq_self, Option.toList_some, Option.toList_none, List.cons_append, List.nil_append, true_and, and_true, not_false_eq_true, not_true_eq_false, if_true, if_false, s16, f0, s17', if_neg]
    have e2 := mem (-1)
    have c12 : xI (xmI (xmI M1 16 12 (-1)) 17 1 0) 16 12 = -1 := by simp (disch := omega) only [lAdd, addL, lMul, mulL, nMul, nI_add, subL, lSub, nSub, nDec, nCl, lCl, nVp, lVp, nLe, nLt, nEq, lLe, leL, lLt, ltL, eqL, lEq, nM1, nM2, litLt0, one01, zero01, oneNe0, xupE, xupA, xupK, xI_I, xS_I, xF_I, xJ_I, xI_R, xS_R, xF_R, xJ_R, xI_L, xS_L, xF_L, xJ_L, xcat_s, le46, ge16, or_true, true_or, false_or, or_false, eq_self, Option.toList_some, Option.toList_none, List.cons_append, List.nil_append, true_and, and_true, not_false_eq_true, not_true_eq_false, if_true, if_false]
    have c17 : xI (xmI (xmI M1 16 12 (-1)) 17 1 0) 17 1 = nI 0 := by simp (disch := omega) only [lAdd, addL, lMul, mulL, nMul, nI_add, subL, lSub, nSub, nDec, nCl, lCl, nVp, lVp, nLe, nLt, nEq, lLe, leL, lLt, ltL, eqL, lEq, nM1, nM2, litLt0, one01, zero01, oneNe0, xupE, xupA, xupK, xI_I, xS_I, xF_I, xJ_I, xI_R, xS_R, xF_R, xJ_R, xI_L, xS_L, xF_L, xJ_L, xcat_s, le46, ge16, or_true, true_or, false_or, or_false, eq_self, Option.toList_some, Option.toList_none, List.cons_append, List.nil_append, true_and, and_true, not_false_eq_true, not_true_eq_false, if_true, if_false]
    have cwf := cw.fail e2 c12 c17
    have tx1 : TxtAt M1 (81 - t) (yT O.2.2) := cr_txt (en.2 O0) (Oe O0)
    have tx2 : TxtAt (xmI (xmI M1 16 12 (-1)) 17 1 0) (81 - t) (yT O.2.2) := tx1.e3 (P := fun a _ => a = 16 ∨ a = 17) (R := noF) (F := noF) (((E3.refl _ _ _ _).wI _ (Or.inl rfl)).wI _ (Or.inr rfl)) (fun a k q => by omega) (fun _ _ q => absurd q id)
    have l2 := low e2
    generalize xmI (xmI M1 16 12 (-1)) 17 1 0 = M2 at e2 c12 c17 cwf tx2 l2
    obtain ⟨h1, h2, h3, h4, h5, h6, h7, h8, h9, h10⟩ := cwf
    obtain ⟨⟨g0, g1, g2, g3, g4, g5, g6, g7, g8, g9, g10, g11, g12⟩, hr⟩ := h1
    have s84 := h4.1.1
    rw [B_82_0]
    simp (disch := omega) only [lAdd, addL, lMul, mulL, nMul, nI_add, subL, lSub, nSub, nDec, nCl, lCl, nVp, lVp, nLe, nLt, nEq, lLe, leL, lLt, ltL, eqL, lEq, nM1, nM2, litLt0, one01, zero01, oneNe0, xupE, xupA, xupK, xI_I, xS_I, xF_I, xJ_I, xI_R, xS_R, xF_R, xJ_R, xI_L, xS_L, xF_L, xJ_L, xcat_s, le46, ge16, or_true, true_or, false_or, or_false, eq_self, Option.toList_some, Option.toList_none, List.cons_append, List.nil_append, true_and, and_true, not_false_eq_true, not_true_eq_false, if_true, if_false, g1, g4, g5, g6, s84]
    have e3 : E3 noF noF (fun a k => a = 16 ∧ (k = 2 ∨ k = 3)) M2 (xmR (xmR M2 16 2 (81 - t)) 16 3 t) := ((E3.refl _ _ _ _).wF _ (by omega)).wF _ (by omega)
    have f3 : xF (xmR (xmR M2 16 2 (81 - t)) 16 3 t) 16 2 = 81 - t ∧ xF (xmR (xmR M2 16 2 (81 - t)) 16 3 t) 16 3 = t := ⟨by simp (disch := omega) only [lAdd, addL, lMul, mulL, nMul, nI_add, subL, lSub, nSub, nDec, nCl, lCl, nVp, lVp, nLe, nLt, nEq, lLe, leL, lLt, ltL, eqL, lEq, nM1, nM2, litLt0, one01, zero01, oneNe0, xupE, xupA, xupK, xI_I, xS_I, xF_I, xJ_I, xI_R, xS_R, xF_R, xJ_R, xI_L, xS_L, xF_L, xJ_L, xcat_s, le46, ge16, or_true, true_or, false_or, or_false, eq_self, Option.toList_some, Option.toList_none, List.cons_append, List.nil_append, true_and, and_true, not_false_eq_true, not_true_eq_false, if_true, if_false], by simp (disch := omega) only [lAdd, addL, lMul, mulL, nMul, nI_add, subL, lSub, nSub, nDec, nCl, lCl, nVp, lVp, nLe, nLt, nEq, lLe, leL, lLt, ltL, eqL, lEq, nM1, nM2, litLt0, one01, zero01, oneNe0, xupE, xupA, xupK, xI_I, xS_I, xF_I, xJ_I, xI_R, xS_R, xF_R, xJ_R, xI_L, xS_L, xF_L, xJ_L, xcat_s, le46, ge16, or_true, true_or, false_or, or_false, eq_self, Option.toList_some, Option.toList_none, List.cons_append, List.nil_append, true_and, and_true, not_false_eq_true, not_true_eq_false, if_true, if_false]⟩
    generalize xmR (xmR M2 16 2 (81 - t)) 16 3 t = M3 at e3 f3
    have tx3 := tx2.e3 e3 (fun _ _ q => absurd q id) (fun a k q => by omega)
    have o3 : OffC M3 84 := (h4.c sv.2.1.2.2.2.2.2).e3 e3 (fun _ _ q => absurd q id) (fun a k q => by omega)
    refine c_open tx3 o3 (by omega) ?_
    intro M4 e4 of4
    have e4' : E3 (fun a _ => 84 ≤ a ∧ a < 84 + 7) noF noF M3 M4 := E3.ofEx e4
    have F4 : ∀ a k, a ≠ 16 → xF M4 a k = xF M2 a k := fun a k q => by rw [e4'.FF id, e3.FF (by omega)]
    have F16' : ∀ k, k ≠ 2 → k ≠ 3 → xF M4 16 k = xF M2 16 k := fun k q1 q2 => by rw [e4'.FF id, e3.FF (by omega)]
    have S4 : xS M4 = xS M2 := by rw [e4'.S, e3.S]
    have k8 : xF M4 16 8 = 120 := by rw [F16' 8 (by omega) (by omega)]; exact g9
    have k9 : xF M4 16 9 = 402 := by rw [F16' 9 (by omega) (by omega)]; exact g10
    have s16' : xS M4 16 = (11, 0) := by rw [S4]; exact g1
    have s120 : xS M4 120 = (2, 0) := by rw [S4]; exact hr.2.2.2.1.1
    have s402 : xS M4 402 = (10, 0) := by rw [S4]; exact hr.2.2.2.2.1.1
    simp (disch := omega) only [lAdd, addL, lMul, mulL, nMul, nI_add, subL, lSub, nSub, nDec, nCl, lCl, nVp, lVp, nLe, nLt, nEq, lLe, leL, lLt, ltL, eqL, lEq, nM1, nM2, litLt0, one01, zero01, oneNe0, xupE, xupA, xupK, xI_I, xS_I, xF_I, xJ_I, xI_R, xS_R, xF_R, xJ_R, xI_L, xS_L, xF_L, xJ_L, xcat_s, le46, ge16, or_true, true_or, false_or, or_false, eq_self, Option.toList_some, Option.toList_none, List.cons_append, List.nil_append, true_and, and_true, not_false_eq_true, not_true_eq_false, if_true, if_false, B_82_29, s16', k8, k9, s120, s402, B_83_51]
    have e5 : E3 (fun a k => (a = 120 ∧ k = 2) ∨ (a = 402 ∧ k = 3) ∨ (a = 16 ∧ k = 7)) noF noF M4 (xmI (xmI (xmI M4 120 2 0) 402 3 0) 16 7 0) := (((E3.refl _ _ _ _).wI _ (by omega)).wI _ (by omega)).wI _ (by omega)
    have f5 : xI (xmI (xmI (xmI M4 120 2 0) 402 3 0) 16 7 0) 120 2 = nI 0 ∧ xI (xmI (xmI (xmI M4 120 2 0) 402 3 0) 16 7 0) 402 3 = nI 0 ∧ xI (xmI (xmI (xmI M4 120 2 0) 402 3 0) 16 7 0) 16 7 = 0 := ⟨by simp (disch := omega) only [lAdd, addL, lMul, mulL, nMul, nI_add, subL, lSub, nSub, nDec, nCl, lCl, nVp, lVp, nLe, nLt, nEq, lLe, leL, lLt, ltL, eqL, lEq, nM1, nM2, litLt0, one01, zero01, oneNe0, xupE, xupA, xupK, xI_I, xS_I, xF_I, xJ_I, xI_R, xS_R, xF_R, xJ_R, xI_L, xS_L, xF_L, xJ_L, xcat_s, le46, ge16, or_true, true_or, false_or, or_false, eq_self, Option.toList_some, Option.toList_none, List.cons_append, List.nil_append, true_and, and_true, not_false_eq_true, not_true_eq_false, if_true, if_false], by simp (disch := omega) only [lAdd, addL, lMul, mulL, nMul, nI_add, subL, lSub, nSub, nDec, nCl, lCl, nVp, lVp, nLe, nLt, nEq, lLe, leL, lLt, ltL, eqL, lEq, nM1, nM2, litLt0, one01, zero01, oneNe0, xupE, xupA, xupK, xI_I, xS_I, xF_I, xJ_I, xI_R, xS_R, xF_R, xJ_R, xI_L, xS_L, xF_L, xJ_L, xcat_s, le46, ge16, or_true, true_or, false_or, or_false, eq_self, Option.toList_some, Option.toList_none, List.cons_append, List.nil_append, true_and, and_true, not_false_eq_true, not_true_eq_false, if_true, if_false], by simp (disch := omega) only [lAdd, addL, lMul, mulL, nMul, nI_add, subL, lSub, nSub, nDec, nCl, lCl, nVp, lVp, nLe, nLt, nEq, lLe, leL, lLt, ltL, eqL, lEq, nM1, nM2, litLt0, one01, zero01, oneNe0, xupE, xupA, xupK, xI_I, xS_I, xF_I, xJ_I, xI_R, xS_R, xF_R, xJ_R, xI_L, xS_L, xF_L, xJ_L, xcat_s, le46, ge16, or_true, true_or, false_or, or_false, eq_self, Option.toList_some, Option.toList_none, List.cons_append, List.nil_append, true_and, and_true, not_false_eq_true, not_true_eq_false, if_true, if_false]⟩
    generalize xmI (xmI (xmI M4 120 2 0) 402 3 0) 16 7 0 = M5 at e5 f5
    have S5 : xS M5 = xS M2 := by rw [e5.S, S4]
    have F5 : ∀ a, a ≠ 16 → xF M5 a = xF M2 a := fun a q => funext fun k => by rw [e5.FF id, F4 a k q]
    have F5' : ∀ k, k ≠ 2 → k ≠ 3 → xF M5 16 k = xF M2 16 k := fun k q1 q2 => by rw [e5.FF id, F16' k q1 q2]
    have lf : ∀ {o : Nat}, 91 ≤ o → (o + 7 ≤ 120 ∨ 121 ≤ o) → (o + 7 ≤ 402 ∨ 403 ≤ o) → OffC M2 o → OffC M5 o := fun {o} h1 h2 h3 h => ((h.e3 e3 (fun _ _ q => absurd q id) (fun a k q => by omega)).e3 e4' (fun a k q => by omega) (fun _ _ q => absurd q id)).e3 e5 (fun a k q => by omega) (fun _ _ q => absurd q id)
    refine q M5 ((l2.trans (e3.mono (fun _ _ q => absurd q id) (fun _ _ q => absurd q id) (fun a k q => by unfold lowP; omega))).trans ((e4'.mono (fun a k q => by unfold lowP; omega) (fun _ _ q => absurd q id) (fun _ _ q => absurd q id)).trans (e5.mono (fun a k q => by unfold lowP; omega) (fun _ _ q => absurd q id) (fun _ _ q => absurd q id)))) (fun z => absurd rfl z) (fun _ => ?_)
    refine ⟨?_, ?_, ?_, ?_, ?_, ⟨?_, fun i hi => absurd hi (Nat.not_lt_zero _)⟩, ?_, ⟨f5.1, ?_, ?_⟩, ⟨?_, fun i _ G hG => ?_, ?_⟩, f5.2.1, fun i hi => absurd hi (Nat.not_lt_zero _)⟩
    · unfold CSh
      refine ⟨⟨by omega, by rw [S5]; exact g1, by rw [F5' 0 (by omega) (by omega)]; exact g2, by rw [F5' 1 (by omega) (by omega)]; exact g3, by rw [e5.FF id, e4'.FF id]; exact f3.1, by rw [e5.FF id, e4'.FF id, f3.2]; omega, by rw [F5' 4 (by omega) (by omega)]; exact g6, by rw [F5' 5 (by omega) (by omega)]; exact g7, by rw [F5' 6 (by omega) (by omega)]; exact g8, by rw [F5' 8 (by omega) (by omega)]; exact g9, by rw [F5' 9 (by omega) (by omega)]; exact g10, by rw [F5' 10 (by omega) (by omega)]; exact g11, by rw [F5' 11 (by omega) (by omega)]; exact g12⟩, ?_⟩
      rw [S5, F5 17 (by omega), F5 19 (by omega), F5 20 (by omega), F5 22 (by omega), F5 98 (by omega), F5 120 (by omega), F5 121 (by omega), F5 402 (by omega), F5 406 (by omega), F5 407 (by omega), F5 415 (by omega), F5 424 (by omega), F5 435 (by omega)]
      exact hr
    · exact (tx3.e3 e4' (fun a k q => by omega) (fun _ _ q => absurd q id)).e3 e5 (fun a k q => by omega) (fun _ _ q => absurd q id)
    · rw [show 81 - (81 - t) = t by omega]
      exact ((h2.1.1.e3 e3 (fun a k q => by omega)).e3 e4' (fun _ _ q => absurd q id)).e3 e5 (fun _ _ q => absurd q id)
    · exact of4.e3 e5 (fun a k q => by omega) (fun _ _ q => absurd q id)
    · exact lf (by omega) (by omega) (by omega) h5
    · rw [e5.I (by omega), e4'.I (by omega), e3.I id]; exact c17
    · rw [e5.I (by omega), e4'.I (by omega), e3.I id]; exact c12
    · obtain ⟨w, q1, q2, q3⟩ := h8.2.1
      exact ⟨w, q1, by rw [e5.I (by omega), e4'.I (by omega), e3.I id]; exact q2, fun i hi => absurd hi (Nat.not_lt_zero _)⟩
    · intro i hi
      exact lf (by omega) (by omega) (by omega) (h8.2.2 i hi)
    · rw [f5.2.2]
      rfl
    · have : (none : Option XO) = some G := hG
      cases this
    · intro i hi
      exact lf (by omega) (by omega) (by omega) (h9.2.2 i hi)
  · have en15 := en.1
    simp (disch := omega) only [lAdd, addL, lMul, mulL, nMul, nI_add, subL, lSub, nSub, nDec, nCl, lCl, nVp, lVp, nLe, nLt, nEq, lLe, leL, lLt, ltL, eqL, lEq, nM1, nM2, litLt0, one01, zero01, oneNe0, xupE, xupA, xupK, xI_I, xS_I, xF_I, xJ_I, xI_R, xS_R, xF_R, xJ_R, xI_L, xS_L, xF_L, xJ_L, xcat_s, le46, ge16, or_true, true_or, false_or, or_false, eq_self, Option.toList_some, Option.toList_none, List.cons_append, List.nil_append, true_and, and_true, not_false_eq_true, not_true_eq_false, if_true, if_false, B_83_15, if_pos, s16, f1, s19', en15]
    rw [B_83_32]
    simp (disch := omega) only [lAdd, addL, lMul, mulL, nMul, nI_add, subL, lSub, nSub, nDec, nCl, lCl, nVp, lVp, nLe, nLt, nEq, lLe, leL, lLt, ltL, eqL, lEq, nM1, nM2, litLt0, one01, zero01, oneNe0, xupE, xupA, xupK, xI_I, xS_I, xF_I, xJ_I, xI_R, xS_R, xF_R, xJ_R, xI_L, xS_L, xF_L, xJ_L, xcat_s, le46, ge16, or_true, true_or, false_or, or_false, eq_self, Option.toList_some, Option.toList_none, List.cons_append, List.nil_append, true_and, and_true, not_false_eq_true, not_true_eq_false, if_true, if_false, s16, f0, s17', if_pos, B_83_51]
    have e2 := mem O.2.1
    exact q _ (low e2) (fun _ => cw.fail e2 (by simp (disch := omega) only [lAdd, addL, lMul, mulL, nMul, nI_add, subL, lSub, nSub, nDec, nCl, lCl, nVp, lVp, nLe, nLt, nEq, lLe, leL, lLt, ltL, eqL, lEq, nM1, nM2, litLt0, one01, zero01, oneNe0, xupE, xupA, xupK, xI_I, xS_I, xF_I, xJ_I, xI_R, xS_R, xF_R, xJ_R, xI_L, xS_L, xF_L, xJ_L, xcat_s, le46, ge16, or_true, true_or, false_or, or_false, eq_self, Option.toList_some, Option.toList_none, List.cons_append, List.nil_append, true_and, and_true, not_false_eq_true, not_true_eq_false, if_true, if_false]) (by simp (disch := omega) only [lAdd, addL, lMul, mulL, nMul, nI_add, subL, lSub, nSub, nDec, nCl, lCl, nVp, lVp, nLe, nLt, nEq, lLe, leL, lLt, ltL, eqL, lEq, nM1, nM2, litLt0, one01, zero01, oneNe0, xupE, xupA, xupK, xI_I, xS_I, xF_I, xJ_I, xI_R, xS_R, xF_R, xJ_R, xI_L, xS_L, xF_L, xJ_L, xcat_s, le46, ge16, or_true, true_or, false_or, or_false, eq_self, Option.toList_some, Option.toList_none, List.cons_append, List.nil_append, true_and, and_true, not_false_eq_true, not_true_eq_false, if_true, if_false])) (fun z => absurd z O0)
