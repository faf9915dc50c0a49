/-! read, as the law calls it; all that is owed -/
theorem RWd.lo {M M' : XM} {lv : Nat} {S : XS} (h : RWd M lv S) (e : E3 lowP lowJ lowP M M') : RWd M' lv S := by
  obtain ⟨⟨s1, s2, s3⟩, w2, w3, w4, w5, w6, w7⟩ := h
  have r : ∀ a, 439 ≤ a → xI M' a = xI M a := fun a q => e.rowI fun k z => by unfold lowP at z; omega
  have f : xF M' 439 = xF M 439 := funext fun k => e.FF fun z => by unfold lowP at z; omega
  refine ⟨⟨?_, s2.ex (fun a h1 h2 => (r a (by omega)).symm) (by rw [r 439 (by omega)]), s3⟩, by rw [r 472 (by omega)]; exact w2, by rw [r 439 (by omega), r 440 (by omega)]; exact w3, by rw [r 439 (by omega)]; exact w4, by rw [r 439 (by omega), r 475 (by omega)]; exact w5, by rw [r 484 (by omega), r 485 (by omega)]; exact w6, by rw [r 439 (by omega), r 481 (by omega), r 482 (by omega), r 483 (by omega)]; exact w7⟩
  unfold RSh at s1 ⊢
  rw [e.S, f]
  exact s1
theorem hi_fr {M M' : XM} (e : E3 hiP hiJ noF M M') : Fr 439 M M' := fun b hb => ⟨congrFun e.S b, e.rowI fun k q => by unfold hiP at q; omega, funext fun k => e.J fun q => by unfold hiJ at q; omega, funext fun k => e.FF id⟩
theorem LSc.e3 {L : Nat} {xs : Nat → Int32} {M M' : XM} {P R F : Nat → Nat → Prop} (h : LSc L xs M) (e : E3 P R F M M') (hp : ∀ a k, P a k → 16 ≤ a) (hf : ∀ a k, F a k → 16 ≤ a) : LSc L xs M' := by
  obtain ⟨h1, h2, h3, h4, h5⟩ := h
  have r : ∀ a, a < 16 → xI M' a = xI M a := fun a q => e.rowI fun k z => by have := hp a k z; omega
  refine ⟨by rw [e.S]; exact h1, by rw [r 1 (by omega)]; exact h2, by rw [e.1]; exact h3, by rw [e.1]; exact h4, fun b hb => ?_⟩
  rw [e.S, r b hb, show xF M' b = xF M b from funext fun k => e.FF fun z => by have := hf b k z; omega]
  exact h5 b hb
theorem SInv.fail {B : Nat} {S : XS} {x : Int32} (h : SInv B S) : SInv B (S_fail S x) := ⟨h.1, h.2.1, h.2.2.1, Nat.zero_le _, h.2.2.2.2⟩
theorem owe_read (L : Nat) (xs : Nat → Int32) : OweRead L xs := by
  intro Q M k hk lg nx
  obtain ⟨ls, ⟨pk1, pk2⟩, t, lv, S, cw, rw, sv⟩ := lg
  have n2 : zPn S ≤ 2000 := sv.2.2.2.1
  obtain ⟨c, hc⟩ : ∃ c : Nat → Nat, ∀ i, c i < 256 ∧ zP S i &&& 255 = nI (c i) := ⟨fun i => Classical.choose (and255 (zP S i)), fun i => Classical.choose_spec (and255 (zP S i))⟩
  refine c_read (n := zPn S) (c := c) cw sv ls pk1 rfl n2 (fun i _ => (hc i).2) (fun i => (hc i).1) ?_
  intro M1 L0 R0 S0 W0 s0 w0 e1 cF cG
  have rw1 := rw.lo e1
  have ls1 : LSc L xs M1 := ls.e3 e1 (fun a k q => q.1) (fun a k q => q.1)
  have p1 : ∀ i, i < 21 → xJ M1 21 i = cwF i 8 := fun i hi => by rw [e1.J (by unfold lowJ; omega)]; exact pk1 i hi
  have p2 : ∀ i, i < 21 → xJ M1 446 i = kL.getD i 0 := fun i hi => by rw [e1.J (by unfold lowJ; omega)]; exact pk2 i hi
  obtain ⟨O, hO⟩ : ∃ O, yOut (zPn S) c 401 0 (y0 L0 R0 S0 W0) = O := ⟨_, rfl⟩
  rw [hO] at cF cG ⊢
  simp (disch := omega) only [lAdd, addL, lMul, mulL, nMul, nI_add, subL, lSub, nSub, nDec, nCl, lCl, nVp, lVp, nLe, nLt, nEq, lLe, leL, lLt, ltL, eqL, lEq, nM1, nM2, litLt0, one01, zero01, oneNe0, xupE, xupA, xupK, xI_I, xS_I, xF_I, xJ_I, xI_R, xS_R, xF_R, xJ_R, xI_L, xS_L, xF_L, xJ_L, xcat_s, le46, ge16, or_true, true_or, false_or, or_false, eq_self, Option.toList_some, Option.toList_none, List.cons_append, List.nil_append, true_and, and_true, not_false_eq_true, not_true_eq_false, if_true, if_false, B_293_290, rw1.1.1.s]
  have end' : ∀ M2 : XM, LG PKx L xs (60 * (k + 1)) M2 → RG xprog 293 294 [some (.ref 1), some (.ref 16), some (.ref 439), some (.int (nI (6 * k)))] [.int (nI O.1), .int (nI O.1)] M2 Q := by
    intro M2 h2
    rw [B_293_294, if_pos rfl]
    simp (disch := omega) only [lAdd, addL, lMul, mulL, nMul, nI_add, subL, lSub, nSub, nDec, nCl, lCl, nVp, lVp, nLe, nLt, nEq, lLe, leL, lLt, ltL, eqL, lEq, nM1, nM2, litLt0, one01, zero01, oneNe0, xupE, xupA, xupK, xI_I, xS_I, xF_I, xJ_I, xI_R, xS_R, xF_R, xJ_R, xI_L, xS_L, xF_L, xJ_L, xcat_s, le46, ge16, or_true, true_or, false_or, or_false, eq_self, Option.toList_some, Option.toList_none, List.cons_append, List.nil_append, true_and, and_true, not_false_eq_true, not_true_eq_false, if_true, if_false]
    exact nx M2 h2
  have keep : ∀ M2 : XM, E3 hiP hiJ noF M1 M2 → LSc L xs M2 ∧ PKx (xJ M2) := fun M2 e2 => ⟨ls1.e3 e2 (fun a k q => by unfold hiP at q; omega) (fun _ _ q => absurd q id), fun i hi => by rw [e2.J (by unfold hiJ; omega)]; exact p1 i hi, fun i hi => by rw [e2.J (by unfold hiJ; omega)]; exact p2 i hi⟩
  refine r_read (O := O) hO rw1 p2 rfl n2 (fun i _ => (hc i).2) (fun i => (hc i).1) s0 w0 ?_ ?_
  · intro M2 O1 e2 rw2
    simp (disch := omega) only [lAdd, addL, lMul, mulL, nMul, nI_add, subL, lSub, nSub, nDec, nCl, lCl, nVp, lVp, nLe, nLt, nEq, lLe, leL, lLt, ltL, eqL, lEq, nM1, nM2, litLt0, one01, zero01, oneNe0, xupE, xupA, xupK, xI_I, xS_I, xF_I, xJ_I, xI_R, xS_R, xF_R, xJ_R, xI_L, xS_L, xF_L, xJ_L, xcat_s, le46, ge16, or_true, true_or, false_or, or_false, eq_self, Option.toList_some, Option.toList_none, List.cons_append, List.nil_append, true_and, and_true, not_false_eq_true, not_true_eq_false, if_true, if_false]
    refine end' M2 ⟨(keep M2 e2).1, (keep M2 e2).2, t, lv, S_fail S O.2.1, (cF O1).fr (hi_fr e2), rw2, sv.fail.up (by omega)⟩
  · intro M2 O1 e2 rw2 tok
    simp (disch := omega) only [lAdd, addL, lMul, mulL, nMul, nI_add, subL, lSub, nSub, nDec, nCl, lCl, nVp, lVp, nLe, nLt, nEq, lLe, leL, lLt, ltL, eqL, lEq, nM1, nM2, litLt0, one01, zero01, oneNe0, xupE, xupA, xupK, xI_I, xS_I, xF_I, xJ_I, xI_R, xS_R, xF_R, xJ_R, xI_L, xS_L, xF_L, xJ_L, xcat_s, le46, ge16, or_true, true_or, false_or, or_false, eq_self, Option.toList_some, Option.toList_none, List.cons_append, List.nil_append, true_and, and_true, not_false_eq_true, not_true_eq_false, if_true, if_false]
    refine end' M2 ⟨(keep M2 e2).1, (keep M2 e2).2, 81 - t, 1 - lv, S0of (yT O.2.2), (cG O1).fr (hi_fr e2), rw2, (s0_inv tok).up (by omega)⟩
theorem x_owed (L : Nat) (xs : Nat → Int32) (h : L ≤ 3072) : xOwed L xs := x_owed0 L xs h (owe_read L xs)
