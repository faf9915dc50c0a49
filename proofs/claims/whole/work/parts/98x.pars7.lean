/-! tokens as the parser sees them; the parser's loop -/
def tkV (n : Nat) (c : Nat → Nat) (j : Nat) : Nat := dgv c j (tkE n c j - j)
def tkN (n : Nat) (c : Nat → Nat) (j : Nat) : Int64 := Int64.ofNat (nmv 32 c j (tkE n c j - j))
section XTF
variable {n : Nat} {c : Nat → Nat} {j : Nat}
theorem kdw_2 (x : Int64) : kdw x = 2 ∨ 13 ≤ kdw x := by unfold kdw; split <;> omega
theorem tkK_le : tkK n c j ≤ 33 := by
  unfold tkK
  split
  · split
    · split
      · exact kdw_le _
      · omega
    · split
      · split <;> omega
      · split <;> omega
  · omega
theorem tkK_0 : tkK n c j = 0 ↔ ¬ j < n := by
  unfold tkK
  by_cases q : j < n
  · rw [if_pos q]
    refine ⟨fun h => ?_, fun h => absurd q h⟩
    split at h
    · split at h
      · have := kdw_2 (Int64.ofNat (nmv 32 c j (rn (isWd c) n 2000 j - j))); omega
      · omega
    · split at h
      · split at h <;> omega
      · split at h <;> omega
  · rw [if_neg q]; exact ⟨fun _ => q, fun _ => rfl⟩
theorem tkK_2 (h : tkK n c j = 2) : j < n ∧ isWd c j = true ∧ tkE n c j - j ≤ 8 := by
  unfold tkK at h
  unfold tkE
  by_cases q : j < n
  · rw [if_pos q] at h ⊢
    by_cases w : isWd c j = true
    · rw [if_pos w] at h ⊢
      by_cases l : rn (isWd c) n 2000 j - j ≤ 8
      · exact ⟨q, w, l⟩
      · rw [if_neg l] at h; omega
    · rw [if_neg w] at h
      split at h
      · split at h <;> omega
      · split at h <;> omega
  · rw [if_neg q] at h; omega
theorem tkK_3 (h : tkK n c j = 3) : j < n ∧ ¬ isWd c j = true ∧ isDg c j = true ∧ tkE n c j - j ≤ 4 := by
  unfold tkK at h
  unfold tkE
  by_cases q : j < n
  · rw [if_pos q] at h ⊢
    by_cases w : isWd c j = true
    · rw [if_pos w] at h
      split at h
      · have := kdw_2 (Int64.ofNat (nmv 32 c j (rn (isWd c) n 2000 j - j))); omega
      · omega
    · rw [if_neg w] at h ⊢
      by_cases g : isDg c j = true
      · rw [if_pos g] at h ⊢
        by_cases l : rn (isDg c) n 2000 j - j ≤ 4
        · exact ⟨q, w, g, l⟩
        · rw [if_neg l] at h; omega
      · rw [if_neg g] at h
        split at h <;> omega
  · rw [if_neg q] at h; omega
theorem tkE_le (hj : j ≤ n) : tkE n c j ≤ n := by
  unfold tkE
  split
  · split
    · exact rn_le _ _ _ _ hj
    · split
      · exact rn_le _ _ _ _ hj
      · omega
  · exact hj
theorem rn_gt {p : Nat → Bool} {i f : Nat} (h : i < n) (hp : p i = true) : i < rn p n (f + 1) i := by
  rw [rn_s, if_pos ⟨h, hp⟩]
  have := rn_ge p n f (i + 1)
  omega
theorem tkE_gt (hj : j < n) : j < tkE n c j := by
  unfold tkE
  rw [if_pos hj]
  split
  · rename_i w; exact rn_gt hj w
  · split
    · rename_i w _ ; rename_i g; exact rn_gt hj (by assumption)
    · omega
theorem tpos_le : ∀ i, tpos n c i ≤ n
  | 0 => rn_le _ _ _ _ (Nat.zero_le _)
  | i + 1 => rn_le _ _ _ _ (tkE_le (tpos_le i))
theorem tpos_lt {i : Nat} (h : tpos n c i < n) : tpos n c i < tpos n c (i + 1) := by
  have h1 := tkE_gt (c := c) h
  have h2 := rn_ge (isBl c) n 2000 (tkE n c (tpos n c i))
  have h3 : tpos n c (i + 1) = rn (isBl c) n 2000 (tkE n c (tpos n c i)) := rfl
  omega
theorem dgv_d (h : ∀ k, k < 4 → c (j + k) ≤ 57) : ∀ k, k ≤ 4 → dgv c j k < 10 ^ k
  | 0, _ => by show 0 < 1; omega
  | k + 1, hk => by
    have ih := dgv_d h k (by omega)
    have := h k (by omega)
    rw [dgv_s, if_pos (by omega), Nat.pow_succ]
    omega
theorem dgv_g (k : Nat) (h : ∀ i, i < k → c (j + i) ≤ 57) (hk : k ≤ 4) : dgv c j k < 10 ^ k := by
  induction k with
  | zero => show 0 < 1; omega
  | succ k ih =>
    have := ih (fun i hi => h i (by omega)) (by omega)
    have := h k (by omega)
    rw [dgv_s, if_pos (by omega), Nat.pow_succ]
    omega
theorem tkV_le (h : tkK n c j = 3) : tkV n c j ≤ 9999 := by
  obtain ⟨h1, h2, h3, h4⟩ := tkK_3 h
  have e : tkE n c j = rn (isDg c) n 2000 j := by unfold tkE; rw [if_pos h1, if_neg h2, if_pos h3]
  unfold tkV
  have := dgv_g (c := c) (j := j) (tkE n c j - j) (fun i hi => ((isDg_i c (j + i)).mp (rn_in (isDg c) n 2000 j (j + i) (by omega) (by omega)).1).2) h4
  have h5 : 10 ^ (tkE n c j - j) ≤ 10 ^ 4 := Nat.pow_le_pow_right (by omega) h4
  have : (10 : Nat) ^ 4 = 10000 := rfl
  omega
theorem TkAt.yt {M : XM} (h : TkAt M n c j) (hj : j ≤ 2000) : YT M (tkN n c) (tkK n c j) (tkV n c j) j := by
  obtain ⟨h1, h2, h3, h4, h5⟩ := h
  refine ⟨h1, fun q => ?_, fun q => ?_, tkK_le, hj⟩
  · obtain ⟨a1, a2, _⟩ := tkK_2 q
    exact h4 a1 a2
  · obtain ⟨a1, _, a2, _⟩ := tkK_3 q
    exact ⟨h5 a1 a2, tkV_le q⟩
end XTF
def tkS (n : Nat) (c : Nat → Nat) (i j : Nat) : Bool := decide (tkN n c i = tkN n c j)
theorem CR.cp {M : XM} {d : Nat} {N : Nat → Int64} {p : YS} (h : CR M d N p) : CP M d := by
  obtain ⟨⟨st, tk, fd, ifs, ne, pe⟩, ⟨m, a, r, nm, L, R, S⟩, ⟨W, lw, l, z, sk⟩⟩ := p
  exact h.1.1
theorem c_goesOnWith {M : XM} {d : Nat} {N : Nat → Int64} {sm : Nat → Nat → Bool} {k v j : Nat} {p : YS} {Q : Option Value → XM → Prop} (hsm : ∀ i j, sm i j = decide (N i = N j)) (h : CR M d N p) (ht : YT M N k v j) (hQ : YQ Q M d N (ystep sm k v j p)) : RG xprog 79 0 [some (.ref 19), some (.int (nI k))] [] M Q := by
  obtain ⟨⟨st, tk, fd, ifs, ne, pe⟩, ⟨m, a, r, nm, L, R, S⟩, ⟨W, lw, l, z, sk⟩⟩ := p
  have s7 : st ≤ 7 := h.2.1.2.1
  by_cases q0 : st = 0
  · subst q0; exact c_st0 h ht hQ
  by_cases q1 : st = 1
  · subst q1; exact c_st1 hsm h ht hQ
  by_cases q2 : st = 2
  · subst q2; exact c_st2 h ht hQ
  by_cases q3 : st = 3
  · subst q3; exact c_st3 h ht hQ
  by_cases q4 : st = 4
  · subst q4; exact c_st4 h ht hQ
  by_cases q5 : st = 5 ∨ st = 6
  · exact c_st56 q5 h ht hQ
  · have q7 : st = 7 := by omega
    subst q7; exact c_st7 h ht hQ
theorem ite_n2 {b : Prop} [Decidable b] {x y : Nat × YS} (hx : x.1 ≠ 2) (hy : y.1 ≠ 2) : (if b then x else y).1 ≠ 2 := by
  by_cases q : b
  · rw [if_pos q]; exact hx
  · rw [if_neg q]; exact hy
theorem ystep_n2 (sm : Nat → Nat → Bool) (v j : Nat) (p : YS) : (ystep sm 0 v j p).1 ≠ 2 := by
  obtain ⟨⟨st, tk, fd, ifs, ne, pe⟩, ⟨m, a, r, nm, L, R, S⟩, ⟨W, lw, l, z, sk⟩⟩ := p
  unfold ystep ytell yname yint yunit ybeh
  dsimp only
  refine ite_n2 ?_ (ite_n2 ?_ (ite_n2 ?_ (ite_n2 ?_ (ite_n2 ?_ ?_))))
  · rw [if_pos rfl]; show 1 ≠ 2; omega
  · rw [if_neg (by omega)]; show 0 ≠ 2; omega
  · rw [if_neg (by omega)]; show 0 ≠ 2; omega
  · rw [if_neg (by omega)]; show 0 ≠ 2; omega
  · rw [if_neg (by omega)]; show 0 ≠ 2; omega
  · rw [if_neg (c := st = 5 ∧ 0 = 22) (by omega)]
    refine ite_n2 ?_ ?_
    · rw [if_neg (by omega), if_neg (by omega), if_neg (by omega)]; show 0 ≠ 2; omega
    · rw [if_neg (by omega), if_neg (by omega)]
      refine ite_n2 ?_ ?_
      · rw [if_neg (by omega), if_neg (by omega), if_neg (by omega)]; show 1 ≠ 2; omega
      · show 0 ≠ 2; omega
/-- what parsing may change -/
def pP (d : Nat) : Nat → Nat → Prop := fun a k => (a = 19 ∧ 3 ≤ k ∧ k ≤ 15) ∨ (a = 20 ∧ 2 ≤ k ∧ k ≤ 5) ∨ a = 22 ∨ a = 23 ∨ (d ≤ a ∧ a < d + 29)
def pJ (d : Nat) : Nat → Nat → Prop := fun a k => a = d + 18 ∨ (a = 20 ∧ k = 6)
def pF : Nat → Nat → Prop := fun a k => (a = 19 ∧ (k = 2 ∨ k = 6 ∨ k = 7)) ∨ (a = 22 ∧ k = 2) ∨ (a = 20 ∧ k = 1)
theorem yP_p {d : Nat} {M M' : XM} (e : E3 (yP d) (yJ d) yF M M') : E3 (pP d) (pJ d) pF M M' := e.mono (fun a k q => by unfold yP at q; unfold pP; omega) (fun a k q => by unfold yJ at q; unfold pJ; omega) (fun a k q => by unfold yF at q; unfold pF; omega)
theorem tkP_p {d : Nat} {M M' : XM} (e : E3 tkP tkJ noF M M') : E3 (pP d) (pJ d) pF M M' := e.mono (fun a k q => by unfold tkP at q; unfold pP; omega) (fun a k q => by unfold tkJ at q; unfold pJ; omega) (fun a k q => absurd q id)
theorem CR.tk {M M' : XM} {d : Nat} {N : Nat → Int64} {p : YS} (h : CR M d N p) (e : E3 tkP tkJ noF M M') : CR M' d N p := by
  obtain ⟨⟨st, tk, fd, ifs, ne, pe⟩, ⟨m, a, r, nm, L, R, S⟩, ⟨W, lw, l, z, sk⟩⟩ := p
  obtain ⟨⟨h1, h2, h3⟩, h4⟩ := h
  have hd := h1.1
  have I : ∀ a k, a ≠ 20 → xI M' a k = xI M a k := fun a k q => e.I fun z => by unfold tkP at z; omega
  have F' : ∀ a k, xF M' a k = xF M a k := fun a k => e.FF id
  refine ⟨⟨h1.e3 e (fun a k q => by unfold tkP at q; omega) (fun _ _ q => absurd q id), h2.e3 e (fun a k q => by unfold tkP at q; omega) (fun a k q => by unfold tkJ at q; omega), h3.e3 e (fun a k q => by unfold tkP at q; omega)⟩, ?_⟩
  obtain ⟨a1, a2, a3, a4, a5⟩ := h4
  refine ⟨by rw [I _ _ (by omega), I _ _ (by omega)]; exact a1, fun q => by rw [I _ _ (by omega)]; exact a2 q, fun q => by rw [I _ _ (by omega), I _ _ (by omega), F', F']; exact a3 q, fun q => ?_, a5⟩
  obtain ⟨b1, b2, b3, b4, b5, b6, b7⟩ := a4 q
  exact ⟨b1, b2.fr e (fun a k q => Or.inl (by unfold tkP at q; unfold mP; omega)) (fun _ _ q => absurd q id), ⟨by rw [I _ _ (by omega)]; exact b3.1, b3.2⟩, ⟨by rw [I _ _ (by omega)]; exact b4.1, b4.2⟩, ⟨by rw [I _ _ (by omega)]; exact b5.1, b5.2⟩, by rw [I _ _ (by omega)]; exact b6, b7⟩
/-- the end of reading, in the class's cells -/
def CEnd (M : XM) (d : Nat) (N : Nat → Int64) (O : Nat × Int32 × YS) : Prop := xI M 19 15 = O.2.1 ∧ (O.1 = 0 → CR M d N O.2.2)
theorem CR.w15 {M : XM} {d : Nat} {N : Nat → Int64} {p : YS} {x : Int32} (h : CR M d N p) : CR (xmI M 19 15 x) d N p := by
  have e : E3 (fun a k => a = 19 ∧ k = 15) noF noF M (xmI M 19 15 x) := (E3.refl _ _ _ _).wI _ ⟨rfl, rfl⟩
  obtain ⟨⟨st, tk, fd, ifs, ne, pe⟩, ⟨m, a, r, nm, L, R, S⟩, ⟨W, lw, l, z, sk⟩⟩ := p
  obtain ⟨⟨h1, h2, h3⟩, h4⟩ := h
  have hd := h1.1
  have I : ∀ a k, ¬ (a = 19 ∧ k = 15) → xI (xmI M 19 15 x) a k = xI M a k := fun a k q => e.I q
  refine ⟨⟨h1.e3 e (fun a k q => by omega) (fun _ _ q => absurd q id), h2.e3 e (fun a k q => by omega) (fun a k q => absurd q id), h3.e3 e (fun a k q => by omega)⟩, ?_⟩
  obtain ⟨a1, a2, a3, a4, a5⟩ := h4
  refine ⟨by rw [I _ _ (by omega), I _ _ (by omega)]; exact a1, fun q => by rw [I _ _ (by omega)]; exact a2 q, fun q => by rw [I _ _ (by omega), I _ _ (by omega)]; exact a3 q, fun q => ?_, a5⟩
  obtain ⟨b1, b2, b3, b4, b5, b6, b7⟩ := a4 q
  exact ⟨b1, b2.fr e (fun a k q => Or.inl (by unfold mP; omega)) (fun _ _ q => absurd q id), ⟨by rw [I _ _ (by omega)]; exact b3.1, b3.2⟩, ⟨by rw [I _ _ (by omega)]; exact b4.1, b4.2⟩, ⟨by rw [I _ _ (by omega)]; exact b5.1, b5.2⟩, by rw [I _ _ (by omega)]; exact b6, b7⟩
theorem c_loop {n : Nat} {c : Nat → Nat} {d a2 : Nat} {M0 : XM} {Q : Option Value → XM → Prop} (hc : ∀ k, c k < 256) : ∀ (f i e : Nat) (M : XM) (p : YS), f + i = 401 → 1 ≤ f → CR M d (tkN n c) p → TK M n c → xI M 20 2 = nI e → e ≤ n → tpos n c i = rn (isBl c) n 2000 e → E3 (pP d) (pJ d) pF M0 M →
    (∀ M' : XM, E3 (pP d) (pJ d) pF M0 M' → CEnd M' d (tkN n c) (yrun (tkS n c) (fun i => tkK n c (tpos n c i)) (fun i => tkV n c (tpos n c i)) (tpos n c) f i p) → Q (some (.int (nI (yrun (tkS n c) (fun i => tkK n c (tpos n c i)) (fun i => tkV n c (tpos n c i)) (tpos n c) f i p).1))) M') →
    RG xprog 81 8 [some (.ref 19), some (.ref 17), some (.ref a2), some (.int (nI (i + 1)))] [] M Q
  | 0, i, e, M, p, hf, hf1, _, _, _, _, _, _, _ => by omega
  | f + 1, i, e, M, p, hf, hf1, h, tk, ha, he, ht, e0, hQ => by
    have n2 := tk.2.2.1
    have cp := h.cp
    have hp := tpos_le (n := n) (c := c) i
    rw [yrun_s] at hQ
    rw [B_81_8, cp.2.1.1]
    simp (disch := omega) only [lAdd, addL, lMul, mulL, nMul, nI_add, subL, lSub, nSub, nDec, nCl, lCl, nVp, lVp, nLe, nLt, nEq, lLe, leL, lLt, ltL, eqL, lEq, nM1, nM2, litLt0, one01, zero01, oneNe0, xupE, xupA, xupK, xI_I, xS_I, xF_I, xJ_I, xI_R, xS_R, xF_R, xJ_R, xI_L, xS_L, xF_L, xJ_L, xcat_s, le46, ge16, or_true, true_or, false_or, or_false, eq_self, Option.toList_some, Option.toList_none, List.cons_append, List.nil_append, true_and, and_true, not_false_eq_true, not_true_eq_false, if_true, if_false, if_neg, cp.2.1.2.1, cp.2.1.2.2.2.2.1]
    refine c_advance tk ha he hc ?_
    intro M1 e1 at1
    rw [← ht] at at1
    have h1 := h.tk e1
    have cp1 := h1.cp
    have k33 := tkK_le (n := n) (c := c) (j := tpos n c i)
    have tk1 := tk.tk e1
    simp (disch := omega) only [lAdd, addL, lMul, mulL, nMul, nI_add, subL, lSub, nSub, nDec, nCl, lCl, nVp, lVp, nLe, nLt, nEq, lLe, leL, lLt, ltL, eqL, lEq, nM1, nM2, litLt0, one01, zero01, oneNe0, xupE, xupA, xupK, xI_I, xS_I, xF_I, xJ_I, xI_R, xS_R, xF_R, xJ_R, xI_L, xS_L, xF_L, xJ_L, xcat_s, le46, ge16, or_true, true_or, false_or, or_false, eq_self, Option.toList_some, Option.toList_none, List.cons_append, List.nil_append, true_and, and_true, not_false_eq_true, not_true_eq_false, if_true, if_false, B_81_22, cp1.2.1.1, cp1.2.1.2.1, cp1.2.1.2.2.2.2.1, at1.2.1]
    have yt := at1.yt (by omega)
    refine c_goesOnWith (sm := tkS n c) (fun _ _ => rfl) h1 yt ⟨?_, ?_, ?_⟩
    · intro q M2 e2
      rw [if_pos q] at hQ
      have s19 : xS M2 19 = (6, 0) := by rw [e2.S]; exact cp1.2.1.1
      have s20 : xS M2 20 = (9, 0) := by rw [e2.S]; exact cp1.2.1.2.2.2.2.1
      have f19 : xF M2 19 0 = 20 := by rw [e2.FF (by unfold yF; omega)]; exact cp1.2.1.2.1
      have i4 : xI M2 20 4 = nI (tpos n c i) := by rw [e2.I (by have := cp1.1; unfold yP; omega)]; exact yt.1
      simp (disch := omega) only [lAdd, addL, lMul, mulL, nMul, nI_add, subL, lSub, nSub, nDec, nCl, lCl, nVp, lVp, nLe, nLt, nEq, lLe, leL, lLt, ltL, eqL, lEq, nM1, nM2, litLt0, one01, zero01, oneNe0, xupE, xupA, xupK, xI_I, xS_I, xF_I, xJ_I, xI_R, xS_R, xF_R, xJ_R, xI_L, xS_L, xF_L, xJ_L, xcat_s, le46, ge16, or_true, true_or, false_or, or_false, eq_self, Option.toList_some, Option.toList_none, List.cons_append, List.nil_append, true_and, and_true, not_false_eq_true, not_true_eq_false, if_true, if_false, B_81_33, if_pos, s19]
      rw [B_80_0]
      simp (disch := omega) only [lAdd, addL, lMul, mulL, nMul, nI_add, subL, lSub, nSub, nDec, nCl, lCl, nVp, lVp, nLe, nLt, nEq, lLe, leL, lLt, ltL, eqL, lEq, nM1, nM2, litLt0, one01, zero01, oneNe0, xupE, xupA, xupK, xI_I, xS_I, xF_I, xJ_I, xI_R, xS_R, xF_R, xJ_R, xI_L, xS_L, xF_L, xJ_L, xcat_s, le46, ge16, or_true, true_or, false_or, or_false, eq_self, Option.toList_some, Option.toList_none, List.cons_append, List.nil_append, true_and, and_true, not_false_eq_true, not_true_eq_false, if_true, if_false, s19, s20, f19, i4, B_81_41]
      exact hQ _ (((e0.trans (tkP_p e1)).trans (yP_p e2)).wI _ (by unfold pP; omega)) ⟨by simp (disch := omega) only [lAdd, addL, lMul, mulL, nMul, nI_add, subL, lSub, nSub, nDec, nCl, lCl, nVp, lVp, nLe, nLt, nEq, lLe, leL, lLt, ltL, eqL, lEq, nM1, nM2, litLt0, one01, zero01, oneNe0, xupE, xupA, xupK, xI_I, xS_I, xF_I, xJ_I, xI_R, xS_R, xF_R, xJ_R, xI_L, xS_L, xF_L, xJ_L, xcat_s, le46, ge16, or_true, true_or, false_or, or_false, eq_self, Option.toList_some, Option.toList_none, List.cons_append, List.nil_append, true_and, and_true, not_false_eq_true, not_true_eq_false, if_true, if_false], fun z => absurd z (show ¬ _ = 0 from by intro q; cases q)⟩
    · intro q M2 e2 ov
      rw [if_neg (by omega)] at hQ
      have s19 : xS M2 19 = (6, 0) := by rw [e2.S]; exact cp1.2.1.1
      have s20 : xS M2 20 = (9, 0) := by rw [e2.S]; exact cp1.2.1.2.2.2.2.1
      have f19 : xF M2 19 0 = 20 := by rw [e2.FF (by unfold yF; omega)]; exact cp1.2.1.2.1
      have i4 : xI M2 20 4 = nI (tpos n c i) := by rw [e2.I (by have := cp1.1; unfold yP; omega)]; exact yt.1
      have i3 : xI M2 20 3 = nI (tkK n c (tpos n c i)) := by rw [e2.I (by have := cp1.1; unfold yP; omega)]; exact at1.2.1
      have k0 : ¬ tkK n c (tpos n c i) = 0 := by
        intro k0
        rw [k0] at q
        exact ystep_n2 _ _ _ _ q
      rw [if_neg k0, if_pos (Or.inl q)] at hQ
      simp (disch := omega) only [lAdd, addL, lMul, mulL, nMul, nI_add, subL, lSub, nSub, nDec, nCl, lCl, nVp, lVp, nLe, nLt, nEq, lLe, leL, lLt, ltL, eqL, lEq, nM1, nM2, litLt0, one01, zero01, oneNe0, xupE, xupA, xupK, xI_I, xS_I, xF_I, xJ_I, xI_R, xS_R, xF_R, xJ_R, xI_L, xS_L, xF_L, xJ_L, xcat_s, le46, ge16, or_true, true_or, false_or, or_false, eq_self, Option.toList_some, Option.toList_none, List.cons_append, List.nil_append, true_and, and_true, not_false_eq_true, not_true_eq_false, if_true, if_false, B_81_33, if_neg, if_pos, s19, s20, f19, i3, ov]
      rw [B_81_79]
      simp (disch := omega) only [lAdd, addL, lMul, mulL, nMul, nI_add, subL, lSub, nSub, nDec, nCl, lCl, nVp, lVp, nLe, nLt, nEq, lLe, leL, lLt, ltL, eqL, lEq, nM1, nM2, litLt0, one01, zero01, oneNe0, xupE, xupA, xupK, xI_I, xS_I, xF_I, xJ_I, xI_R, xS_R, xF_R, xJ_R, xI_L, xS_L, xF_L, xJ_L, xcat_s, le46, ge16, or_true, true_or, false_or, or_false, eq_self, Option.toList_some, Option.toList_none, List.cons_append, List.nil_append, true_and, and_true, not_false_eq_true, not_true_eq_false, if_true, if_false, s19]
      rw [B_80_0]
      simp (disch := omega) only [lAdd, addL, lMul, mulL, nMul, nI_add, subL, lSub, nSub, nDec, nCl, lCl, nVp, lVp, nLe, nLt, nEq, lLe, leL, lLt, ltL, eqL, lEq, nM1, nM2, litLt0, one01, zero01, oneNe0, xupE, xupA, xupK, xI_I, xS_I, xF_I, xJ_I, xI_R, xS_R, xF_R, xJ_R, xI_L, xS_L, xF_L, xJ_L, xcat_s, le46, ge16, or_true, true_or, false_or, or_false, eq_self, Option.toList_some, Option.toList_none, List.cons_append, List.nil_append, true_and, and_true, not_false_eq_true, not_true_eq_false, if_true, if_false, s19, s20, f19, i4, B_81_84]
      exact hQ _ (((e0.trans (tkP_p e1)).trans (yP_p e2)).wI _ (by unfold pP; omega)) ⟨by simp (disch := omega) only [lAdd, addL, lMul, mulL, nMul, nI_add, subL, lSub, nSub, nDec, nCl, lCl, nVp, lVp, nLe, nLt, nEq, lLe, leL, lLt, ltL, eqL, lEq, nM1, nM2, litLt0, one01, zero01, oneNe0, xupE, xupA, xupK, xI_I, xS_I, xF_I, xJ_I, xI_R, xS_R, xF_R, xJ_R, xI_L, xS_L, xF_L, xJ_L, xcat_s, le46, ge16, or_true, true_or, false_or, or_false, eq_self, Option.toList_some, Option.toList_none, List.cons_append, List.nil_append, true_and, and_true, not_false_eq_true, not_true_eq_false, if_true, if_false], fun z => absurd z (show ¬ _ = 0 from by intro q; cases q)⟩
    · intro q M2 e2 h2
      rw [if_neg (by omega)] at hQ
      generalize hg : (ystep (tkS n c) (tkK n c (tpos n c i)) (tkV n c (tpos n c i)) (tpos n c i) p) = g at q h2 hQ
      have s19 : xS M2 19 = (6, 0) := by rw [e2.S]; exact cp1.2.1.1
      have s20 : xS M2 20 = (9, 0) := by rw [e2.S]; exact cp1.2.1.2.2.2.2.1
      have f19 : xF M2 19 0 = 20 := by rw [e2.FF (by unfold yF; omega)]; exact cp1.2.1.2.1
      have i4 : xI M2 20 4 = nI (tpos n c i) := by rw [e2.I (by have := cp1.1; unfold yP; omega)]; exact yt.1
      have i3 : xI M2 20 3 = nI (tkK n c (tpos n c i)) := by rw [e2.I (by have := cp1.1; unfold yP; omega)]; exact at1.2.1
      have i2 : xI M2 20 2 = nI (tkE n c (tpos n c i)) := by rw [e2.I (by have := cp1.1; unfold yP; omega)]; exact at1.2.2.1
      have E := (e0.trans (tkP_p e1)).trans (yP_p e2)
      by_cases k0 : tkK n c (tpos n c i) = 0
      · rw [if_pos k0] at hQ
        have mm : xI M2 19 13 = nI g.2.2.1.1.1 ∧ xI M2 19 14 = g.2.2.1.1.2 := by
          obtain ⟨_, ⟨C, ⟨m, a, r, nm, L, R, S⟩, ⟨W, lw, l, z, sk⟩⟩⟩ := g
          exact ⟨h2.1.2.1.1.1, h2.1.2.1.1.2.2⟩
        simp (disch := omega) only [lAdd, addL, lMul, mulL, nMul, nI_add, subL, lSub, nSub, nDec, nCl, lCl, nVp, lVp, nLe, nLt, nEq, lLe, leL, lLt, ltL, eqL, lEq, nM1, nM2, litLt0, one01, zero01, oneNe0, xupE, xupA, xupK, xI_I, xS_I, xF_I, xJ_I, xI_R, xS_R, xF_R, xJ_R, xI_L, xS_L, xF_L, xJ_L, xcat_s, le46, ge16, or_true, true_or, false_or, or_false, eq_self, Option.toList_some, Option.toList_none, List.cons_append, List.nil_append, true_and, and_true, not_false_eq_true, not_true_eq_false, if_true, if_false, B_81_33, if_neg, s19, s20, f19, i3, mm.1, mm.2]
        exact hQ _ (E.wI _ (by unfold pP; omega)) ⟨by simp (disch := omega) only [lAdd, addL, lMul, mulL, nMul, nI_add, subL, lSub, nSub, nDec, nCl, lCl, nVp, lVp, nLe, nLt, nEq, lLe, leL, lLt, ltL, eqL, lEq, nM1, nM2, litLt0, one01, zero01, oneNe0, xupE, xupA, xupK, xI_I, xS_I, xF_I, xJ_I, xI_R, xS_R, xF_R, xJ_R, xI_L, xS_L, xF_L, xJ_L, xcat_s, le46, ge16, or_true, true_or, false_or, or_false, eq_self, Option.toList_some, Option.toList_none, List.cons_append, List.nil_append, true_and, and_true, not_false_eq_true, not_true_eq_false, if_true, if_false], fun _ => h2.w15⟩
      · rw [if_neg k0] at hQ
        have ov : xI M2 19 4 = 0 := by
          obtain ⟨_, ⟨⟨st, tk, fd, ifs, ne, pe⟩, ⟨m, a, r, nm, L, R, S⟩, ⟨W, lw, l, z, sk⟩⟩⟩ := g
          exact h2.2.1.2.2
        by_cases q4 : 400 ≤ i
        · rw [if_pos (Or.inr q4)] at hQ
          simp (disch := omega) only [lAdd, addL, lMul, mulL, nMul, nI_add, subL, lSub, nSub, nDec, nCl, lCl, nVp, lVp, nLe, nLt, nEq, lLe, leL, lLt, ltL, eqL, lEq, nM1, nM2, litLt0, one01, zero01, oneNe0, xupE, xupA, xupK, xI_I, xS_I, xF_I, xJ_I, xI_R, xS_R, xF_R, xJ_R, xI_L, xS_L, xF_L, xJ_L, xcat_s, le46, ge16, or_true, true_or, false_or, or_false, eq_self, Option.toList_some, Option.toList_none, List.cons_append, List.nil_append, true_and, and_true, not_false_eq_true, not_true_eq_false, if_true, if_false, B_81_33, if_neg, if_pos, s19, s20, f19, i3, ov]
          rw [B_81_79]
          simp (disch := omega) only [lAdd, addL, lMul, mulL, nMul, nI_add, subL, lSub, nSub, nDec, nCl, lCl, nVp, lVp, nLe, nLt, nEq, lLe, leL, lLt, ltL, eqL, lEq, nM1, nM2, litLt0, one01, zero01, oneNe0, xupE, xupA, xupK, xI_I, xS_I, xF_I, xJ_I, xI_R, xS_R, xF_R, xJ_R, xI_L, xS_L, xF_L, xJ_L, xcat_s, le46, ge16, or_true, true_or, false_or, or_false, eq_self, Option.toList_some, Option.toList_none, List.cons_append, List.nil_append, true_and, and_true, not_false_eq_true, not_true_eq_false, if_true, if_false, s19]
          rw [B_80_0]
          simp (disch := omega) only [lAdd, addL, lMul, mulL, nMul, nI_add, subL, lSub, nSub, nDec, nCl, lCl, nVp, lVp, nLe, nLt, nEq, lLe, leL, lLt, ltL, eqL, lEq, nM1, nM2, litLt0, one01, zero01, oneNe0, xupE, xupA, xupK, xI_I, xS_I, xF_I, xJ_I, xI_R, xS_R, xF_R, xJ_R, xI_L, xS_L, xF_L, xJ_L, xcat_s, le46, ge16, or_true, true_or, false_or, or_false, eq_self, Option.toList_some, Option.toList_none, List.cons_append, List.nil_append, true_and, and_true, not_false_eq_true, not_true_eq_false, if_true, if_false, s19, s20, f19, i4, B_81_84]
          exact hQ _ (E.wI _ (by unfold pP; omega)) ⟨by simp (disch := omega) only [lAdd, addL, lMul, mulL, nMul, nI_add, subL, lSub, nSub, nDec, nCl, lCl, nVp, lVp, nLe, nLt, nEq, lLe, leL, lLt, ltL, eqL, lEq, nM1, nM2, litLt0, one01, zero01, oneNe0, xupE, xupA, xupK, xI_I, xS_I, xF_I, xJ_I, xI_R, xS_R, xF_R, xJ_R, xI_L, xS_L, xF_L, xJ_L, xcat_s, le46, ge16, or_true, true_or, false_or, or_false, eq_self, Option.toList_some, Option.toList_none, List.cons_append, List.nil_append, true_and, and_true, not_false_eq_true, not_true_eq_false, if_true, if_false], fun z => absurd z (show ¬ _ = 0 from by intro q; cases q)⟩
        · rw [if_neg (by omega)] at hQ
          simp (disch := omega) only [lAdd, addL, lMul, mulL, nMul, nI_add, subL, lSub, nSub, nDec, nCl, lCl, nVp, lVp, nLe, nLt, nEq, lLe, leL, lLt, ltL, eqL, lEq, nM1, nM2, litLt0, one01, zero01, oneNe0, xupE, xupA, xupK, xI_I, xS_I, xF_I, xJ_I, xI_R, xS_R, xF_R, xJ_R, xI_L, xS_L, xF_L, xJ_L, xcat_s, le46, ge16, or_true, true_or, false_or, or_false, eq_self, Option.toList_some, Option.toList_none, List.cons_append, List.nil_append, true_and, and_true, not_false_eq_true, not_true_eq_false, if_true, if_false, B_81_33, if_neg, if_pos, s19, s20, f19, i3, ov]
          have tk2 : TK M2 n c := tk1.e3 e2 (fun a k q => by have := cp1.1; unfold yP at q; omega) (fun a k q => by have := cp1.1; unfold yJ at q; omega) (fun a k q => by unfold yF at q; omega)
          exact c_loop hc f (i + 1) (tkE n c (tpos n c i)) M2 g.2 (by omega) (by omega) h2 tk2 i2 (tkE_le hp) rfl E hQ
