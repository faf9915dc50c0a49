/-! constructors: LawMaker, Text, History -/
theorem lkS_h {a : Nat} {x : Nat × Nat} {r : List (Nat × Nat × Nat)} : lkS ((a, x) :: r) a = some x := by rw [lkS, if_pos rfl]
theorem lkS_t {a b : Nat} {x : Nat × Nat} {r : List (Nat × Nat × Nat)} (h : ¬ b = a) : lkS ((a, x) :: r) b = lkS r b := by rw [lkS, if_neg h]
theorem lkF_h {a k v : Nat} {r : List (Nat × Nat × Nat)} : lkF ((a, k, v) :: r) a k = some v := by rw [lkF, if_pos ⟨rfl, rfl⟩]
theorem lkF_t {a b k j v : Nat} {r : List (Nat × Nat × Nat)} (h : ¬ (b = a ∧ k = j)) : lkF ((a, j, v) :: r) b k = lkF r b k := by rw [lkF, if_neg h]
theorem n_LawMaker0 {o z u : Nat} {M N : XM} {sh ff : List (Nat × Nat × Nat)} {g : Nat → Int32} {jj : Nat → Nat → Int64} {Q : Option Value → XM → Prop} (h : NI o M z u sh ff g jj N) (h16 : 16 ≤ z) (hj : ∀ b, z ≤ b → b < z + 2 → jj b = fun _ => 0)
    (hQ : ∀ M' : XM, NI o M (z + 2) (u + 24) ((z + 1, 40, 20) :: (z, 4, 0) :: sh) ((z, 0, z + 1) :: ff) g jj M' → RG xprog 13 16 [some (.ref z)] [.ref (z + 2), .ref z] (xnew M' 3 0 2) Q) :
    RG xprog 13 0 [some (.ref z)] [] (xnew N 4 0 4) Q := by
  have oz := h.oz
  have h0 : NI o M (z + 1) (u + 4) ((z, 4, 0) :: sh) ff g jj (xnew N 4 0 4) := h.new 4 0 4 (hj z (by omega) (by omega))
  have s0 : xS (xnew N 4 0 4) z = (4, 0) := h0.Sz
  generalize xnew N 4 0 4 = N0 at h0 s0 ⊢
  rw [B_13_0, s0, h0.hz]
  refine ⟨⟨by decide, h16⟩, ?_⟩
  refine ⟨⟨by decide, by decide⟩, ?_⟩
  rw [show Int32.toNatClampNeg (20 : Int32) = 20 by decide]
  have k0 : NI o M (z + 2) (u + 24) ((z + 1, 40, 20) :: (z, 4, 0) :: sh) (ff) g jj (xnew N0 40 20 20) := h0.new 40 20 20 (hj _ (by omega) (by omega))
  have t0 : xS (xnew N0 40 20 20) z = (4, 0) := by rw [xS_new, h0.hz, if_neg (by omega)]; exact s0
  generalize xnew N0 40 20 20 = K0 at k0 t0 ⊢
  rw [B_13_9, t0]
  refine ⟨⟨rfl, h16⟩, ?_⟩
  have h1 := k0.put (a := z) 0 (z + 1) (by omega) (by omega)
  have s1 : xS (xmR K0 z 0 (z + 1)) z = (4, 0) := t0
  generalize xmR K0 z 0 (z + 1) = N1 at h1 s1 ⊢
  rw [h1.hz]
  exact hQ _ h1
theorem n_Text0 {o z u : Nat} {M N : XM} {sh ff : List (Nat × Nat × Nat)} {g : Nat → Int32} {jj : Nat → Nat → Int64} {Q : Option Value → XM → Prop} (h : NI o M z u sh ff g jj N) (h16 : 16 ≤ z) (hj : ∀ b, z ≤ b → b < z + 21 → jj b = fun _ => 0)
    (hQ : ∀ M' : XM, NI o M (z + 21) (u + 130) ((z + 20, 40, 32) :: (z + 19, 40, 9) :: (z + 18, 43, 13) :: (z + 17, 46, 4) :: (z + 16, 40, 3) :: mS (z + 9) 6 3 6 (mS (z + 1) 7 4 7 ((z, 8, 0) :: sh))) ((z, 9, z + 20) :: (z, 8, z + 19) :: (z, 6, z + 18) :: (z, 5, z + 17) :: (z, 4, z + 16) :: (z, 3, z + 9) :: mF (z + 9) 6 ((z, 2, z + 1) :: mF (z + 1) 7 (ff))) g jj M' → RG xprog 15 67 [some (.ref z), some (.int 0)] [] M' Q) :
    RG xprog 15 0 [some (.ref z), none] [] (xnew N 8 0 10) Q := by
  have oz := h.oz
  have h0 : NI o M (z + 1) (u + 10) ((z, 8, 0) :: sh) ff g jj (xnew N 8 0 10) := h.new 8 0 10 (hj z (by omega) (by omega))
  have s0 : xS (xnew N 8 0 10) z = (8, 0) := h0.Sz
  generalize xnew N 8 0 10 = N0 at h0 s0 ⊢
  rw [B_15_0, s0, h0.hz]
  refine ⟨⟨by decide, h16⟩, ?_⟩
  refine ⟨⟨⟨by decide, by decide⟩, by decide, by decide⟩, ?_⟩
  rw [show Int32.toNatClampNeg (7 : Int32) = 7 by decide, show Int32.toNatClampNeg (4 : Int32) = 4 by decide]
  have k0 : NI o M (z + 9) (u + 45) (mS (z + 1) 7 4 7 ((z, 8, 0) :: sh)) (mF (z + 1) 7 (ff)) g jj (xmulti N0 7 4) := h0.multi 7 4 (fun b q1 q2 => hj b (by omega) (by omega))
  have t0 : xS (xmulti N0 7 4) z = (8, 0) := by rw [xS_m, h0.hz, if_neg (by omega), if_neg (by omega)]; exact s0
  generalize xmulti N0 7 4 = K0 at k0 t0 ⊢
  rw [B_15_12, t0]
  refine ⟨⟨rfl, h16⟩, ?_⟩
  have h1 := k0.put (a := z) 2 (z + 1) (by omega) (by omega)
  have s1 : xS (xmR K0 z 2 (z + 1)) z = (8, 0) := t0
  generalize xmR K0 z 2 (z + 1) = N1 at h1 s1 ⊢
  rw [h1.hz]
  refine ⟨⟨⟨by decide, by decide⟩, by decide, by decide⟩, ?_⟩
  rw [show Int32.toNatClampNeg (6 : Int32) = 6 by decide, show Int32.toNatClampNeg (3 : Int32) = 3 by decide]
  have k1 : NI o M (z + 16) (u + 69) (mS (z + 9) 6 3 6 (mS (z + 1) 7 4 7 ((z, 8, 0) :: sh))) (mF (z + 9) 6 ((z, 2, z + 1) :: mF (z + 1) 7 (ff))) g jj (xmulti N1 6 3) := h1.multi 6 3 (fun b q1 q2 => hj b (by omega) (by omega))
  have t1 : xS (xmulti N1 6 3) z = (8, 0) := by rw [xS_m, h1.hz, if_neg (by omega), if_neg (by omega)]; exact s1
  generalize xmulti N1 6 3 = K1 at k1 t1 ⊢
  rw [B_15_23, t1]
  refine ⟨⟨rfl, h16⟩, ?_⟩
  have h2 := k1.put (a := z) 3 (z + 9) (by omega) (by omega)
  have s2 : xS (xmR K1 z 3 (z + 9)) z = (8, 0) := t1
  generalize xmR K1 z 3 (z + 9) = N2 at h2 s2 ⊢
  rw [h2.hz]
  refine ⟨⟨by decide, by decide⟩, ?_⟩
  rw [show Int32.toNatClampNeg (3 : Int32) = 3 by decide]
  have k2 : NI o M (z + 17) (u + 72) ((z + 16, 40, 3) :: mS (z + 9) 6 3 6 (mS (z + 1) 7 4 7 ((z, 8, 0) :: sh))) ((z, 3, z + 9) :: mF (z + 9) 6 ((z, 2, z + 1) :: mF (z + 1) 7 (ff))) g jj (xnew N2 40 3 3) := h2.new 40 3 3 (hj _ (by omega) (by omega))
  have t2 : xS (xnew N2 40 3 3) z = (8, 0) := by rw [xS_new, h2.hz, if_neg (by omega)]; exact s2
  generalize xnew N2 40 3 3 = K2 at k2 t2 ⊢
  rw [B_15_30, t2]
  refine ⟨⟨rfl, h16⟩, ?_⟩
  have h3 := k2.put (a := z) 4 (z + 16) (by omega) (by omega)
  have s3 : xS (xmR K2 z 4 (z + 16)) z = (8, 0) := t2
  generalize xmR K2 z 4 (z + 16) = N3 at h3 s3 ⊢
  rw [h3.hz]
  refine ⟨⟨by decide, by decide⟩, ?_⟩
  rw [show Int32.toNatClampNeg (4 : Int32) = 4 by decide]
  have k3 : NI o M (z + 18) (u + 76) ((z + 17, 46, 4) :: (z + 16, 40, 3) :: mS (z + 9) 6 3 6 (mS (z + 1) 7 4 7 ((z, 8, 0) :: sh))) ((z, 4, z + 16) :: (z, 3, z + 9) :: mF (z + 9) 6 ((z, 2, z + 1) :: mF (z + 1) 7 (ff))) g jj (xnew N3 46 4 4) := h3.new 46 4 4 (hj _ (by omega) (by omega))
  have t3 : xS (xnew N3 46 4 4) z = (8, 0) := by rw [xS_new, h3.hz, if_neg (by omega)]; exact s3
  generalize xnew N3 46 4 4 = K3 at k3 t3 ⊢
  rw [B_15_38, t3]
  refine ⟨⟨rfl, h16⟩, ?_⟩
  have h4 := k3.put (a := z) 5 (z + 17) (by omega) (by omega)
  have s4 : xS (xmR K3 z 5 (z + 17)) z = (8, 0) := t3
  generalize xmR K3 z 5 (z + 17) = N4 at h4 s4 ⊢
  rw [h4.hz]
  refine ⟨⟨by decide, by decide⟩, ?_⟩
  rw [show Int32.toNatClampNeg (13 : Int32) = 13 by decide]
  have k4 : NI o M (z + 19) (u + 89) ((z + 18, 43, 13) :: (z + 17, 46, 4) :: (z + 16, 40, 3) :: mS (z + 9) 6 3 6 (mS (z + 1) 7 4 7 ((z, 8, 0) :: sh))) ((z, 5, z + 17) :: (z, 4, z + 16) :: (z, 3, z + 9) :: mF (z + 9) 6 ((z, 2, z + 1) :: mF (z + 1) 7 (ff))) g jj (xnew N4 43 13 13) := h4.new 43 13 13 (hj _ (by omega) (by omega))
  have t4 : xS (xnew N4 43 13 13) z = (8, 0) := by rw [xS_new, h4.hz, if_neg (by omega)]; exact s4
  generalize xnew N4 43 13 13 = K4 at k4 t4 ⊢
  rw [B_15_46, t4]
  refine ⟨⟨rfl, h16⟩, ?_⟩
  have h5 := k4.put (a := z) 6 (z + 18) (by omega) (by omega)
  have s5 : xS (xmR K4 z 6 (z + 18)) z = (8, 0) := t4
  generalize xmR K4 z 6 (z + 18) = N5 at h5 s5 ⊢
  rw [h5.hz]
  refine ⟨⟨by decide, by decide⟩, ?_⟩
  rw [show Int32.toNatClampNeg (9 : Int32) = 9 by decide]
  have k5 : NI o M (z + 20) (u + 98) ((z + 19, 40, 9) :: (z + 18, 43, 13) :: (z + 17, 46, 4) :: (z + 16, 40, 3) :: mS (z + 9) 6 3 6 (mS (z + 1) 7 4 7 ((z, 8, 0) :: sh))) ((z, 6, z + 18) :: (z, 5, z + 17) :: (z, 4, z + 16) :: (z, 3, z + 9) :: mF (z + 9) 6 ((z, 2, z + 1) :: mF (z + 1) 7 (ff))) g jj (xnew N5 40 9 9) := h5.new 40 9 9 (hj _ (by omega) (by omega))
  have t5 : xS (xnew N5 40 9 9) z = (8, 0) := by rw [xS_new, h5.hz, if_neg (by omega)]; exact s5
  generalize xnew N5 40 9 9 = K5 at k5 t5 ⊢
  rw [B_15_54, t5]
  refine ⟨⟨rfl, h16⟩, ?_⟩
  have h6 := k5.put (a := z) 8 (z + 19) (by omega) (by omega)
  have s6 : xS (xmR K5 z 8 (z + 19)) z = (8, 0) := t5
  generalize xmR K5 z 8 (z + 19) = N6 at h6 s6 ⊢
  rw [h6.hz]
  refine ⟨⟨by decide, by decide⟩, ?_⟩
  rw [show Int32.toNatClampNeg (32 : Int32) = 32 by decide]
  have k6 : NI o M (z + 21) (u + 130) ((z + 20, 40, 32) :: (z + 19, 40, 9) :: (z + 18, 43, 13) :: (z + 17, 46, 4) :: (z + 16, 40, 3) :: mS (z + 9) 6 3 6 (mS (z + 1) 7 4 7 ((z, 8, 0) :: sh))) ((z, 8, z + 19) :: (z, 6, z + 18) :: (z, 5, z + 17) :: (z, 4, z + 16) :: (z, 3, z + 9) :: mF (z + 9) 6 ((z, 2, z + 1) :: mF (z + 1) 7 (ff))) g jj (xnew N6 40 32 32) := h6.new 40 32 32 (hj _ (by omega) (by omega))
  have t6 : xS (xnew N6 40 32 32) z = (8, 0) := by rw [xS_new, h6.hz, if_neg (by omega)]; exact s6
  generalize xnew N6 40 32 32 = K6 at k6 t6 ⊢
  rw [B_15_62, t6]
  refine ⟨⟨rfl, h16⟩, ?_⟩
  have h7 := k6.put (a := z) 9 (z + 20) (by omega) (by omega)
  have s7 : xS (xmR K6 z 9 (z + 20)) z = (8, 0) := t6
  generalize xmR K6 z 9 (z + 20) = N7 at h7 s7 ⊢
  exact hQ _ h7
theorem n_History0 {o z u : Nat} {M N : XM} {sh ff : List (Nat × Nat × Nat)} {g : Nat → Int32} {jj : Nat → Nat → Int64} {Q : Option Value → XM → Prop} (h : NI o M z u sh ff g jj N) (h16 : 16 ≤ z) (hj : ∀ b, z ≤ b → b < z + 2 → jj b = fun _ => 0)
    (hQ : ∀ M' : XM, NI o M (z + 2) (u + 43) ((z + 1, 45, 40) :: (z, 2, 0) :: sh) ((z, 0, z + 1) :: ff) g jj M' → RG xprog 17 15 [some (.ref z), some (.int 0)] [] M' Q) :
    RG xprog 17 0 [some (.ref z), none] [] (xnew N 2 0 3) Q := by
  have oz := h.oz
  have h0 : NI o M (z + 1) (u + 3) ((z, 2, 0) :: sh) ff g jj (xnew N 2 0 3) := h.new 2 0 3 (hj z (by omega) (by omega))
  have s0 : xS (xnew N 2 0 3) z = (2, 0) := h0.Sz
  generalize xnew N 2 0 3 = N0 at h0 s0 ⊢
  rw [B_17_0, s0, h0.hz]
  refine ⟨⟨by decide, h16⟩, ?_⟩
  refine ⟨⟨by decide, by decide⟩, ?_⟩
  rw [show Int32.toNatClampNeg (40 : Int32) = 40 by decide]
  have k0 : NI o M (z + 2) (u + 43) ((z + 1, 45, 40) :: (z, 2, 0) :: sh) (ff) g jj (xnew N0 45 40 40) := h0.new 45 40 40 (hj _ (by omega) (by omega))
  have t0 : xS (xnew N0 45 40 40) z = (2, 0) := by rw [xS_new, h0.hz, if_neg (by omega)]; exact s0
  generalize xnew N0 45 40 40 = K0 at k0 t0 ⊢
  rw [B_17_10, t0]
  refine ⟨⟨rfl, h16⟩, ?_⟩
  have h1 := k0.put (a := z) 0 (z + 1) (by omega) (by omega)
  have s1 : xS (xmR K0 z 0 (z + 1)) z = (2, 0) := t0
  generalize xmR K0 z 0 (z + 1) = N1 at h1 s1 ⊢
  exact hQ _ h1
theorem n_Tokens0 {o z u : Nat} {M N : XM} {sh ff : List (Nat × Nat × Nat)} {g : Nat → Int32} {jj : Nat → Nat → Int64} {Q : Option Value → XM → Prop} (h : NI o M z u sh ff g jj N) (h16 : 16 ≤ z) (hj : ∀ b, z ≤ b → b < z + 2 → jj b = fun _ => 0)
    (hQ : ∀ M' : XM, NI o M (z + 2) (u + 28) ((z + 1, 43, 21) :: (z, 9, 0) :: sh) ((z, 0, z + 1) :: ff) g jj M' → RG xprog 11 14 [some (.ref z), some (.int 0)] [] M' Q) :
    RG xprog 11 0 [some (.ref z), none] [] (xnew N 9 0 7) Q := by
  have oz := h.oz
  have h0 : NI o M (z + 1) (u + 7) ((z, 9, 0) :: sh) ff g jj (xnew N 9 0 7) := h.new 9 0 7 (hj z (by omega) (by omega))
  have s0 : xS (xnew N 9 0 7) z = (9, 0) := h0.Sz
  generalize xnew N 9 0 7 = N0 at h0 s0 ⊢
  rw [B_11_0, s0, h0.hz]
  refine ⟨⟨by decide, h16⟩, ?_⟩
  refine ⟨⟨by decide, by decide⟩, ?_⟩
  rw [show Int32.toNatClampNeg (21 : Int32) = 21 by decide]
  have k0 : NI o M (z + 2) (u + 28) ((z + 1, 43, 21) :: (z, 9, 0) :: sh) (ff) g jj (xnew N0 43 21 21) := h0.new 43 21 21 (hj _ (by omega) (by omega))
  have t0 : xS (xnew N0 43 21 21) z = (9, 0) := by rw [xS_new, h0.hz, if_neg (by omega)]; exact s0
  generalize xnew N0 43 21 21 = K0 at k0 t0 ⊢
  rw [B_11_9, t0]
  refine ⟨⟨rfl, h16⟩, ?_⟩
  have h1 := k0.put (a := z) 0 (z + 1) (by omega) (by omega)
  have s1 : xS (xmR K0 z 0 (z + 1)) z = (9, 0) := t0
  generalize xmR K0 z 0 (z + 1) = N1 at h1 s1 ⊢
  exact hQ _ h1
theorem n_LawMaker {o z u : Nat} {M N : XM} {sh ff : List (Nat × Nat × Nat)} {g : Nat → Int32} {jj : Nat → Nat → Int64} {Q : Option Value → XM → Prop} (h : NI o M z u sh ff g jj N) (h16 : 16 ≤ z) (hj : ∀ b, z ≤ b → b < z + 4 → jj b = fun _ => 0)
    (hQ : ∀ M' : XM, NI o M (z + 4) (u + 426) ((z + 3, 40, 400) :: (z + 2, 3, 0) :: (z + 1, 40, 20) :: (z, 4, 0) :: sh) ((z, 2, z + 2) :: (z + 2, 0, z + 3) :: (z, 0, z + 1) :: ff) g jj M' → Q none M') :
    RG xprog 13 0 [some (.ref z)] [] (xnew N 4 0 4) Q := by
  have oz := h.oz
  refine n_LawMaker0 h h16 (fun b q1 q2 => hj b (by omega) (by omega)) ?_
  intro N1 h1
  have s1 : xS (xnew N1 3 0 2) (z + 2) = (3, 0) := (h1.new 3 0 2 (hj _ (by omega) (by omega))).Sz
  rw [B_13_16, s1]
  refine ⟨⟨rfl, by omega⟩, ?_⟩
  refine n_Law h1 (by omega) (fun b q1 q2 => hj b (by omega) (by omega)) ?_
  intro N2 h2
  simp (disch := omega) only [lAdd, addL, lMul, mulL, nMul, nI_add, subL, lSub, nSub, nDec, nCl, lCl, nVp, lVp, nLe, nLt, nEq, lLe, leL, lLt, ltL, eqL, lEq, nM1, nM2, litLt0, one01, zero01, oneNe0, xupE, xupA, xupK, xI_I, xS_I, xF_I, xJ_I, xI_R, xS_R, xF_R, xJ_R, xI_L, xS_L, xF_L, xJ_L, xcat_s, le46, ge16, or_true, true_or, false_or, or_false, eq_self, Option.toList_some, Option.toList_none, List.cons_append, List.nil_append, true_and, and_true, not_false_eq_true, not_true_eq_false, if_true, if_false]
  rw [B_13_20, h2.S z (4, 0) (by rw [lkS_t (by omega), lkS_t (by omega), lkS_t (by omega), lkS_h])]
  refine ⟨⟨rfl, h16⟩, ?_⟩
  exact hQ _ (h2.put (a := z) 2 (z + 2) (by omega) (by omega))
def tS0 (z : Nat) (sh : List (Nat × Nat × Nat)) : List (Nat × Nat × Nat) := (z + 20, 40, 32) :: (z + 19, 40, 9) :: (z + 18, 43, 13) :: (z + 17, 46, 4) :: (z + 16, 40, 3) :: mS (z + 9) 6 3 6 (mS (z + 1) 7 4 7 ((z, 8, 0) :: sh))
def tF0 (z : Nat) (ff : List (Nat × Nat × Nat)) : List (Nat × Nat × Nat) := (z, 9, z + 20) :: (z, 8, z + 19) :: (z, 6, z + 18) :: (z, 5, z + 17) :: (z, 4, z + 16) :: (z, 3, z + 9) :: mF (z + 9) 6 ((z, 2, z + 1) :: mF (z + 1) 7 ff)
def tS1 (z : Nat) (sh : List (Nat × Nat × Nat)) : Nat → List (Nat × Nat × Nat)
  | 0 => tS0 z sh
  | i + 1 => (z + 21 + 2 * i + 1, 40, 400) :: (z + 21 + 2 * i, 3, 0) :: tS1 z sh i
def tF1 (z : Nat) (ff : List (Nat × Nat × Nat)) : Nat → List (Nat × Nat × Nat)
  | 0 => tF0 z ff
  | i + 1 => (z + 17, i, z + 21 + 2 * i) :: (z + 21 + 2 * i, 0, z + 21 + 2 * i + 1) :: tF1 z ff i
theorem tS1_z (z : Nat) (sh : List (Nat × Nat × Nat)) : ∀ i, lkS (tS1 z sh i) z = some (8, 0)
  | 0 => by
    rw [tS1, tS0]
    rw [lkS_t (by omega), lkS_t (by omega), lkS_t (by omega), lkS_t (by omega), lkS_t (by omega)]
    simp only [mS]
    rw [lkS_t (by omega), lkS_t (by omega), lkS_t (by omega), lkS_t (by omega), lkS_t (by omega), lkS_t (by omega), lkS_t (by omega), lkS_t (by omega), lkS_t (by omega), lkS_t (by omega), lkS_t (by omega), lkS_t (by omega), lkS_t (by omega), lkS_t (by omega), lkS_t (by omega), lkS_h]
  | i + 1 => by
    rw [tS1]
    rw [lkS_t (by omega), lkS_t (by omega)]
    exact tS1_z z sh i
theorem tS1_17 (z : Nat) (sh : List (Nat × Nat × Nat)) : ∀ i, lkS (tS1 z sh i) (z + 17) = some (46, 4)
  | 0 => by
    rw [tS1, tS0]
    rw [lkS_t (by omega), lkS_t (by omega), lkS_t (by omega), lkS_h]
  | i + 1 => by
    rw [tS1]
    rw [lkS_t (by omega), lkS_t (by omega)]
    exact tS1_17 z sh i
theorem tF1_5 (z : Nat) (ff : List (Nat × Nat × Nat)) : ∀ i, lkF (tF1 z ff i) z 5 = some (z + 17)
  | 0 => by
    rw [tF1, tF0]
    rw [lkF_t (by omega), lkF_t (by omega), lkF_t (by omega), lkF_h]
  | i + 1 => by
    rw [tF1]
    rw [lkF_t (by omega), lkF_t (by omega)]
    exact tF1_5 z ff i
theorem n_Text {o z u : Nat} {M N : XM} {sh ff : List (Nat × Nat × Nat)} {g : Nat → Int32} {jj : Nat → Nat → Int64} {Q : Option Value → XM → Prop} (h : NI o M z u sh ff g jj N) (h16 : 16 ≤ z) (hj : ∀ b, z ≤ b → b < z + 29 → jj b = fun _ => 0)
    (hQ : ∀ M' : XM, NI o M (z + 29) (u + 1738) (tS1 z sh 4) (tF1 z ff 4) g jj M' → Q none M') :
    RG xprog 15 0 [some (.ref z), none] [] (xnew N 8 0 10) Q := by
  have oz := h.oz
  refine n_Text0 h h16 (fun b q1 q2 => hj b (by omega) (by omega)) ?_
  intro N1 h1
  have loop : ∀ j i (N2 : XM), i + j = 4 → NI o M (z + 21 + 2 * i) (u + 130 + 402 * i) (tS1 z sh i) (tF1 z ff i) g jj N2 → RG xprog 15 67 [some (.ref z), some (.int (nI i))] [] N2 Q := by
    intro j
    induction j with
    | zero =>
      intro i N2 hi h2
      have : i = 4 := by omega
      subst this
      rw [B_15_67]
      simp (disch := omega) only [lAdd, addL, lMul, mulL, nMul, nI_add, subL, lSub, nSub, nDec, nCl, lCl, nVp, lVp, nLe, nLt, nEq, lLe, leL, lLt, ltL, eqL, lEq, nM1, nM2, litLt0, one01, zero01, oneNe0, xupE, xupA, xupK, xI_I, xS_I, xF_I, xJ_I, xI_R, xS_R, xF_R, xJ_R, xI_L, xS_L, xF_L, xJ_L, xcat_s, le46, ge16, or_true, true_or, false_or, or_false, eq_self, Option.toList_some, Option.toList_none, List.cons_append, List.nil_append, true_and, and_true, not_false_eq_true, not_true_eq_false, if_true, if_false, if_pos]
      exact hQ N2 h2
    | succ j ih =>
      intro i N2 hi h2
      have s1 : xS (xnew N2 3 0 2) (z + 21 + 2 * i) = (3, 0) := (h2.new 3 0 2 (hj _ (by omega) (by omega))).Sz
      rw [B_15_67, h2.hz, h2.S z (8, 0) (tS1_z z sh i), h2.F z 5 (z + 17) (tF1_5 z ff i)]
      simp (disch := omega) only [lAdd, addL, lMul, mulL, nMul, nI_add, subL, lSub, nSub, nDec, nCl, lCl, nVp, lVp, nLe, nLt, nEq, lLe, leL, lLt, ltL, eqL, lEq, nM1, nM2, litLt0, one01, zero01, oneNe0, xupE, xupA, xupK, xI_I, xS_I, xF_I, xJ_I, xI_R, xS_R, xF_R, xJ_R, xI_L, xS_L, xF_L, xJ_L, xcat_s, le46, ge16, or_true, true_or, false_or, or_false, eq_self, Option.toList_some, Option.toList_none, List.cons_append, List.nil_append, true_and, and_true, not_false_eq_true, not_true_eq_false, if_true, if_false, if_neg]
      rw [B_15_80, s1]
      refine ⟨⟨rfl, by omega⟩, ?_⟩
      refine n_Law h2 (by omega) (fun b q1 q2 => hj b (by omega) (by omega)) ?_
      intro N3 h3
      simp (disch := omega) only [lAdd, addL, lMul, mulL, nMul, nI_add, subL, lSub, nSub, nDec, nCl, lCl, nVp, lVp, nLe, nLt, nEq, lLe, leL, lLt, ltL, eqL, lEq, nM1, nM2, litLt0, one01, zero01, oneNe0, xupE, xupA, xupK, xI_I, xS_I, xF_I, xJ_I, xI_R, xS_R, xF_R, xJ_R, xI_L, xS_L, xF_L, xJ_L, xcat_s, le46, ge16, or_true, true_or, false_or, or_false, eq_self, Option.toList_some, Option.toList_none, List.cons_append, List.nil_append, true_and, and_true, not_false_eq_true, not_true_eq_false, if_true, if_false]
      have e1 : xS N3 (z + 17) = (46, 4) := h3.S (z + 17) (46, 4) (by rw [lkS_t (by omega), lkS_t (by omega)]; exact tS1_17 z sh i)
      have e2 : xS N3 (z + 21 + 2 * i) = (3, 0) := h3.S _ (3, 0) (by rw [lkS_t (by omega), lkS_h])
      have h4 := h3.put (a := z + 17) i (z + 21 + 2 * i) (by omega) (by omega)
      rw [B_15_84]
      simp (disch := omega) only [e1, e2, lAdd, addL, lMul, mulL, nMul, nI_add, subL, lSub, nSub, nDec, nCl, lCl, nVp, lVp, nLe, nLt, nEq, lLe, leL, lLt, ltL, eqL, lEq, nM1, nM2, litLt0, one01, zero01, oneNe0, xupE, xupA, xupK, xI_I, xS_I, xF_I, xJ_I, xI_R, xS_R, xF_R, xJ_R, xI_L, xS_L, xF_L, xJ_L, xcat_s, le46, ge16, or_true, true_or, false_or, or_false, eq_self, Option.toList_some, Option.toList_none, List.cons_append, List.nil_append, true_and, and_true, not_false_eq_true, not_true_eq_false, if_true, if_false]
      refine ih (i + 1) _ (by omega) ?_
      rw [show z + 21 + 2 * (i + 1) = z + 21 + 2 * i + 2 by omega, show u + 130 + 402 * (i + 1) = u + 130 + 402 * i + 402 by omega]
      exact h4
  exact loop 4 0 N1 (by omega) h1
def hS1 (z : Nat) (sh : List (Nat × Nat × Nat)) : Nat → List (Nat × Nat × Nat)
  | 0 => (z + 1, 45, 40) :: (z, 2, 0) :: sh
  | i + 1 => (z + 2 + 7 * i + 6, 40, 6) :: (z + 2 + 7 * i + 5, 40, 6) :: (z + 2 + 7 * i + 4, 40, 6) :: (z + 2 + 7 * i + 3, 40, 7) :: (z + 2 + 7 * i + 2, 40, 7) :: (z + 2 + 7 * i + 1, 40, 7) :: (z + 2 + 7 * i, 5, 0) :: hS1 z sh i
def hF1 (z : Nat) (ff : List (Nat × Nat × Nat)) : Nat → List (Nat × Nat × Nat)
  | 0 => (z, 0, z + 1) :: ff
  | i + 1 => (z + 1, i, z + 2 + 7 * i) :: (z + 2 + 7 * i, 6, z + 2 + 7 * i + 6) :: (z + 2 + 7 * i, 5, z + 2 + 7 * i + 5) :: (z + 2 + 7 * i, 4, z + 2 + 7 * i + 4) :: (z + 2 + 7 * i, 3, z + 2 + 7 * i + 3) :: (z + 2 + 7 * i, 2, z + 2 + 7 * i + 2) :: (z + 2 + 7 * i, 1, z + 2 + 7 * i + 1) :: hF1 z ff i
theorem hS1_z (z : Nat) (sh : List (Nat × Nat × Nat)) : ∀ i, lkS (hS1 z sh i) z = some (2, 0)
  | 0 => by
    rw [hS1]
    rw [lkS_t (by omega), lkS_h]
  | i + 1 => by
    rw [hS1]
    rw [lkS_t (by omega), lkS_t (by omega), lkS_t (by omega), lkS_t (by omega), lkS_t (by omega), lkS_t (by omega), lkS_t (by omega)]
    exact hS1_z z sh i
theorem hS1_1 (z : Nat) (sh : List (Nat × Nat × Nat)) : ∀ i, lkS (hS1 z sh i) (z + 1) = some (45, 40)
  | 0 => by
    rw [hS1]
    rw [lkS_h]
  | i + 1 => by
    rw [hS1]
    rw [lkS_t (by omega), lkS_t (by omega), lkS_t (by omega), lkS_t (by omega), lkS_t (by omega), lkS_t (by omega), lkS_t (by omega)]
    exact hS1_1 z sh i
theorem hF1_0 (z : Nat) (ff : List (Nat × Nat × Nat)) : ∀ i, lkF (hF1 z ff i) z 0 = some (z + 1)
  | 0 => by
    rw [hF1]
    rw [lkF_h]
  | i + 1 => by
    rw [hF1]
    rw [lkF_t (by omega), lkF_t (by omega), lkF_t (by omega), lkF_t (by omega), lkF_t (by omega), lkF_t (by omega), lkF_t (by omega)]
    exact hF1_0 z ff i
theorem n_History {o z u : Nat} {M N : XM} {sh ff : List (Nat × Nat × Nat)} {g : Nat → Int32} {jj : Nat → Nat → Int64} {Q : Option Value → XM → Prop} (h : NI o M z u sh ff g jj N) (h16 : 16 ≤ z) (hj : ∀ b, z ≤ b → b < z + 282 → jj b = fun _ => 0)
    (hQ : ∀ M' : XM, NI o M (z + 282) (u + 1883) (hS1 z sh 40) (hF1 z ff 40) g jj M' → Q none M') :
    RG xprog 17 0 [some (.ref z), none] [] (xnew N 2 0 3) Q := by
  have oz := h.oz
  refine n_History0 h h16 (fun b q1 q2 => hj b (by omega) (by omega)) ?_
  intro N1 h1
  have loop : ∀ j i (N2 : XM), i + j = 40 → NI o M (z + 2 + 7 * i) (u + 43 + 46 * i) (hS1 z sh i) (hF1 z ff i) g jj N2 → RG xprog 17 15 [some (.ref z), some (.int (nI i))] [] N2 Q := by
    intro j
    induction j with
    | zero =>
      intro i N2 hi h2
      have : i = 40 := by omega
      subst this
      rw [B_17_15]
      simp (disch := omega) only [lAdd, addL, lMul, mulL, nMul, nI_add, subL, lSub, nSub, nDec, nCl, lCl, nVp, lVp, nLe, nLt, nEq, lLe, leL, lLt, ltL, eqL, lEq, nM1, nM2, litLt0, one01, zero01, oneNe0, xupE, xupA, xupK, xI_I, xS_I, xF_I, xJ_I, xI_R, xS_R, xF_R, xJ_R, xI_L, xS_L, xF_L, xJ_L, xcat_s, le46, ge16, or_true, true_or, false_or, or_false, eq_self, Option.toList_some, Option.toList_none, List.cons_append, List.nil_append, true_and, and_true, not_false_eq_true, not_true_eq_false, if_true, if_false, if_pos]
      exact hQ N2 h2
    | succ j ih =>
      intro i N2 hi h2
      have s1 : xS (xnew N2 5 0 7) (z + 2 + 7 * i) = (5, 0) := (h2.new 5 0 7 (hj _ (by omega) (by omega))).Sz
      rw [B_17_15, h2.hz, h2.S z (2, 0) (hS1_z z sh i), h2.F z 0 (z + 1) (hF1_0 z ff i)]
      simp (disch := omega) only [lAdd, addL, lMul, mulL, nMul, nI_add, subL, lSub, nSub, nDec, nCl, lCl, nVp, lVp, nLe, nLt, nEq, lLe, leL, lLt, ltL, eqL, lEq, nM1, nM2, litLt0, one01, zero01, oneNe0, xupE, xupA, xupK, xI_I, xS_I, xF_I, xJ_I, xI_R, xS_R, xF_R, xJ_R, xI_L, xS_L, xF_L, xJ_L, xcat_s, le46, ge16, or_true, true_or, false_or, or_false, eq_self, Option.toList_some, Option.toList_none, List.cons_append, List.nil_append, true_and, and_true, not_false_eq_true, not_true_eq_false, if_true, if_false, if_neg]
      rw [B_17_29, s1]
      refine ⟨⟨rfl, by omega⟩, ?_⟩
      refine n_Office h2 (by omega) (fun b q1 q2 => hj b (by omega) (by omega)) ?_
      intro N3 h3
      simp (disch := omega) only [lAdd, addL, lMul, mulL, nMul, nI_add, subL, lSub, nSub, nDec, nCl, lCl, nVp, lVp, nLe, nLt, nEq, lLe, leL, lLt, ltL, eqL, lEq, nM1, nM2, litLt0, one01, zero01, oneNe0, xupE, xupA, xupK, xI_I, xS_I, xF_I, xJ_I, xI_R, xS_R, xF_R, xJ_R, xI_L, xS_L, xF_L, xJ_L, xcat_s, le46, ge16, or_true, true_or, false_or, or_false, eq_self, Option.toList_some, Option.toList_none, List.cons_append, List.nil_append, true_and, and_true, not_false_eq_true, not_true_eq_false, if_true, if_false]
      have e1 : xS N3 (z + 1) = (45, 40) := h3.S (z + 1) (45, 40) (by rw [lkS_t (by omega), lkS_t (by omega), lkS_t (by omega), lkS_t (by omega), lkS_t (by omega), lkS_t (by omega), lkS_t (by omega)]; exact hS1_1 z sh i)
      have e2 : xS N3 (z + 2 + 7 * i) = (5, 0) := h3.S _ (5, 0) (by rw [lkS_t (by omega), lkS_t (by omega), lkS_t (by omega), lkS_t (by omega), lkS_t (by omega), lkS_t (by omega), lkS_h])
      have h4 := h3.put (a := z + 1) i (z + 2 + 7 * i) (by omega) (by omega)
      rw [B_17_33]
      simp (disch := omega) only [e1, e2, lAdd, addL, lMul, mulL, nMul, nI_add, subL, lSub, nSub, nDec, nCl, lCl, nVp, lVp, nLe, nLt, nEq, lLe, leL, lLt, ltL, eqL, lEq, nM1, nM2, litLt0, one01, zero01, oneNe0, xupE, xupA, xupK, xI_I, xS_I, xF_I, xJ_I, xI_R, xS_R, xF_R, xJ_R, xI_L, xS_L, xF_L, xJ_L, xcat_s, le46, ge16, or_true, true_or, false_or, or_false, eq_self, Option.toList_some, Option.toList_none, List.cons_append, List.nil_append, true_and, and_true, not_false_eq_true, not_true_eq_false, if_true, if_false]
      exact ih (i + 1) _ (by omega) h4
  exact loop 40 0 N1 (by omega) h1
