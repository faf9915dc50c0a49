/-! constructors: objects that only make their rows -/
theorem n_Tape {o z u : Nat} {M N : XM} {sh ff : List (Nat × Nat × Nat)} {g : Nat → Int32} {jj : Nat → Nat → Int64} {Q : Option Value → XM → Prop} (h : NI o M z u sh ff g jj N) (h16 : 16 ≤ z) (hj : ∀ b, z ≤ b → b < z + 2 → jj b = fun _ => 0)
    (hQ : ∀ M' : XM, NI o M (z + 2) (u + 2002) ((z + 1, 41, 2000) :: (z, 7, 0) :: sh) ((z, 0, z + 1) :: ff) g jj M' → Q none M') :
    RG xprog 1 0 [some (.ref z)] [] (xnew N 7 0 2) Q := by
  have oz := h.oz
  have h0 : NI o M (z + 1) (u + 2) ((z, 7, 0) :: sh) ff g jj (xnew N 7 0 2) := h.new 7 0 2 (hj z (by omega) (by omega))
  have s0 : xS (xnew N 7 0 2) z = (7, 0) := h0.Sz
  generalize xnew N 7 0 2 = N0 at h0 s0 ⊢
  rw [B_1_0, s0, h0.hz]
  refine ⟨⟨by decide, h16⟩, ?_⟩
  refine ⟨⟨by decide, by decide⟩, ?_⟩
  rw [show Int32.toNatClampNeg (2000 : Int32) = 2000 by decide]
  have k0 : NI o M (z + 2) (u + 2002) ((z + 1, 41, 2000) :: (z, 7, 0) :: sh) (ff) g jj (xnew N0 41 2000 2000) := h0.new 41 2000 2000 (hj _ (by omega) (by omega))
  have t0 : xS (xnew N0 41 2000 2000) z = (7, 0) := by rw [xS_new, h0.hz, if_neg (by omega)]; exact s0
  generalize xnew N0 41 2000 2000 = K0 at k0 t0 ⊢
  rw [B_1_10, t0]
  refine ⟨⟨rfl, h16⟩, ?_⟩
  have h1 := k0.put (a := z) 0 (z + 1) (by omega) (by omega)
  have s1 : xS (xmR K0 z 0 (z + 1)) z = (7, 0) := t0
  generalize xmR K0 z 0 (z + 1) = N1 at h1 s1 ⊢
  exact hQ _ h1
theorem n_Law {o z u : Nat} {M N : XM} {sh ff : List (Nat × Nat × Nat)} {g : Nat → Int32} {jj : Nat → Nat → Int64} {Q : Option Value → XM → Prop} (h : NI o M z u sh ff g jj N) (h16 : 16 ≤ z) (hj : ∀ b, z ≤ b → b < z + 2 → jj b = fun _ => 0)
    (hQ : ∀ M' : XM, NI o M (z + 2) (u + 402) ((z + 1, 40, 400) :: (z, 3, 0) :: sh) ((z, 0, z + 1) :: ff) g jj M' → Q none M') :
    RG xprog 12 0 [some (.ref z)] [] (xnew N 3 0 2) Q := by
  have oz := h.oz
  have h0 : NI o M (z + 1) (u + 2) ((z, 3, 0) :: sh) ff g jj (xnew N 3 0 2) := h.new 3 0 2 (hj z (by omega) (by omega))
  have s0 : xS (xnew N 3 0 2) z = (3, 0) := h0.Sz
  generalize xnew N 3 0 2 = N0 at h0 s0 ⊢
  rw [B_12_0, s0, h0.hz]
  refine ⟨⟨by decide, h16⟩, ?_⟩
  refine ⟨⟨by decide, by decide⟩, ?_⟩
  rw [show Int32.toNatClampNeg (400 : Int32) = 400 by decide]
  have k0 : NI o M (z + 2) (u + 402) ((z + 1, 40, 400) :: (z, 3, 0) :: sh) (ff) g jj (xnew N0 40 400 400) := h0.new 40 400 400 (hj _ (by omega) (by omega))
  have t0 : xS (xnew N0 40 400 400) z = (3, 0) := by rw [xS_new, h0.hz, if_neg (by omega)]; exact s0
  generalize xnew N0 40 400 400 = K0 at k0 t0 ⊢
  rw [B_12_10, t0]
  refine ⟨⟨rfl, h16⟩, ?_⟩
  have h1 := k0.put (a := z) 0 (z + 1) (by omega) (by omega)
  have s1 : xS (xmR K0 z 0 (z + 1)) z = (3, 0) := t0
  generalize xmR K0 z 0 (z + 1) = N1 at h1 s1 ⊢
  exact hQ _ h1
theorem n_Office {o z u : Nat} {M N : XM} {sh ff : List (Nat × Nat × Nat)} {g : Nat → Int32} {jj : Nat → Nat → Int64} {Q : Option Value → XM → Prop} (h : NI o M z u sh ff g jj N) (h16 : 16 ≤ z) (hj : ∀ b, z ≤ b → b < z + 7 → jj b = fun _ => 0)
    (hQ : ∀ M' : XM, NI o M (z + 7) (u + 46) ((z + 6, 40, 6) :: (z + 5, 40, 6) :: (z + 4, 40, 6) :: (z + 3, 40, 7) :: (z + 2, 40, 7) :: (z + 1, 40, 7) :: (z, 5, 0) :: sh) ((z, 6, z + 6) :: (z, 5, z + 5) :: (z, 4, z + 4) :: (z, 3, z + 3) :: (z, 2, z + 2) :: (z, 1, z + 1) :: ff) g jj M' → Q none M') :
    RG xprog 16 0 [some (.ref z)] [] (xnew N 5 0 7) Q := by
  have oz := h.oz
  have h0 : NI o M (z + 1) (u + 7) ((z, 5, 0) :: sh) ff g jj (xnew N 5 0 7) := h.new 5 0 7 (hj z (by omega) (by omega))
  have s0 : xS (xnew N 5 0 7) z = (5, 0) := h0.Sz
  generalize xnew N 5 0 7 = N0 at h0 s0 ⊢
  rw [B_16_0, s0, h0.hz]
  refine ⟨⟨by decide, h16⟩, ?_⟩
  refine ⟨⟨by decide, by decide⟩, ?_⟩
  rw [show Int32.toNatClampNeg (7 : Int32) = 7 by decide]
  have k0 : NI o M (z + 2) (u + 14) ((z + 1, 40, 7) :: (z, 5, 0) :: sh) (ff) g jj (xnew N0 40 7 7) := h0.new 40 7 7 (hj _ (by omega) (by omega))
  have t0 : xS (xnew N0 40 7 7) z = (5, 0) := by rw [xS_new, h0.hz, if_neg (by omega)]; exact s0
  generalize xnew N0 40 7 7 = K0 at k0 t0 ⊢
  rw [B_16_9, t0]
  refine ⟨⟨rfl, h16⟩, ?_⟩
  have h1 := k0.put (a := z) 1 (z + 1) (by omega) (by omega)
  have s1 : xS (xmR K0 z 1 (z + 1)) z = (5, 0) := t0
  generalize xmR K0 z 1 (z + 1) = N1 at h1 s1 ⊢
  rw [h1.hz]
  refine ⟨⟨by decide, by decide⟩, ?_⟩
  rw [show Int32.toNatClampNeg (7 : Int32) = 7 by decide]
  have k1 : NI o M (z + 3) (u + 21) ((z + 2, 40, 7) :: (z + 1, 40, 7) :: (z, 5, 0) :: sh) ((z, 1, z + 1) :: ff) g jj (xnew N1 40 7 7) := h1.new 40 7 7 (hj _ (by omega) (by omega))
  have t1 : xS (xnew N1 40 7 7) z = (5, 0) := by rw [xS_new, h1.hz, if_neg (by omega)]; exact s1
  generalize xnew N1 40 7 7 = K1 at k1 t1 ⊢
  rw [B_16_17, t1]
  refine ⟨⟨rfl, h16⟩, ?_⟩
  have h2 := k1.put (a := z) 2 (z + 2) (by omega) (by omega)
  have s2 : xS (xmR K1 z 2 (z + 2)) z = (5, 0) := t1
  generalize xmR K1 z 2 (z + 2) = N2 at h2 s2 ⊢
  rw [h2.hz]
  refine ⟨⟨by decide, by decide⟩, ?_⟩
  rw [show Int32.toNatClampNeg (7 : Int32) = 7 by decide]
  have k2 : NI o M (z + 4) (u + 28) ((z + 3, 40, 7) :: (z + 2, 40, 7) :: (z + 1, 40, 7) :: (z, 5, 0) :: sh) ((z, 2, z + 2) :: (z, 1, z + 1) :: ff) g jj (xnew N2 40 7 7) := h2.new 40 7 7 (hj _ (by omega) (by omega))
  have t2 : xS (xnew N2 40 7 7) z = (5, 0) := by rw [xS_new, h2.hz, if_neg (by omega)]; exact s2
  generalize xnew N2 40 7 7 = K2 at k2 t2 ⊢
  rw [B_16_25, t2]
  refine ⟨⟨rfl, h16⟩, ?_⟩
  have h3 := k2.put (a := z) 3 (z + 3) (by omega) (by omega)
  have s3 : xS (xmR K2 z 3 (z + 3)) z = (5, 0) := t2
  generalize xmR K2 z 3 (z + 3) = N3 at h3 s3 ⊢
  rw [h3.hz]
  refine ⟨⟨by decide, by decide⟩, ?_⟩
  rw [show Int32.toNatClampNeg (6 : Int32) = 6 by decide]
  have k3 : NI o M (z + 5) (u + 34) ((z + 4, 40, 6) :: (z + 3, 40, 7) :: (z + 2, 40, 7) :: (z + 1, 40, 7) :: (z, 5, 0) :: sh) ((z, 3, z + 3) :: (z, 2, z + 2) :: (z, 1, z + 1) :: ff) g jj (xnew N3 40 6 6) := h3.new 40 6 6 (hj _ (by omega) (by omega))
  have t3 : xS (xnew N3 40 6 6) z = (5, 0) := by rw [xS_new, h3.hz, if_neg (by omega)]; exact s3
  generalize xnew N3 40 6 6 = K3 at k3 t3 ⊢
  rw [B_16_33, t3]
  refine ⟨⟨rfl, h16⟩, ?_⟩
  have h4 := k3.put (a := z) 4 (z + 4) (by omega) (by omega)
  have s4 : xS (xmR K3 z 4 (z + 4)) z = (5, 0) := t3
  generalize xmR K3 z 4 (z + 4) = N4 at h4 s4 ⊢
  rw [h4.hz]
  refine ⟨⟨by decide, by decide⟩, ?_⟩
  rw [show Int32.toNatClampNeg (6 : Int32) = 6 by decide]
  have k4 : NI o M (z + 6) (u + 40) ((z + 5, 40, 6) :: (z + 4, 40, 6) :: (z + 3, 40, 7) :: (z + 2, 40, 7) :: (z + 1, 40, 7) :: (z, 5, 0) :: sh) ((z, 4, z + 4) :: (z, 3, z + 3) :: (z, 2, z + 2) :: (z, 1, z + 1) :: ff) g jj (xnew N4 40 6 6) := h4.new 40 6 6 (hj _ (by omega) (by omega))
  have t4 : xS (xnew N4 40 6 6) z = (5, 0) := by rw [xS_new, h4.hz, if_neg (by omega)]; exact s4
  generalize xnew N4 40 6 6 = K4 at k4 t4 ⊢
  rw [B_16_41, t4]
  refine ⟨⟨rfl, h16⟩, ?_⟩
  have h5 := k4.put (a := z) 5 (z + 5) (by omega) (by omega)
  have s5 : xS (xmR K4 z 5 (z + 5)) z = (5, 0) := t4
  generalize xmR K4 z 5 (z + 5) = N5 at h5 s5 ⊢
  rw [h5.hz]
  refine ⟨⟨by decide, by decide⟩, ?_⟩
  rw [show Int32.toNatClampNeg (6 : Int32) = 6 by decide]
  have k5 : NI o M (z + 7) (u + 46) ((z + 6, 40, 6) :: (z + 5, 40, 6) :: (z + 4, 40, 6) :: (z + 3, 40, 7) :: (z + 2, 40, 7) :: (z + 1, 40, 7) :: (z, 5, 0) :: sh) ((z, 5, z + 5) :: (z, 4, z + 4) :: (z, 3, z + 3) :: (z, 2, z + 2) :: (z, 1, z + 1) :: ff) g jj (xnew N5 40 6 6) := h5.new 40 6 6 (hj _ (by omega) (by omega))
  have t5 : xS (xnew N5 40 6 6) z = (5, 0) := by rw [xS_new, h5.hz, if_neg (by omega)]; exact s5
  generalize xnew N5 40 6 6 = K5 at k5 t5 ⊢
  rw [B_16_49, t5]
  refine ⟨⟨rfl, h16⟩, ?_⟩
  have h6 := k5.put (a := z) 6 (z + 6) (by omega) (by omega)
  have s6 : xS (xmR K5 z 6 (z + 6)) z = (5, 0) := t5
  generalize xmR K5 z 6 (z + 6) = N6 at h6 s6 ⊢
  exact hQ _ h6
theorem n_Told {o z u : Nat} {M N : XM} {sh ff : List (Nat × Nat × Nat)} {g : Nat → Int32} {jj : Nat → Nat → Int64} {Q : Option Value → XM → Prop} (h : NI o M z u sh ff g jj N) (h16 : 16 ≤ z) (hj : ∀ b, z ≤ b → b < z + 4 → jj b = fun _ => 0)
    (hQ : ∀ M' : XM, NI o M (z + 4) (u + 64) ((z + 3, 42, 20) :: (z + 2, 40, 20) :: (z + 1, 40, 20) :: (z, 10, 0) :: sh) ((z, 2, z + 3) :: (z, 1, z + 2) :: (z, 0, z + 1) :: ff) g jj M' → Q none M') :
    RG xprog 18 0 [some (.ref z)] [] (xnew N 10 0 4) Q := by
  have oz := h.oz
  have h0 : NI o M (z + 1) (u + 4) ((z, 10, 0) :: sh) ff g jj (xnew N 10 0 4) := h.new 10 0 4 (hj z (by omega) (by omega))
  have s0 : xS (xnew N 10 0 4) z = (10, 0) := h0.Sz
  generalize xnew N 10 0 4 = N0 at h0 s0 ⊢
  rw [B_18_0, s0, h0.hz]
  refine ⟨⟨by decide, h16⟩, ?_⟩
  refine ⟨⟨by decide, by decide⟩, ?_⟩
  rw [show Int32.toNatClampNeg (20 : Int32) = 20 by decide]
  have k0 : NI o M (z + 2) (u + 24) ((z + 1, 40, 20) :: (z, 10, 0) :: sh) (ff) g jj (xnew N0 40 20 20) := h0.new 40 20 20 (hj _ (by omega) (by omega))
  have t0 : xS (xnew N0 40 20 20) z = (10, 0) := by rw [xS_new, h0.hz, if_neg (by omega)]; exact s0
  generalize xnew N0 40 20 20 = K0 at k0 t0 ⊢
  rw [B_18_9, t0]
  refine ⟨⟨rfl, h16⟩, ?_⟩
  have h1 := k0.put (a := z) 0 (z + 1) (by omega) (by omega)
  have s1 : xS (xmR K0 z 0 (z + 1)) z = (10, 0) := t0
  generalize xmR K0 z 0 (z + 1) = N1 at h1 s1 ⊢
  rw [h1.hz]
  refine ⟨⟨by decide, by decide⟩, ?_⟩
  rw [show Int32.toNatClampNeg (20 : Int32) = 20 by decide]
  have k1 : NI o M (z + 3) (u + 44) ((z + 2, 40, 20) :: (z + 1, 40, 20) :: (z, 10, 0) :: sh) ((z, 0, z + 1) :: ff) g jj (xnew N1 40 20 20) := h1.new 40 20 20 (hj _ (by omega) (by omega))
  have t1 : xS (xnew N1 40 20 20) z = (10, 0) := by rw [xS_new, h1.hz, if_neg (by omega)]; exact s1
  generalize xnew N1 40 20 20 = K1 at k1 t1 ⊢
  rw [B_18_17, t1]
  refine ⟨⟨rfl, h16⟩, ?_⟩
  have h2 := k1.put (a := z) 1 (z + 2) (by omega) (by omega)
  have s2 : xS (xmR K1 z 1 (z + 2)) z = (10, 0) := t1
  generalize xmR K1 z 1 (z + 2) = N2 at h2 s2 ⊢
  rw [h2.hz]
  refine ⟨⟨by decide, by decide⟩, ?_⟩
  rw [show Int32.toNatClampNeg (20 : Int32) = 20 by decide]
  have k2 : NI o M (z + 4) (u + 64) ((z + 3, 42, 20) :: (z + 2, 40, 20) :: (z + 1, 40, 20) :: (z, 10, 0) :: sh) ((z, 1, z + 2) :: (z, 0, z + 1) :: ff) g jj (xnew N2 42 20 20) := h2.new 42 20 20 (hj _ (by omega) (by omega))
  have t2 : xS (xnew N2 42 20 20) z = (10, 0) := by rw [xS_new, h2.hz, if_neg (by omega)]; exact s2
  generalize xnew N2 42 20 20 = K2 at k2 t2 ⊢
  rw [B_18_25, t2]
  refine ⟨⟨rfl, h16⟩, ?_⟩
  have h3 := k2.put (a := z) 2 (z + 3) (by omega) (by omega)
  have s3 : xS (xmR K2 z 2 (z + 3)) z = (10, 0) := t2
  generalize xmR K2 z 2 (z + 3) = N3 at h3 s3 ⊢
  exact hQ _ h3
theorem n_Answering {o z u : Nat} {M N : XM} {sh ff : List (Nat × Nat × Nat)} {g : Nat → Int32} {jj : Nat → Nat → Int64} {Q : Option Value → XM → Prop} (h : NI o M z u sh ff g jj N) (h16 : 16 ≤ z) (hj : ∀ b, z ≤ b → b < z + 4 → jj b = fun _ => 0)
    (hQ : ∀ M' : XM, NI o M (z + 4) (u + 25) ((z + 3, 40, 7) :: (z + 2, 40, 7) :: (z + 1, 40, 7) :: (z, 0, 0) :: sh) ((z, 2, z + 3) :: (z, 1, z + 2) :: (z, 0, z + 1) :: ff) g jj M' → Q none M') :
    RG xprog 20 0 [some (.ref z)] [] (xnew N 0 0 4) Q := by
  have oz := h.oz
  have h0 : NI o M (z + 1) (u + 4) ((z, 0, 0) :: sh) ff g jj (xnew N 0 0 4) := h.new 0 0 4 (hj z (by omega) (by omega))
  have s0 : xS (xnew N 0 0 4) z = (0, 0) := h0.Sz
  generalize xnew N 0 0 4 = N0 at h0 s0 ⊢
  rw [B_20_0, s0, h0.hz]
  refine ⟨⟨by decide, h16⟩, ?_⟩
  refine ⟨⟨by decide, by decide⟩, ?_⟩
  rw [show Int32.toNatClampNeg (7 : Int32) = 7 by decide]
  have k0 : NI o M (z + 2) (u + 11) ((z + 1, 40, 7) :: (z, 0, 0) :: sh) (ff) g jj (xnew N0 40 7 7) := h0.new 40 7 7 (hj _ (by omega) (by omega))
  have t0 : xS (xnew N0 40 7 7) z = (0, 0) := by rw [xS_new, h0.hz, if_neg (by omega)]; exact s0
  generalize xnew N0 40 7 7 = K0 at k0 t0 ⊢
  rw [B_20_9, t0]
  refine ⟨⟨rfl, h16⟩, ?_⟩
  have h1 := k0.put (a := z) 0 (z + 1) (by omega) (by omega)
  have s1 : xS (xmR K0 z 0 (z + 1)) z = (0, 0) := t0
  generalize xmR K0 z 0 (z + 1) = N1 at h1 s1 ⊢
  rw [h1.hz]
  refine ⟨⟨by decide, by decide⟩, ?_⟩
  rw [show Int32.toNatClampNeg (7 : Int32) = 7 by decide]
  have k1 : NI o M (z + 3) (u + 18) ((z + 2, 40, 7) :: (z + 1, 40, 7) :: (z, 0, 0) :: sh) ((z, 0, z + 1) :: ff) g jj (xnew N1 40 7 7) := h1.new 40 7 7 (hj _ (by omega) (by omega))
  have t1 : xS (xnew N1 40 7 7) z = (0, 0) := by rw [xS_new, h1.hz, if_neg (by omega)]; exact s1
  generalize xnew N1 40 7 7 = K1 at k1 t1 ⊢
  rw [B_20_17, t1]
  refine ⟨⟨rfl, h16⟩, ?_⟩
  have h2 := k1.put (a := z) 1 (z + 2) (by omega) (by omega)
  have s2 : xS (xmR K1 z 1 (z + 2)) z = (0, 0) := t1
  generalize xmR K1 z 1 (z + 2) = N2 at h2 s2 ⊢
  rw [h2.hz]
  refine ⟨⟨by decide, by decide⟩, ?_⟩
  rw [show Int32.toNatClampNeg (7 : Int32) = 7 by decide]
  have k2 : NI o M (z + 4) (u + 25) ((z + 3, 40, 7) :: (z + 2, 40, 7) :: (z + 1, 40, 7) :: (z, 0, 0) :: sh) ((z, 1, z + 2) :: (z, 0, z + 1) :: ff) g jj (xnew N2 40 7 7) := h2.new 40 7 7 (hj _ (by omega) (by omega))
  have t2 : xS (xnew N2 40 7 7) z = (0, 0) := by rw [xS_new, h2.hz, if_neg (by omega)]; exact s2
  generalize xnew N2 40 7 7 = K2 at k2 t2 ⊢
  rw [B_20_25, t2]
  refine ⟨⟨rfl, h16⟩, ?_⟩
  have h3 := k2.put (a := z) 2 (z + 3) (by omega) (by omega)
  have s3 : xS (xmR K2 z 2 (z + 3)) z = (0, 0) := t2
  generalize xmR K2 z 2 (z + 3) = N3 at h3 s3 ⊢
  exact hQ _ h3
theorem n_Dealing {o z u : Nat} {M N : XM} {sh ff : List (Nat × Nat × Nat)} {g : Nat → Int32} {jj : Nat → Nat → Int64} {Q : Option Value → XM → Prop} (h : NI o M z u sh ff g jj N) (h16 : 16 ≤ z) (hj : ∀ b, z ≤ b → b < z + 29 → jj b = fun _ => 0)
    (hQ : ∀ M' : XM, NI o M (z + 29) (u + 645) ((z + 28, 40, 7) :: (z + 27, 40, 6) :: (z + 26, 40, 7) :: mS (z + 18) 7 6 7 (mS (z + 9) 8 64 8 (mS (z + 1) 7 6 7 ((z, 1, 0) :: sh)))) ((z, 5, z + 28) :: (z, 4, z + 27) :: (z, 3, z + 26) :: (z, 2, z + 18) :: mF (z + 18) 7 ((z, 1, z + 9) :: mF (z + 9) 8 ((z, 0, z + 1) :: mF (z + 1) 7 (ff)))) g jj M' → Q none M') :
    RG xprog 19 0 [some (.ref z)] [] (xnew N 1 0 7) Q := by
  have oz := h.oz
  have h0 : NI o M (z + 1) (u + 7) ((z, 1, 0) :: sh) ff g jj (xnew N 1 0 7) := h.new 1 0 7 (hj z (by omega) (by omega))
  have s0 : xS (xnew N 1 0 7) z = (1, 0) := h0.Sz
  generalize xnew N 1 0 7 = N0 at h0 s0 ⊢
  rw [B_19_0, s0, h0.hz]
  refine ⟨⟨by decide, h16⟩, ?_⟩
  refine ⟨⟨⟨by decide, by decide⟩, by decide, by decide⟩, ?_⟩
  rw [show Int32.toNatClampNeg (7 : Int32) = 7 by decide, show Int32.toNatClampNeg (6 : Int32) = 6 by decide]
  have k0 : NI o M (z + 9) (u + 56) (mS (z + 1) 7 6 7 ((z, 1, 0) :: sh)) (mF (z + 1) 7 (ff)) g jj (xmulti N0 7 6) := h0.multi 7 6 (fun b q1 q2 => hj b (by omega) (by omega))
  have t0 : xS (xmulti N0 7 6) z = (1, 0) := by rw [xS_m, h0.hz, if_neg (by omega), if_neg (by omega)]; exact s0
  generalize xmulti N0 7 6 = K0 at k0 t0 ⊢
  rw [B_19_13, t0]
  refine ⟨⟨rfl, h16⟩, ?_⟩
  have h1 := k0.put (a := z) 0 (z + 1) (by omega) (by omega)
  have s1 : xS (xmR K0 z 0 (z + 1)) z = (1, 0) := t0
  generalize xmR K0 z 0 (z + 1) = N1 at h1 s1 ⊢
  rw [h1.hz]
  refine ⟨⟨⟨by decide, by decide⟩, by decide, by decide⟩, ?_⟩
  rw [show Int32.toNatClampNeg (8 : Int32) = 8 by decide, show Int32.toNatClampNeg (64 : Int32) = 64 by decide]
  have k1 : NI o M (z + 18) (u + 576) (mS (z + 9) 8 64 8 (mS (z + 1) 7 6 7 ((z, 1, 0) :: sh))) (mF (z + 9) 8 ((z, 0, z + 1) :: mF (z + 1) 7 (ff))) g jj (xmulti N1 8 64) := h1.multi 8 64 (fun b q1 q2 => hj b (by omega) (by omega))
  have t1 : xS (xmulti N1 8 64) z = (1, 0) := by rw [xS_m, h1.hz, if_neg (by omega), if_neg (by omega)]; exact s1
  generalize xmulti N1 8 64 = K1 at k1 t1 ⊢
  rw [B_19_25, t1]
  refine ⟨⟨rfl, h16⟩, ?_⟩
  have h2 := k1.put (a := z) 1 (z + 9) (by omega) (by omega)
  have s2 : xS (xmR K1 z 1 (z + 9)) z = (1, 0) := t1
  generalize xmR K1 z 1 (z + 9) = N2 at h2 s2 ⊢
  rw [h2.hz]
  refine ⟨⟨⟨by decide, by decide⟩, by decide, by decide⟩, ?_⟩
  rw [show Int32.toNatClampNeg (7 : Int32) = 7 by decide, show Int32.toNatClampNeg (6 : Int32) = 6 by decide]
  have k2 : NI o M (z + 26) (u + 625) (mS (z + 18) 7 6 7 (mS (z + 9) 8 64 8 (mS (z + 1) 7 6 7 ((z, 1, 0) :: sh)))) (mF (z + 18) 7 ((z, 1, z + 9) :: mF (z + 9) 8 ((z, 0, z + 1) :: mF (z + 1) 7 (ff)))) g jj (xmulti N2 7 6) := h2.multi 7 6 (fun b q1 q2 => hj b (by omega) (by omega))
  have t2 : xS (xmulti N2 7 6) z = (1, 0) := by rw [xS_m, h2.hz, if_neg (by omega), if_neg (by omega)]; exact s2
  generalize xmulti N2 7 6 = K2 at k2 t2 ⊢
  rw [B_19_37, t2]
  refine ⟨⟨rfl, h16⟩, ?_⟩
  have h3 := k2.put (a := z) 2 (z + 18) (by omega) (by omega)
  have s3 : xS (xmR K2 z 2 (z + 18)) z = (1, 0) := t2
  generalize xmR K2 z 2 (z + 18) = N3 at h3 s3 ⊢
  rw [h3.hz]
  refine ⟨⟨by decide, by decide⟩, ?_⟩
  rw [show Int32.toNatClampNeg (7 : Int32) = 7 by decide]
  have k3 : NI o M (z + 27) (u + 632) ((z + 26, 40, 7) :: mS (z + 18) 7 6 7 (mS (z + 9) 8 64 8 (mS (z + 1) 7 6 7 ((z, 1, 0) :: sh)))) ((z, 2, z + 18) :: mF (z + 18) 7 ((z, 1, z + 9) :: mF (z + 9) 8 ((z, 0, z + 1) :: mF (z + 1) 7 (ff)))) g jj (xnew N3 40 7 7) := h3.new 40 7 7 (hj _ (by omega) (by omega))
  have t3 : xS (xnew N3 40 7 7) z = (1, 0) := by rw [xS_new, h3.hz, if_neg (by omega)]; exact s3
  generalize xnew N3 40 7 7 = K3 at k3 t3 ⊢
  rw [B_19_45, t3]
  refine ⟨⟨rfl, h16⟩, ?_⟩
  have h4 := k3.put (a := z) 3 (z + 26) (by omega) (by omega)
  have s4 : xS (xmR K3 z 3 (z + 26)) z = (1, 0) := t3
  generalize xmR K3 z 3 (z + 26) = N4 at h4 s4 ⊢
  rw [h4.hz]
  refine ⟨⟨by decide, by decide⟩, ?_⟩
  rw [show Int32.toNatClampNeg (6 : Int32) = 6 by decide]
  have k4 : NI o M (z + 28) (u + 638) ((z + 27, 40, 6) :: (z + 26, 40, 7) :: mS (z + 18) 7 6 7 (mS (z + 9) 8 64 8 (mS (z + 1) 7 6 7 ((z, 1, 0) :: sh)))) ((z, 3, z + 26) :: (z, 2, z + 18) :: mF (z + 18) 7 ((z, 1, z + 9) :: mF (z + 9) 8 ((z, 0, z + 1) :: mF (z + 1) 7 (ff)))) g jj (xnew N4 40 6 6) := h4.new 40 6 6 (hj _ (by omega) (by omega))
  have t4 : xS (xnew N4 40 6 6) z = (1, 0) := by rw [xS_new, h4.hz, if_neg (by omega)]; exact s4
  generalize xnew N4 40 6 6 = K4 at k4 t4 ⊢
  rw [B_19_53, t4]
  refine ⟨⟨rfl, h16⟩, ?_⟩
  have h5 := k4.put (a := z) 4 (z + 27) (by omega) (by omega)
  have s5 : xS (xmR K4 z 4 (z + 27)) z = (1, 0) := t4
  generalize xmR K4 z 4 (z + 27) = N5 at h5 s5 ⊢
  rw [h5.hz]
  refine ⟨⟨by decide, by decide⟩, ?_⟩
  rw [show Int32.toNatClampNeg (7 : Int32) = 7 by decide]
  have k5 : NI o M (z + 29) (u + 645) ((z + 28, 40, 7) :: (z + 27, 40, 6) :: (z + 26, 40, 7) :: mS (z + 18) 7 6 7 (mS (z + 9) 8 64 8 (mS (z + 1) 7 6 7 ((z, 1, 0) :: sh)))) ((z, 4, z + 27) :: (z, 3, z + 26) :: (z, 2, z + 18) :: mF (z + 18) 7 ((z, 1, z + 9) :: mF (z + 9) 8 ((z, 0, z + 1) :: mF (z + 1) 7 (ff)))) g jj (xnew N5 40 7 7) := h5.new 40 7 7 (hj _ (by omega) (by omega))
  have t5 : xS (xnew N5 40 7 7) z = (1, 0) := by rw [xS_new, h5.hz, if_neg (by omega)]; exact s5
  generalize xnew N5 40 7 7 = K5 at k5 t5 ⊢
  rw [B_19_61, t5]
  refine ⟨⟨rfl, h16⟩, ?_⟩
  have h6 := k5.put (a := z) 5 (z + 28) (by omega) (by omega)
  have s6 : xS (xmR K5 z 5 (z + 28)) z = (1, 0) := t5
  generalize xmR K5 z 5 (z + 28) = N6 at h6 s6 ⊢
  exact hQ _ h6
