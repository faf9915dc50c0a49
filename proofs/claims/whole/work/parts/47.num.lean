/-! numbers: literals and nI; what simp (disch := omega) needs -/
section XNUM
variable {a b n N : Nat}
theorem lAdd (n l : Nat) : (no_index (OfNat.ofNat n : Int32)) + nI l = nI ((OfNat.ofNat n : Nat) + l) := nI_add n l
theorem addL (l n : Nat) : nI l + (no_index (OfNat.ofNat n : Int32)) = nI (l + (OfNat.ofNat n : Nat)) := nI_add l n
theorem nMul (a b : Nat) : nI a * nI b = nI (a * b) := (Int32.ofNat_mul a b).symm
theorem lMul (n l : Nat) : (no_index (OfNat.ofNat n : Int32)) * nI l = nI ((OfNat.ofNat n : Nat) * l) := nMul n l
theorem mulL (l n : Nat) : nI l * (no_index (OfNat.ofNat n : Int32)) = nI (l * (OfNat.ofNat n : Nat)) := nMul l n
theorem subL (h : (OfNat.ofNat n : Nat) ≤ a) : nI a - (no_index (OfNat.ofNat n : Int32)) = nI (a - (OfNat.ofNat n : Nat)) := nI_sub h
theorem lSub (h : a ≤ (OfNat.ofNat n : Nat)) : (no_index (OfNat.ofNat n : Int32)) - nI a = nI ((OfNat.ofNat n : Nat) - a) := nI_sub h
theorem nSub (h : b ≤ a) : nI a - nI b = nI (a - b) := nI_sub h
theorem nDec (h : 1 ≤ a) : nI a + (-1) = nI (a - 1) := by rw [← nI_sub h, Int32.sub_eq_add_neg]; rfl
theorem nCl (h : n < 2 ^ 31) : Int32.toNatClampNeg (nI n) = n := nI_clamp h
theorem lCl (h : (OfNat.ofNat n : Nat) < 2 ^ 31) : Int32.toNatClampNeg (no_index (OfNat.ofNat n : Int32)) = (OfNat.ofNat n : Nat) := nI_clamp h
theorem nVp (h : n < N) (hN : N < 2 ^ 31) : vp_in (nI n) N = True := eq_true (vp_in_nI h hN)
theorem lVp (h : (OfNat.ofNat n : Nat) < N) (hN : N < 2 ^ 31) : vp_in (no_index (OfNat.ofNat n : Int32)) N = True := eq_true (vp_in_nI h hN)
theorem nLe (ha : a < 2 ^ 31) (hb : b < 2 ^ 31) : (nI a ≤ nI b) = (a ≤ b) := propext ⟨fun h => Nat.le_of_not_lt fun q => nI_ge q ha h, fun h => nI_le h hb⟩
theorem nLt (ha : a < 2 ^ 31) (hb : b < 2 ^ 31) : (nI a < nI b) = (a < b) := propext ⟨fun h => Nat.lt_of_not_le fun q => nI_nlt q ha h, fun h => nI_lt h hb⟩
theorem nEq (ha : a < 2 ^ 31) (hb : b < 2 ^ 31) : (nI a = nI b) = (a = b) := propext (nI_eq ha hb)
theorem lLe (ha : (OfNat.ofNat n : Nat) < 2 ^ 31) (hb : b < 2 ^ 31) : ((no_index (OfNat.ofNat n : Int32)) ≤ nI b) = ((OfNat.ofNat n : Nat) ≤ b) := nLe ha hb
theorem leL (ha : a < 2 ^ 31) (hb : (OfNat.ofNat n : Nat) < 2 ^ 31) : (nI a ≤ (no_index (OfNat.ofNat n : Int32))) = (a ≤ (OfNat.ofNat n : Nat)) := nLe ha hb
theorem lLt (ha : (OfNat.ofNat n : Nat) < 2 ^ 31) (hb : b < 2 ^ 31) : ((no_index (OfNat.ofNat n : Int32)) < nI b) = ((OfNat.ofNat n : Nat) < b) := nLt ha hb
theorem ltL (ha : a < 2 ^ 31) (hb : (OfNat.ofNat n : Nat) < 2 ^ 31) : (nI a < (no_index (OfNat.ofNat n : Int32))) = (a < (OfNat.ofNat n : Nat)) := nLt ha hb
theorem eqL (ha : a < 2 ^ 31) (hb : (OfNat.ofNat n : Nat) < 2 ^ 31) : (nI a = (no_index (OfNat.ofNat n : Int32))) = (a = (OfNat.ofNat n : Nat)) := nEq ha hb
theorem lEq (ha : (OfNat.ofNat n : Nat) < 2 ^ 31) (hb : b < 2 ^ 31) : ((no_index (OfNat.ofNat n : Int32)) = nI b) = ((OfNat.ofNat n : Nat) = b) := nEq ha hb
theorem nI_tI (h : a < 2 ^ 31) : (nI a).toInt = a := Int32.toInt_ofNat_of_lt h
theorem nM (h : a < 2 ^ 31) (x : Int32) (hx : x.toInt < 0) : (nI a = x) = False := eq_false fun q => by rw [← q, nI_tI h] at hx; omega
theorem nM1 (h : a < 2 ^ 31) : (nI a = -1) = False := nM h _ (by decide)
theorem nM2 (h : a < 2 ^ 31) : (nI a = -2) = False := nM h _ (by decide)
theorem litLt0 (h : (OfNat.ofNat n : Nat) < 2 ^ 31) : ((no_index (OfNat.ofNat n : Int32)) < 0) = False := eq_false (nI_pos h)
theorem one01 : ((1 : Int32) = 0 ∨ (1 : Int32) = 1) = True := eq_true (Or.inr rfl)
theorem zero01 : ((0 : Int32) = 0 ∨ (0 : Int32) = 1) = True := eq_true (Or.inl rfl)
theorem oneNe0 : ((1 : Int32) = 0) = False := by decide
theorem xupE {α : Type} (f : Nat → Nat → α) (a i : Nat) (x : α) : xup f a i x a i = x := by rw [xup_at, if_pos ⟨rfl, rfl⟩]
theorem xupA {α : Type} (f : Nat → Nat → α) (i : Nat) (x : α) (j : Nat) (h : b ≠ a) : xup f a i x b j = f b j := by rw [xup_at, if_neg fun q => h q.1]
theorem xupK {α : Type} (f : Nat → Nat → α) (x : α) {i j : Nat} (h : j ≠ i) : xup f a i x a j = f a j := by rw [xup_at, if_neg fun q => h q.2]
theorem xupR {α : Type} (f : Nat → Nat → α) (i : Nat) (x : α) (h : b ≠ a) : xup f a i x b = f b := xup_n f i x h
theorem ge16 (h : 16 ≤ a) : (16 ≤ a) = True := eq_true h
end XNUM
theorem xcat_s : xcat [] ≤ 8 ∧ (∀ v : Value, xcat [v] ≤ 8) ∧ (∀ v w : Value, xcat [v, w] ≤ 8) ∧ ∀ u v w : Value, xcat [u, v, w] ≤ 8 := by
  have h : ∀ v : Value, v.category ≤ 2 := fun v => by cases v <;> first | exact (by decide : 1 ≤ 2) | exact (by decide : 2 ≤ 2)
  refine ⟨by decide, fun v => ?_, fun v w => ?_, fun u v w => ?_⟩
  · have := h v; unfold xcat; simp only [List.map_cons, List.map_nil, List.sum_cons, List.sum_nil]; omega
  · have := h v; have := h w; unfold xcat; simp only [List.map_cons, List.map_nil, List.sum_cons, List.sum_nil]; omega
  · have := h u; have := h v; have := h w; unfold xcat; simp only [List.map_cons, List.map_nil, List.sum_cons, List.sum_nil]; omega
theorem ite_q {c : Prop} [Decidable c] {α : Type} (Q : α → XM → Prop) (x y : α) (M : XM) : (if c then Q x M else Q y M) = Q (if c then x else y) M := by split <;> rfl
/-- an index that was asked for -/
theorem nOf {x : Int32} {n : Nat} (h0 : ¬ x < 0) (h : ¬ nI n ≤ x) (hn : n < 2 ^ 31) : ∃ l, l < n ∧ x = nI l := by
  obtain ⟨j, h1, h2⟩ := nI_of h0
  subst h2
  refine ⟨j, ?_, rfl⟩
  rw [nLe hn h1] at h
  omega
