/-! the branches of a law -/
def Seg (I : Nat → Nat → Int32) (s : Nat → Int32) (x a cnt : Nat) : Prop := DP s a cnt 1 ∧ ∀ i, i < cnt → Sy (s (a + i)) (I 467 (x + i)) (I 468 (x + i))
/-- branch b with a test: the steps from a to a' -/
def BrT (I : Nat → Nat → Int32) (s : Nat → Int32) (lo hi b a a' : Nat) : Prop := ∃ x n1 n2 n3, lo ≤ x ∧ x + n1 + n2 + n3 ≤ hi ∧ (I 462 b = 1 ∧ I 463 b = nI x ∧ I 464 b = nI (x + n1) ∧ I 465 b = nI (x + n1 + n2) ∧ I 466 b = nI (x + n1 + n2 + n3)) ∧ Seg I s x a n1 ∧ Seg I s (x + n1) (a + n1) n2 ∧ s (a + n1 + n2) = -100 - nI (n3 + 1) ∧ Seg I s (x + n1 + n2) (a + n1 + n2 + 1) n3 ∧ s (a + n1 + n2 + 1 + n3) = -14 ∧ a' = a + n1 + n2 + 1 + n3 + 1
def BrE (I : Nat → Nat → Int32) (s : Nat → Int32) (lo hi b a a' : Nat) : Prop := ∃ x n3, lo ≤ x ∧ x + n3 ≤ hi ∧ (I 462 b = 0 ∧ I 465 b = nI x ∧ I 466 b = nI (x + n3)) ∧ Seg I s x a n3 ∧ a' = a + n3
def BL (I : Nat → Nat → Int32) (s : Nat → Int32) (lo hi p : Nat) : Nat → Nat → Prop
  | 0, a => a = 0
  | k + 1, a => ∃ a0, BL I s lo hi p k a0 ∧ BrT I s lo hi (p + k) a0 a
section XBR
variable {I I' : Nat → Nat → Int32} {s s' : Nat → Int32} {lo hi hi' b a a' x cnt p : Nat}
theorem Seg.c (h : Seg I s x a cnt) (hs : ∀ i, i < cnt → s' (a + i) = s (a + i)) (h1 : ∀ i, i < cnt → I' 467 (x + i) = I 467 (x + i) ∧ I' 468 (x + i) = I 468 (x + i)) : Seg I' s' x a cnt :=
  ⟨h.1.c hs, fun i hi => by rw [hs i hi, (h1 i hi).1, (h1 i hi).2]; exact h.2 i hi⟩
theorem BrT.c (h : BrT I s lo hi b a a') (hh : hi ≤ hi') (hb : ∀ r, 462 ≤ r → r ≤ 466 → I' r b = I r b) (hc : ∀ k, k < hi → I' 467 k = I 467 k ∧ I' 468 k = I 468 k) (hs : ∀ i, i < a' → s' i = s i) : BrT I' s' lo hi' b a a' := by
  obtain ⟨x, n1, n2, n3, h1, h2, h3, h4, h5, h6, h7, h8, h9⟩ := h
  refine ⟨x, n1, n2, n3, h1, by omega, ?_, h4.c (fun i hi => hs _ (by omega)) (fun i hi => hc _ (by omega)), h5.c (fun i hi => hs _ (by omega)) (fun i hi => hc _ (by omega)), ?_, h7.c (fun i hi => hs _ (by omega)) (fun i hi => hc _ (by omega)), ?_, h9⟩
  · rw [hb 462 (by omega) (by omega), hb 463 (by omega) (by omega), hb 464 (by omega) (by omega), hb 465 (by omega) (by omega), hb 466 (by omega) (by omega)]; exact h3
  · rw [hs _ (by omega)]; exact h6
  · rw [hs _ (by omega)]; exact h8
theorem BrT.lt (h : BrT I s lo hi b a a') : a < a' := by
  obtain ⟨x, n1, n2, n3, h1, h2, h3, h4, h5, h6, h7, h8, h9⟩ := h
  omega
theorem BL.c (hh : hi ≤ hi') (hc : ∀ k, k < hi → I' 467 k = I 467 k ∧ I' 468 k = I 468 k) : ∀ (k a : Nat), (∀ r j, 462 ≤ r → r ≤ 466 → j < p + k → I' r j = I r j) → (∀ i, i < a → s' i = s i) → BL I s lo hi p k a → BL I' s' lo hi' p k a
  | 0, _, _, _, h => h
  | k + 1, a, hb, hs, ⟨a0, h1, h2⟩ => by
    have := h2.lt
    exact ⟨a0, BL.c hh hc k a0 (fun r j h1 h2 h3 => hb r j h1 h2 (by omega)) (fun i hi => hs i (by omega)) h1, h2.c hh (fun r h1 h2 => hb r (p + k) h1 h2 (by omega)) hc hs⟩
theorem xe_seg {n : Nat} {c : Nat → Nat} {m : Nat} {O : Nat × Int32 × YS} {M : XM} {t t0 c0 l0 cm tk fd ifs pe lw sk : Nat} {sb : Nat → Int32} {X : YX} {W : Nat → YL} {l : YL} {z : Nat × (Nat → Nat)} (h : XE sb n c m O M t t0 c0 l0 cm tk fd ifs pe lw sk X W l z) : Seg (xI M) (yrel 1 z.2 z.1 l).2.2 c0 l0 ((yrel 1 z.2 z.1 l).2.1 - l0) ∧ l0 ≤ (yrel 1 z.2 z.1 l).2.1 ∧ (∀ i, i < l0 → (yrel 1 z.2 z.1 l).2.2 i = sb i) ∧ xI M 439 42 = nI (c0 + ((yrel 1 z.2 z.1 l).2.1 - l0)) := by
  obtain ⟨h1, h2, h3, h4, h5⟩ := h
  exact ⟨⟨h4.2.1, h3.2.2⟩, h3.1, h4.2.2, h3.2.1⟩
end XBR
