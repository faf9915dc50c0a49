/-! the small machine's memory: what a write, a new cell leave as it was -/
section XBASE
variable (M : XM)
theorem xS_I (a k : Nat) (x : Int32) : xS (xmI M a k x) = xS M := rfl
theorem xS_L (a k : Nat) (x : Int64) : xS (xmL M a k x) = xS M := rfl
theorem xS_R (a k x : Nat) : xS (xmR M a k x) = xS M := rfl
theorem xI_I (a k : Nat) (x : Int32) : xI (xmI M a k x) = xup (xI M) a k x := rfl
theorem xI_L (a k : Nat) (x : Int64) : xI (xmL M a k x) = xI M := rfl
theorem xI_R (a k x : Nat) : xI (xmR M a k x) = xI M := rfl
theorem xJ_I (a k : Nat) (x : Int32) : xJ (xmI M a k x) = xJ M := rfl
theorem xJ_L (a k : Nat) (x : Int64) : xJ (xmL M a k x) = xup (xJ M) a k x := rfl
theorem xJ_R (a k x : Nat) : xJ (xmR M a k x) = xJ M := rfl
theorem xF_I (a k : Nat) (x : Int32) : xF (xmI M a k x) = xF M := rfl
theorem xF_L (a k : Nat) (x : Int64) : xF (xmL M a k x) = xF M := rfl
theorem xF_R (a k x : Nat) : xF (xmR M a k x) = xup (xF M) a k x := rfl
theorem xZ_I (a k : Nat) (x : Int32) : xZ (xmI M a k x) = xZ M := rfl
theorem xZ_L (a k : Nat) (x : Int64) : xZ (xmL M a k x) = xZ M := rfl
theorem xZ_R (a k x : Nat) : xZ (xmR M a k x) = xZ M := rfl
theorem xZ_new (t n w : Nat) : xZ (xnew M t n w) = xZ M + 1 := rfl
theorem xS_new (t n w b : Nat) : xS (xnew M t n w) b = if b = xZ M then (t, n) else xS M b := rfl
theorem xI_new (t n w b : Nat) : xI (xnew M t n w) b = if b = xZ M then (fun _ => 0) else xI M b := rfl
theorem xJ_new (t n w b : Nat) : xJ (xnew M t n w) b = if b = xZ M then (fun _ => 0) else xJ M b := rfl
theorem xF_new (t n w b : Nat) : xF (xnew M t n w) b = if b = xZ M then (fun _ => 0) else xF M b := rfl
theorem xI_new2 (t n w b k : Nat) : xI (xnew M t n w) b k = if b = xZ M then 0 else xI M b k := by rw [xI_new]; split <;> rfl
theorem xJ_new2 (t n w b k : Nat) : xJ (xnew M t n w) b k = if b = xZ M then 0 else xJ M b k := by rw [xJ_new]; split <;> rfl
theorem xF_new2 (t n w b k : Nat) : xF (xnew M t n w) b k = if b = xZ M then 0 else xF M b k := by rw [xF_new]; split <;> rfl
theorem xup_at {α : Type} (f : Nat → Nat → α) (a i : Nat) (x : α) (b j : Nat) : xup f a i x b j = if b = a ∧ j = i then x else f b j := by
  unfold xup xrow xone
  by_cases h : b = a
  · subst h
    by_cases h2 : j = i <;> simp [h2]
  · simp [h]
end XBASE
/-- slots so far -/
def xU (M : XM) : Nat := M.1.2
theorem xU_I (M : XM) (a k : Nat) (x : Int32) : xU (xmI M a k x) = xU M := rfl
theorem xU_L (M : XM) (a k : Nat) (x : Int64) : xU (xmL M a k x) = xU M := rfl
theorem xU_R (M : XM) (a k x : Nat) : xU (xmR M a k x) = xU M := rfl
theorem xU_new (M : XM) (t n w : Nat) : xU (xnew M t n w) = xU M + w := rfl
/-- an Office that was just made: its six rows from z on, all zero -/
theorem k_Office (M : XM) (o : Nat) (Q : Option Value → XM → Prop) (h5 : (xS M o).1 = 5) (h16 : 16 ≤ o) (ho : o < xZ M)
    (hQ : ∀ M' : XM, xZ M' = xZ M + 6 → xU M' = xU M + 39 → (∀ b, b ≠ o → (b < xZ M ∨ xZ M + 6 ≤ b) → xRow M M' b) → xS M' o = xS M o → xI M' o = xI M o → (∀ k, xF M' o k = if 1 ≤ k ∧ k ≤ 6 then xZ M + k - 1 else xF M o k) →
      (∀ b, xZ M ≤ b → b < xZ M + 3 → xS M' b = (40, 7)) → (∀ b, xZ M + 3 ≤ b → b < xZ M + 6 → xS M' b = (40, 6)) → (∀ b k, xZ M ≤ b → b < xZ M + 6 → xI M' b k = 0) → Q none M') : RG xprog 16 0 [some (.ref o)] [] M Q := by
  rw [B_16_0, B_16_9, B_16_17, B_16_25, B_16_33, B_16_41, B_16_49]
  have e7 : Int32.toNatClampNeg (7 : Int32) = 7 := by decide
  have e6 : Int32.toNatClampNeg (6 : Int32) = 6 := by decide
  have d7 : ¬ (7 : Int32) < 0 := by decide
  have d6 : ¬ (6 : Int32) < 0 := by decide
  simp only [e7, e6, d7, d6, not_false_eq_true, xZ_R, xZ_new, xS_R, xS_new, if_neg (show ¬ o = xZ M by omega), if_neg (show ¬ o = xZ M + 1 by omega), if_neg (show ¬ o = xZ M + 1 + 1 by omega), if_neg (show ¬ o = xZ M + 1 + 1 + 1 by omega), if_neg (show ¬ o = xZ M + 1 + 1 + 1 + 1 by omega), if_neg (show ¬ o = xZ M + 1 + 1 + 1 + 1 + 1 by omega), h5, h16, true_and, and_true]
  refine ⟨by decide, by decide, by decide, by decide, by decide, by decide, by decide, ?_⟩
  apply hQ <;> clear hQ h5
  · simp only [xZ_R, xZ_new]
  · simp only [xU_R, xU_new]
  · intro b hb hz
    refine ⟨?_, ?_, ?_, ?_⟩
    · show xS _ b = xS _ b
      simp only [xS_R, xS_new, xZ_R, xZ_new]
      grind (splits := 30)
    · show xI _ b = xI _ b
      simp only [xI_R, xI_new, xZ_R, xZ_new]
      grind (splits := 30)
    · show xJ _ b = xJ _ b
      simp only [xJ_R, xJ_new, xZ_R, xZ_new]
      grind (splits := 30)
    · show xF _ b = xF _ b
      funext k
      simp only [xF_R, xF_new2, xZ_R, xZ_new, xup_at]
      grind (splits := 30)
  · simp only [xS_R, xS_new, xZ_R, xZ_new]
    grind (splits := 30)
  · simp only [xI_R, xI_new, xZ_R, xZ_new]
    grind (splits := 30)
  · intro k
    simp only [xF_R, xF_new2, xZ_R, xZ_new, xup_at]
    grind (splits := 30)
  · intro b h1 h2
    simp only [xS_R, xS_new, xZ_R, xZ_new]
    grind (splits := 30)
  · intro b h1 h2
    simp only [xS_R, xS_new, xZ_R, xZ_new]
    grind (splits := 30)
  · intro b k h1 h2
    simp only [xI_R, xI_new2, xZ_R, xZ_new]
    grind (splits := 30)
