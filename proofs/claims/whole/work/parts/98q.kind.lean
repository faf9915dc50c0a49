/-! tokens: kinds alike -/
def k2r (k : Nat) : Nat := if k < 13 then [0, 3, 1, 2, 4, 5, 8, 9, 10, 15, 13, 6, 7].getD k 0 else 20 + (k - 13)
theorem sg_alike : ∀ x : Fin 256, k2r (if ixF (nI x.val) < 9 then 4 + ixF (nI x.val) else 1) = rsg x.val := by decide +kernel
/-- the letters of word w, and how many -/
def wl (w i : Nat) : Nat := Int32.toNatClampNeg (xb19.getD (8 * w + i) 0)
def wn (w : Nat) : Nat := [6, 6, 5, 7, 7, 7, 5, 3, 4, 2, 4, 4, 5, 4, 5, 5, 8, 3, 3, 5, 3].getD w 0
theorem wl_ok : ∀ w, w < 21 → wn w ≤ 8 ∧ (∀ i, i < wn w → 97 ≤ wl w i ∧ wl w i ≤ 122) ∧ cwF w 8 = Int64.ofNat (nmv 32 (wl w) 0 (wn w)) ∧ kL.getD w 0 = Int64.ofNat (nmv 27 (wl w) 0 (wn w)) := by decide +kernel
theorem of64 {a b : Nat} (ha : a < 2 ^ 63) (hb : b < 2 ^ 63) (h : Int64.ofNat a = Int64.ofNat b) : a = b := by
  have h1 := congrArg Int64.toInt h
  rw [Int64.toInt_ofNat_of_lt ha, Int64.toInt_ofNat_of_lt hb] at h1
  omega
theorem nmv_le (b : Nat) (c : Nat → Nat) (j : Nat) (hb : 27 ≤ b) (hb2 : b ≤ 32) (hc : ∀ i, c i < 123) : ∀ k, k ≤ 8 → nmv b c j k < 32 ^ k
  | 0, _ => by show 0 < 1; omega
  | k + 1, h => by
    have ih := nmv_le b c j hb hb2 hc k (by omega)
    have := hc (j + k)
    rw [nmv_s, if_pos (by omega), Nat.pow_succ]
    have h1 : nmv b c j k * b ≤ nmv b c j k * 32 := Nat.mul_le_mul_left _ hb2
    have h2 : (nmv b c j k + 1) * 32 ≤ 32 ^ k * 32 := Nat.mul_le_mul_right _ ih
    rw [Nat.add_mul] at h2
    omega
