/-! sets as bits -/
theorem i32_or (a b : Nat) : nI a ||| nI b = nI (a ||| b) := by
  unfold nI
  apply Int32.toBitVec_inj.mp
  simp [Int32.toBitVec_or, Int32.toBitVec_ofNat, BitVec.ofNat_or]
theorem i32_and (a b : Nat) : nI a &&& nI b = nI (a &&& b) := by
  unfold nI
  apply Int32.toBitVec_inj.mp
  simp [Int32.toBitVec_and, BitVec.ofNat_and]
theorem sh1 {i : Nat} (h : i < 8) : (1 : Int32) <<< (nI i &&& 31) = nI (2 ^ i) := by
  have : ∀ j : Fin 8, (1 : Int32) <<< (nI j.val &&& 31) = nI (2 ^ j.val) := by decide
  exact this ⟨i, h⟩
def bn (p : Nat → Bool) : Nat → Nat
  | 0 => 0
  | n + 1 => if p n then bn p n ||| 2 ^ n else bn p n
theorem bn_s (p : Nat → Bool) (n : Nat) : bn p (n + 1) = if p n then bn p n ||| 2 ^ n else bn p n := rfl
theorem bn_lt (p : Nat → Bool) : ∀ n, bn p n < 2 ^ n
  | 0 => Nat.zero_lt_one
  | n + 1 => by
    have ih := bn_lt p n
    rw [bn_s]
    have h2 : 2 ^ (n + 1) = 2 ^ n + 2 ^ n := by rw [Nat.pow_succ]; omega
    split
    · exact Nat.or_lt_two_pow (by omega) (by have := Nat.two_pow_pos n; omega)
    · omega
theorem bn_test (p : Nat → Bool) (i : Nat) : ∀ n, (bn p n).testBit i = (decide (i < n) && p i)
  | 0 => by simp [bn]
  | n + 1 => by
    rw [bn_s]
    have ih := bn_test p i n
    by_cases hi : i = n
    · subst hi
      cases hp : p i <;> simp [Nat.testBit_or, ih, Nat.testBit_two_pow, hp]
    · have e : decide (i < n + 1) = decide (i < n) := by
        congr 1
        exact propext (by omega)
      rw [e]
      split
      · rw [Nat.testBit_or, ih, Nat.testBit_two_pow]
        simp [show ¬ n = i from fun q => hi q.symm]
      · exact ih
theorem bn_congr {p q : Nat → Bool} : ∀ n, (∀ i, i < n → p i = q i) → bn p n = bn q n
  | 0, _ => rfl
  | n + 1, h => by rw [bn_s, bn_s, h n (by omega), bn_congr n fun i hi => h i (by omega)]
/-- bit i of a set m -/
theorem and_bit {m i : Nat} (hm : m < 2 ^ 31) (hi : i < 8) : nI m &&& ((1 : Int32) <<< (nI i &&& 31)) = 0 ↔ m.testBit i = false := by
  rw [sh1 hi, i32_and]
  have h1 : m &&& 2 ^ i < 2 ^ 31 := Nat.lt_of_le_of_lt Nat.and_le_left hm
  rw [show (0 : Int32) = nI 0 from rfl, nI_eq h1 (by omega)]
  constructor
  · intro h
    have := congrArg (fun x => x.testBit i) h
    simpa [Nat.testBit_and, Nat.testBit_two_pow] using this
  · intro h
    apply Nat.eq_of_testBit_eq
    intro j
    rw [Nat.testBit_and, Nat.testBit_two_pow, Nat.zero_testBit]
    by_cases hj : i = j
    · subst hj; rw [h]; rfl
    · simp [hj]
theorem or_bit {m i : Nat} (hi : i < 8) : nI m ||| ((1 : Int32) <<< (nI i &&& 31)) = nI (m ||| 2 ^ i) := by rw [sh1 hi, i32_or]
theorem shr_n {m i : Nat} (hm : m < 128) (hi : i < 8) : nI m >>> (nI i &&& 31) = nI (m >>> i) := by
  have : ∀ (m : Fin 128) (i : Fin 8), nI m.val >>> (nI i.val &&& 31) = nI (m.val >>> i.val) := by decide +kernel
  exact this ⟨m, hm⟩ ⟨i, hi⟩
theorem and_one (m : Nat) : nI m &&& 1 = nI (m % 2) := by
  rw [show (1 : Int32) = nI 1 from rfl, i32_and, Nat.and_one_is_mod]
/-- set >> i & 1 -/
theorem shr_bit {m i : Nat} (hm : m < 128) (hi : i < 8) : (nI m >>> (nI i &&& 31)) &&& 1 = if m.testBit i then 1 else 0 := by
  rw [shr_n hm hi, and_one]
  have e : m.testBit i = decide ((m >>> i) % 2 = 1) := by rw [Nat.testBit_eq_decide_div_mod_eq, Nat.shiftRight_eq_div_pow]
  rw [e]
  by_cases h : (m >>> i) % 2 = 1
  · simp only [h, decide_true, if_true]; rfl
  · have : (m >>> i) % 2 = 0 := by omega
    simp only [this]; rfl
theorem or_lt {m i : Nat} (hm : m < 128) (hi : i < 7) : m ||| 2 ^ i < 128 := by
  have h : 2 ^ i < 128 := by
    have : 2 ^ i ≤ 2 ^ 6 := Nat.pow_le_pow_right (by omega) (by omega)
    omega
  exact Nat.or_lt_two_pow (n := 7) hm h
/-- how many bits -/
def pcn (m : Nat) : Nat := (List.range 7).countP fun i => m.testBit i
theorem bn128 (p : Nat → Bool) {n : Nat} (h : n ≤ 7) : bn p n < 128 := Nat.lt_of_lt_of_le (bn_lt p n) (show 2 ^ n ≤ 2 ^ 7 from Nat.pow_le_pow_right (by omega) h)
theorem xbits_n (f : Nat → Int32) (p : Int32) : ∀ n, n ≤ 7 → xbits f p n = nI (bn (fun i => decide (f i = p)) n)
  | 0, _ => rfl
  | n + 1, h => by
    rw [xbits_s, bn_s, xbits_n f p n (by omega)]
    by_cases hp : f n = p
    · rw [if_pos hp, or_bit (by omega)]; simp only [hp, decide_true, if_true]
    · rw [if_neg hp]; simp only [hp, decide_false, if_false]; rfl
def bcf (a0 : Int32) : Int32 := ((((((((a0 - (((Int32.toUInt32 a0 >>> (Int32.toUInt32 1 &&& Int32.toUInt32 31)).toInt32) &&& 1431655765)) &&& 858993459) + (((Int32.toUInt32 (a0 - (((Int32.toUInt32 a0 >>> (Int32.toUInt32 1 &&& Int32.toUInt32 31)).toInt32) &&& 1431655765)) >>> (Int32.toUInt32 2 &&& Int32.toUInt32 31)).toInt32) &&& 858993459)) + ((Int32.toUInt32 (((a0 - (((Int32.toUInt32 a0 >>> (Int32.toUInt32 1 &&& Int32.toUInt32 31)).toInt32) &&& 1431655765)) &&& 858993459) + (((Int32.toUInt32 (a0 - (((Int32.toUInt32 a0 >>> (Int32.toUInt32 1 &&& Int32.toUInt32 31)).toInt32) &&& 1431655765)) >>> (Int32.toUInt32 2 &&& Int32.toUInt32 31)).toInt32) &&& 858993459)) >>> (Int32.toUInt32 4 &&& Int32.toUInt32 31)).toInt32)) &&& 252645135) + ((Int32.toUInt32 (((((a0 - (((Int32.toUInt32 a0 >>> (Int32.toUInt32 1 &&& Int32.toUInt32 31)).toInt32) &&& 1431655765)) &&& 858993459) + (((Int32.toUInt32 (a0 - (((Int32.toUInt32 a0 >>> (Int32.toUInt32 1 &&& Int32.toUInt32 31)).toInt32) &&& 1431655765)) >>> (Int32.toUInt32 2 &&& Int32.toUInt32 31)).toInt32) &&& 858993459)) + ((Int32.toUInt32 (((a0 - (((Int32.toUInt32 a0 >>> (Int32.toUInt32 1 &&& Int32.toUInt32 31)).toInt32) &&& 1431655765)) &&& 858993459) + (((Int32.toUInt32 (a0 - (((Int32.toUInt32 a0 >>> (Int32.toUInt32 1 &&& Int32.toUInt32 31)).toInt32) &&& 1431655765)) >>> (Int32.toUInt32 2 &&& Int32.toUInt32 31)).toInt32) &&& 858993459)) >>> (Int32.toUInt32 4 &&& Int32.toUInt32 31)).toInt32)) &&& 252645135) >>> (Int32.toUInt32 8 &&& Int32.toUInt32 31)).toInt32)) + ((Int32.toUInt32 ((((((a0 - (((Int32.toUInt32 a0 >>> (Int32.toUInt32 1 &&& Int32.toUInt32 31)).toInt32) &&& 1431655765)) &&& 858993459) + (((Int32.toUInt32 (a0 - (((Int32.toUInt32 a0 >>> (Int32.toUInt32 1 &&& Int32.toUInt32 31)).toInt32) &&& 1431655765)) >>> (Int32.toUInt32 2 &&& Int32.toUInt32 31)).toInt32) &&& 858993459)) + ((Int32.toUInt32 (((a0 - (((Int32.toUInt32 a0 >>> (Int32.toUInt32 1 &&& Int32.toUInt32 31)).toInt32) &&& 1431655765)) &&& 858993459) + (((Int32.toUInt32 (a0 - (((Int32.toUInt32 a0 >>> (Int32.toUInt32 1 &&& Int32.toUInt32 31)).toInt32) &&& 1431655765)) >>> (Int32.toUInt32 2 &&& Int32.toUInt32 31)).toInt32) &&& 858993459)) >>> (Int32.toUInt32 4 &&& Int32.toUInt32 31)).toInt32)) &&& 252645135) + ((Int32.toUInt32 (((((a0 - (((Int32.toUInt32 a0 >>> (Int32.toUInt32 1 &&& Int32.toUInt32 31)).toInt32) &&& 1431655765)) &&& 858993459) + (((Int32.toUInt32 (a0 - (((Int32.toUInt32 a0 >>> (Int32.toUInt32 1 &&& Int32.toUInt32 31)).toInt32) &&& 1431655765)) >>> (Int32.toUInt32 2 &&& Int32.toUInt32 31)).toInt32) &&& 858993459)) + ((Int32.toUInt32 (((a0 - (((Int32.toUInt32 a0 >>> (Int32.toUInt32 1 &&& Int32.toUInt32 31)).toInt32) &&& 1431655765)) &&& 858993459) + (((Int32.toUInt32 (a0 - (((Int32.toUInt32 a0 >>> (Int32.toUInt32 1 &&& Int32.toUInt32 31)).toInt32) &&& 1431655765)) >>> (Int32.toUInt32 2 &&& Int32.toUInt32 31)).toInt32) &&& 858993459)) >>> (Int32.toUInt32 4 &&& Int32.toUInt32 31)).toInt32)) &&& 252645135) >>> (Int32.toUInt32 8 &&& Int32.toUInt32 31)).toInt32)) >>> (Int32.toUInt32 16 &&& Int32.toUInt32 31)).toInt32)) &&& 63)
theorem bcf_n {m : Nat} (hm : m < 128) : bcf (nI m) = nI (pcn m) := by
  have : ∀ m : Fin 128, bcf (nI m.val) = nI (pcn m.val) := by decide +kernel
  exact this ⟨m, hm⟩
theorem c_bitCount {m : Nat} {M : XM} {Q : Option Value → XM → Prop} (hm : m < 128) : RG xprog 245 0 [some (.int (nI m))] [] M Q = Q (some (.int (nI (pcn m)))) M := by
  rw [B_245_0, ← bcf_n hm]
  rfl
def bit7 (x : Int32) : Int32 := iter (fun i s => s + ((x >>> (nI i &&& 31)) &&& 1)) 7 0
theorem bit7_n {m : Nat} (hm : m < 128) : bit7 (nI m) = nI (pcn m) := by
  have : ∀ m : Fin 128, bit7 (nI m.val) = nI (pcn m.val) := by decide +kernel
  exact this ⟨m, hm⟩
theorem r_bits {m : Nat} {M : XM} {Q : Option Value → XM → Prop} (hm : m < 128) : RG xprog 249 0 [some (.int (nI m)), none, none] [] M Q = Q (some (.int (nI (pcn m)))) M := by
  rw [B_249_0]
  have loop : ∀ k i : Nat, i + k = 7 → RG xprog 249 4 [some (.int (nI m)), some (.int (iter (fun i s => s + ((nI m >>> (nI i &&& 31)) &&& 1)) i 0)), some (.int (nI i))] [] M Q = Q (some (.int (bit7 (nI m)))) M := by
    intro k
    induction k with
    | zero =>
      intro i hi
      have : i = 7 := by omega
      subst this
      rw [B_249_4, if_pos (by decide)]
      rfl
    | succ k ih =>
      intro i hi
      rw [B_249_4, if_neg (show ¬ (7 : Int32) ≤ nI i from nI_ge (b := 7) (by omega) (by omega)), nI_1]
      exact ih (i + 1) (by omega)
  rw [← bit7_n hm]
  exact loop 7 0 (by omega)
