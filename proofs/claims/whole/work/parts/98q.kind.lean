/-! tokens: kinds alike -/
def k2r (k : Nat) : Nat := if k < 13 then [0, 3, 1, 2, 4, 5, 8, 9, 10, 15, 13, 6, 7].getD k 0 else 20 + (k - 13)
theorem sg_alike : ∀ x : Fin 256, k2r (if ixF (nI x.val) < 9 then 4 + ixF (nI x.val) else 1) = rsg x.val := by decide +kernel
/-- the letters of word w, and how many -/
def wl (w i : Nat) : Nat := Int32.toNatClampNeg (xb19.getD (8 * w + i) 0)
def wn (w : Nat) : Nat := [6, 6, 5, 7, 7, 7, 5, 3, 4, 2, 4, 4, 5, 4, 5, 5, 8, 3, 3, 5, 3].getD w 0
theorem wl_ok : ∀ w, w < 21 → wn w ≤ 8 ∧ (∀ i, i < wn w → 97 ≤ wl w i ∧ wl w i ≤ 122) ∧ cwF w 8 = Int64.ofNat (nmv 32 (wl w) 0 (wn w)) ∧ kL.getD w 0 = Int64.ofNat (nmv 27 (wl w) 0 (wn w)) := by decide +kernel
theorem of64 {a b : Nat} (ha : a < 2 ^ 63) (hb : b < 2 ^ 63) (h : Int64.ofNat a = Int64.ofNat b) : a = b := by
  have h1 := congrArg Int64.toInt h
  rw [Int64.toInt_ofNat_of_lt ha, Int64.toInt_ofNat_of_lt hb] at h1
  omega
theorem nmv_le (b : Nat) (c : Nat → Nat) (j : Nat) (hb2 : b ≤ 32) : ∀ k, k ≤ 8 → (∀ i, i < k → c (j + i) ≤ 122) → nmv b c j k < 32 ^ k
  | 0, _, _ => by show 0 < 1; omega
  | k + 1, h, hc => by
    have ih := nmv_le b c j hb2 k (by omega) fun i hi => hc i (by omega)
    have := hc k (by omega)
    rw [nmv_s, if_pos (by omega), Nat.pow_succ]
    have h1 : nmv b c j k * b ≤ nmv b c j k * 32 := Nat.mul_le_mul_left _ hb2
    have h2 : (nmv b c j k + 1) * 32 ≤ 32 ^ k * 32 := Nat.mul_le_mul_right _ ih
    rw [Nat.add_mul] at h2
    omega
theorem nmv_63 {b : Nat} {c : Nat → Nat} {j k : Nat} (hb2 : b ≤ 32) (hk : k ≤ 8) (hc : ∀ i, i < k → c (j + i) ≤ 122) : nmv b c j k < 2 ^ 63 := by
  have h1 := nmv_le b c j hb2 k hk hc
  have h2 : 32 ^ k ≤ 32 ^ 8 := Nat.pow_le_pow_right (by omega) hk
  have h3 : (32 : Nat) ^ 8 < 2 ^ 63 := by decide
  omega
theorem nmv_congr (b : Nat) {c c' : Nat → Nat} {j j' : Nat} : ∀ k, (∀ i, i < k → c (j + i) = c' (j' + i)) → nmv b c j k = nmv b c' j' k
  | 0, _ => rfl
  | k + 1, h => by rw [nmv_s, nmv_s, nmv_congr b k fun i hi => h i (by omega), h k (by omega)]
/-- equal in one base, equal in the other -/
theorem nmv_alike {b b' : Nat} (hb : 27 ≤ b) (hb2 : b ≤ 32) {c c' : Nat → Nat} {j j' k k' : Nat} (hk : k ≤ 8) (hk' : k' ≤ 8) (h1 : ∀ i, i < k → 97 ≤ c (j + i) ∧ c (j + i) ≤ 122) (h2 : ∀ i, i < k' → 97 ≤ c' (j' + i) ∧ c' (j' + i) ≤ 122) (e : Int64.ofNat (nmv b c j k) = Int64.ofNat (nmv b c' j' k')) : Int64.ofNat (nmv b' c j k) = Int64.ofNat (nmv b' c' j' k') := by
  have e1 := of64 (nmv_63 hb2 hk fun i hi => (h1 i hi).2) (nmv_63 hb2 hk' fun i hi => (h2 i hi).2) e
  obtain ⟨q1, q2⟩ := nmv_inj hb k k' hk hk' h1 h2 e1
  subst q1
  rw [nmv_congr b' k q2]
theorem wd_alike {c : Nat → Nat} {j l w : Nat} (hl : l ≤ 8) (hc : ∀ i, i < l → 97 ≤ c (j + i) ∧ c (j + i) ≤ 122) (hw : w < 21) : cwF w 8 = Int64.ofNat (nmv 32 c j l) ↔ kL.getD w 0 = Int64.ofNat (nmv 27 c j l) := by
  obtain ⟨a1, a2, a3, a4⟩ := wl_ok w hw
  have a2' : ∀ i, i < wn w → 97 ≤ wl w (0 + i) ∧ wl w (0 + i) ≤ 122 := fun i hi => by rw [Nat.zero_add]; exact a2 i hi
  rw [a3, a4]
  exact ⟨fun e => nmv_alike (by omega) (by omega) a1 hl a2' hc e, fun e => nmv_alike (by omega) (by omega) a1 hl a2' hc e⟩
theorem cw_inj : ∀ w, w < 21 → ∀ w', w' < 21 → cwF w 8 = cwF w' 8 → w = w' := by decide +kernel
theorem lsK_p (y : Int64) : ∀ k, (lsK y k = 1 ∧ ∀ w, w < k → ¬ kL.getD w 0 = y) ∨ ∃ w, w < k ∧ lsK y k = 20 + w ∧ kL.getD w 0 = y
  | 0 => Or.inl ⟨rfl, fun w hw => by omega⟩
  | k + 1 => by
    rw [lsK_s]
    by_cases q : kL.getD k 0 = y
    · rw [if_pos q]; exact Or.inr ⟨k, by omega, rfl, q⟩
    · rw [if_neg q]
      rcases lsK_p y k with ⟨a1, a2⟩ | ⟨w, a1, a2, a3⟩
      · refine Or.inl ⟨a1, fun w hw => ?_⟩
        by_cases z : w = k
        · rw [z]; exact q
        · exact a2 w (by omega)
      · exact Or.inr ⟨w, by omega, a2, a3⟩
theorem kd_alike {c : Nat → Nat} {j l : Nat} (hl : l ≤ 8) (hc : ∀ i, i < l → 97 ≤ c (j + i) ∧ c (j + i) ≤ 122) : k2r (kdw (Int64.ofNat (nmv 32 c j l))) = lsK (Int64.ofNat (nmv 27 c j l)) 21 := by
  unfold kdw
  rcases fstN_p (fun w => decide (cwF w 8 = Int64.ofNat (nmv 32 c j l))) 21 0 with ⟨f1, f2⟩ | ⟨_, f1, f2⟩
  · rw [if_neg (by omega)]
    rcases lsK_p (Int64.ofNat (nmv 27 c j l)) 21 with ⟨a1, _⟩ | ⟨w, a1, _, a3⟩
    · rw [a1]; rfl
    · have := f2 w (by omega) (by omega)
      rw [decide_eq_false_iff_not] at this
      exact absurd ((wd_alike hl hc a1).mpr a3) this
  · generalize fstN (fun w => decide (cwF w 8 = Int64.ofNat (nmv 32 c j l))) 21 0 = w at f1 f2
    rw [decide_eq_true_eq] at f2
    rw [if_pos (by omega)]
    rcases lsK_p (Int64.ofNat (nmv 27 c j l)) 21 with ⟨_, a2⟩ | ⟨w', a1, a2, a3⟩
    · exact absurd ((wd_alike hl hc (by omega)).mp f2) (a2 w (by omega))
    · have e := cw_inj w (by omega) w' a1 (by rw [f2, (wd_alike hl hc a1).mpr a3])
      rw [a2, ← e]
      unfold k2r
      rw [if_neg (by omega)]
      omega
theorem rk_alike {n : Nat} {c : Nat → Nat} (hc : ∀ i, c i < 256) (j : Nat) : rkK n c j = k2r (tkK n c j) := by
  unfold rkK tkK
  by_cases q : j < n
  · rw [if_pos q, if_pos q]
    by_cases w : isWd c j = true
    · rw [if_pos w, if_pos w]
      by_cases l : rn (isWd c) n 2000 j - j ≤ 8
      · rw [if_pos l, if_pos l]
        exact (kd_alike l fun i hi => (isWd_i c (j + i)).mp (rn_in (isWd c) n 2000 j (j + i) (by omega) (by omega)).1).symm
      · rw [if_neg l, if_neg l]; rfl
    · rw [if_neg w, if_neg w]
      by_cases d : isDg c j = true
      · rw [if_pos d, if_pos d]
        split <;> rfl
      · rw [if_neg d, if_neg d]
        exact (sg_alike ⟨c j, hc j⟩).symm
  · rw [if_neg q, if_neg q]; rfl
