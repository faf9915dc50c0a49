/-! a law's value: the class's steps on a stack -/
/-- M' is M but for the ints of the slots P -/
def Ex (P : Nat → Nat → Prop) (M M' : XM) : Prop := M'.1 = M.1 ∧ xS M' = xS M ∧ xF M' = xF M ∧ xJ M' = xJ M ∧ ∀ a k, ¬ P a k → xI M' a k = xI M a k
section XEX
variable {P P' : Nat → Nat → Prop} {M M' M'' : XM}
theorem Ex.z (h : Ex P M M') : M'.1 = M.1 := h.1
theorem Ex.S (h : Ex P M M') : xS M' = xS M := h.2.1
theorem Ex.F (h : Ex P M M') : xF M' = xF M := h.2.2.1
theorem Ex.J (h : Ex P M M') : xJ M' = xJ M := h.2.2.2.1
theorem Ex.I (h : Ex P M M') {a k : Nat} (n : ¬ P a k) : xI M' a k = xI M a k := h.2.2.2.2 a k n
theorem Ex.row (h : Ex P M M') {a : Nat} (n : ∀ k, ¬ P a k) : xI M' a = xI M a := funext fun k => h.2.2.2.2 a k (n k)
theorem Ex.refl (P : Nat → Nat → Prop) (M : XM) : Ex P M M := ⟨rfl, rfl, rfl, rfl, fun _ _ _ => rfl⟩
theorem Ex.trans (h : Ex P M M') (h' : Ex P M' M'') : Ex P M M'' := ⟨h'.1.trans h.1, h'.2.1.trans h.2.1, h'.2.2.1.trans h.2.2.1, h'.2.2.2.1.trans h.2.2.2.1, fun a k n => (h'.2.2.2.2 a k n).trans (h.2.2.2.2 a k n)⟩
theorem Ex.mono (h : Ex P M M') (hp : ∀ a k, P a k → P' a k) : Ex P' M M' := ⟨h.1, h.2.1, h.2.2.1, h.2.2.2.1, fun a k n => h.2.2.2.2 a k fun q => n (hp a k q)⟩
theorem Ex.wr (h : Ex P M M') {a k : Nat} (x : Int32) (hp : P a k) : Ex P M (xmI M' a k x) := ⟨h.1, h.2.1, h.2.2.1, h.2.2.2.1, fun b j n => by
  rw [xI_I, xup_at, if_neg (fun q => n (by rw [q.1, q.2]; exact hp))]
  exact h.I n⟩
end XEX
def comb (c l r : Int32) : Int32 := if c = -12 then l * r else if c = -11 then l - r else if c = -10 then l + r else if ¬ r = 0 then l / r else 0
def lrun (n : Nat) (s v : Nat → Int32) : Nat → Nat → Nat → (Nat → Int32) → Int32
  | 0, _, _, _ => 0
  | f + 1, i, t, st =>
    if n ≤ i ∨ s i = -14 then (if t = 0 then 0 else st (t - 1))
    else if ¬ s i < -9 then (if 32 ≤ t then 0 else lrun n s v f (i + 1) (t + 1) (xone st t (if s i < 0 then v (Int32.toNatClampNeg (-1 - s i)) else s i)))
    else if t < 2 then 0
    else if ¬ (-100 : Int32) < s i then (if st (t - 1) ≤ st (t - 2) then lrun n s v f (i + Int32.toNatClampNeg (-100 - s i) + 1) (t - 2) st else lrun n s v f (i + 1) (t - 2) st)
    else if s i = -13 ∧ st (t - 1) = 0 then 0
    else lrun n s v f (i + 1) (t - 1) (xone st (t - 2) (comb (s i) (st (t - 2)) (st (t - 1))))
theorem lrun_s (n : Nat) (s v : Nat → Int32) (f i t : Nat) (st : Nat → Int32) : lrun n s v (f + 1) i t st = 
    (if n ≤ i ∨ s i = -14 then (if t = 0 then 0 else st (t - 1))
    else if ¬ s i < -9 then (if 32 ≤ t then 0 else lrun n s v f (i + 1) (t + 1) (xone st t (if s i < 0 then v (Int32.toNatClampNeg (-1 - s i)) else s i)))
    else if t < 2 then 0
    else if ¬ (-100 : Int32) < s i then (if st (t - 1) ≤ st (t - 2) then lrun n s v f (i + Int32.toNatClampNeg (-100 - s i) + 1) (t - 2) st else lrun n s v f (i + 1) (t - 2) st)
    else if s i = -13 ∧ st (t - 1) = 0 then 0
    else lrun n s v f (i + 1) (t - 1) (xone st (t - 2) (comb (s i) (st (t - 2)) (st (t - 1))))) := rfl
theorem lrun_st (n : Nat) (s v v' : Nat → Int32) (hv : ∀ k, k < 9 → v k = v' k) : ∀ (f i t : Nat) (st st' : Nat → Int32), (∀ j, j < t → st j = st' j) → lrun n s v f i t st = lrun n s v' f i t st'
  | 0, _, _, _, _, _ => rfl
  | f + 1, i, t, st, st', h => by
    rw [lrun_s, lrun_s]
    by_cases h1 : n ≤ i ∨ s i = -14
    · rw [if_pos h1, if_pos h1]
      by_cases h2 : t = 0
      · rw [if_pos h2, if_pos h2]
      · rw [if_neg h2, if_neg h2, h (t - 1) (by omega)]
    rw [if_neg h1, if_neg h1]
    by_cases h2 : ¬ s i < -9
    · rw [if_pos h2, if_pos h2]
      by_cases h3 : 32 ≤ t
      · rw [if_pos h3, if_pos h3]
      · rw [if_neg h3, if_neg h3]
        have e : (if s i < 0 then v (Int32.toNatClampNeg (-1 - s i)) else s i) = if s i < 0 then v' (Int32.toNatClampNeg (-1 - s i)) else s i := by
          by_cases h4 : s i < 0
          · rw [if_pos h4, if_pos h4]
            apply hv
            rw [Int32.lt_iff_toInt_lt] at h2 h4
            rw [← Int32.toNat_toInt, Int32.toInt_sub]
            have e1 : (-9 : Int32).toInt = -9 := by decide
            have e2 : (0 : Int32).toInt = 0 := by decide
            have e3 : (-1 : Int32).toInt = -1 := by decide
            rw [e1] at h2; rw [e2] at h4; rw [e3]
            rw [Int.bmod_eq_of_le (by omega) (by omega)]
            omega
          · rw [if_neg h4, if_neg h4]
        rw [e]
        apply lrun_st n s v v' hv
        intro j hj
        unfold xone
        by_cases h5 : j = t
        · rw [if_pos h5, if_pos h5]
        · rw [if_neg h5, if_neg h5]; exact h j (by omega)
    rw [if_neg h2, if_neg h2]
    by_cases h3 : t < 2
    · rw [if_pos h3, if_pos h3]
    rw [if_neg h3, if_neg h3, h (t - 1) (by omega), h (t - 2) (by omega)]
    have ih : ∀ i' , lrun n s v f i' (t - 2) st = lrun n s v' f i' (t - 2) st' := fun i' => lrun_st n s v v' hv f i' (t - 2) st st' fun j hj => h j (by omega)
    rw [ih, ih]
    have ih2 : lrun n s v f (i + 1) (t - 1) (xone st (t - 2) (comb (s i) (st' (t - 2)) (st' (t - 1)))) = lrun n s v' f (i + 1) (t - 1) (xone st' (t - 2) (comb (s i) (st' (t - 2)) (st' (t - 1)))) := by
      apply lrun_st n s v v' hv
      intro j hj
      unfold xone
      by_cases h5 : j = t - 2
      · rw [if_pos h5, if_pos h5]
      · rw [if_neg h5, if_neg h5]; exact h j (by omega)
    rw [ih2]
/-- the law of n steps s at the variables v -/
def lawv (n : Nat) (s v : Nat → Int32) : Int32 := lrun n s v (n + 1) 0 0 (fun _ => 0)
theorem i32_lt {a b : Int32} : a < b ↔ a.toInt < b.toInt := Int32.lt_iff_toInt_lt
theorem i32_le {a b : Int32} : a ≤ b ↔ a.toInt ≤ b.toInt := Int32.le_iff_toInt_le
theorem nI_sub {a b : Nat} (h : b ≤ a) : nI a - nI b = nI (a - b) := by
  obtain ⟨c, rfl⟩ : ∃ c, a = b + c := ⟨a - b, by omega⟩
  rw [← nI_add, Nat.add_sub_cancel_left, Int32.add_comm, Int32.add_sub_cancel]
theorem c_combined {c l r : Int32} {M : XM} {Q : Option Value → XM → Prop} : RG xprog 125 0 [some (.int c), some (.int l), some (.int r)] [] M Q = Q (some (.int (comb c l r))) M := by
  rw [B_125_0]
  unfold comb
  repeat' split
  all_goals first | rfl | simp_all
