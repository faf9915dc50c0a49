/-! a law's value: the class's steps and the reference's branches -/
section XEV
variable {n : Nat} {s v : Nat → Int32}
theorem lrun_fuel : ∀ (f f' i t : Nat) (st : Nat → Int32), n + 1 ≤ i + f → n + 1 ≤ i + f' → 1 ≤ f → 1 ≤ f' → lrun n s v f i t st = lrun n s v f' i t st
  | 0, _, _, _, _, _, _, h, _ => by omega
  | _ + 1, 0, _, _, _, _, _, _, h => by omega
  | f + 1, f' + 1, i, t, st, h, h', _, _ => by
    rw [lrun_s, lrun_s]
    by_cases q : n ≤ i ∨ s i = -14
    · rw [if_pos q, if_pos q]
    · have hi : ¬ n ≤ i := fun z => q (Or.inl z)
      rw [if_neg q, if_neg q, lrun_fuel f f' (i + 1) (t + 1) _ (by omega) (by omega) (by omega) (by omega), lrun_fuel f f' (i + Int32.toNatClampNeg (-100 - s i) + 1) (t - 2) st (by omega) (by omega) (by omega) (by omega), lrun_fuel f f' (i + 1) (t - 2) st (by omega) (by omega) (by omega) (by omega), lrun_fuel f f' (i + 1) (t - 1) _ (by omega) (by omega) (by omega) (by omega)]
end XEV
def LR (n : Nat) (s v : Nat → Int32) (i t : Nat) (st : Nat → Int32) : Int32 := lrun n s v (n + 2) i t st
/-- the value of a step that stands for one -/
def uval (v : Nat → Int32) (x : Int32) : Int32 := if x < 0 then v (Int32.toNatClampNeg (-1 - x)) else x
/-- one step on a stack of t values -/
def stp (v : Nat → Int32) (x : Int32) (t : Nat) (st : Nat → Int32) : Option (Nat × (Nat → Int32)) := if ¬ x < -9 then some (t + 1, xone st t (uval v x)) else if x = -13 ∧ st (t - 1) = 0 then none else some (t - 1, xone st (t - 2) (comb x (st (t - 2)) (st (t - 1))))
def ev (s v : Nat → Int32) (a : Nat) : Nat → Nat → (Nat → Int32) → Option (Nat × (Nat → Int32))
  | 0, t, st => some (t, st)
  | cnt + 1, t, st => match ev s v a cnt t st with
    | none => none
    | some (t', st') => stp v (s (a + cnt)) t' st'
section XEW
variable {n : Nat} {s v : Nat → Int32} {a : Nat}
theorem LR_s {i t : Nat} {st : Nat → Int32} : LR n s v i t st = if n ≤ i ∨ s i = -14 then (if t = 0 then 0 else st (t - 1)) else if ¬ s i < -9 then (if 32 ≤ t then 0 else LR n s v (i + 1) (t + 1) (xone st t (uval v (s i)))) else if t < 2 then 0 else if ¬ (-100 : Int32) < s i then (if st (t - 1) ≤ st (t - 2) then LR n s v (i + Int32.toNatClampNeg (-100 - s i) + 1) (t - 2) st else LR n s v (i + 1) (t - 2) st) else if s i = -13 ∧ st (t - 1) = 0 then 0 else LR n s v (i + 1) (t - 1) (xone st (t - 2) (comb (s i) (st (t - 2)) (st (t - 1)))) := by
  unfold LR uval
  rw [lrun_s]
  rw [lrun_fuel (n + 1) (n + 2) (i + 1) (t + 1) _ (by omega) (by omega) (by omega) (by omega), lrun_fuel (n + 1) (n + 2) (i + Int32.toNatClampNeg (-100 - s i) + 1) (t - 2) st (by omega) (by omega) (by omega) (by omega), lrun_fuel (n + 1) (n + 2) (i + 1) (t - 2) st (by omega) (by omega) (by omega) (by omega), lrun_fuel (n + 1) (n + 2) (i + 1) (t - 1) _ (by omega) (by omega) (by omega) (by omega)]
theorem yun_lt {x : Int32} (h : yun x) : ¬ x < -9 ∧ x ≠ -14 := by
  rcases h with ⟨u, hu, rfl⟩ | ⟨i, hi, rfl⟩
  · have h1 : (nI u).toInt = u := nI_toInt (by omega)
    refine ⟨fun q => ?_, fun q => ?_⟩
    · rw [i32_lt, h1, show (-9 : Int32).toInt = -9 by decide] at q; omega
    · have := congrArg Int32.toInt q
      rw [h1, show (-14 : Int32).toInt = -14 by decide] at this; omega
  · have : ∀ i : Fin 9, ¬ (-1 - nI i.val : Int32) < -9 ∧ (-1 - nI i.val : Int32) ≠ -14 := by decide
    exact this ⟨i, hi⟩
theorem yop_lt {x : Int32} (h : yopc x) : x < -9 ∧ x ≠ -14 ∧ (-100 : Int32) < x := by
  obtain ⟨o, ho, rfl⟩ := h
  have : ∀ o : Fin 4, (-10 - nI o.val : Int32) < -9 ∧ (-10 - nI o.val : Int32) ≠ -14 ∧ (-100 : Int32) < -10 - nI o.val := by decide
  exact this ⟨o, ho⟩
/-- the stack's height, and that the class's run goes along -/
theorem ev_lr : ∀ (cnt dd t0 : Nat) (st : Nat → Int32), DP s a cnt dd → a + cnt ≤ n → t0 ≤ 11 → (ev s v a cnt t0 st = none → LR n s v a t0 st = 0) ∧ ∀ t' st', ev s v a cnt t0 st = some (t', st') → t' = t0 + dd ∧ LR n s v a t0 st = LR n s v (a + cnt) t' st' ∧ ∀ j, j < t0 → st' j = st j
  | 0, dd, t0, st, h, hn, ht => by
    have h0 : dd = 0 := h
    refine ⟨fun q => (by cases q), fun t' st' q => ?_⟩
    cases q
    exact ⟨by omega, rfl, fun _ _ => rfl⟩
  | cnt + 1, dd, t0, st, h, hn, ht => by
    have key : ∀ d0, DP s a cnt d0 → (ev s v a cnt t0 st = none → LR n s v a t0 st = 0) ∧ ∀ t' st', ev s v a cnt t0 st = some (t', st') → t' = t0 + d0 ∧ LR n s v a t0 st = LR n s v (a + cnt) t' st' ∧ ∀ j, j < t0 → st' j = st j := fun d0 hd => ev_lr cnt d0 t0 st hd (by omega) ht
    have un : ev s v a (cnt + 1) t0 st = match ev s v a cnt t0 st with
      | none => none
      | some (t', st') => stp v (s (a + cnt)) t' st' := rfl
    rcases h with ⟨h1, h2, h3, h4⟩ | ⟨h1, h2, h3⟩
    · obtain ⟨k1, k2⟩ := key _ h4
      obtain ⟨u1, u2⟩ := yun_lt h1
      rcases hev : ev s v a cnt t0 st with _ | ⟨t1, st1⟩
      · rw [un, hev]
        exact ⟨fun _ => k1 hev, fun t' st' q => by cases q⟩
      · obtain ⟨e1, e2, e3⟩ := k2 t1 st1 hev
        rw [un, hev]
        dsimp only
        unfold stp
        rw [if_pos u1]
        refine ⟨fun q => (by cases q), fun t' st' q => ?_⟩
        cases q
        refine ⟨by omega, ?_, fun j hj => by rw [xone_n _ _ (by omega)]; exact e3 j hj⟩
        rw [e2, LR_s, if_neg (by intro z; rcases z with z | z; omega; exact u2 z), if_pos u1, if_neg (by omega)]
        rfl
    · obtain ⟨k1, k2⟩ := key _ h3
      obtain ⟨u1, u2, u3⟩ := yop_lt h1
      rcases hev : ev s v a cnt t0 st with _ | ⟨t1, st1⟩
      · rw [un, hev]
        exact ⟨fun _ => k1 hev, fun t' st' q => by cases q⟩
      · obtain ⟨e1, e2, e3⟩ := k2 t1 st1 hev
        rw [un, hev]
        dsimp only
        unfold stp
        rw [if_neg (fun z => z u1)]
        have lr : LR n s v (a + cnt) t1 st1 = if s (a + cnt) = -13 ∧ st1 (t1 - 1) = 0 then 0 else LR n s v (a + cnt + 1) (t1 - 1) (xone st1 (t1 - 2) (comb (s (a + cnt)) (st1 (t1 - 2)) (st1 (t1 - 1)))) := by
          rw [LR_s, if_neg (by intro z; rcases z with z | z; omega; exact u2 z), if_neg (fun z => z u1), if_neg (by omega), if_neg (fun z => z u3)]
        by_cases q0 : s (a + cnt) = -13 ∧ st1 (t1 - 1) = 0
        · rw [if_pos q0]
          refine ⟨fun _ => by rw [e2, lr, if_pos q0], fun t' st' q => by cases q⟩
        · rw [if_neg q0]
          refine ⟨fun q => (by cases q), fun t' st' q => ?_⟩
          cases q
          refine ⟨by omega, by rw [e2, lr, if_neg q0]; rfl, fun j hj => by rw [xone_n _ _ (by omega)]; exact e3 j hj⟩
end XEW
