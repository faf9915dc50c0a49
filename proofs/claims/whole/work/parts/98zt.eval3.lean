/-! a law's value: alike -/
section XEZ
variable {n : Nat} {s v : Nat → Int32} {I : Nat → Nat → Int32} {lo hi p b a a' : Nat}
theorem sk_cl {k : Nat} (h : k ≤ 500) : ¬ ((-100 : Int32) - nI k < -9 → False) ∧ ¬ (-100 : Int32) < -100 - nI k ∧ (-100 - nI k : Int32) ≠ -14 ∧ Int32.toNatClampNeg (-100 - (-100 - nI k)) = k := by
  have : ∀ k : Fin 501, ¬ ((-100 : Int32) - nI k.val < -9 → False) ∧ ¬ (-100 : Int32) < -100 - nI k.val ∧ (-100 - nI k.val : Int32) ≠ -14 ∧ Int32.toNatClampNeg (-100 - (-100 - nI k.val)) = k.val := by decide +kernel
  exact this ⟨k, by omega⟩
/-- the end branch -/
theorem bre_v (h : BrE I s lo hi b a n) (hh : hi ≤ 840) (st : Nat → Int32) : LR n s v a 0 st = rfin I v b := by
  obtain ⟨x, n3, h1, h2, ⟨h3, h4, h5⟩, h6, h7⟩ := h
  obtain ⟨k1, k2⟩ := vv_lr (n := n) (v := v) (t0 := 0) (st := st) h6.1 (by omega) (by omega)
  obtain ⟨r1, r2⟩ := vv_rt h6 v (fun _ => 0)
  unfold rfin
  rw [seg_rs h6 h4 h5 (by omega)]
  rcases hv : vv s v a n3 with _ | y
  · rw [k1 hv, r1 hv, if_pos rfl]
  · rw [k2 y hv, r2 y hv, if_neg (fun z => Bool.noConfusion z), LR_s, if_pos (Or.inl (by omega)), if_neg (by omega)]
    show xone st 0 y 0 = y
    rw [xone_s]
/-- a branch with its test -/
theorem brt_v (h : BrT I s lo hi b a a') (hh : hi ≤ 840) (hn : a' ≤ n) (n4 : n ≤ 400) (st : Nat → Int32) (r : Nat) : (∃ st', LR n s v a 0 st = LR n s v a' 0 st' ∧ rl I v (r + 1) b = rl I v r (b + 1)) ∨ LR n s v a 0 st = rl I v (r + 1) b := by
  obtain ⟨x, n1, n2, n3, h1, h2, ⟨h3, h4, h5, h6, h7⟩, h8, h9, h10, h11, h12, h13⟩ := h
  obtain ⟨k1, k2⟩ := vv_lr (n := n) (v := v) (t0 := 0) (st := st) h8.1 (by omega) (by omega)
  obtain ⟨r1, r2⟩ := vv_rt h8 v (fun _ => 0)
  obtain ⟨q1, q2⟩ := vv_rt h9 v (fun _ => 0)
  obtain ⟨w1, w2⟩ := vv_rt h11 v (fun _ => 0)
  rw [rl_s, h3, if_neg (by decide), seg_rs h8 h4 h5 (by omega), seg_rs h9 h5 h6 (by omega)]
  rcases hv1 : vv s v a n1 with _ | y1
  · right
    rw [k1 hv1, r1 hv1, if_pos (Or.inl rfl)]
  obtain ⟨l1, l2⟩ := vv_lr (n := n) (v := v) (t0 := 1) (st := xone st 0 y1) h9.1 (by omega) (by omega)
  rcases hv2 : vv s v (a + n1) n2 with _ | y2
  · right
    rw [k2 y1 hv1, l1 hv2, q1 hv2, if_pos (Or.inr rfl)]
  rw [r2 y1 hv1, q2 y2 hv2, if_neg (fun z => z.elim (fun z => Bool.noConfusion z) (fun z => Bool.noConfusion z)), k2 y1 hv1, l2 y2 hv2]
  obtain ⟨z1, z2, z3, z4⟩ := sk_cl (k := n3 + 1) (by omega)
  have sx : LR n s v (a + n1 + n2) 2 (xone (xone st 0 y1) 1 y2) = if y2 ≤ y1 then LR n s v a' 0 (xone (xone st 0 y1) 1 y2) else LR n s v (a + n1 + n2 + 1) 0 (xone (xone st 0 y1) 1 y2) := by
    rw [LR_s, h10, if_neg (by intro z; rcases z with z | z; omega; exact z3 z), if_neg (fun z => z1 (fun w => z w)), if_neg (by omega), if_pos z2, z4]
    have o1 : xone (xone st 0 y1) 1 y2 (2 - 1) = y2 := xone_s _ _ _
    have o2 : xone (xone st 0 y1) 1 y2 (2 - 2) = y1 := by
      show xone (xone st 0 y1) 1 y2 0 = y1
      rw [xone_n _ _ (by omega), xone_s]
    rw [o1, o2, show a + n1 + n2 + (n3 + 1) + 1 = a' by omega]
  rw [show 0 + 1 + 1 = 2 from rfl] at *
  rw [sx]
  show (∃ st', (if y2 ≤ y1 then _ else _) = _ ∧ (if y1 < y2 then _ else _) = _) ∨ (if y2 ≤ y1 then _ else _) = (if y1 < y2 then _ else _)
  by_cases q : y2 ≤ y1
  · have q' : ¬ y1 < y2 := by rw [i32_lt]; rw [i32_le] at q; omega
    rw [if_pos q, if_neg q']
    exact Or.inl ⟨_, rfl, rfl⟩
  · have q' : y1 < y2 := by rw [i32_lt]; rw [i32_le] at q; omega
    rw [if_neg q, if_pos q']
    right
    obtain ⟨m1, m2⟩ := vv_lr (n := n) (v := v) (t0 := 0) (st := xone (xone st 0 y1) 1 y2) h11.1 (by omega) (by omega)
    unfold rfin
    rw [seg_rs h11 h6 h7 (by omega)]
    rcases hv3 : vv s v (a + n1 + n2 + 1) n3 with _ | y3
    · rw [m1 hv3, w1 hv3, if_pos rfl]
    · rw [m2 y3 hv3, w2 y3 hv3, if_neg (fun z => Bool.noConfusion z), LR_s, if_pos (Or.inr h12), if_neg (by omega)]
      show xone _ 0 y3 0 = y3
      rw [xone_s]
theorem bl_v (hh : hi ≤ 840) (n4 : n ≤ 400) (st : Nat → Int32) : ∀ (k a r : Nat), BL I s lo hi p k a → a ≤ n → (∃ st', LR n s v 0 0 st = LR n s v a 0 st' ∧ rl I v (k + r) p = rl I v r (p + k)) ∨ LR n s v 0 0 st = rl I v (k + r) p
  | 0, a, r, h, _ => by
    have h0 : a = 0 := h
    subst h0
    exact Or.inl ⟨st, rfl, by rw [Nat.zero_add]; rfl⟩
  | k + 1, a, r, ⟨a0, h1, h2⟩, hn => by
    have := h2.lt
    rw [show k + 1 + r = k + (r + 1) by omega]
    rcases bl_v hh n4 st k a0 (r + 1) h1 (by omega) with ⟨st1, e1, e2⟩ | e1
    · rcases brt_v (v := v) h2 hh hn n4 st1 r with ⟨st2, e3, e4⟩ | e3
      · exact Or.inl ⟨st2, by rw [e1, e3], by rw [e2, e4]; rfl⟩
      · exact Or.inr (by rw [e1, e2, e3])
    · exact Or.inr e1
theorem law_alike {M : XM} {q ix : Nat} {l : YL} (h : LW M lo hi p q ix l) (hh : hi ≤ 840) (n4 : l.1 ≤ 400) (v : Nat → Int32) : lawv l.1 l.2 v = rl (xI M) v (q - p) p := by
  obtain ⟨h1, h2, h3, a, h4, h5⟩ := h
  have an : a ≤ l.1 := by
    obtain ⟨x, n3, _, _, _, _, e⟩ := h5
    omega
  have e0 : lawv l.1 l.2 v = LR l.1 l.2 v 0 0 (fun _ => 0) := by
    unfold lawv LR
    exact lrun_fuel _ _ _ _ _ (by omega) (by omega) (by omega) (by omega)
  rw [e0, show q - p = (q - 1 - p) + 1 by omega]
  rcases bl_v (v := v) hh n4 (fun _ => 0) (q - 1 - p) a 1 h4 an with ⟨st1, e1, e2⟩ | e1
  · rw [e1, e2, bre_v h5 hh st1, show p + (q - 1 - p) = q - 1 by omega, rl_s, if_pos]
    obtain ⟨x, n3, _, _, ⟨e, _⟩, _⟩ := h5
    exact e
  · exact e1
/-- the branches of a law are as they should be -/
theorem law_rwf {M : XM} {q ix sd : Nat} {l : YL} (h : LW M (420 * sd) hi p q ix l) (hp : 130 * sd ≤ p) (hq : q ≤ 130 * sd + 130) (hh : hi ≤ 420 * sd + 420) (hs : sd < 2) : ∀ b, p ≤ b → b < q → rwf (xI M) b ∧ rreg (xI M) sd b := by
  obtain ⟨h1, h2, h3, a, h4, h5⟩ := h
  have cn : ∀ k, k ≤ 840 → cN (nI k) = k := fun k hk => by unfold cN; exact nI_clamp (by omega)
  have bt : ∀ (k a : Nat), BL (xI M) l.2 (420 * sd) hi p k a → ∀ b, p ≤ b → b < p + k → b < 130 * sd + 130 → rwf (xI M) b ∧ rreg (xI M) sd b := by
    intro k
    induction k with
    | zero => intro a _ b b1 b2; omega
    | succ k ih =>
      intro a ⟨a0, g1, g2⟩ b b1 b2 b3
      by_cases y : b = p + k
      · subst y
        obtain ⟨x, n1, n2, n3, e1, e2, ⟨e3, e4, e5, e6, e7⟩, e8, e9, e10, e11, e12, e13⟩ := g2
        refine ⟨⟨Or.inr ⟨seg_ok e8 e4 e5 (by omega), seg_ok e9 e5 e6 (by omega)⟩, seg_ok e11 e6 e7 (by omega)⟩, by omega, b3, Or.inr ?_, ?_, ?_⟩
        · rw [e4, cn _ (by omega)]; omega
        · rw [e6, cn _ (by omega)]; omega
        · rw [e7, cn _ (by omega)]; omega
      · exact ih a0 g1 b b1 (by omega) b3
  intro b b1 b2
  by_cases y : b = q - 1
  · subst y
    obtain ⟨x, n3, e1, e2, ⟨e3, e4, e5⟩, e6, e7⟩ := h5
    refine ⟨⟨Or.inl e3, seg_ok e6 e4 e5 (by omega)⟩, by omega, by omega, Or.inl e3, ?_, ?_⟩
    · rw [e4, cn _ (by omega)]; omega
    · rw [e5, cn _ (by omega)]; omega
  · exact bt _ a h4 b b1 (by omega) (by omega)
end XEZ
/-- a law of the side sd, as the class has it -/
theorem lk_law {M : XM} {sd q cd k : Nat} {l : YL} (hs : sd < 2) (hq : q ≤ 130 * sd + 130) (hc : cd ≤ 420 * sd + 420) (h : LK M sd q cd k l) : RLaw (xI M) sd k (lawv l.1 l.2) := by
  rcases h with ⟨a1, a2, a3⟩ | ⟨p, q', a1, a2, a3, a4⟩
  · exact ⟨0, 0, by omega, by omega, a1, a2, fun b h1 h2 => by omega, fun v => by rw [if_pos rfl]; exact a3 v, fun v v' hv => lawv_v _ _ _ _ hv⟩
  · have pq := a3.2.2.1
    exact ⟨p, q', by omega, by omega, a3.1, a3.2.1, law_rwf a3 a1 (by omega) hc hs, fun v => by rw [if_neg (by omega)]; exact law_alike a3 (by omega) a4 v, fun v v' hv => lawv_v _ _ _ _ hv⟩
