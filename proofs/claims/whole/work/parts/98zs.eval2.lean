/-! a law's value: stretches -/
section XEX
variable {s v : Nat → Int32} {a x : Nat} {cd ci : Nat → Int32}
/-- what a step's code says -/
theorem sy_un {y k i : Int32} (h : Sy y k i) (hu : yun y) (v : Nat → Int32) : ¬ 2 ≤ k ∧ (if k = 0 then i else v (cN i)) = uval v y ∧ (k = 0 ∨ (k = 1 ∧ ∃ j, j < 9 ∧ i = nI j)) := by
  rcases h with ⟨w, hw, h1, h2, h3⟩ | ⟨j, hj, h1, h2, h3⟩ | ⟨o, ho, h1, h2, h3⟩
  · subst h1 h2 h3
    refine ⟨by decide, ?_, Or.inl rfl⟩
    rw [if_pos rfl]
    unfold uval
    rw [if_neg]
    intro q
    rw [i32_lt, nI_toInt (by omega), show (0 : Int32).toInt = 0 by decide] at q
    omega
  · subst h1 h2 h3
    refine ⟨by decide, ?_, Or.inr ⟨rfl, j, hj, rfl⟩⟩
    rw [if_neg (by decide)]
    unfold uval
    have : ∀ j : Fin 9, (-1 - nI j.val : Int32) < 0 ∧ Int32.toNatClampNeg (-1 - (-1 - nI j.val)) = j.val := by decide
    obtain ⟨q1, q2⟩ := this ⟨j, hj⟩
    rw [if_pos q1, q2]
    unfold cN
    rw [nI_clamp (by omega)]
  · have := (yun_lt hu).1
    exact absurd (yop_lt ⟨o, ho, h1⟩).1 this
theorem sy_op {y k i : Int32} (h : Sy y k i) (hu : yopc y) : 2 ≤ k ∧ (k = 5 ↔ y = -13) ∧ (k = 2 ∨ k = 3 ∨ k = 4 ∨ k = 5) ∧ ∀ p q : Int32, ¬ (y = -13 ∧ q = 0) → opv k p q = comb y p q := by
  have no : ¬ yun y := fun z => (yun_lt z).1 (yop_lt hu).1
  rcases h with ⟨w, hw, h1, h2, h3⟩ | ⟨j, hj, h1, h2, h3⟩ | ⟨o, ho, h1, h2, h3⟩
  · exact absurd (Or.inl ⟨w, hw, h1⟩) no
  · exact absurd (Or.inr ⟨j, hj, h1⟩) no
  · subst h1 h2
    have : o = 0 ∨ o = 1 ∨ o = 2 ∨ o = 3 := by omega
    rcases this with q | q | q | q <;> subst q
    · exact ⟨by decide, by decide, by decide, fun p q _ => rfl⟩
    · exact ⟨by decide, by decide, by decide, fun p q _ => rfl⟩
    · exact ⟨by decide, by decide, by decide, fun p q _ => rfl⟩
    · refine ⟨by decide, by decide, by decide, fun p q z => ?_⟩
      have q0 : ¬ q = 0 := fun w => z ⟨by decide, w⟩
      show p / q = if ¬ q = 0 then p / q else 0
      rw [if_pos q0]
theorem ev_rt : ∀ (cnt dd N : Nat) (st : Nat → Int32), DP s a cnt dd → (∀ i, i < cnt → Sy (s (a + i)) (cd (x + i)) (ci (x + i))) → cnt ≤ N → (ev s v a cnt 0 st = none → rterm cd ci v N x 0 st = (0, true)) ∧ ∀ t' st', ev s v a cnt 0 st = some (t', st') → t' = dd ∧ rterm cd ci v N x 0 st = rterm cd ci v (N - cnt) (x + cnt) t' st'
  | 0, dd, N, st, h, _, _ => by
    have h0 : dd = 0 := h
    refine ⟨fun q => (by cases q), fun t' st' q => ?_⟩
    cases q
    exact ⟨by omega, rfl⟩
  | cnt + 1, dd, N, st, h, hs, hN => by
    have un : ev s v a (cnt + 1) 0 st = match ev s v a cnt 0 st with
      | none => none
      | some (t', st') => stp v (s (a + cnt)) t' st' := rfl
    have key := fun d0 (hd : DP s a cnt d0) => ev_rt cnt d0 N st hd (fun i hi => hs i (by omega)) (by omega)
    have sy := hs cnt (by omega)
    rcases h with ⟨h1, h2, h3, h4⟩ | ⟨h1, h2, h3⟩
    · obtain ⟨k1, k2⟩ := key _ h4
      obtain ⟨u1, u2⟩ := yun_lt h1
      obtain ⟨y1, y2, _⟩ := sy_un sy h1 v
      rcases hev : ev s v a cnt 0 st with _ | ⟨t1, st1⟩
      · rw [un, hev]
        exact ⟨fun _ => k1 hev, fun t' st' q => (by cases q)⟩
      · obtain ⟨e1, e2⟩ := k2 t1 st1 hev
        rw [un, hev]
        dsimp only
        unfold stp
        rw [if_pos u1]
        refine ⟨fun q => (by cases q), fun t' st' q => ?_⟩
        cases q
        refine ⟨by omega, ?_⟩
        rw [e2, show N - cnt = (N - (cnt + 1)) + 1 by omega, rterm_s, if_neg y1, y2]
        rfl
    · obtain ⟨k1, k2⟩ := key _ h3
      obtain ⟨u1, u2, u3⟩ := yop_lt h1
      obtain ⟨y1, y2, _, y4⟩ := sy_op sy h1
      rcases hev : ev s v a cnt 0 st with _ | ⟨t1, st1⟩
      · rw [un, hev]
        exact ⟨fun _ => k1 hev, fun t' st' q => (by cases q)⟩
      · obtain ⟨e1, e2⟩ := k2 t1 st1 hev
        rw [un, hev]
        dsimp only
        unfold stp
        rw [if_neg (fun z => z u1)]
        have rt : rterm cd ci v (N - cnt) (x + cnt) t1 st1 = if cd (x + cnt) = 5 ∧ st1 (t1 - 1) = 0 then (0, true) else rterm cd ci v (N - (cnt + 1)) (x + cnt + 1) (t1 - 1) (xone st1 (t1 - 2) (opv (cd (x + cnt)) (st1 (t1 - 2)) (st1 (t1 - 1)))) := by
          rw [show N - cnt = (N - (cnt + 1)) + 1 by omega, rterm_s, if_pos y1]
        by_cases q0 : s (a + cnt) = -13 ∧ st1 (t1 - 1) = 0
        · rw [if_pos q0]
          refine ⟨fun _ => by rw [e2, rt, if_pos ⟨y2.mpr q0.1, q0.2⟩], fun t' st' q => (by cases q)⟩
        · rw [if_neg q0]
          refine ⟨fun q => (by cases q), fun t' st' q => ?_⟩
          cases q
          refine ⟨by omega, ?_⟩
          rw [e2, rt, if_neg (fun z => q0 ⟨y2.mp z.1, z.2⟩), y4 _ _ q0]
          rfl
theorem stp_op {v : Nat → Int32} {y : Int32} {t : Nat} {st : Nat → Int32} (h : y < -9) : stp v y t st = if y = -13 ∧ st (t - 1) = 0 then none else some (t - 1, xone st (t - 2) (comb y (st (t - 2)) (st (t - 1)))) := if_neg (fun z => z h)
theorem stp_un {v : Nat → Int32} {y : Int32} {t : Nat} {st : Nat → Int32} (h : ¬ y < -9) : stp v y t st = some (t + 1, xone st t (uval v y)) := if_pos h
theorem ev_sh : ∀ (cnt dd t0 : Nat) (st st2 : Nat → Int32), DP s a cnt dd → (ev s v a cnt t0 st = none ∧ ev s v a cnt 0 st2 = none) ∨ ∃ st' st2', ev s v a cnt t0 st = some (t0 + dd, st') ∧ ev s v a cnt 0 st2 = some (dd, st2') ∧ ∀ j, j < dd → st' (t0 + j) = st2' j
  | 0, dd, t0, st, st2, h => by
    have h0 : dd = 0 := h
    subst h0
    exact Or.inr ⟨st, st2, rfl, rfl, fun j hj => by omega⟩
  | cnt + 1, dd, t0, st, st2, h => by
    have un : ∀ t st, ev s v a (cnt + 1) t st = match ev s v a cnt t st with
      | none => none
      | some (t', st') => stp v (s (a + cnt)) t' st' := fun _ _ => rfl
    rw [un, un]
    rcases h with ⟨h1, h2, h3, h4⟩ | ⟨h1, h2, h3⟩
    · obtain ⟨u1, u2⟩ := yun_lt h1
      rcases ev_sh cnt (dd - 1) t0 st st2 h4 with ⟨e1, e2⟩ | ⟨s1, s2, e1, e2, e3⟩
      · rw [e1, e2]; exact Or.inl ⟨rfl, rfl⟩
      · rw [e1, e2]
        dsimp only
        rw [stp_un u1, stp_un u1]
        refine Or.inr ⟨_, _, by rw [show t0 + (dd - 1) + 1 = t0 + dd by omega], by rw [show dd - 1 + 1 = dd by omega], fun j hj => ?_⟩
        by_cases q : j = dd - 1
        · rw [q, xone_s, xone_s]
        · rw [xone_n _ _ (by omega), xone_n _ _ q]; exact e3 j (by omega)
    · obtain ⟨u1, u2, u3⟩ := yop_lt h1
      rcases ev_sh cnt (dd + 1) t0 st st2 h3 with ⟨e1, e2⟩ | ⟨s1, s2, e1, e2, e3⟩
      · rw [e1, e2]; exact Or.inl ⟨rfl, rfl⟩
      · rw [e1, e2]
        dsimp only
        rw [stp_op u1, stp_op u1]
        have a1 : s1 (t0 + (dd + 1) - 1) = s2 (dd + 1 - 1) := by rw [show t0 + (dd + 1) - 1 = t0 + (dd + 1 - 1) by omega]; exact e3 _ (by omega)
        have a2 : s1 (t0 + (dd + 1) - 2) = s2 (dd + 1 - 2) := by rw [show t0 + (dd + 1) - 2 = t0 + (dd + 1 - 2) by omega]; exact e3 _ (by omega)
        rw [a1, a2]
        by_cases q0 : s (a + cnt) = -13 ∧ s2 (dd + 1 - 1) = 0
        · rw [if_pos q0, if_pos q0]; exact Or.inl ⟨rfl, rfl⟩
        · rw [if_neg q0, if_neg q0]
          refine Or.inr ⟨_, _, by rw [show t0 + (dd + 1) - 1 = t0 + dd by omega], by rw [show dd + 1 - 1 = dd by omega], fun j hj => ?_⟩
          by_cases q : j = dd + 1 - 2
          · rw [q, show t0 + (dd + 1 - 2) = t0 + (dd + 1) - 2 by omega, xone_s, xone_s]; rfl
          · rw [xone_n _ _ (by omega), xone_n _ _ q]; exact e3 j (by omega)
theorem rok_dp : ∀ (cnt dd r : Nat), DP s a cnt dd → (∀ i, i < cnt → Sy (s (a + i)) (cd (x + i)) (ci (x + i))) → rok cd ci r (x + cnt) dd → rok cd ci (cnt + r) x 0
  | 0, dd, r, h, _, hr => by
    have h0 : dd = 0 := h
    subst h0
    rw [Nat.zero_add]; exact hr
  | cnt + 1, dd, r, h, hs, hr => by
    have sy := hs cnt (by omega)
    rw [show cnt + 1 + r = cnt + (r + 1) by omega]
    rcases h with ⟨h1, h2, h3, h4⟩ | ⟨h1, h2, h3⟩
    · obtain ⟨y1, _, y3⟩ := sy_un sy h1 (fun _ => 0)
      refine rok_dp cnt (dd - 1) (r + 1) h4 (fun i hi => hs i (by omega)) (Or.inr ⟨y1, by omega, y3, ?_⟩)
      rw [show dd - 1 + 1 = dd by omega]; exact hr
    · obtain ⟨y1, _, y3, _⟩ := sy_op sy h1
      exact rok_dp cnt (dd + 1) (r + 1) h3 (fun i hi => hs i (by omega)) (Or.inl ⟨y1, by omega, y3, hr⟩)
end XEX
/-- the value of a stretch -/
def vv (s v : Nat → Int32) (a cnt : Nat) : Option Int32 := match ev s v a cnt 0 (fun _ => 0) with
  | none => none
  | some (_, st) => some (st 0)
section XEY
variable {n : Nat} {s v : Nat → Int32} {I : Nat → Nat → Int32} {a x cnt : Nat}
theorem vv_lr {t0 : Nat} {st : Nat → Int32} (h : DP s a cnt 1) (hn : a + cnt ≤ n) (ht : t0 ≤ 11) : (vv s v a cnt = none → LR n s v a t0 st = 0) ∧ ∀ y, vv s v a cnt = some y → LR n s v a t0 st = LR n s v (a + cnt) (t0 + 1) (xone st t0 y) := by
  obtain ⟨k1, k2⟩ := ev_lr (n := n) (v := v) cnt 1 t0 st h hn ht
  unfold vv
  rcases ev_sh (v := v) cnt 1 t0 st (fun _ => 0) h with ⟨e1, e2⟩ | ⟨s1, s2, e1, e2, e3⟩
  · rw [e2]
    exact ⟨fun _ => k1 e1, fun y q => (by cases q)⟩
  · rw [e2]
    refine ⟨fun q => (by cases q), fun y q => ?_⟩
    cases q
    obtain ⟨g1, g2, g3⟩ := k2 _ _ e1
    rw [g2]
    unfold LR
    refine lrun_st _ _ _ _ (fun _ _ => rfl) _ _ _ _ _ fun j hj => ?_
    by_cases q : j = t0
    · rw [q, xone_s]; exact e3 0 (by omega)
    · rw [xone_n _ _ q]; exact g3 j (by omega)
theorem vv_rt (h : Seg I s x a cnt) (v st : Nat → Int32) : (vv s v a cnt = none → rterm (I 467) (I 468) v cnt x 0 (fun _ => 0) = (0, true)) ∧ ∀ y, vv s v a cnt = some y → rterm (I 467) (I 468) v cnt x 0 (fun _ => 0) = (y, false) := by
  obtain ⟨k1, k2⟩ := ev_rt (v := v) (cd := I 467) (ci := I 468) cnt 1 cnt (fun _ => 0) h.1 h.2 (Nat.le_refl _)
  unfold vv
  rcases hev : ev s v a cnt 0 (fun _ => 0) with _ | ⟨t1, st1⟩
  · exact ⟨fun _ => k1 hev, fun y q => (by cases q)⟩
  · obtain ⟨g1, g2⟩ := k2 _ _ hev
    refine ⟨fun q => (by cases q), fun y q => ?_⟩
    cases q
    rw [g2, Nat.sub_self]
    rfl
theorem seg_ok {p q b : Nat} (h : Seg I s x a cnt) (hp : I p b = nI x) (hq : I q b = nI (x + cnt)) (hx : x + cnt ≤ 840) : segok I p q b := by
  refine ⟨x, x + cnt, by omega, hx, hp, hq, ?_⟩
  have := rok_dp (cd := I 467) (ci := I 468) cnt 1 0 h.1 h.2 rfl
  rw [show x + cnt - x = cnt + 0 by omega]
  exact this
theorem seg_rs {p q b : Nat} (h : Seg I s x a cnt) (hp : I p b = nI x) (hq : I q b = nI (x + cnt)) (hx : x + cnt ≤ 840) : rseg I v p q b = rterm (I 467) (I 468) v cnt x 0 (fun _ => 0) := by
  unfold rseg cN
  rw [hp, hq, nI_clamp (by omega), nI_clamp (by omega), Nat.add_sub_cancel_left]
end XEY
