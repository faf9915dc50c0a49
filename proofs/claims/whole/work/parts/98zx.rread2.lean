/-! read of the reference: frames -/
section XRP
variable {cd ci cd' ci' : Nat → Int32}
theorem rok_c : ∀ (n c t : Nat), (∀ i, c ≤ i → i < c + n → cd' i = cd i ∧ ci' i = ci i) → rok cd ci n c t → rok cd' ci' n c t
  | 0, _, _, _, h => h
  | n + 1, c, t, e, h => by
    obtain ⟨e1, e2⟩ := e c (Nat.le_refl _) (by omega)
    rcases h with ⟨h1, h2, h3, h4⟩ | ⟨h1, h2, h3, h4⟩
    · exact Or.inl ⟨by rw [e1]; exact h1, h2, by rw [e1]; exact h3, rok_c n (c + 1) (t - 1) (fun i a b => e i (by omega) (by omega)) h4⟩
    · exact Or.inr ⟨by rw [e1]; exact h1, h2, by rw [e1, e2]; exact h3, rok_c n (c + 1) (t + 1) (fun i a b => e i (by omega) (by omega)) h4⟩
theorem rterm_c (v : Nat → Int32) : ∀ (n c t : Nat) (st : Nat → Int32), (∀ i, c ≤ i → i < c + n → cd' i = cd i ∧ ci' i = ci i) → rterm cd' ci' v n c t st = rterm cd ci v n c t st
  | 0, _, _, _, _ => rfl
  | n + 1, c, t, st, e => by
    obtain ⟨e1, e2⟩ := e c (Nat.le_refl _) (by omega)
    rw [rterm_s, rterm_s, e1, e2, rterm_c v n (c + 1) (t - 1) _ (fun i a b => e i (by omega) (by omega)), rterm_c v n (c + 1) (t + 1) _ (fun i a b => e i (by omega) (by omega))]
end XRP
section XRQ
variable {I J : Nat → Nat → Int32} {lv : Nat}
/-- alike on the side lv -/
def SdEq (I J : Nat → Nat → Int32) (lv : Nat) : Prop := (∀ r b, 462 ≤ r → r ≤ 466 → 130 * lv ≤ b → b < 130 * lv + 130 → J r b = I r b) ∧ (∀ r k, r = 467 ∨ r = 468 → 420 * lv ≤ k → k < 420 * lv + 420 → J r k = I r k) ∧ ∀ r k, r = 460 ∨ r = 461 → 4 * lv ≤ k → k < 4 * lv + 4 → J r k = I r k
theorem segok_c {x y b p q : Nat} (h : segok I x y b) (hx : J x b = I x b) (hy : J y b = I y b) (hp : cN (I x b) = p) (hq : cN (I y b) = q) (hc : ∀ k, p ≤ k → k < q → J 467 k = I 467 k ∧ J 468 k = I 468 k) : segok J x y b ∧ ∀ v, rseg J v x y b = rseg I v x y b := by
  obtain ⟨p', q', h1, h2, h3, h4, h5⟩ := h
  have ep : p = p' := by rw [← hp, h3]; unfold cN; exact nI_clamp (by omega)
  have eq : q = q' := by rw [← hq, h4]; unfold cN; exact nI_clamp (by omega)
  subst ep eq
  refine ⟨⟨p, q, h1, h2, by rw [hx]; exact h3, by rw [hy]; exact h4, rok_c _ _ _ (fun i a b => hc i a (by omega)) h5⟩, fun v => ?_⟩
  unfold rseg
  rw [hx, hy, hp, hq]
  exact rterm_c v _ _ _ _ (fun i a b => hc i a (by omega))
theorem rbr_c {b : Nat} (e : SdEq I J lv) (hw : rwf I b) (hr : rreg I lv b) (v : Nat → Int32) : rwf J b ∧ rreg J lv b ∧ rfin J v b = rfin I v b ∧ J 462 b = I 462 b ∧ (¬ I 462 b = 0 → rseg J v 463 464 b = rseg I v 463 464 b ∧ rseg J v 464 465 b = rseg I v 464 465 b) := by
  obtain ⟨e1, e2, e3⟩ := e
  obtain ⟨r1, r2, r3, r4, r5⟩ := hr
  obtain ⟨w1, w2⟩ := hw
  have E : ∀ r, 462 ≤ r → r ≤ 466 → J r b = I r b := fun r h1 h2 => e1 r b h1 h2 r1 r2
  have C : ∀ p q, 420 * lv ≤ p → q ≤ 420 * lv + 420 → ∀ k, p ≤ k → k < q → J 467 k = I 467 k ∧ J 468 k = I 468 k := fun p q h1 h2 k h3 h4 => ⟨e2 467 k (Or.inl rfl) (by omega) (by omega), e2 468 k (Or.inr rfl) (by omega) (by omega)⟩
  obtain ⟨s1, s2⟩ := segok_c (J := J) w2 (E 465 (by omega) (by omega)) (E 466 (by omega) (by omega)) rfl rfl (C _ _ r4 r5)
  have fin : rfin J v b = rfin I v b := by unfold rfin; rw [s2 v]
  have e62 := E 462 (by omega) (by omega)
  by_cases z : I 462 b = 0
  · refine ⟨⟨Or.inl (by rw [e62]; exact z), s1⟩, ⟨r1, r2, Or.inl (by rw [e62]; exact z), by rw [E 465 (by omega) (by omega)]; exact r4, by rw [E 466 (by omega) (by omega)]; exact r5⟩, fin, e62, fun q => absurd z q⟩
  · obtain ⟨w3, w4⟩ := w1.resolve_left z
    have r3' := r3.resolve_left z
    have le1 : cN (I 463 b) ≤ cN (I 464 b) := by
      obtain ⟨p', q', h1, h2, h3, h4, _⟩ := w3
      rw [h3, h4]; unfold cN; rw [nI_clamp (by omega), nI_clamp (by omega)]; exact h1
    have le2 : cN (I 464 b) ≤ cN (I 465 b) := by
      obtain ⟨p', q', h1, h2, h3, h4, _⟩ := w4
      rw [h3, h4]; unfold cN; rw [nI_clamp (by omega), nI_clamp (by omega)]; exact h1
    have le3 : cN (I 465 b) ≤ cN (I 466 b) := by
      obtain ⟨p', q', h1, h2, h3, h4, _⟩ := w2
      rw [h3, h4]; unfold cN; rw [nI_clamp (by omega), nI_clamp (by omega)]; exact h1
    obtain ⟨t1, t2⟩ := segok_c (J := J) w3 (E 463 (by omega) (by omega)) (E 464 (by omega) (by omega)) rfl rfl (C _ _ r3' (by omega))
    obtain ⟨u1, u2⟩ := segok_c (J := J) w4 (E 464 (by omega) (by omega)) (E 465 (by omega) (by omega)) rfl rfl (C _ _ (by omega) (by omega))
    exact ⟨⟨Or.inr ⟨t1, u1⟩, s1⟩, ⟨r1, r2, Or.inr (by rw [E 463 (by omega) (by omega)]; exact r3'), by rw [E 465 (by omega) (by omega)]; exact r4, by rw [E 466 (by omega) (by omega)]; exact r5⟩, fin, e62, fun _ => ⟨t2 v, u2 v⟩⟩
theorem rl_c (e : SdEq I J lv) (v : Nat → Int32) : ∀ (n b : Nat), (∀ j, b ≤ j → j < b + n → rwf I j ∧ rreg I lv j) → rl J v n b = rl I v n b
  | 0, _, _ => rfl
  | n + 1, b, h => by
    obtain ⟨_, _, h3, h4, h5⟩ := rbr_c e (h b (Nat.le_refl _) (by omega)).1 (h b (Nat.le_refl _) (by omega)).2 v
    rw [rl_s, rl_s, h3, h4, rl_c e v n (b + 1) (fun j a b => h j (by omega) (by omega))]
    by_cases z : I 462 b = 0
    · rw [if_pos z, if_pos z]
    · rw [if_neg z, if_neg z, (h5 z).1, (h5 z).2]
theorem RLaw.sd {k : Nat} {f : (Nat → Int32) → Int32} (h : RLaw I lv k f) (hk : k < 4) (e : SdEq I J lv) : RLaw J lv k f := by
  obtain ⟨p, q, h1, h2, h3, h4, h5, h6, h7⟩ := h
  refine ⟨p, q, h1, h2, by rw [e.2.2 460 _ (Or.inl rfl) (by omega) (by omega)]; exact h3, by rw [e.2.2 461 _ (Or.inr rfl) (by omega) (by omega)]; exact h4, fun b b1 b2 => ?_, fun v => ?_, h7⟩
  · obtain ⟨g1, g2, _⟩ := rbr_c e (h5 b b1 b2).1 (h5 b b1 b2).2 (fun _ => 0)
    exact ⟨g1, g2⟩
  · rw [h6 v]
    split
    · rfl
    · exact (rl_c e v (q - p) p (fun j a b => h5 j a (by omega))).symm
end XRQ
/-- the side lv under what is told on the other -/
theorem RW.sd {M M' : XM} {lv : Nat} {T : XT} (h : RW M lv T) (e : E3 (gR' (1 - lv)) gRJ noF M M') : RW M' lv T := by
  obtain ⟨h1, ⟨h2, h3, h4, h5, h6, h7, h8, h9⟩, h10⟩ := h
  have n7 := h10.1
  have r6 := h10.2.1
  have I : ∀ a k, ¬ gR' (1 - lv) a k → xI M' a k = xI M a k := fun a k q => e.I q
  refine ⟨h1.e3 e, ⟨h2, ?_, ?_, ?_, fun l hl => ?_, fun a ha => ?_, ?_, fun k hk => (h9 k hk).sd hk ⟨fun r b q1 q2 q3 q4 => ?_, fun r k q1 q2 q3 => ?_, fun r k q1 q2 q3 => ?_⟩⟩, h10⟩
  · rw [I _ _ (by unfold gR' gT; omega)]; exact h3
  · rw [I _ _ (by unfold gR' gT; omega)]; exact h4
  · rw [I _ _ (by unfold gR' gT; omega)]; exact h5
  · rw [I _ _ (by unfold gR' gT; omega), I _ _ (by unfold gR' gT; omega), I _ _ (by unfold gR' gT; omega), I _ _ (by unfold gR' gT; omega)]; exact h6 l hl
  · rw [I _ _ (by unfold gR' gT; omega), I _ _ (by unfold gR' gT; omega), I _ _ (by unfold gR' gT; omega)]; exact h7 a ha
  · rw [I _ _ (by unfold gR' gT; omega), I _ _ (by unfold gR' gT; omega), I _ _ (by unfold gR' gT; omega)]; exact h8
  · exact I _ _ (by unfold gR' gT; omega)
  · exact I _ _ (by unfold gR' gT; omega)
  · exact I _ _ (by unfold gR' gT; omega)
theorem RWd.fail {M M' : XM} {lv : Nat} {S : XS} {x : Int32} (h : RWd M lv S) (e : E3 (gR' (1 - lv)) gRJ noF M M') (h2 : xI M' 439 2 = nI 0) : RWd (xmI M' 439 17 x) lv (S_fail S x) := by
  have e1 : Ex (fun a k => a = 439 ∧ k = 17) M' (xmI M' 439 17 x) := (Ex.refl _ _).wr _ ⟨rfl, rfl⟩
  obtain ⟨w1, w2, w3, w4, w5, w6, w7⟩ := h
  have r : ∀ a, 470 ≤ a → xI (xmI M' 439 17 x) a = xI M a := fun a q => by
    rw [xI_I, xup_n _ _ _ (by omega)]
    exact e.rowI fun k z => by unfold gR' gT at z; omega
  have k : ∀ k, 50 ≤ k → xI (xmI M' 439 17 x) 439 k = xI M 439 k := fun k q => by
    rw [xI_I, xupK _ _ (by omega)]
    exact e.I (by unfold gR' gT; omega)
  refine ⟨(w1.sd e).ex e1 (fun a k q => by unfold rNT; omega), by rw [r 472 (by omega)]; exact w2, ⟨by rw [xI_I, xupK _ _ (by omega)]; exact h2, fun i hi => absurd hi (Nat.not_lt_zero _)⟩, by rw [xI_I, xupE]; rfl, ?_, ?_, ?_⟩
  · rw [k 55 (by omega), r 475 (by omega)]; exact w5
  · rw [r 484 (by omega), r 485 (by omega)]; exact w6
  · rw [k 62 (by omega), r 481 (by omega), r 482 (by omega), r 483 (by omega)]; exact w7
