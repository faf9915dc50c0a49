/-! bundle -/
section XAN
variable {M : XM} {t : Nat} {S : XS}
theorem CW.an (h : CW M t S) : xS M 435 = (0, 0) ∧ xF M 435 0 = 436 ∧ xF M 435 1 = 437 ∧ xF M 435 2 = 438 ∧ xS M 436 = (40, 7) ∧ xS M 437 = (40, 7) ∧ xS M 438 = (40, 7) := h.1.2.2.2.2.2.2.2
end XAN
/-- those that answer l, both being in th -/
def lnk (T : XT) (d : Int32) (th l : Nat) : Nat := bn (fun o => th.testBit l && (th.testBit o && decide (ansb T d o l))) (tN T)
def aP : Nat → Nat → Prop := fun a k => (a = 435 ∧ k = 3) ∨ (436 ≤ a ∧ a ≤ 438)
theorem CK.stepA {M0 M M' : XM} {t : Nat} {S : XS} (h : CK M0 t S M) (e : Ex aP M M') : CK M0 t S M' := h.step e fun a k q => by unfold aP at q; unfold cS; omega
theorem CK.wA {M0 M : XM} {t a k : Nat} {S : XS} (h : CK M0 t S M) (x : Int32) (hp : aP a k) : CK M0 t S (xmI M a k x) := h.stepA ((Ex.refl _ _).wr x hp)
theorem c_link {M0 M : XM} {t th : Nat} {d : Int32} {S : XS} {Q : Option Value → XM → Prop} (h : CK M0 t S M) (hth : th < 128)
    (hQ : ∀ M' : XM, CK M0 t S M' → (∀ l, l < tN (zT S) → xI M' 436 l = nI (lnk (zT S) d th l)) → Q none M') :
    RG xprog 220 0 [some (.ref 435), some (.ref t), some (.int d), some (.int (nI th)), none, none, none] [] M Q := by
  have n7 := h.1.tx.n7
  have t2 := h.1.t2
  rw [B_220_0]
  refine x_for (tN (zT S)) (fun i (s : XM × Option Value × Option Value) => CK M0 t S s.1 ∧ ∀ l, l < i → xI s.1 436 l = nI (lnk (zT S) d th l)) (fun i s => RG xprog 220 3 [some (.ref 435), some (.ref t), some (.int d), some (.int (nI th)), some (.int (nI i)), s.2.1, s.2.2] [] s.1 Q) ?_ ?_ 0 (M, none, none) (by omega) ⟨h, fun l hl => by omega⟩
  · rintro ⟨M1, z1, z2⟩ ⟨k1, f1⟩
    dsimp only at k1 f1 ⊢
    rw [B_220_3]
    simp (disch := omega) only [k1.1.d, k1.1.tx.f, k1.1.tx.n, k1.1.tx.r, k1.1.of.f, k1.1.of.v, lAdd, addL, lMul, mulL, nMul, nI_add, subL, lSub, nSub, nDec, nCl, lCl, nVp, lVp, nLe, nLt, nEq, lLe, leL, lLt, ltL, eqL, lEq, nM1, nM2, litLt0, one01, zero01, oneNe0, xupE, xupA, xupK, xI_I, xS_I, xF_I, xJ_I, xI_R, xS_R, xF_R, xJ_R, xI_L, xS_L, xF_L, xJ_L, xcat_s, le46, ge16, or_true, true_or, false_or, or_false, eq_self, Option.toList_some, Option.toList_none, List.cons_append, List.nil_append, true_and, and_true, not_false_eq_true, not_true_eq_false, if_true, if_false, Nat.le_refl]
    exact hQ M1 k1 f1
  · rintro l ⟨M1, z1, z2⟩ hl ⟨k1, f1⟩ ih
    dsimp only at k1 f1 ⊢
    rw [B_220_3]
    simp (disch := omega) only [k1.1.d, k1.1.tx.f, k1.1.tx.n, k1.1.tx.r, k1.1.of.f, k1.1.of.v, k1.1.an, lAdd, addL, lMul, mulL, nMul, nI_add, subL, lSub, nSub, nDec, nCl, lCl, nVp, lVp, nLe, nLt, nEq, lLe, leL, lLt, ltL, eqL, lEq, nM1, nM2, litLt0, one01, zero01, oneNe0, xupE, xupA, xupK, xI_I, xS_I, xF_I, xJ_I, xI_R, xS_R, xF_R, xJ_R, xI_L, xS_L, xF_L, xJ_L, xcat_s, le46, ge16, or_true, true_or, false_or, or_false, eq_self, Option.toList_some, Option.toList_none, List.cons_append, List.nil_append, true_and, and_true, not_false_eq_true, not_true_eq_false, if_true, if_false, if_neg]
    refine x_for (tN (zT S)) (fun i (s : XM × Option Value) => CK M0 t S s.1 ∧ (∀ j, j < l → xI s.1 436 j = nI (lnk (zT S) d th j)) ∧ xI s.1 436 l = nI (bn (fun o => th.testBit l && (th.testBit o && decide (ansb (zT S) d o l))) i)) (fun i s => RG xprog 220 23 [some (.ref 435), some (.ref t), some (.int d), some (.int (nI th)), some (.int (nI l)), some (.int (nI i)), s.2] [] s.1 Q) ?_ ?_ 0 (xmI M1 436 l 0, z2) (by omega) ⟨k1.wA _ (by unfold aP; omega), fun j hj => by show xI (xmI M1 436 l 0) 436 j = _; rw [xI_I, xupK _ _ (by omega)]; exact f1 j hj, by show xI (xmI M1 436 l 0) 436 l = _; rw [xI_I, xupE]; rfl⟩
    · rintro ⟨M2, z3⟩ ⟨k2, f2, g2⟩
      dsimp only at k2 f2 g2 ⊢
      rw [B_220_23]
      simp (disch := omega) only [k2.1.d, k2.1.tx.f, k2.1.tx.n, k2.1.tx.r, k2.1.of.f, k2.1.of.v, lAdd, addL, lMul, mulL, nMul, nI_add, subL, lSub, nSub, nDec, nCl, lCl, nVp, lVp, nLe, nLt, nEq, lLe, leL, lLt, ltL, eqL, lEq, nM1, nM2, litLt0, one01, zero01, oneNe0, xupE, xupA, xupK, xI_I, xS_I, xF_I, xJ_I, xI_R, xS_R, xF_R, xJ_R, xI_L, xS_L, xF_L, xJ_L, xcat_s, le46, ge16, or_true, true_or, false_or, or_false, eq_self, Option.toList_some, Option.toList_none, List.cons_append, List.nil_append, true_and, and_true, not_false_eq_true, not_true_eq_false, if_true, if_false, Nat.le_refl]
      refine ih (M2, _, _) ⟨k2, fun j hj => ?_⟩
      by_cases q : j = l
      · rw [q]; exact g2
      · exact f2 j (by omega)
    · rintro o ⟨M2, z3⟩ ho ⟨k2, f2, g2⟩ ih2
      dsimp only at k2 f2 g2 ⊢
      rw [bn_s] at ih2
      have ab := and_bit (m := th) (i := l) (by omega) (by omega)
      have ab2 := and_bit (m := th) (i := o) (by omega) (by omega)
      have no : ∀ (M3 : XM) (z : Int32), CK M0 t S M3 → Ex (tX t) M2 M3 → (th.testBit l && (th.testBit o && decide (ansb (zT S) d o l))) = false → RG xprog 220 99 [some (.ref 435), some (.ref t), some (.int d), some (.int (nI th)), some (.int (nI l)), some (.int (nI o)), some (.int z)] [] M3 Q := by
        intro M3 z k3 e3 hf
        rw [hf] at ih2
        rw [B_220_99]
        simp (disch := omega) only [lAdd, addL, lMul, mulL, nMul, nI_add, subL, lSub, nSub, nDec, nCl, lCl, nVp, lVp, nLe, nLt, nEq, lLe, leL, lLt, ltL, eqL, lEq, nM1, nM2, litLt0, one01, zero01, oneNe0, xupE, xupA, xupK, xI_I, xS_I, xF_I, xJ_I, xI_R, xS_R, xF_R, xJ_R, xI_L, xS_L, xF_L, xJ_L, xcat_s, le46, ge16, or_true, true_or, false_or, or_false, eq_self, Option.toList_some, Option.toList_none, List.cons_append, List.nil_append, true_and, and_true, not_false_eq_true, not_true_eq_false, if_true, if_false]
        refine ih2 (M3, some (.int z)) ⟨k3, fun j hj => ?_, ?_⟩
        · rw [e3.I (by unfold tX; omega)]; exact f2 j hj
        · rw [e3.I (by unfold tX; omega)]; exact g2
      rw [B_220_23]
      simp (disch := omega) only [k2.1.d, k2.1.tx.f, k2.1.tx.n, k2.1.tx.r, k2.1.of.f, k2.1.of.v, lAdd, addL, lMul, mulL, nMul, nI_add, subL, lSub, nSub, nDec, nCl, lCl, nVp, lVp, nLe, nLt, nEq, lLe, leL, lLt, ltL, eqL, lEq, nM1, nM2, litLt0, one01, zero01, oneNe0, xupE, xupA, xupK, xI_I, xS_I, xF_I, xJ_I, xI_R, xS_R, xF_R, xJ_R, xI_L, xS_L, xF_L, xJ_L, xcat_s, le46, ge16, or_true, true_or, false_or, or_false, eq_self, Option.toList_some, Option.toList_none, List.cons_append, List.nil_append, true_and, and_true, not_false_eq_true, not_true_eq_false, if_true, if_false, if_neg, B_220_55]
      by_cases h1 : th.testBit l = true
      · rw [if_neg (by rw [ab, h1]; decide)]
        by_cases h2 : th.testBit o = true
        · rw [if_neg (by rw [ab2, h2]; decide)]
          simp (disch := omega) only [c_cameEarlier k2.1.tx (show l < 7 by omega) (show o < 7 by omega), lAdd, addL, lMul, mulL, nMul, nI_add, subL, lSub, nSub, nDec, nCl, lCl, nVp, lVp, nLe, nLt, nEq, lLe, leL, lLt, ltL, eqL, lEq, nM1, nM2, litLt0, one01, zero01, oneNe0, xupE, xupA, xupK, xI_I, xS_I, xF_I, xJ_I, xI_R, xS_R, xF_R, xJ_R, xI_L, xS_L, xF_L, xJ_L, xcat_s, le46, ge16, or_true, true_or, false_or, or_false, eq_self, Option.toList_some, Option.toList_none, List.cons_append, List.nil_append, true_and, and_true, not_false_eq_true, not_true_eq_false, if_true, if_false, B_220_70]
          by_cases h3 : tL (zT S) o 3 ≤ tL (zT S) l 3
          · rw [if_pos h3, if_pos rfl]
            exact no M2 _ k2 (Ex.refl _ _) (by rw [decide_eq_false (fun q => q.1 h3), Bool.and_false, Bool.and_false])
          · rw [if_neg h3, if_neg (by decide)]
            refine ⟨by rw [k2.1.tx.f.2.1], ?_⟩
            refine c_isAnswered (i := l) (l := o) k2.1.tx (by omega) (by omega) ?_
            intro M3 e3
            have k3 := k2.stepX e3
            simp (disch := omega) only [lAdd, addL, lMul, mulL, nMul, nI_add, subL, lSub, nSub, nDec, nCl, lCl, nVp, lVp, nLe, nLt, nEq, lLe, leL, lLt, ltL, eqL, lEq, nM1, nM2, litLt0, one01, zero01, oneNe0, xupE, xupA, xupK, xI_I, xS_I, xF_I, xJ_I, xI_R, xS_R, xF_R, xJ_R, xI_L, xS_L, xF_L, xJ_L, xcat_s, le46, ge16, or_true, true_or, false_or, or_false, eq_self, Option.toList_some, Option.toList_none, List.cons_append, List.nil_append, true_and, and_true, not_false_eq_true, not_true_eq_false, if_true, if_false, B_220_82]
            by_cases h4 : tW (zT S) 3 (avar (zT S) l o d) ≤ 0
            · rw [if_pos h4, if_pos rfl]
              exact no M3 _ k3 e3 (by rw [decide_eq_false (fun q => q.2 h4), Bool.and_false, Bool.and_false])
            · rw [if_neg h4, if_neg (by decide)]
              have ht : (th.testBit l && (th.testBit o && decide (ansb (zT S) d o l))) = true := by rw [h1, h2, decide_eq_true (⟨h3, h4⟩ : ansb (zT S) d o l)]; rfl
              rw [ht] at ih2
              have g3 : xI M3 436 l = nI (bn (fun o => th.testBit l && (th.testBit o && decide (ansb (zT S) d o l))) o) := by rw [e3.I (by unfold tX; omega)]; exact g2
              simp (disch := omega) only [k3.1.an, lAdd, addL, lMul, mulL, nMul, nI_add, subL, lSub, nSub, nDec, nCl, lCl, nVp, lVp, nLe, nLt, nEq, lLe, leL, lLt, ltL, eqL, lEq, nM1, nM2, litLt0, one01, zero01, oneNe0, xupE, xupA, xupK, xI_I, xS_I, xF_I, xJ_I, xI_R, xS_R, xF_R, xJ_R, xI_L, xS_L, xF_L, xJ_L, xcat_s, le46, ge16, or_true, true_or, false_or, or_false, eq_self, Option.toList_some, Option.toList_none, List.cons_append, List.nil_append, true_and, and_true, not_false_eq_true, not_true_eq_false, if_true, if_false, g3, or_bit (show o < 8 by omega), B_220_99]
              refine ih2 (xmI M3 436 l (nI (bn (fun o => th.testBit l && (th.testBit o && decide (ansb (zT S) d o l))) o ||| 2 ^ o)), _) ⟨k3.wA _ (by unfold aP; omega), fun j hj => ?_, ?_⟩
              · show xI (xmI M3 436 l _) 436 j = _
                rw [xI_I, xupK _ _ (by omega), e3.I (by unfold tX; omega)]; exact f2 j hj
              · show xI (xmI M3 436 l _) 436 l = _
                rw [xI_I, xupE]; rfl
        · rw [if_pos (by rw [ab2]; simpa using h2)]
          exact no M2 _ k2 (Ex.refl _ _) (by simp only [Bool.not_eq_true] at h2; rw [h2]; simp)
      · rw [if_pos (by rw [ab]; simpa using h1)]
        exact no M2 _ k2 (Ex.refl _ _) (by simp only [Bool.not_eq_true] at h1; rw [h1]; simp)
/-! sets that only grow -/
def sub (s t : Nat) : Prop := ∀ i, s.testBit i = true → t.testBit i = true
theorem sub_rf (s : Nat) : sub s s := fun _ h => h
theorem sub_tr {a b c : Nat} (h1 : sub a b) (h2 : sub b c) : sub a c := fun i h => h2 i (h1 i h)
theorem sub_as {a b : Nat} (h1 : sub a b) (h2 : sub b a) : a = b := Nat.eq_of_testBit_eq fun i => by
  cases ha : a.testBit i
  · cases hb : b.testBit i
    · rfl
    · rw [h2 i hb] at ha; cases ha
  · rw [h1 i ha]
theorem sub_or (a b : Nat) : sub a (a ||| b) := fun i h => by rw [Nat.testBit_or, h]; rfl
theorem lt_bit {s n i : Nat} (h : s < 2 ^ n) (hi : s.testBit i = true) : i < n := by
  rcases Nat.lt_or_ge i n with q | q
  · exact q
  · rw [Nat.testBit_lt_two_pow (Nat.lt_of_lt_of_le h (Nat.pow_le_pow_right (by omega) q))] at hi
    cases hi
theorem iter_sub {f : Nat → Nat → Nat} {n : Nat} (hf : ∀ i s, i < n → sub s (f i s)) : ∀ k, k ≤ n → ∀ j, j ≤ k → ∀ s, sub (iter f j s) (iter f k s)
  | 0, _, j, hj, s => by
    have : j = 0 := by omega
    subst this
    exact sub_rf _
  | k + 1, hk, j, hj, s => by
    by_cases q : j = k + 1
    · subst q; exact sub_rf _
    · exact sub_tr (iter_sub hf k (by omega) j (by omega) s) (by rw [iter_s]; exact hf k _ (by omega))
theorem grow_fix {f : Nat → Nat} {n s0 : Nat} (hs : ∀ s, s < 2 ^ n → sub s (f s)) (hb : ∀ s, s < 2 ^ n → f s < 2 ^ n) (h0 : s0 < 2 ^ n) (hne : 1 ≤ cnt (fun i => s0.testBit i) n) : ∀ k, iter (fun _ s => f s) k s0 < 2 ^ n ∧ (f (iter (fun _ s => f s) k s0) = iter (fun _ s => f s) k s0 ∨ k + 1 ≤ cnt (fun i => (iter (fun _ s => f s) k s0).testBit i) n)
  | 0 => ⟨h0, Or.inr (by show 1 ≤ _; exact hne)⟩
  | k + 1 => by
    obtain ⟨h1, h2⟩ := grow_fix hs hb h0 hne k
    have e : iter (fun _ s => f s) (k + 1) s0 = f (iter (fun _ s => f s) k s0) := rfl
    rw [e]
    refine ⟨hb _ h1, ?_⟩
    rcases h2 with q | q
    · exact Or.inl (by rw [q, q])
    · by_cases hc : f (iter (fun _ s => f s) k s0) = iter (fun _ s => f s) k s0
      · exact Or.inl (by rw [hc, hc])
      · right
        have sb := hs _ h1
        obtain ⟨j, j1, j2⟩ : ∃ j, (f (iter (fun _ s => f s) k s0)).testBit j = true ∧ (iter (fun _ s => f s) k s0).testBit j = false := by
          apply Classical.byContradiction
          intro hn
          apply hc
          refine sub_as (fun i hi => ?_) sb
          cases hz : (iter (fun _ s => f s) k s0).testBit i
          · exact absurd ⟨i, hi, hz⟩ hn
          · rfl
        have jn := lt_bit (hb _ h1) j1
        have := cnt_lt (p := fun i => (iter (fun _ s => f s) k s0).testBit i) (q := fun i => (f (iter (fun _ s => f s) k s0)).testBit i) (j := j) j1 j2 n jn fun i _ hi => sb i hi
        omega
theorem grow_end {f : Nat → Nat} {n s0 : Nat} (hs : ∀ s, s < 2 ^ n → sub s (f s)) (hb : ∀ s, s < 2 ^ n → f s < 2 ^ n) (h0 : s0 < 2 ^ n) (hne : 1 ≤ cnt (fun i => s0.testBit i) n) {k : Nat} (hk : n ≤ k) : f (iter (fun _ s => f s) k s0) = iter (fun _ s => f s) k s0 := by
  rcases (grow_fix hs hb h0 hne k).2 with q | q
  · exact q
  · have := cnt_le (fun i => (iter (fun _ s => f s) k s0).testBit i) n
    omega
/-- a round of the class's -/
def cb1 (A : Nat → Nat) (o s : Nat) : Nat := if s.testBit o = true then s ||| A o else if s &&& A o = 0 then s else s ||| 2 ^ o
def cbF (A : Nat → Nat) (n s : Nat) : Nat := iter (cb1 A) n s
/-- a round of the reference's -/
def rb1 (p : Nat → Nat → Bool) (m o s : Nat) : Nat := if (s.testBit m = true ∨ s.testBit o = true) ∧ p m o = true then s ||| (2 ^ m ||| 2 ^ o) else s
def rbF (p : Nat → Nat → Bool) (n s : Nat) : Nat := iter (fun m s => iter (rb1 p m) n s) n s
theorem pow_lt {n i : Nat} (h : i < n) : 2 ^ i < 2 ^ n := Nat.pow_lt_pow_right (by omega) h
theorem cb1_sub (A : Nat → Nat) (o s : Nat) : sub s (cb1 A o s) := by
  unfold cb1
  split
  · exact sub_or _ _
  · split
    · exact sub_rf _
    · exact sub_or _ _
theorem rb1_sub (p : Nat → Nat → Bool) (m o s : Nat) : sub s (rb1 p m o s) := by
  unfold rb1
  split
  · exact sub_or _ _
  · exact sub_rf _
theorem cb1_lt {A : Nat → Nat} {n o s : Nat} (hA : ∀ o, o < n → A o < 2 ^ n) (ho : o < n) (hs : s < 2 ^ n) : cb1 A o s < 2 ^ n := by
  unfold cb1
  split
  · exact Nat.or_lt_two_pow hs (hA o ho)
  · split
    · exact hs
    · exact Nat.or_lt_two_pow hs (pow_lt ho)
theorem rb1_lt {p : Nat → Nat → Bool} {n m o s : Nat} (hm : m < n) (ho : o < n) (hs : s < 2 ^ n) : rb1 p m o s < 2 ^ n := by
  unfold rb1
  split
  · exact Nat.or_lt_two_pow hs (Nat.or_lt_two_pow (pow_lt hm) (pow_lt ho))
  · exact hs
/-- a set closed under p either way round -/
def clo (p : Nat → Nat → Bool) (n c : Nat) : Prop := ∀ x y, x < n → y < n → (p x y = true ∨ p y x = true) → c.testBit x = true → c.testBit y = true
section XBU
variable {p : Nat → Nat → Bool} {A : Nat → Nat} {n : Nat}
theorem cb_sound (hA : ∀ o i, o < n → ((A o).testBit i = true ↔ i < n ∧ p i o = true)) {c : Nat} (hc : clo p n c) {o s : Nat} (ho : o < n) (h : sub s c) : sub (cb1 A o s) c := by
  unfold cb1
  split
  · rename_i h1
    intro i hi
    rw [Nat.testBit_or] at hi
    simp only [Bool.or_eq_true] at hi
    rcases hi with q | q
    · exact h i q
    · obtain ⟨q1, q2⟩ := (hA o i ho).mp q
      exact hc o i ho q1 (Or.inr q2) (h o h1)
  · split
    · exact h
    · rename_i h1 h2
      intro i hi
      rw [Nat.testBit_or, Nat.testBit_two_pow] at hi
      simp only [Bool.or_eq_true, decide_eq_true_eq] at hi
      rcases hi with q | q
      · exact h i q
      · subst q
        obtain ⟨j, hj⟩ : ∃ j, (s &&& A o).testBit j = true := by
          apply Classical.byContradiction
          intro hn
          apply h2
          apply Nat.eq_of_testBit_eq
          intro j
          rw [Nat.zero_testBit]
          cases hz : (s &&& A o).testBit j
          · rfl
          · exact absurd ⟨j, hz⟩ hn
        rw [Nat.testBit_and] at hj
        simp only [Bool.and_eq_true] at hj
        obtain ⟨q1, q2⟩ := (hA o j ho).mp hj.2
        exact hc j o q1 ho (Or.inl q2) (h j hj.1)
theorem rb_sound {c : Nat} (hc : clo p n c) {m o s : Nat} (hm : m < n) (ho : o < n) (h : sub s c) : sub (rb1 p m o s) c := by
  unfold rb1
  split
  · rename_i h1
    intro i hi
    rw [Nat.testBit_or, Nat.testBit_or, Nat.testBit_two_pow, Nat.testBit_two_pow] at hi
    simp only [Bool.or_eq_true, decide_eq_true_eq] at hi
    have both : c.testBit m = true ∧ c.testBit o = true := by
      rcases h1.1 with q | q
      · exact ⟨h m q, hc m o hm ho (Or.inl h1.2) (h m q)⟩
      · exact ⟨hc o m ho hm (Or.inr h1.2) (h o q), h o q⟩
    rcases hi with q | q | q
    · exact h i q
    · rw [← q]; exact both.1
    · rw [← q]; exact both.2
  · exact h
theorem cb_closed (hA : ∀ o i, o < n → ((A o).testBit i = true ↔ i < n ∧ p i o = true)) {s : Nat} (hf : cbF A n s = s) : clo p n s := by
  have st : ∀ o, o < n → cb1 A o s = s := by
    intro o ho
    have hsub := iter_sub (f := cb1 A) (n := n) (fun i s _ => cb1_sub A i s)
    have e1 : iter (cb1 A) o s = s := sub_as (by have := hsub n (Nat.le_refl _) o (by omega) s; unfold cbF at hf; rw [hf] at this; exact this) (hsub o (by omega) 0 (by omega) s)
    have e2 : iter (cb1 A) (o + 1) s = s := sub_as (by have := hsub n (Nat.le_refl _) (o + 1) (by omega) s; unfold cbF at hf; rw [hf] at this; exact this) (hsub (o + 1) (by omega) 0 (by omega) s)
    rw [iter_s, e1] at e2
    exact e2
  intro x y hx hy hp hxs
  rcases hp with q | q
  · -- x answers y: x is in A y
    have hy2 := st y hy
    unfold cb1 at hy2
    by_cases h1 : s.testBit y = true
    · exact h1
    · rw [if_neg h1] at hy2
      have hne : ¬ s &&& A y = 0 := by
        intro z
        have : (s &&& A y).testBit x = true := by
          rw [Nat.testBit_and, hxs, (hA y x hy).mpr ⟨hx, q⟩]; rfl
        rw [z, Nat.zero_testBit] at this
        cases this
      rw [if_neg hne] at hy2
      rw [← hy2, Nat.testBit_or, Nat.testBit_two_pow, decide_eq_true rfl, Bool.or_true]
  · have hx2 := st x hx
    unfold cb1 at hx2
    rw [if_pos hxs] at hx2
    rw [← hx2, Nat.testBit_or, (hA x y hx).mpr ⟨hy, q⟩, Bool.or_true]
theorem rb_closed {s : Nat} (hf : rbF p n s = s) : clo p n s := by
  have in1 : ∀ m k s, k ≤ n → ∀ j, j ≤ k → sub (iter (rb1 p m) j s) (iter (rb1 p m) k s) := fun m k s hk j hj => iter_sub (n := n) (fun i s _ => rb1_sub p m i s) k hk j hj s
  have hsub := iter_sub (f := fun m s => iter (rb1 p m) n s) (n := n) (fun i s _ => in1 i n s (Nat.le_refl _) 0 (by omega))
  have st : ∀ m, m < n → iter (rb1 p m) n s = s := by
    intro m hm
    have e1 : iter (fun m s => iter (rb1 p m) n s) m s = s := sub_as (by have := hsub n (Nat.le_refl _) m (by omega) s; unfold rbF at hf; rw [hf] at this; exact this) (hsub m (by omega) 0 (by omega) s)
    have e2 : iter (fun m s => iter (rb1 p m) n s) (m + 1) s = s := sub_as (by have := hsub n (Nat.le_refl _) (m + 1) (by omega) s; unfold rbF at hf; rw [hf] at this; exact this) (hsub (m + 1) (by omega) 0 (by omega) s)
    rw [iter_s, e1] at e2
    exact e2
  have st2 : ∀ m o, m < n → o < n → rb1 p m o s = s := by
    intro m o hm ho
    have hz := st m hm
    have e1 : iter (rb1 p m) o s = s := sub_as (by have := in1 m n s (Nat.le_refl _) o (by omega); rw [hz] at this; exact this) (in1 m o s (by omega) 0 (by omega))
    have e2 : iter (rb1 p m) (o + 1) s = s := sub_as (by have := in1 m n s (Nat.le_refl _) (o + 1) (by omega); rw [hz] at this; exact this) (in1 m (o + 1) s (by omega) 0 (by omega))
    rw [iter_s, e1] at e2
    exact e2
  intro x y hx hy hp hxs
  rcases hp with q | q
  · have := st2 x y hx hy
    unfold rb1 at this
    rw [if_pos ⟨Or.inl hxs, q⟩] at this
    rw [← this, Nat.testBit_or, Nat.testBit_or, Nat.testBit_two_pow, Nat.testBit_two_pow, decide_eq_true (show y = y from rfl), Bool.or_true, Bool.or_true]
  · have := st2 y x hy hx
    unfold rb1 at this
    rw [if_pos ⟨Or.inr hxs, q⟩] at this
    rw [← this, Nat.testBit_or, Nat.testBit_or, Nat.testBit_two_pow, Nat.testBit_two_pow, decide_eq_true (show y = y from rfl), Bool.true_or, Bool.or_true]
theorem bun_eq (hA : ∀ o i, o < n → ((A o).testBit i = true ↔ i < n ∧ p i o = true)) (n7 : n ≤ 7) {l : Nat} (hl : l < n) : iter (fun _ s => cbF A n s) n (2 ^ l) = iter (fun _ s => rbF p n s) 7 (2 ^ l) := by
  have A2 : ∀ o, o < n → A o < 2 ^ n := by
    intro o ho
    apply Nat.lt_pow_two_of_testBit
    intro i hi
    cases hz : (A o).testBit i
    · rfl
    · have := ((hA o i ho).mp hz).1; omega
  have l2 := pow_lt hl
  have one : 1 ≤ cnt (fun i => (2 ^ l).testBit i) n := by
    have := cnt_set 0 l (Nat.zero_testBit l) n hl
    rw [Nat.zero_or] at this
    omega
  have csub : ∀ s, s < 2 ^ n → sub s (cbF A n s) := fun s _ => iter_sub (f := cb1 A) (n := n) (fun i s _ => cb1_sub A i s) n (Nat.le_refl _) 0 (by omega) s
  have clt : ∀ s, s < 2 ^ n → cbF A n s < 2 ^ n := fun s hs => iter_inv (fun _ s => s < 2 ^ n) (cb1 A) s n hs fun i s hi h => cb1_lt A2 hi h
  have in1 : ∀ m k s, k ≤ n → ∀ j, j ≤ k → sub (iter (rb1 p m) j s) (iter (rb1 p m) k s) := fun m k s hk j hj => iter_sub (n := n) (fun i s _ => rb1_sub p m i s) k hk j hj s
  have rsub : ∀ s, s < 2 ^ n → sub s (rbF p n s) := fun s _ => iter_sub (f := fun m s => iter (rb1 p m) n s) (n := n) (fun i s _ => in1 i n s (Nat.le_refl _) 0 (by omega)) n (Nat.le_refl _) 0 (by omega) s
  have rlt : ∀ s, s < 2 ^ n → rbF p n s < 2 ^ n := fun s hs => iter_inv (fun _ s => s < 2 ^ n) (fun m s => iter (rb1 p m) n s) s n hs fun m s hm h => iter_inv (fun _ s => s < 2 ^ n) (rb1 p m) s n h fun o s ho h => rb1_lt hm ho h
  have cfix := grow_end csub clt l2 one (k := n) (Nat.le_refl _)
  have rfix := grow_end rsub rlt l2 one (k := 7) n7
  have cc := cb_closed hA cfix
  have rc := rb_closed rfix
  have cin : sub (2 ^ l) (iter (fun _ s => cbF A n s) n (2 ^ l)) := by
    have : ∀ k, iter (fun _ s => cbF A n s) k (2 ^ l) < 2 ^ n ∧ sub (2 ^ l) (iter (fun _ s => cbF A n s) k (2 ^ l)) := by
      intro k
      induction k with
      | zero => exact ⟨l2, sub_rf _⟩
      | succ k ih => exact ⟨clt _ ih.1, sub_tr ih.2 (csub _ ih.1)⟩
    exact (this n).2
  have rin : sub (2 ^ l) (iter (fun _ s => rbF p n s) 7 (2 ^ l)) := by
    have : ∀ k, iter (fun _ s => rbF p n s) k (2 ^ l) < 2 ^ n ∧ sub (2 ^ l) (iter (fun _ s => rbF p n s) k (2 ^ l)) := by
      intro k
      induction k with
      | zero => exact ⟨l2, sub_rf _⟩
      | succ k ih => exact ⟨rlt _ ih.1, sub_tr ih.2 (rsub _ ih.1)⟩
    exact (this 7).2
  apply sub_as
  · refine iter_inv (fun _ s => sub s (iter (fun _ s => rbF p n s) 7 (2 ^ l))) (fun _ s => cbF A n s) _ n rin fun i s _ h => ?_
    exact iter_inv (fun _ s => sub s (iter (fun _ s => rbF p n s) 7 (2 ^ l))) (cb1 A) s n h fun o s ho h => cb_sound hA rc ho h
  · refine iter_inv (fun _ s => sub s (iter (fun _ s => cbF A n s) n (2 ^ l))) (fun _ s => rbF p n s) _ 7 cin fun i s _ h => ?_
    exact iter_inv (fun _ s => sub s (iter (fun _ s => cbF A n s) n (2 ^ l))) (fun m s => iter (rb1 p m) n s) s n h fun m s hm h => iter_inv (fun _ s => sub s (iter (fun _ s => cbF A n s) n (2 ^ l))) (rb1 p m) s n h fun o s ho h => rb_sound cc hm ho h
end XBU
