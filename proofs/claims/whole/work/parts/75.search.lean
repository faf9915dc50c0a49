/-! search -/
def ahd (v w : Nat → Nat) (a b : Nat) : Bool := decide (v b * w a < v a * w b ∨ (v a * w b = v b * w a ∧ a < b))
theorem crs {va vb vc wa wb wc : Nat} (hb : 0 < wb) (h1 : vb * wa ≤ va * wb) (h2 : vc * wb ≤ vb * wc) : vc * wa ≤ va * wc := by
  have e1 : (vc * wa) * wb ≤ (va * wc) * wb := by
    calc (vc * wa) * wb = (vc * wb) * wa := by rw [Nat.mul_right_comm]
      _ ≤ (vb * wc) * wa := Nat.mul_le_mul_right _ h2
      _ = (vb * wa) * wc := by rw [Nat.mul_right_comm]
      _ ≤ (va * wb) * wc := Nat.mul_le_mul_right _ h1
      _ = (va * wc) * wb := by rw [Nat.mul_right_comm]
  exact Nat.le_of_mul_le_mul_right e1 hb
theorem crs_lt {va vb vc wa wb wc : Nat} (ha : 0 < wa) (hb : 0 < wb) (hc : 0 < wc) (h1 : vb * wa ≤ va * wb) (h2 : vc * wb ≤ vb * wc) (h3 : vb * wa < va * wb ∨ vc * wb < vb * wc) : vc * wa < va * wc := by
  have e1 : (vc * wa) * wb < (va * wc) * wb := by
    rcases h3 with h | h
    · calc (vc * wa) * wb = (vc * wb) * wa := by rw [Nat.mul_right_comm]
        _ ≤ (vb * wc) * wa := Nat.mul_le_mul_right _ h2
        _ = (vb * wa) * wc := by rw [Nat.mul_right_comm]
        _ < (va * wb) * wc := Nat.mul_lt_mul_of_pos_right h hc
        _ = (va * wc) * wb := by rw [Nat.mul_right_comm]
    · calc (vc * wa) * wb = (vc * wb) * wa := by rw [Nat.mul_right_comm]
        _ < (vb * wc) * wa := Nat.mul_lt_mul_of_pos_right h ha
        _ = (vb * wa) * wc := by rw [Nat.mul_right_comm]
        _ ≤ (va * wb) * wc := Nat.mul_le_mul_right _ h1
        _ = (va * wc) * wb := by rw [Nat.mul_right_comm]
  exact Nat.lt_of_mul_lt_mul_right e1
section XAH
variable {v w : Nat → Nat} (hw : ∀ a, 0 < w a)
theorem ahd_tr {v w : Nat → Nat} (hw : ∀ a, 0 < w a) {a b c : Nat} (h1 : ahd v w a b = true) (h2 : ahd v w b c = true) : ahd v w a c = true := by
  unfold ahd at *
  rw [decide_eq_true_eq] at *
  have l1 : v b * w a ≤ v a * w b := by omega
  have l2 : v c * w b ≤ v b * w c := by omega
  by_cases hs : v b * w a < v a * w b ∨ v c * w b < v b * w c
  · exact Or.inl (crs_lt (hw a) (hw b) (hw c) l1 l2 hs)
  · have h3 : v c * w a ≤ v a * w c := crs (hw b) l1 l2
    have h4 : v a * w c ≤ v c * w a := crs (va := v c) (vb := v b) (vc := v a) (wa := w c) (wb := w b) (wc := w a) (hw b) (by omega) (by omega)
    exact Or.inr ⟨by omega, by omega⟩
theorem ahd_as {v w : Nat → Nat} {a b : Nat} (h1 : ahd v w a b = true) : ahd v w b a = false := by
  unfold ahd at *
  rw [decide_eq_true_eq] at h1
  rw [decide_eq_false_iff_not]
  omega
theorem ahd_to {v w : Nat → Nat} {a b : Nat} (h : a ≠ b) : ahd v w a b = true ∨ ahd v w b a = true := by
  unfold ahd
  rw [decide_eq_true_eq, decide_eq_true_eq]
  omega
end XAH
/-- the best drawer not looked through, below i -/
def bdN (v w : Nat → Nat) (lk : Nat) : Nat → Option Nat
  | 0 => none
  | i + 1 => if lk.testBit i = true then bdN v w lk i else match bdN v w lk i with
    | none => some i
    | some b => if v i * w b ≤ v b * w i then some b else some i
theorem bdN_s (v w : Nat → Nat) (lk i : Nat) : bdN v w lk (i + 1) = if lk.testBit i = true then bdN v w lk i else match bdN v w lk i with
    | none => some i
    | some b => if v i * w b ≤ v b * w i then some b else some i := rfl
theorem bdN_p {v w : Nat → Nat} (hw : ∀ a, 0 < w a) (lk : Nat) : ∀ i, (bdN v w lk i = none ∧ ∀ a, a < i → lk.testBit a = true) ∨ ∃ b, bdN v w lk i = some b ∧ b < i ∧ lk.testBit b = false ∧ ∀ a, a < i → a ≠ b → lk.testBit a = false → ahd v w b a = true
  | 0 => Or.inl ⟨rfl, fun a ha => by omega⟩
  | i + 1 => by
    have ih := bdN_p (v := v) hw lk i
    rw [bdN_s]
    by_cases hl : lk.testBit i = true
    · rw [if_pos hl]
      rcases ih with ⟨h1, h2⟩ | ⟨b, h1, h2, h3, h4⟩
      · refine Or.inl ⟨h1, fun a ha => ?_⟩
        by_cases q : a = i
        · rw [q]; exact hl
        · exact h2 a (by omega)
      · refine Or.inr ⟨b, h1, by omega, h3, fun a ha hne hf => ?_⟩
        by_cases q : a = i
        · rw [q, hl] at hf; cases hf
        · exact h4 a (by omega) hne hf
    · rw [if_neg hl]
      have hl' : lk.testBit i = false := by simpa using hl
      rcases ih with ⟨h1, h2⟩ | ⟨b, h1, h2, h3, h4⟩
      · rw [h1]
        refine Or.inr ⟨i, rfl, by omega, hl', fun a ha hne hf => ?_⟩
        rw [h2 a (by omega)] at hf; cases hf
      · rw [h1]
        dsimp only
        by_cases hc : v i * w b ≤ v b * w i
        · rw [if_pos hc]
          refine Or.inr ⟨b, rfl, by omega, h3, fun a ha hne hf => ?_⟩
          by_cases q : a = i
          · subst q
            unfold ahd
            rw [decide_eq_true_eq]
            omega
          · exact h4 a (by omega) hne hf
        · rw [if_neg hc]
          have hib : ahd v w i b = true := by
            unfold ahd
            rw [decide_eq_true_eq]
            omega
          refine Or.inr ⟨i, rfl, by omega, hl', fun a ha hne hf => ?_⟩
          by_cases q : a = b
          · rw [q]; exact hib
          · exact ahd_tr hw hib (h4 a (by omega) q hf)
def lkd (v w : Nat → Nat) (r : Nat) : Nat → Nat
  | 0 => 0
  | k + 1 => match bdN v w (lkd v w r k) r with
    | none => lkd v w r k
    | some b => lkd v w r k ||| 2 ^ b
theorem cnt_set (m b : Nat) (hf : m.testBit b = false) : ∀ n, b < n → cnt (fun i => (m ||| 2 ^ b).testBit i) n = cnt (fun i => m.testBit i) n + 1
  | 0, h => absurd h (by omega)
  | n + 1, h => by
    rw [cnt_s, cnt_s]
    by_cases q : b = n
    · subst q
      have e : cnt (fun i => (m ||| 2 ^ b).testBit i) b = cnt (fun i => m.testBit i) b := cnt_congr b fun i hi => by
        rw [Nat.testBit_or, Nat.testBit_two_pow, decide_eq_false (by omega), Bool.or_false]
      rw [e, hf, Nat.testBit_or, Nat.testBit_two_pow, decide_eq_true rfl]
      simp
    · rw [cnt_set m b hf n (by omega), Nat.testBit_or, Nat.testBit_two_pow, decide_eq_false q, Bool.or_false]
      omega
theorem cnt_all {p : Nat → Bool} : ∀ n, (∀ i, i < n → p i = true) → cnt p n = n
  | 0, _ => rfl
  | n + 1, h => by
    rw [cnt_s, cnt_all n fun i hi => h i (by omega), h n (by omega)]
    simp
theorem cnt_lt {p q : Nat → Bool} {j : Nat} (hq : q j = true) (hp : p j = false) : ∀ n, j < n → (∀ i, i < n → p i = true → q i = true) → cnt p n < cnt q n
  | 0, h, _ => absurd h (by omega)
  | n + 1, h, hi => by
    have mono : ∀ m, m ≤ n + 1 → cnt p m ≤ cnt q m := by
      intro m
      induction m with
      | zero => intro _; exact Nat.le_refl 0
      | succ m ih =>
        intro hm
        have h1 := ih (by omega)
        have h2 := hi m (by omega)
        rw [cnt_s, cnt_s]
        cases hpm : p m
        · simp; omega
        · rw [h2 hpm]; simp; omega
    rw [cnt_s, cnt_s]
    by_cases z : j = n
    · subst z
      have := mono j (by omega)
      rw [hq, hp]
      simp
      omega
    · have h1 := cnt_lt hq hp n (by omega) fun i hi' => hi i (by omega)
      have h2 := hi n (by omega)
      cases hpn : p n
      · simp; omega
      · rw [h2 hpn]; simp; omega
def rkN (v w : Nat → Nat) (r a : Nat) : Nat := cnt (fun c => decide (c ≠ a) && ahd v w c a) r
/-- the k-th looked through has just k ahead of it -/
theorem lkd_p {v w : Nat → Nat} (hw : ∀ a, 0 < w a) (r : Nat) : ∀ k, k ≤ r → cnt (fun i => (lkd v w r k).testBit i) r = k ∧ (∀ a, a < r → (lkd v w r k).testBit a = true → ∀ c, c < r → (lkd v w r k).testBit c = false → ahd v w a c = true) ∧ (k < r → ∃ b, bdN v w (lkd v w r k) r = some b ∧ b < r ∧ rkN v w r b = k)
  | k, hk => by
    have base : cnt (fun i => (lkd v w r k).testBit i) r = k ∧ ∀ a, a < r → (lkd v w r k).testBit a = true → ∀ c, c < r → (lkd v w r k).testBit c = false → ahd v w a c = true := by
      cases k with
      | zero =>
        refine ⟨?_, fun a _ h => ?_⟩
        · have := cnt_ext (fun i => (lkd v w r 0).testBit i) 0 r (fun i _ => Nat.zero_testBit i)
          rw [Nat.zero_add] at this
          exact this
        · have : (0 : Nat).testBit a = true := h
          rw [Nat.zero_testBit] at this; cases this
      | succ k =>
        obtain ⟨h1, h2, h3⟩ := lkd_p (v := v) hw r k (by omega)
        obtain ⟨b, b1, b2, b3⟩ := h3 (by omega)
        have e : lkd v w r (k + 1) = lkd v w r k ||| 2 ^ b := by
          show (match bdN v w (lkd v w r k) r with | none => lkd v w r k | some b => lkd v w r k ||| 2 ^ b) = _
          rw [b1]
        rcases bdN_p (v := v) hw (lkd v w r k) r with ⟨q1, _⟩ | ⟨b', q1, q2, q3, q4⟩
        · rw [q1] at b1; cases b1
        · rw [q1] at b1
          cases b1
          rw [e]
          refine ⟨by rw [cnt_set _ _ q3 r b2, h1], ?_⟩
          intro a ha hta c hc htc
          rw [Nat.testBit_or, Nat.testBit_two_pow] at hta htc
          simp only [Bool.or_eq_true, decide_eq_true_eq, Bool.or_eq_false_iff, decide_eq_false_iff_not] at hta htc
          rcases hta with z | z
          · exact h2 a ha z c hc htc.1
          · rw [← z]
            exact q4 c hc (fun y => htc.2 y.symm) htc.1
    refine ⟨base.1, base.2, fun hkr => ?_⟩
    rcases bdN_p (v := v) hw (lkd v w r k) r with ⟨q1, q2⟩ | ⟨b, q1, q2, q3, q4⟩
    · have := cnt_all r q2
      rw [base.1] at this
      omega
    · refine ⟨b, q1, q2, ?_⟩
      have e : rkN v w r b = cnt (fun i => (lkd v w r k).testBit i) r := by
        unfold rkN
        refine cnt_congr r fun c hc => ?_
        by_cases z : c = b
        · subst z
          rw [q3]
          simp
        · rw [decide_eq_true z, Bool.true_and]
          cases ht : (lkd v w r k).testBit c
          · exact ahd_as (q4 c hc z ht)
          · exact base.2 c hc ht b q2 q3
      rw [e, base.1]
theorem rk_uniq {v w : Nat → Nat} (hw : ∀ a, 0 < w a) {r a b : Nat} (ha : a < r) (hb : b < r) (h : rkN v w r a = rkN v w r b) : a = b := by
  by_cases hab : a = b
  · exact hab
  · have lt : ∀ x y, x < r → x ≠ y → ahd v w x y = true → rkN v w r x < rkN v w r y := by
      intro x y hx hxy hxy2
      unfold rkN
      refine cnt_lt (j := x) ?_ ?_ r hx ?_
      · rw [decide_eq_true hxy, Bool.true_and]; exact hxy2
      · simp
      · intro i hi h2
        simp only [Bool.and_eq_true, decide_eq_true_eq] at h2 ⊢
        refine ⟨fun z => ?_, ahd_tr hw h2.2 hxy2⟩
        subst z
        have := ahd_as h2.2
        rw [hxy2] at this; cases this
    rcases ahd_to (v := v) (w := w) hab with q | q
    · have := lt a b ha hab q; omega
    · have := lt b a hb (fun z => hab z.symm) q; omega
/-- likes and times as numbers -/
def vN (T : XT) (F : XO) (l a : Nat) : Nat := cN (lkv T F l a)
def wN (T : XT) (a : Nat) : Nat := cN (tM T a 2) + 1
theorem lkv_n (T : XT) (F : XO) (l a : Nat) : lkv T F l a = nI (vN T F l a) ∧ vN T F l a ≤ 99 := by
  have h0 := lkv0 T F l a
  have h9 : lkv T F l a ≤ 99 := by
    unfold lkv
    rw [← held_w]
    split
    · split
      · assumption
      · decide
    · decide
  obtain ⟨j, h1, h2⟩ := inb_get (x := lkv T F l a) (n := 99) ⟨by rw [i32_lt]; show ¬ _ < (0 : Int); omega, by rw [← le_nlt]; exact h9⟩ (by omega)
  unfold vN
  rw [h2, cN_n (by omega)]
  exact ⟨rfl, h1⟩
theorem wN_n {T : XT} (hT : TOk T) {a : Nat} (ha : a < tR T) : tM T a 2 + 1 = nI (wN T a) ∧ wN T a ≤ 10 := by
  obtain ⟨w, h1, h2⟩ := hT.2.2.2.1 a ha 2 (by omega)
  unfold wN
  rw [h2, cN_n (by omega), nI_1]
  exact ⟨rfl, by omega⟩
theorem vw_lt {v w : Nat} (hv : v ≤ 99) (hw : w ≤ 10) : v * w < 2 ^ 31 := Nat.lt_of_le_of_lt (Nat.mul_le_mul hv hw) (by omega)
def bst3 (T : XT) (F : XO) (l : Nat) : Option Nat → Int32 × Int32 × Int32
  | none => (-1, 0, 1)
  | some b => (nI b, nI (vN T F l b), nI (wN T b))
theorem c_bestDrawer {M0 M : XM} {t l lk B : Nat} {S : XS} {Q : Option Value → XM → Prop} (h : CK M0 t S M) (hi : SInv B S) (hl : l < tN (zT S)) (hlk : lk < 64)
    (hQ : ∀ M' : XM, CK M0 t S M' → Q (some (.int (bst3 (zT S) (zF S) l (bdN (vN (zT S) (zF S) l) (wN (zT S)) lk (tR (zT S)))).1)) M') :
    RG xprog 266 0 [some (.ref 16), some (.int (nI l)), some (.int (nI lk)), none, none, none, none, none, none] [] M Q := by
  have n7 := h.1.tx.n7
  have r6 := h.1.tx.r6
  rw [B_266_0]
  refine x_for (tR (zT S)) (fun i (s : XM × (Int32 × Int32 × Int32) × Option Value × Option Value) => CK M0 t S s.1 ∧ s.2.1 = bst3 (zT S) (zF S) l (bdN (vN (zT S) (zF S) l) (wN (zT S)) lk i)) (fun i s => RG xprog 266 11 [some (.ref 16), some (.int (nI l)), some (.int (nI lk)), some (.int s.2.1.1), some (.int s.2.1.2.1), some (.int s.2.1.2.2), some (.int (nI i)), s.2.2.1, s.2.2.2] [] s.1 Q) ?_ ?_ 0 (M, (-1, 0, 1), none, none) (by omega) ⟨h, rfl⟩
  · rintro ⟨M1, x, z1, z2⟩ ⟨k1, e1⟩
    dsimp only at k1 e1 ⊢
    rw [B_266_11]
    simp (disch := omega) only [k1.1.d, k1.1.tx.f, k1.1.tx.n, k1.1.tx.r, k1.1.of.f, k1.1.of.v, lAdd, addL, lMul, mulL, nMul, nI_add, subL, lSub, nSub, nDec, nCl, lCl, nVp, lVp, nLe, nLt, nEq, lLe, leL, lLt, ltL, eqL, lEq, nM1, nM2, litLt0, one01, zero01, oneNe0, xupE, xupA, xupK, xI_I, xS_I, xF_I, xJ_I, xI_R, xS_R, xF_R, xJ_R, xI_L, xS_L, xF_L, xJ_L, xcat_s, le46, ge16, or_true, true_or, false_or, or_false, eq_self, Option.toList_some, Option.toList_none, List.cons_append, List.nil_append, true_and, and_true, not_false_eq_true, not_true_eq_false, if_true, if_false, Nat.le_refl]
    rw [e1]
    exact hQ M1 k1
  · rintro a ⟨M1, x, z1, z2⟩ ha ⟨k1, e1⟩ ih
    dsimp only at k1 e1 ⊢
    rw [bdN_s] at ih
    have ab := and_bit (m := lk) (i := a) (by omega) (by omega)
    rw [B_266_11]
    simp (disch := omega) only [k1.1.d, k1.1.tx.f, k1.1.tx.n, k1.1.tx.r, k1.1.of.f, k1.1.of.v, lAdd, addL, lMul, mulL, nMul, nI_add, subL, lSub, nSub, nDec, nCl, lCl, nVp, lVp, nLe, nLt, nEq, lLe, leL, lLt, ltL, eqL, lEq, nM1, nM2, litLt0, one01, zero01, oneNe0, xupE, xupA, xupK, xI_I, xS_I, xF_I, xJ_I, xI_R, xS_R, xF_R, xJ_R, xI_L, xS_L, xF_L, xJ_L, xcat_s, le46, ge16, or_true, true_or, false_or, or_false, eq_self, Option.toList_some, Option.toList_none, List.cons_append, List.nil_append, true_and, and_true, not_false_eq_true, not_true_eq_false, if_true, if_false, if_neg]
    by_cases hb : lk.testBit a = true
    · rw [if_pos (by rw [ab, hb]; decide)]
      rw [if_pos hb] at ih
      exact ih (M1, x, z1, z2) ⟨k1, e1⟩
    · rw [if_neg (by rw [ab]; simp only [Bool.not_eq_true] at hb; rw [hb]; simp)]
      rw [if_neg hb] at ih
      refine c_likesNow k1 (by omega) (by omega) ?_
      intro M2 k2
      obtain ⟨ev, hv⟩ := lkv_n (zT S) (zF S) l a
      obtain ⟨ew, hw⟩ := wN_n hi.1 ha
      simp (disch := omega) only [lAdd, addL, lMul, mulL, nMul, nI_add, subL, lSub, nSub, nDec, nCl, lCl, nVp, lVp, nLe, nLt, nEq, lLe, leL, lLt, ltL, eqL, lEq, nM1, nM2, litLt0, one01, zero01, oneNe0, xupE, xupA, xupK, xI_I, xS_I, xF_I, xJ_I, xI_R, xS_R, xF_R, xJ_R, xI_L, xS_L, xF_L, xJ_L, xcat_s, le46, ge16, or_true, true_or, false_or, or_false, eq_self, Option.toList_some, Option.toList_none, List.cons_append, List.nil_append, true_and, and_true, not_false_eq_true, not_true_eq_false, if_true, if_false, B_266_39, k2.1.d, k2.1.tx.f, k2.1.tx.n, k2.1.tx.r, k2.1.of.f, k2.1.of.v, k2.1.tx.a (show a < 6 by omega), k2.1.tx.rm (show a < 6 by omega), ev, ew, B_266_75]
      cases hbd : bdN (vN (zT S) (zF S) l) (wN (zT S)) lk a with
      | none =>
        rw [hbd] at ih e1
        rw [e1]
        unfold bst3
        dsimp only
        rw [if_pos rfl]
        exact ih (M2, (nI a, nI (vN (zT S) (zF S) l a), nI (wN (zT S) a)), _, _) ⟨k2, rfl⟩
      | some b =>
        have hb2 : b < a := by
          rcases bdN_p (v := vN (zT S) (zF S) l) (w := wN (zT S)) (fun a => by unfold wN; omega) lk a with ⟨q1, _⟩ | ⟨b', q1, q2, _⟩
          · rw [q1] at hbd; cases hbd
          · rw [q1] at hbd; cases hbd; exact q2
        obtain ⟨_, hvb⟩ := lkv_n (zT S) (zF S) l b
        obtain ⟨_, hwb⟩ := wN_n hi.1 (show b < tR (zT S) by omega)
        have m1 := vw_lt hv hwb
        have m2 := vw_lt hvb hw
        rw [hbd] at ih e1
        rw [e1]
        unfold bst3
        dsimp only
        rw [if_neg (by rw [nM1 (by omega)]; exact fun z => z)]
        simp (disch := omega) only [lAdd, addL, lMul, mulL, nMul, nI_add, subL, lSub, nSub, nDec, nCl, lCl, nVp, lVp, nLe, nLt, nEq, lLe, leL, lLt, ltL, eqL, lEq, nM1, nM2, litLt0, one01, zero01, oneNe0, xupE, xupA, xupK, xI_I, xS_I, xF_I, xJ_I, xI_R, xS_R, xF_R, xJ_R, xI_L, xS_L, xF_L, xJ_L, xcat_s, le46, ge16, or_true, true_or, false_or, or_false, eq_self, Option.toList_some, Option.toList_none, List.cons_append, List.nil_append, true_and, and_true, not_false_eq_true, not_true_eq_false, if_true, if_false]
        dsimp only at ih
        by_cases hc : vN (zT S) (zF S) l a * wN (zT S) b ≤ vN (zT S) (zF S) l b * wN (zT S) a
        · rw [if_pos hc]
          rw [if_pos hc] at ih
          exact ih (M2, (nI b, nI (vN (zT S) (zF S) l b), nI (wN (zT S) b)), _, _) ⟨k2, rfl⟩
        · rw [if_neg hc]
          rw [if_neg hc] at ih
          exact ih (M2, (nI a, nI (vN (zT S) (zF S) l a), nI (wN (zT S) a)), _, _) ⟨k2, rfl⟩
def A_search (S : XS) (x y : Int32) : Int32 := if isLb (tN (zT S)) x then (if isLb (tR (zT S)) y then (bst3 (zT S) (zF S) (cN x) (bdN (vN (zT S) (zF S) (cN x)) (wN (zT S)) (lkd (vN (zT S) (zF S) (cN x)) (wN (zT S)) (tR (zT S)) (cN y)) (tR (zT S)))).1 else -1) else -1
theorem c_search {M0 M : XM} {t B : Nat} {S : XS} {x y : Int32} {Q : Option Value → XM → Prop} (h : CK M0 t S M) (hi : SInv B S)
    (hQ : ∀ M' : XM, CK M0 t S M' → Q (some (.int (A_search S x y))) M') :
    RG xprog 267 0 [some (.ref 16), some (.int x), some (.int y), none, none, none] [] M Q := by
  have n7 := h.1.tx.n7
  have r6 := h.1.tx.r6
  unfold A_search at hQ
  rw [B_267_0]
  simp (disch := omega) only [h.1.d, c_isLetter h.1, c_isReader h.1, B_267_5, B_267_13, lAdd, addL, lMul, mulL, nMul, nI_add, subL, lSub, nSub, nDec, nCl, lCl, nVp, lVp, nLe, nLt, nEq, lLe, leL, lLt, ltL, eqL, lEq, nM1, nM2, litLt0, one01, zero01, oneNe0, xupE, xupA, xupK, xI_I, xS_I, xF_I, xJ_I, xI_R, xS_R, xF_R, xJ_R, xI_L, xS_L, xF_L, xJ_L, xcat_s, le46, ge16, or_true, true_or, false_or, or_false, eq_self, Option.toList_some, Option.toList_none, List.cons_append, List.nil_append, true_and, and_true, not_false_eq_true, not_true_eq_false, if_true, if_false]
  by_cases hx : isLb (tN (zT S)) x
  · rw [if_pos hx, if_neg (by decide)]
    rw [if_pos hx] at hQ
    by_cases hy : isLb (tR (zT S)) y
    · rw [if_pos hy, if_pos (by decide)]
      rw [if_pos hy] at hQ
      obtain ⟨l, hl, rfl⟩ := isLb_get hx (by omega)
      obtain ⟨i, hir, rfl⟩ := isLb_get hy (by omega)
      rw [cN_n (by omega), cN_n (by omega)] at hQ
      have lp := fun k hk => lkd_p (v := vN (zT S) (zF S) l) (w := wN (zT S)) (fun a => by unfold wN; omega) (tR (zT S)) k hk
      have lt : ∀ k, lkd (vN (zT S) (zF S) l) (wN (zT S)) (tR (zT S)) k < 64 := by
        intro k
        induction k with
        | zero => show 0 < 64; omega
        | succ k ih =>
          show (match bdN (vN (zT S) (zF S) l) (wN (zT S)) (lkd (vN (zT S) (zF S) l) (wN (zT S)) (tR (zT S)) k) (tR (zT S)) with | none => lkd (vN (zT S) (zF S) l) (wN (zT S)) (tR (zT S)) k | some b => lkd (vN (zT S) (zF S) l) (wN (zT S)) (tR (zT S)) k ||| 2 ^ b) < 64
          rcases bdN_p (v := vN (zT S) (zF S) l) (w := wN (zT S)) (fun a => by unfold wN; omega) (lkd (vN (zT S) (zF S) l) (wN (zT S)) (tR (zT S)) k) (tR (zT S)) with ⟨q1, _⟩ | ⟨b', q1, q2, _⟩
          · rw [q1]; exact ih
          · rw [q1]; exact or64 ih (by omega)
      have loop : ∀ j k (M1 : XM) (d : Int32), k + j = i → CK M0 t S M1 → RG xprog 267 26 [some (.ref 16), some (.int (nI l)), some (.int (nI i)), some (.int (nI (lkd (vN (zT S) (zF S) l) (wN (zT S)) (tR (zT S)) k))), some (.int d), some (.int (nI k))] [] M1 Q := by
        intro j
        induction j with
        | zero =>
          intro k M1 d hk k1
          have : k = i := by omega
          subst this
          obtain ⟨b, b1, b2, _⟩ := (lp k (by omega)).2.2 hir
          rw [B_267_26]
          simp (disch := omega) only [lAdd, addL, lMul, mulL, nMul, nI_add, subL, lSub, nSub, nDec, nCl, lCl, nVp, lVp, nLe, nLt, nEq, lLe, leL, lLt, ltL, eqL, lEq, nM1, nM2, litLt0, one01, zero01, oneNe0, xupE, xupA, xupK, xI_I, xS_I, xF_I, xJ_I, xI_R, xS_R, xF_R, xJ_R, xI_L, xS_L, xF_L, xJ_L, xcat_s, le46, ge16, or_true, true_or, false_or, or_false, eq_self, Option.toList_some, Option.toList_none, List.cons_append, List.nil_append, true_and, and_true, not_false_eq_true, not_true_eq_false, if_true, if_false, if_neg, k1.1.d, k1.1.tx.f, k1.1.tx.n, k1.1.tx.r, k1.1.of.f, k1.1.of.v]
          refine c_bestDrawer k1 hi hl (lt k) ?_
          intro M2 k2
          rw [b1] at hQ ⊢
          unfold bst3 at hQ ⊢
          dsimp only at hQ ⊢
          simp (disch := omega) only [lAdd, addL, lMul, mulL, nMul, nI_add, subL, lSub, nSub, nDec, nCl, lCl, nVp, lVp, nLe, nLt, nEq, lLe, leL, lLt, ltL, eqL, lEq, nM1, nM2, litLt0, one01, zero01, oneNe0, xupE, xupA, xupK, xI_I, xS_I, xF_I, xJ_I, xI_R, xS_R, xF_R, xJ_R, xI_L, xS_L, xF_L, xJ_L, xcat_s, le46, ge16, or_true, true_or, false_or, or_false, eq_self, Option.toList_some, Option.toList_none, List.cons_append, List.nil_append, true_and, and_true, not_false_eq_true, not_true_eq_false, if_true, if_false, B_267_38]
          rw [B_267_26]
          simp (disch := omega) only [lAdd, addL, lMul, mulL, nMul, nI_add, subL, lSub, nSub, nDec, nCl, lCl, nVp, lVp, nLe, nLt, nEq, lLe, leL, lLt, ltL, eqL, lEq, nM1, nM2, litLt0, one01, zero01, oneNe0, xupE, xupA, xupK, xI_I, xS_I, xF_I, xJ_I, xI_R, xS_R, xF_R, xJ_R, xI_L, xS_L, xF_L, xJ_L, xcat_s, le46, ge16, or_true, true_or, false_or, or_false, eq_self, Option.toList_some, Option.toList_none, List.cons_append, List.nil_append, true_and, and_true, not_false_eq_true, not_true_eq_false, if_true, if_false, if_pos]
          exact hQ M2 k2
        | succ j ih =>
          intro k M1 d hk k1
          obtain ⟨b, b1, b2, _⟩ := (lp k (by omega)).2.2 (by omega)
          rw [B_267_26]
          simp (disch := omega) only [lAdd, addL, lMul, mulL, nMul, nI_add, subL, lSub, nSub, nDec, nCl, lCl, nVp, lVp, nLe, nLt, nEq, lLe, leL, lLt, ltL, eqL, lEq, nM1, nM2, litLt0, one01, zero01, oneNe0, xupE, xupA, xupK, xI_I, xS_I, xF_I, xJ_I, xI_R, xS_R, xF_R, xJ_R, xI_L, xS_L, xF_L, xJ_L, xcat_s, le46, ge16, or_true, true_or, false_or, or_false, eq_self, Option.toList_some, Option.toList_none, List.cons_append, List.nil_append, true_and, and_true, not_false_eq_true, not_true_eq_false, if_true, if_false, if_neg, k1.1.d, k1.1.tx.f, k1.1.tx.n, k1.1.tx.r, k1.1.of.f, k1.1.of.v]
          refine c_bestDrawer k1 hi hl (lt k) ?_
          intro M2 k2
          rw [b1]
          unfold bst3
          dsimp only
          have e : lkd (vN (zT S) (zF S) l) (wN (zT S)) (tR (zT S)) (k + 1) = lkd (vN (zT S) (zF S) l) (wN (zT S)) (tR (zT S)) k ||| 2 ^ b := by
            show (match bdN (vN (zT S) (zF S) l) (wN (zT S)) (lkd (vN (zT S) (zF S) l) (wN (zT S)) (tR (zT S)) k) (tR (zT S)) with | none => lkd (vN (zT S) (zF S) l) (wN (zT S)) (tR (zT S)) k | some b => lkd (vN (zT S) (zF S) l) (wN (zT S)) (tR (zT S)) k ||| 2 ^ b) = _
            rw [b1]
          have := ih (k + 1) M2 (nI b) (by omega) k2
          rw [e] at this
          simp (disch := omega) only [lAdd, addL, lMul, mulL, nMul, nI_add, subL, lSub, nSub, nDec, nCl, lCl, nVp, lVp, nLe, nLt, nEq, lLe, leL, lLt, ltL, eqL, lEq, nM1, nM2, litLt0, one01, zero01, oneNe0, xupE, xupA, xupK, xI_I, xS_I, xF_I, xJ_I, xI_R, xS_R, xF_R, xJ_R, xI_L, xS_L, xF_L, xJ_L, xcat_s, le46, ge16, or_true, true_or, false_or, or_false, eq_self, Option.toList_some, Option.toList_none, List.cons_append, List.nil_append, true_and, and_true, not_false_eq_true, not_true_eq_false, if_true, if_false, B_267_38, or_bit (show b < 8 by omega)]
          exact this
      exact loop i 0 M (-1) (by omega) h
    · rw [if_neg hy, if_neg (by decide)]
      rw [if_neg hy] at hQ
      exact hQ M h
  · rw [if_neg hx, if_pos rfl]
    rw [if_neg hx] at hQ
    exact hQ M h
theorem q_isAhead {M0 M : XM} {lv l a b B : Nat} {S : XS} {sd st : Int32} {Q : Option Value → XM → Prop} (h : RQ M0 lv S (zF S) sd st M) (hi : SInv B S) (hl : l < tN (zT S)) (ha : a < tR (zT S)) (hb : b < tR (zT S))
    (hQ : ∀ M' : XM, RQ M0 lv S (zF S) sd st M' → Q (some (.int (if ahd (vN (zT S) (zF S) l) (wN (zT S)) a b = true then 1 else 0))) M') :
    RG xprog 268 0 [some (.ref 439), some (.int (nI l)), some (.int (nI a)), some (.int (nI b)), none, none] [] M Q := by
  have n7 := h.2.1.n7
  have r6 := h.2.1.r6
  have l2 := h.2.1.lv2
  obtain ⟨ev, hv⟩ := lkv_n (zT S) (zF S) l a
  obtain ⟨ev2, hv2⟩ := lkv_n (zT S) (zF S) l b
  obtain ⟨ew, hw⟩ := wN_n hi.1 ha
  obtain ⟨ew2, hw2⟩ := wN_n hi.1 hb
  have m1 := vw_lt hv hw2
  have m2 := vw_lt hv2 hw
  rw [B_268_0]
  simp (disch := omega) only [h.2.1.s.s, h.2.1.s.f, h.2.1.v, h.2.1.n, h.2.1.r, lAdd, addL, lMul, mulL, nMul, nI_add, subL, lSub, nSub, nDec, nCl, lCl, nVp, lVp, nLe, nLt, nEq, lLe, leL, lLt, ltL, eqL, lEq, nM1, nM2, litLt0, one01, zero01, oneNe0, xupE, xupA, xupK, xI_I, xS_I, xF_I, xJ_I, xI_R, xS_R, xF_R, xJ_R, xI_L, xS_L, xF_L, xJ_L, xcat_s, le46, ge16, or_true, true_or, false_or, or_false, eq_self, Option.toList_some, Option.toList_none, List.cons_append, List.nil_append, true_and, and_true, not_false_eq_true, not_true_eq_false, if_true, if_false]
  refine q_likesOf h hl ha ?_
  intro M1 h1
  simp (disch := omega) only [h1.2.1.s.s, h1.2.1.s.f, h1.2.1.v, h1.2.1.n, h1.2.1.r, lAdd, addL, lMul, mulL, nMul, nI_add, subL, lSub, nSub, nDec, nCl, lCl, nVp, lVp, nLe, nLt, nEq, lLe, leL, lLt, ltL, eqL, lEq, nM1, nM2, litLt0, one01, zero01, oneNe0, xupE, xupA, xupK, xI_I, xS_I, xF_I, xJ_I, xI_R, xS_R, xF_R, xJ_R, xI_L, xS_L, xF_L, xJ_L, xcat_s, le46, ge16, or_true, true_or, false_or, or_false, eq_self, Option.toList_some, Option.toList_none, List.cons_append, List.nil_append, true_and, and_true, not_false_eq_true, not_true_eq_false, if_true, if_false, B_268_6, h1.2.1.1.a hb, ev, ew2]
  refine q_likesOf h1 hl hb ?_
  intro M2 h2
  have q := hQ M2 h2
  unfold ahd at q
  simp (disch := omega) only [h2.2.1.s.s, h2.2.1.s.f, h2.2.1.v, h2.2.1.n, h2.2.1.r, lAdd, addL, lMul, mulL, nMul, nI_add, subL, lSub, nSub, nDec, nCl, lCl, nVp, lVp, nLe, nLt, nEq, lLe, leL, lLt, ltL, eqL, lEq, nM1, nM2, litLt0, one01, zero01, oneNe0, xupE, xupA, xupK, xI_I, xS_I, xF_I, xJ_I, xI_R, xS_R, xF_R, xJ_R, xI_L, xS_L, xF_L, xJ_L, xcat_s, le46, ge16, or_true, true_or, false_or, or_false, eq_self, Option.toList_some, Option.toList_none, List.cons_append, List.nil_append, true_and, and_true, not_false_eq_true, not_true_eq_false, if_true, if_false, B_268_31, h2.2.1.1.a ha, ev2, ew, ite_i]
  by_cases c1 : vN (zT S) (zF S) l b * wN (zT S) a < vN (zT S) (zF S) l a * wN (zT S) b
  · rw [if_pos c1]
    rw [if_pos (decide_eq_true (Or.inl c1))] at q
    exact q
  · rw [if_neg c1]
    by_cases c2 : vN (zT S) (zF S) l a * wN (zT S) b = vN (zT S) (zF S) l b * wN (zT S) a
    · rw [if_neg (fun z => z c2)]
      by_cases c3 : b ≤ a
      · rw [if_pos c3]
        rw [if_neg (by rw [decide_eq_true_eq]; omega)] at q
        exact q
      · rw [if_neg c3]
        rw [if_pos (decide_eq_true (Or.inr ⟨c2, by omega⟩))] at q
        exact q
    · rw [if_pos c2]
      rw [if_neg (by rw [decide_eq_true_eq]; omega)] at q
      exact q
theorem r_search {M0 M : XM} {lv B : Nat} {S : XS} {x y : Int32} {Q : Option Value → XM → Prop} (h : RK M0 lv S M) (hi : SInv B S) (hB : B ≤ 99999)
    (hQ : ∀ M' : XM, RK M0 lv S M' → Q (some (.int (A_search S x y))) M') :
    RG xprog 269 0 [some (.ref 439), some (.int x), some (.int y), none, none, none, none] [] M Q := by
  have n7 := h.1.1.n7
  have r6 := h.1.1.r6
  have l2 := h.1.1.lv2
  unfold A_search at hQ
  rw [B_269_0]
  simp (disch := omega) only [h.1.1.1.s, r_isLetter h.1.1, r_isReader h.1.1, B_269_5, B_269_13, lAdd, addL, lMul, mulL, nMul, nI_add, subL, lSub, nSub, nDec, nCl, lCl, nVp, lVp, nLe, nLt, nEq, lLe, leL, lLt, ltL, eqL, lEq, nM1, nM2, litLt0, one01, zero01, oneNe0, xupE, xupA, xupK, xI_I, xS_I, xF_I, xJ_I, xI_R, xS_R, xF_R, xJ_R, xI_L, xS_L, xF_L, xJ_L, xcat_s, le46, ge16, or_true, true_or, false_or, or_false, eq_self, Option.toList_some, Option.toList_none, List.cons_append, List.nil_append, true_and, and_true, not_false_eq_true, not_true_eq_false, if_true, if_false]
  by_cases hx : isLb (tN (zT S)) x
  · rw [if_pos hx, if_neg (by decide)]
    rw [if_pos hx] at hQ
    by_cases hy : isLb (tR (zT S)) y
    · rw [if_pos hy, if_pos (by decide)]
      rw [if_pos hy] at hQ
      obtain ⟨l, hl, rfl⟩ := isLb_get hx (by omega)
      obtain ⟨i, hir, rfl⟩ := isLb_get hy (by omega)
      rw [cN_n (by omega), cN_n (by omega)] at hQ
      have wp : ∀ a, 0 < wN (zT S) a := fun a => by unfold wN; omega
      obtain ⟨b, b1, b2, b3⟩ := (lkd_p (v := vN (zT S) (zF S) l) (w := wN (zT S)) wp (tR (zT S)) i (by omega)).2.2 hir
      rw [b1] at hQ
      unfold bst3 at hQ
      dsimp only at hQ
      refine r_copies h hi hB ?_
      intro M1 h1
      simp (disch := omega) only [lAdd, addL, lMul, mulL, nMul, nI_add, subL, lSub, nSub, nDec, nCl, lCl, nVp, lVp, nLe, nLt, nEq, lLe, leL, lLt, ltL, eqL, lEq, nM1, nM2, litLt0, one01, zero01, oneNe0, xupE, xupA, xupK, xI_I, xS_I, xF_I, xJ_I, xI_R, xS_R, xF_R, xJ_R, xI_L, xS_L, xF_L, xJ_L, xcat_s, le46, ge16, or_true, true_or, false_or, or_false, eq_self, Option.toList_some, Option.toList_none, List.cons_append, List.nil_append, true_and, and_true, not_false_eq_true, not_true_eq_false, if_true, if_false, B_269_22]
      refine x_for (tR (zT S)) (fun a (s : XM × Int32 × Option Value × Option Value) => RQ M0 lv S (zF S) (tS (zT S) 2) 0 s.1 ∧ (b < a → s.2.1 = nI b)) (fun a s => RG xprog 269 27 [some (.ref 439), some (.int (nI l)), some (.int (nI i)), some (.int s.2.1), some (.int (nI a)), s.2.2.1, s.2.2.2] [] s.1 Q) ?_ ?_ 0 (M1, 0, none, none) (by omega) ⟨h1, fun z => by omega⟩
      · rintro ⟨M2, d, z1, z2⟩ ⟨k1, e1⟩
        dsimp only at k1 e1 ⊢
        rw [B_269_27]
        simp (disch := omega) only [k1.2.1.s.s, k1.2.1.s.f, k1.2.1.v, k1.2.1.n, k1.2.1.r, lAdd, addL, lMul, mulL, nMul, nI_add, subL, lSub, nSub, nDec, nCl, lCl, nVp, lVp, nLe, nLt, nEq, lLe, leL, lLt, ltL, eqL, lEq, nM1, nM2, litLt0, one01, zero01, oneNe0, xupE, xupA, xupK, xI_I, xS_I, xF_I, xJ_I, xI_R, xS_R, xF_R, xJ_R, xI_L, xS_L, xF_L, xJ_L, xcat_s, le46, ge16, or_true, true_or, false_or, or_false, eq_self, Option.toList_some, Option.toList_none, List.cons_append, List.nil_append, true_and, and_true, not_false_eq_true, not_true_eq_false, if_true, if_false, Nat.le_refl]
        rw [e1 b2]
        exact hQ M2 k1.1
      · rintro a ⟨M2, d, z1, z2⟩ ha ⟨k1, e1⟩ ih
        dsimp only at k1 e1 ⊢
        rw [B_269_27]
        simp (disch := omega) only [k1.2.1.s.s, k1.2.1.s.f, k1.2.1.v, k1.2.1.n, k1.2.1.r, lAdd, addL, lMul, mulL, nMul, nI_add, subL, lSub, nSub, nDec, nCl, lCl, nVp, lVp, nLe, nLt, nEq, lLe, leL, lLt, ltL, eqL, lEq, nM1, nM2, litLt0, one01, zero01, oneNe0, xupE, xupA, xupK, xI_I, xS_I, xF_I, xJ_I, xI_R, xS_R, xF_R, xJ_R, xI_L, xS_L, xF_L, xJ_L, xcat_s, le46, ge16, or_true, true_or, false_or, or_false, eq_self, Option.toList_some, Option.toList_none, List.cons_append, List.nil_append, true_and, and_true, not_false_eq_true, not_true_eq_false, if_true, if_false, if_neg]
        refine x_for (tR (zT S)) (fun c (s : XM × Nat) => RQ M0 lv S (zF S) (tS (zT S) 2) 0 s.1 ∧ s.2 = cnt (fun c => decide (c ≠ a) && ahd (vN (zT S) (zF S) l) (wN (zT S)) c a) c ∧ s.2 ≤ c) (fun c s => RG xprog 269 47 [some (.ref 439), some (.int (nI l)), some (.int (nI i)), some (.int d), some (.int (nI a)), some (.int (nI s.2)), some (.int (nI c))] [] s.1 Q) ?_ ?_ 0 (M2, 0) (by omega) ⟨k1, rfl, Nat.le_refl 0⟩
        · rintro ⟨M3, n⟩ ⟨k3, e3, l3⟩
          dsimp only at k3 e3 l3 ⊢
          rw [B_269_47]
          simp (disch := omega) only [k3.2.1.s.s, k3.2.1.s.f, k3.2.1.v, k3.2.1.n, k3.2.1.r, lAdd, addL, lMul, mulL, nMul, nI_add, subL, lSub, nSub, nDec, nCl, lCl, nVp, lVp, nLe, nLt, nEq, lLe, leL, lLt, ltL, eqL, lEq, nM1, nM2, litLt0, one01, zero01, oneNe0, xupE, xupA, xupK, xI_I, xS_I, xF_I, xJ_I, xI_R, xS_R, xF_R, xJ_R, xI_L, xS_L, xF_L, xJ_L, xcat_s, le46, ge16, or_true, true_or, false_or, or_false, eq_self, Option.toList_some, Option.toList_none, List.cons_append, List.nil_append, true_and, and_true, not_false_eq_true, not_true_eq_false, if_true, if_false, Nat.le_refl]
          have e4 : n = rkN (vN (zT S) (zF S) l) (wN (zT S)) (tR (zT S)) a := e3
          by_cases hn : n = i
          · rw [if_neg (fun z => z hn)]
            have : a = b := rk_uniq wp ha b2 (by rw [← e4, hn, b3])
            refine ih (M3, nI a, _, _) ⟨k3, fun _ => by rw [this]⟩
          · rw [if_pos hn]
            refine ih (M3, d, _, _) ⟨k3, fun z => ?_⟩
            by_cases q : b = a
            · exfalso
              apply hn
              rw [e4, ← q, b3]
            · exact e1 (by omega)
        · rintro c ⟨M3, n⟩ hc ⟨k3, e3, l3⟩ ih2
          dsimp only at k3 e3 l3 ⊢
          rw [cnt_s, ← e3] at ih2
          rw [B_269_47]
          simp (disch := omega) only [k3.2.1.s.s, k3.2.1.s.f, k3.2.1.v, k3.2.1.n, k3.2.1.r, lAdd, addL, lMul, mulL, nMul, nI_add, subL, lSub, nSub, nDec, nCl, lCl, nVp, lVp, nLe, nLt, nEq, lLe, leL, lLt, ltL, eqL, lEq, nM1, nM2, litLt0, one01, zero01, oneNe0, xupE, xupA, xupK, xI_I, xS_I, xF_I, xJ_I, xI_R, xS_R, xF_R, xJ_R, xI_L, xS_L, xF_L, xJ_L, xcat_s, le46, ge16, or_true, true_or, false_or, or_false, eq_self, Option.toList_some, Option.toList_none, List.cons_append, List.nil_append, true_and, and_true, not_false_eq_true, not_true_eq_false, if_true, if_false, if_neg]
          by_cases q : c = a
          · rw [if_pos q]
            have hz : (decide (c ≠ a) && ahd (vN (zT S) (zF S) l) (wN (zT S)) c a) = false := by rw [q]; simp
            rw [hz] at ih2
            exact ih2 (M3, n) ⟨k3, rfl, by dsimp only; omega⟩
          · rw [if_neg q]
            refine q_isAhead k3 hi hl hc ha ?_
            intro M4 k4
            simp (disch := omega) only [lAdd, addL, lMul, mulL, nMul, nI_add, subL, lSub, nSub, nDec, nCl, lCl, nVp, lVp, nLe, nLt, nEq, lLe, leL, lLt, ltL, eqL, lEq, nM1, nM2, litLt0, one01, zero01, oneNe0, xupE, xupA, xupK, xI_I, xS_I, xF_I, xJ_I, xI_R, xS_R, xF_R, xJ_R, xI_L, xS_L, xF_L, xJ_L, xcat_s, le46, ge16, or_true, true_or, false_or, or_false, eq_self, Option.toList_some, Option.toList_none, List.cons_append, List.nil_append, true_and, and_true, not_false_eq_true, not_true_eq_false, if_true, if_false, B_269_77]
            by_cases ht : ahd (vN (zT S) (zF S) l) (wN (zT S)) c a = true
            · rw [if_pos ht, if_neg (by decide)]
              have hz : (decide (c ≠ a) && ahd (vN (zT S) (zF S) l) (wN (zT S)) c a) = true := by rw [ht, decide_eq_true q]; rfl
              rw [hz] at ih2
              exact ih2 (M4, n + 1) ⟨k4, rfl, by dsimp only; omega⟩
            · rw [if_neg ht, if_pos rfl]
              have hz : (decide (c ≠ a) && ahd (vN (zT S) (zF S) l) (wN (zT S)) c a) = false := by
                simp only [Bool.not_eq_true] at ht
                rw [ht, Bool.and_false]
              rw [hz] at ih2
              exact ih2 (M4, n) ⟨k4, rfl, by dsimp only; omega⟩
    · rw [if_neg hy, if_neg (by decide)]
      rw [if_neg hy] at hQ
      exact hQ M h
  · rw [if_neg hx, if_pos rfl]
    rw [if_neg hx] at hQ
    exact hQ M h
