/-! tokens: the tape as bytes, and how the class cuts it -/
theorem and255 (x : Int32) : ∃ k, k < 256 ∧ x &&& 255 = nI k := by
  refine ⟨(x &&& 255).toBitVec.toNat, ?_, ?_⟩
  · rw [Int32.toBitVec_and, BitVec.toNat_and]
    exact Nat.lt_of_le_of_lt Nat.and_le_right (by decide)
  · unfold nI
    apply Int32.toBitVec_inj.mp
    show (x &&& 255).toBitVec = BitVec.ofNat 32 (x &&& 255).toBitVec.toNat
    apply BitVec.eq_of_toNat_eq
    rw [BitVec.toNat_ofNat]
    exact (Nat.mod_eq_of_lt (x &&& 255).toBitVec.isLt).symm
/-- how far p holds on from i -/
def rn (p : Nat → Bool) (n : Nat) : Nat → Nat → Nat
  | 0, i => i
  | f + 1, i => if i < n ∧ p i = true then rn p n f (i + 1) else i
theorem rn_s (p : Nat → Bool) (n f i : Nat) : rn p n (f + 1) i = if i < n ∧ p i = true then rn p n f (i + 1) else i := rfl
theorem rn_fuel (p : Nat → Bool) (n : Nat) : ∀ f g i, n ≤ i + f → n ≤ i + g → rn p n f i = rn p n g i
  | 0, 0, _, _, _ => rfl
  | 0, g + 1, i, h, _ => by rw [rn_s, if_neg (by omega)]; rfl
  | f + 1, 0, i, _, h => by rw [rn_s, if_neg (by omega)]; rfl
  | f + 1, g + 1, i, h1, h2 => by
    rw [rn_s, rn_s]
    split
    · exact rn_fuel p n f g (i + 1) (by omega) (by omega)
    · rfl
theorem rn_ge (p : Nat → Bool) (n : Nat) : ∀ f i, i ≤ rn p n f i
  | 0, i => Nat.le_refl i
  | f + 1, i => by
    rw [rn_s]
    split
    · have := rn_ge p n f (i + 1); omega
    · exact Nat.le_refl i
theorem rn_le (p : Nat → Bool) (n : Nat) : ∀ f i, i ≤ n → rn p n f i ≤ n
  | 0, i, h => h
  | f + 1, i, h => by
    rw [rn_s]
    split
    · exact rn_le p n f (i + 1) (by omega)
    · exact h
theorem rn_in (p : Nat → Bool) (n : Nat) : ∀ f i j, i ≤ j → j < rn p n f i → p j = true ∧ j < n
  | 0, i, j, h1, h2 => by
    have : rn p n 0 i = i := rfl
    omega
  | f + 1, i, j, h1, h2 => by
    rw [rn_s] at h2
    by_cases q : i < n ∧ p i = true
    · rw [if_pos q] at h2
      by_cases e : j = i
      · rw [e]; exact ⟨q.2, q.1⟩
      · exact rn_in p n f (i + 1) j (by omega) h2
    · rw [if_neg q] at h2; omega
theorem rn_end (p : Nat → Bool) (n : Nat) : ∀ f i, n ≤ i + f → ¬ (rn p n f i < n ∧ p (rn p n f i) = true)
  | 0, i, h => by
    have : rn p n 0 i = i := rfl
    rw [this]
    omega
  | f + 1, i, h => by
    rw [rn_s]
    by_cases q : i < n ∧ p i = true
    · rw [if_pos q]; exact rn_end p n f (i + 1) (by omega)
    · rw [if_neg q]; exact q
def isBl (c : Nat → Nat) (i : Nat) : Bool := decide (c i = 9 ∨ c i = 10 ∨ c i = 13 ∨ c i = 32)
def isWd (c : Nat → Nat) (i : Nat) : Bool := decide (97 ≤ c i ∧ c i ≤ 122)
def isDg (c : Nat → Nat) (i : Nat) : Bool := decide (48 ≤ c i ∧ c i ≤ 57)
/-- the class's tokens stand on a tape of n bytes c -/
def TK (M : XM) (n : Nat) (c : Nat → Nat) : Prop := (xS M 20 = (9, 0) ∧ xF M 20 0 = 21 ∧ xF M 20 1 = 17 ∧ xS M 21 = (43, 21) ∧ xS M 17 = (7, 0) ∧ xF M 17 0 = 18 ∧ xS M 18 = (41, 2000)) ∧ xI M 17 1 = nI n ∧ n ≤ 2000 ∧ (∀ i, i < n → xI M 18 i &&& 255 = nI (c i) ∧ c i < 256) ∧ StrAt M 7 8 9 xb70 ∧ ∀ i, i < 21 → xJ M 21 i = cwF i 8
/-- the sign at i -/
def sgn (n : Nat) (c : Nat → Nat) (i : Nat) : Int32 := if i < n then nI (c i) else -1
theorem c_byteAt {M : XM} {n i : Nat} {c : Nat → Nat} {Q : Option Value → XM → Prop} (h : TK M n c) (hi : i ≤ 5000) : RG xprog 40 0 [some (.ref 17), some (.int (nI i))] [] M Q = Q (some (.int (sgn n c i))) M := by
  obtain ⟨h1, h2, h3, h4, _⟩ := h
  unfold sgn
  rw [B_40_0]
  simp (disch := omega) only [h1, h2, lAdd, addL, lMul, mulL, nMul, nI_add, subL, lSub, nSub, nDec, nCl, lCl, nVp, lVp, nLe, nLt, nEq, lLe, leL, lLt, ltL, eqL, lEq, nM1, nM2, litLt0, one01, zero01, oneNe0, xupE, xupA, xupK, xI_I, xS_I, xF_I, xJ_I, xI_R, xS_R, xF_R, xJ_R, xI_L, xS_L, xF_L, xJ_L, xcat_s, le46, ge16, or_true, true_or, false_or, or_false, eq_self, Option.toList_some, Option.toList_none, List.cons_append, List.nil_append, true_and, and_true, not_false_eq_true, not_true_eq_false, if_true, if_false, if_neg]
  by_cases q : i < n
  · rw [if_neg (by omega), if_pos q, (h4 i q).1]
  · rw [if_pos (by omega), if_neg q]
theorem c_signHere {M : XM} {n i : Nat} {c : Nat → Nat} {Q : Option Value → XM → Prop} (h : TK M n c) (ha : xI M 20 2 = nI i) (hi : i ≤ 5000) : RG xprog 41 0 [some (.ref 20)] [] M Q = Q (some (.int (sgn n c i))) M := by
  have h1 := h.1
  rw [B_41_0]
  simp (disch := omega) only [h1, ha, lAdd, addL, lMul, mulL, nMul, nI_add, subL, lSub, nSub, nDec, nCl, lCl, nVp, lVp, nLe, nLt, nEq, lLe, leL, lLt, ltL, eqL, lEq, nM1, nM2, litLt0, one01, zero01, oneNe0, xupE, xupA, xupK, xI_I, xS_I, xF_I, xJ_I, xI_R, xS_R, xF_R, xJ_R, xI_L, xS_L, xF_L, xJ_L, xcat_s, le46, ge16, or_true, true_or, false_or, or_false, eq_self, Option.toList_some, Option.toList_none, List.cons_append, List.nil_append, true_and, and_true, not_false_eq_true, not_true_eq_false, if_true, if_false, if_neg, c_byteAt h hi, B_41_22]
  exact propext ⟨fun q => q.2, fun q => ⟨by omega, q⟩⟩
theorem sgn_in {n i : Nat} {c : Nat → Nat} (h : i < n) : sgn n c i = nI (c i) := if_pos h
theorem sgn_out {n i : Nat} {c : Nat → Nat} (h : ¬ i < n) : sgn n c i = -1 := if_neg h
theorem isBl_i (c : Nat → Nat) (i : Nat) : isBl c i = true ↔ (c i = 9 ∨ c i = 10 ∨ c i = 13 ∨ c i = 32) := decide_eq_true_iff
theorem isWd_i (c : Nat → Nat) (i : Nat) : isWd c i = true ↔ (97 ≤ c i ∧ c i ≤ 122) := decide_eq_true_iff
theorem isDg_i (c : Nat → Nat) (i : Nat) : isDg c i = true ↔ (48 ≤ c i ∧ c i ≤ 57) := decide_eq_true_iff
theorem c_isBlank {M : XM} {n i : Nat} {c : Nat → Nat} {Q : Option Value → XM → Prop} (hc : i < n → c i < 256) : RG xprog 42 0 [some (.int (sgn n c i))] [] M Q = Q (some (.int (if i < n ∧ isBl c i = true then 1 else 0))) M := by
  rw [B_42_0]
  simp (disch := omega) only [lAdd, addL, lMul, mulL, nMul, nI_add, subL, lSub, nSub, nDec, nCl, lCl, nVp, lVp, nLe, nLt, nEq, lLe, leL, lLt, ltL, eqL, lEq, nM1, nM2, litLt0, one01, zero01, oneNe0, xupE, xupA, xupK, xI_I, xS_I, xF_I, xJ_I, xI_R, xS_R, xF_R, xJ_R, xI_L, xS_L, xF_L, xJ_L, xcat_s, le46, ge16, or_true, true_or, false_or, or_false, eq_self, Option.toList_some, Option.toList_none, List.cons_append, List.nil_append, true_and, and_true, not_false_eq_true, not_true_eq_false, if_true, if_false, ite_i]
  congr 3
  by_cases h : i < n
  · have c6 := hc h
    rw [sgn_in h]
    have ii := isBl_i c i
    simp (disch := omega) only [eqL]
    by_cases q1 : c i = 9
    · rw [if_pos q1, if_pos ⟨h, ii.mpr (Or.inl q1)⟩]
    by_cases q2 : c i = 10
    · rw [if_neg q1, if_pos q2, if_pos ⟨h, ii.mpr (Or.inr (Or.inl q2))⟩]
    by_cases q3 : c i = 13
    · rw [if_neg q1, if_neg q2, if_pos q3, if_pos ⟨h, ii.mpr (Or.inr (Or.inr (Or.inl q3)))⟩]
    by_cases q4 : c i = 32
    · rw [if_neg q1, if_neg q2, if_neg q3, if_neg (fun z => z q4), if_pos ⟨h, ii.mpr (Or.inr (Or.inr (Or.inr q4)))⟩]
    · rw [if_neg q1, if_neg q2, if_neg q3, if_pos q4, if_neg (fun z => by have := ii.mp z.2; omega)]
  · rw [sgn_out h]
    have e : (if i < n ∧ isBl c i = true then (1 : Int32) else 0) = 0 := if_neg (fun z => h z.1)
    rw [e]
    decide
theorem c_isLower {M : XM} {n i : Nat} {c : Nat → Nat} {Q : Option Value → XM → Prop} (hc : i < n → c i < 256) : RG xprog 44 0 [some (.int (sgn n c i))] [] M Q = Q (some (.int (if i < n ∧ isWd c i = true then 1 else 0))) M := by
  rw [B_44_0]
  simp (disch := omega) only [lAdd, addL, lMul, mulL, nMul, nI_add, subL, lSub, nSub, nDec, nCl, lCl, nVp, lVp, nLe, nLt, nEq, lLe, leL, lLt, ltL, eqL, lEq, nM1, nM2, litLt0, one01, zero01, oneNe0, xupE, xupA, xupK, xI_I, xS_I, xF_I, xJ_I, xI_R, xS_R, xF_R, xJ_R, xI_L, xS_L, xF_L, xJ_L, xcat_s, le46, ge16, or_true, true_or, false_or, or_false, eq_self, Option.toList_some, Option.toList_none, List.cons_append, List.nil_append, true_and, and_true, not_false_eq_true, not_true_eq_false, if_true, if_false, ite_i]
  congr 3
  by_cases h : i < n
  · have c6 := hc h
    rw [sgn_in h]
    have ii := isWd_i c i
    simp (disch := omega) only [ltL, lLt]
    by_cases q1 : c i < 97
    · rw [if_pos q1, if_neg (fun z => by have := ii.mp z.2; omega)]
    by_cases q2 : 122 < c i
    · rw [if_neg q1, if_pos q2, if_neg (fun z => by have := ii.mp z.2; omega)]
    · rw [if_neg q1, if_neg q2, if_pos ⟨h, ii.mpr (by omega)⟩]
  · rw [sgn_out h]
    have e : (if i < n ∧ isWd c i = true then (1 : Int32) else 0) = 0 := if_neg (fun z => h z.1)
    rw [e]
    decide
theorem c_isDigit {M : XM} {n i : Nat} {c : Nat → Nat} {Q : Option Value → XM → Prop} (hc : i < n → c i < 256) : RG xprog 47 0 [some (.int (sgn n c i))] [] M Q = Q (some (.int (if i < n ∧ isDg c i = true then 1 else 0))) M := by
  rw [B_47_0]
  simp (disch := omega) only [lAdd, addL, lMul, mulL, nMul, nI_add, subL, lSub, nSub, nDec, nCl, lCl, nVp, lVp, nLe, nLt, nEq, lLe, leL, lLt, ltL, eqL, lEq, nM1, nM2, litLt0, one01, zero01, oneNe0, xupE, xupA, xupK, xI_I, xS_I, xF_I, xJ_I, xI_R, xS_R, xF_R, xJ_R, xI_L, xS_L, xF_L, xJ_L, xcat_s, le46, ge16, or_true, true_or, false_or, or_false, eq_self, Option.toList_some, Option.toList_none, List.cons_append, List.nil_append, true_and, and_true, not_false_eq_true, not_true_eq_false, if_true, if_false, ite_i]
  congr 3
  by_cases h : i < n
  · have c6 := hc h
    rw [sgn_in h]
    have ii := isDg_i c i
    simp (disch := omega) only [ltL, lLt]
    by_cases q1 : c i < 48
    · rw [if_pos q1, if_neg (fun z => by have := ii.mp z.2; omega)]
    by_cases q2 : 57 < c i
    · rw [if_neg q1, if_pos q2, if_neg (fun z => by have := ii.mp z.2; omega)]
    · rw [if_neg q1, if_neg q2, if_pos ⟨h, ii.mpr (by omega)⟩]
  · rw [sgn_out h]
    have e : (if i < n ∧ isDg c i = true then (1 : Int32) else 0) = 0 := if_neg (fun z => h z.1)
    rw [e]
    decide
/-- frames with longs and references: P ints, R longs, F references may have changed -/
def E3 (P R F : Nat → Nat → Prop) (M M' : XM) : Prop := M'.1 = M.1 ∧ xS M' = xS M ∧ (∀ a k, ¬ P a k → xI M' a k = xI M a k) ∧ (∀ a k, ¬ R a k → xJ M' a k = xJ M a k) ∧ ∀ a k, ¬ F a k → xF M' a k = xF M a k
section XE3
variable {P R F : Nat → Nat → Prop} {M M' M'' : XM}
theorem E3.refl (P R F : Nat → Nat → Prop) (M : XM) : E3 P R F M M := ⟨rfl, rfl, fun _ _ _ => rfl, fun _ _ _ => rfl, fun _ _ _ => rfl⟩
theorem E3.trans (h : E3 P R F M M') (h2 : E3 P R F M' M'') : E3 P R F M M'' := ⟨h2.1.trans h.1, h2.2.1.trans h.2.1, fun a k q => (h2.2.2.1 a k q).trans (h.2.2.1 a k q), fun a k q => (h2.2.2.2.1 a k q).trans (h.2.2.2.1 a k q), fun a k q => (h2.2.2.2.2 a k q).trans (h.2.2.2.2 a k q)⟩
theorem E3.mono {P' R' F' : Nat → Nat → Prop} (h : E3 P R F M M') (hp : ∀ a k, P a k → P' a k) (hr : ∀ a k, R a k → R' a k) (hf : ∀ a k, F a k → F' a k) : E3 P' R' F' M M' := ⟨h.1, h.2.1, fun a k q => h.2.2.1 a k fun z => q (hp a k z), fun a k q => h.2.2.2.1 a k fun z => q (hr a k z), fun a k q => h.2.2.2.2 a k fun z => q (hf a k z)⟩
theorem E3.S (h : E3 P R F M M') : xS M' = xS M := h.2.1
theorem E3.I (h : E3 P R F M M') {a k : Nat} (q : ¬ P a k) : xI M' a k = xI M a k := h.2.2.1 a k q
theorem E3.J (h : E3 P R F M M') {a k : Nat} (q : ¬ R a k) : xJ M' a k = xJ M a k := h.2.2.2.1 a k q
theorem E3.FF (h : E3 P R F M M') {a k : Nat} (q : ¬ F a k) : xF M' a k = xF M a k := h.2.2.2.2 a k q
theorem E3.wI (h : E3 P R F M M') {a k : Nat} (x : Int32) (hp : P a k) : E3 P R F M (xmI M' a k x) := ⟨h.1, h.2.1, fun b j q => by
  rw [xI_I, xup_at, if_neg (fun z => q (by rw [z.1, z.2]; exact hp))]
  exact h.2.2.1 b j q, h.2.2.2.1, h.2.2.2.2⟩
theorem E3.wJ (h : E3 P R F M M') {a k : Nat} (x : Int64) (hp : R a k) : E3 P R F M (xmL M' a k x) := ⟨h.1, h.2.1, h.2.2.1, fun b j q => by
  rw [xJ_L, xup_at, if_neg (fun z => q (by rw [z.1, z.2]; exact hp))]
  exact h.2.2.2.1 b j q, h.2.2.2.2⟩
theorem E3.wF (h : E3 P R F M M') {a k : Nat} (x : Nat) (hp : F a k) : E3 P R F M (xmR M' a k x) := ⟨h.1, h.2.1, h.2.2.1, h.2.2.2.1, fun b j q => by
  rw [xF_R, xup_at, if_neg (fun z => q (by rw [z.1, z.2]; exact hp))]
  exact h.2.2.2.2 b j q⟩
theorem E3.ofEx (h : Ex P M M') : E3 P R F M M' := ⟨h.1, h.2.1, h.2.2.2.2, fun a k _ => by rw [h.2.2.2.1], fun a k _ => by rw [h.2.2.1]⟩
end XE3
/-- what a token may change -/
def tkP : Nat → Nat → Prop := fun a k => a = 20 ∧ 2 ≤ k ∧ k ≤ 5
def tkJ : Nat → Nat → Prop := fun a k => a = 20 ∧ k = 6
def noF : Nat → Nat → Prop := fun _ _ => False
theorem TK.e3 {P R F : Nat → Nat → Prop} {M M' : XM} {n : Nat} {c : Nat → Nat} (h : TK M n c) (e : E3 P R F M M') (hp : ∀ a k, P a k → ¬ (a = 7 ∨ a = 8 ∨ a = 17 ∨ a = 18)) (hr : ∀ a k, R a k → a ≠ 21) (hf : ∀ a k, F a k → ¬ (a = 7 ∨ a = 17 ∨ a = 20)) : TK M' n c := by
  obtain ⟨⟨a1, a2, a3, a4, a5, a6, a7⟩, h2, h3, h4, ⟨b1, b2, b3, b4, b5⟩, h6⟩ := h
  have I := fun (a k : Nat) (q : a = 7 ∨ a = 8 ∨ a = 17 ∨ a = 18) => e.I (a := a) (k := k) fun z => hp a k z q
  have F' := fun (a k : Nat) (q : a = 7 ∨ a = 17 ∨ a = 20) => e.FF (a := a) (k := k) fun z => hf a k z q
  refine ⟨⟨by rw [e.S]; exact a1, by rw [F' _ _ (by omega)]; exact a2, by rw [F' _ _ (by omega)]; exact a3, by rw [e.S]; exact a4, by rw [e.S]; exact a5, by rw [F' _ _ (by omega)]; exact a6, by rw [e.S]; exact a7⟩, by rw [I _ _ (by omega)]; exact h2, h3, fun i hi => by rw [I _ _ (by omega)]; exact h4 i hi, ⟨by rw [e.S]; exact b1, by rw [F' _ _ (by omega)]; exact b2, by rw [e.S]; exact b3, by rw [I _ _ (by omega)]; exact b4, fun k hk => by rw [I _ _ (by omega)]; exact b5 k hk⟩, fun i hi => by rw [e.J (fun z => hr _ _ z rfl)]; exact h6 i hi⟩
theorem TK.tk {M M' : XM} {n : Nat} {c : Nat → Nat} (h : TK M n c) (e : E3 tkP tkJ noF M M') : TK M' n c := h.e3 e (fun a k q => by unfold tkP at q; omega) (fun a k q => by unfold tkJ at q; omega) (fun a k q => absurd q (fun z => z))
theorem c_skipBlanks {M : XM} {n i : Nat} {c : Nat → Nat} {Q : Option Value → XM → Prop} (h : TK M n c) (ha : xI M 20 2 = nI i) (hi : i ≤ 2500)
    (hQ : ∀ M' : XM, E3 tkP tkJ noF M M' → xI M' 20 2 = nI (rn (isBl c) n 2000 i) → Q none M') :
    RG xprog 43 0 [some (.ref 20), none] [] M Q := by
  rw [B_43_0]
  have loop : ∀ f k i (M1 : XM), k + f = 2000 → i ≤ 2500 + k → E3 tkP tkJ noF M M1 → xI M1 20 2 = nI i → (∀ M' : XM, E3 tkP tkJ noF M M' → xI M' 20 2 = nI (rn (isBl c) n f i) → Q none M') → RG xprog 43 2 [some (.ref 20), some (.int (nI k))] [] M1 Q := by
    intro f
    induction f with
    | zero =>
      intro k i M1 hk _ e1 a1 q1
      rw [B_43_2]
      simp (disch := omega) only [lAdd, addL, lMul, mulL, nMul, nI_add, subL, lSub, nSub, nDec, nCl, lCl, nVp, lVp, nLe, nLt, nEq, lLe, leL, lLt, ltL, eqL, lEq, nM1, nM2, litLt0, one01, zero01, oneNe0, xupE, xupA, xupK, xI_I, xS_I, xF_I, xJ_I, xI_R, xS_R, xF_R, xJ_R, xI_L, xS_L, xF_L, xJ_L, xcat_s, le46, ge16, or_true, true_or, false_or, or_false, eq_self, Option.toList_some, Option.toList_none, List.cons_append, List.nil_append, true_and, and_true, not_false_eq_true, not_true_eq_false, if_true, if_false, if_pos]
      exact q1 M1 e1 a1
    | succ f ih =>
      intro k i M1 hk hb e1 a1 q1
      have h1 := h.tk e1
      rw [B_43_2]
      simp (disch := omega) only [lAdd, addL, lMul, mulL, nMul, nI_add, subL, lSub, nSub, nDec, nCl, lCl, nVp, lVp, nLe, nLt, nEq, lLe, leL, lLt, ltL, eqL, lEq, nM1, nM2, litLt0, one01, zero01, oneNe0, xupE, xupA, xupK, xI_I, xS_I, xF_I, xJ_I, xI_R, xS_R, xF_R, xJ_R, xI_L, xS_L, xF_L, xJ_L, xcat_s, le46, ge16, or_true, true_or, false_or, or_false, eq_self, Option.toList_some, Option.toList_none, List.cons_append, List.nil_append, true_and, and_true, not_false_eq_true, not_true_eq_false, if_true, if_false, if_neg, h1.1, c_signHere h1 a1 (show i ≤ 5000 by omega), B_43_13, c_isBlank (n := n) (i := i) (c := c) (fun q => (h1.2.2.2.1 i q).2), B_43_16]
      rw [rn_s] at q1
      by_cases q : i < n ∧ isBl c i = true
      · rw [if_pos q, if_neg (by decide)]
        rw [if_pos q] at q1
        simp (disch := omega) only [h1.1, a1, lAdd, addL, lMul, mulL, nMul, nI_add, subL, lSub, nSub, nDec, nCl, lCl, nVp, lVp, nLe, nLt, nEq, lLe, leL, lLt, ltL, eqL, lEq, nM1, nM2, litLt0, one01, zero01, oneNe0, xupE, xupA, xupK, xI_I, xS_I, xF_I, xJ_I, xI_R, xS_R, xF_R, xJ_R, xI_L, xS_L, xF_L, xJ_L, xcat_s, le46, ge16, or_true, true_or, false_or, or_false, eq_self, Option.toList_some, Option.toList_none, List.cons_append, List.nil_append, true_and, and_true, not_false_eq_true, not_true_eq_false, if_true, if_false]
        exact ih (k + 1) (i + 1) _ (by omega) (by omega) (e1.wI _ (by unfold tkP; omega)) (by rw [xI_I, xupE]) q1
      · rw [if_neg q, if_pos rfl]
        rw [if_neg q] at q1
        exact q1 M1 e1 a1
  exact loop 2000 0 i M (by omega) (by omega) (E3.refl _ _ _ _) ha hQ
