/-! Office: its cells, and the methods that only look -/
def OffAt (M : XM) (o : Nat) : Prop := xS M o = (5, 0) ∧ 16 ≤ o ∧ (∀ k, 1 ≤ k → k ≤ 6 → xF M o k = o + k) ∧ (∀ k, 1 ≤ k → k ≤ 3 → xS M (o + k) = (40, 7)) ∧ ∀ k, 4 ≤ k → k ≤ 6 → xS M (o + k) = (40, 6)
theorem OffAt.s {M : XM} {o : Nat} (h : OffAt M o) : xS M o = (5, 0) := h.1
theorem OffAt.ge {M : XM} {o : Nat} (h : OffAt M o) : 16 ≤ o := h.2.1
theorem OffAt.f1 {M : XM} {o : Nat} (h : OffAt M o) : xF M o 1 = o + 1 := h.2.2.1 1 (by omega) (by omega)
theorem OffAt.f2 {M : XM} {o : Nat} (h : OffAt M o) : xF M o 2 = o + 2 := h.2.2.1 2 (by omega) (by omega)
theorem OffAt.f3 {M : XM} {o : Nat} (h : OffAt M o) : xF M o 3 = o + 3 := h.2.2.1 3 (by omega) (by omega)
theorem OffAt.f4 {M : XM} {o : Nat} (h : OffAt M o) : xF M o 4 = o + 4 := h.2.2.1 4 (by omega) (by omega)
theorem OffAt.f5 {M : XM} {o : Nat} (h : OffAt M o) : xF M o 5 = o + 5 := h.2.2.1 5 (by omega) (by omega)
theorem OffAt.f6 {M : XM} {o : Nat} (h : OffAt M o) : xF M o 6 = o + 6 := h.2.2.1 6 (by omega) (by omega)
theorem OffAt.s1 {M : XM} {o : Nat} (h : OffAt M o) : xS M (o + 1) = (40, 7) := h.2.2.2.1 1 (by omega) (by omega)
theorem OffAt.s2 {M : XM} {o : Nat} (h : OffAt M o) : xS M (o + 2) = (40, 7) := h.2.2.2.1 2 (by omega) (by omega)
theorem OffAt.s3 {M : XM} {o : Nat} (h : OffAt M o) : xS M (o + 3) = (40, 7) := h.2.2.2.1 3 (by omega) (by omega)
theorem OffAt.s4 {M : XM} {o : Nat} (h : OffAt M o) : xS M (o + 4) = (40, 6) := h.2.2.2.2 4 (by omega) (by omega)
theorem OffAt.s5 {M : XM} {o : Nat} (h : OffAt M o) : xS M (o + 5) = (40, 6) := h.2.2.2.2 5 (by omega) (by omega)
theorem OffAt.s6 {M : XM} {o : Nat} (h : OffAt M o) : xS M (o + 6) = (40, 6) := h.2.2.2.2 6 (by omega) (by omega)
/-- bits of the places below n that hold p -/
def xbits (f : Nat → Int32) (p : Int32) : Nat → Int32
  | 0 => 0
  | n + 1 => if f n = p then xbits f p n ||| ((1 : Int32) <<< (nI n &&& 31)) else xbits f p n
theorem xbits_s (f : Nat → Int32) (p : Int32) (n : Nat) : xbits f p (n + 1) = if f n = p then xbits f p n ||| ((1 : Int32) <<< (nI n &&& 31)) else xbits f p n := rfl
def xsum (f : Nat → Int32) : Nat → Int32
  | 0 => 0
  | n + 1 => xsum f n + f n
theorem c_lettersAt {M : XM} {o n : Nat} {p : Int32} {Q : Option Value → XM → Prop} (h : OffAt M o) (hn : n ≤ 7) : RG xprog 244 0 [some (.ref o), some (.int p), some (.int (nI n)), none, none] [] M Q = Q (some (.int (xbits (xI M (o + 1)) p n))) M := by
  have loop : ∀ k i : Nat, i + k = n → RG xprog 244 5 [some (.ref o), some (.int p), some (.int (nI n)), some (.int (xbits (xI M (o + 1)) p i)), some (.int (nI i))] [] M Q = Q (some (.int (xbits (xI M (o + 1)) p n))) M := by
    intro k
    induction k with
    | zero =>
      intro i hi
      have : i = n := by omega
      subst this
      rw [B_244_5, if_pos (Int32.le_refl _)]
    | succ k ih =>
      intro i hi
      have hlt : i < n := by omega
      rw [B_244_5, if_neg (nI_ge hlt (by omega))]
      simp only [h.s, h.f1, h.s1, vp_in_nI (show i < 7 by omega) (by omega), nI_clamp (show i < 2 ^ 31 by omega), nI_1, true_and]
      have e := ih (i + 1) (by omega)
      rw [xbits_s] at e
      split
      · rename_i hc
        rw [if_neg hc] at e
        exact e
      · rename_i hc
        rw [if_pos (Classical.not_not.mp hc)] at e
        exact e
  rw [B_244_0]
  exact loop n 0 (by omega)
theorem c_freeReaders {M : XM} {o n : Nat} {Q : Option Value → XM → Prop} (h : OffAt M o) (hn : n ≤ 6) : RG xprog 290 0 [some (.ref o), some (.int (nI n)), none, none] [] M Q = Q (some (.int (xbits (xI M (o + 5)) (-2) n))) M := by
  have loop : ∀ k i : Nat, i + k = n → RG xprog 290 4 [some (.ref o), some (.int (nI n)), some (.int (xbits (xI M (o + 5)) (-2) i)), some (.int (nI i))] [] M Q = Q (some (.int (xbits (xI M (o + 5)) (-2) n))) M := by
    intro k
    induction k with
    | zero =>
      intro i hi
      have : i = n := by omega
      subst this
      rw [B_290_4, if_pos (Int32.le_refl _)]
    | succ k ih =>
      intro i hi
      have hlt : i < n := by omega
      rw [B_290_4, if_neg (nI_ge hlt (by omega))]
      simp only [h.s, h.f5, h.s5, vp_in_nI (show i < 6 by omega) (by omega), nI_clamp (show i < 2 ^ 31 by omega), nI_1, true_and]
      have e := ih (i + 1) (by omega)
      rw [xbits_s] at e
      split
      · rename_i hc
        rw [if_neg hc] at e
        exact e
      · rename_i hc
        rw [if_pos (Classical.not_not.mp hc)] at e
        exact e
  rw [B_290_0]
  exact loop n 0 (by omega)
theorem c_allSentBack {M : XM} {o n : Nat} {Q : Option Value → XM → Prop} (h : OffAt M o) (hn : n ≤ 7) : RG xprog 251 0 [some (.ref o), some (.int (nI n)), none, none] [] M Q = Q (some (.int (xsum (xI M (o + 3)) n))) M := by
  have loop : ∀ k i : Nat, i + k = n → RG xprog 251 4 [some (.ref o), some (.int (nI n)), some (.int (xsum (xI M (o + 3)) i)), some (.int (nI i))] [] M Q = Q (some (.int (xsum (xI M (o + 3)) n))) M := by
    intro k
    induction k with
    | zero =>
      intro i hi
      have : i = n := by omega
      subst this
      rw [B_251_4, if_pos (Int32.le_refl _)]
    | succ k ih =>
      intro i hi
      have hlt : i < n := by omega
      rw [B_251_4, if_neg (nI_ge hlt (by omega))]
      simp only [h.s, h.f3, h.s3, vp_in_nI (show i < 7 by omega) (by omega), nI_clamp (show i < 2 ^ 31 by omega), nI_1, true_and]
      exact ih (i + 1) (by omega)
  rw [B_251_0]
  exact loop n 0 (by omega)
theorem c_allHad {M : XM} {o n : Nat} {Q : Option Value → XM → Prop} (h : OffAt M o) (hn : n ≤ 6) : RG xprog 289 0 [some (.ref o), some (.int (nI n)), none, none] [] M Q = Q (some (.int (xsum (xI M (o + 6)) n))) M := by
  have loop : ∀ k i : Nat, i + k = n → RG xprog 289 4 [some (.ref o), some (.int (nI n)), some (.int (xsum (xI M (o + 6)) i)), some (.int (nI i))] [] M Q = Q (some (.int (xsum (xI M (o + 6)) n))) M := by
    intro k
    induction k with
    | zero =>
      intro i hi
      have : i = n := by omega
      subst this
      rw [B_289_4, if_pos (Int32.le_refl _)]
    | succ k ih =>
      intro i hi
      have hlt : i < n := by omega
      rw [B_289_4, if_neg (nI_ge hlt (by omega))]
      simp only [h.s, h.f6, h.s6, vp_in_nI (show i < 6 by omega) (by omega), nI_clamp (show i < 2 ^ 31 by omega), nI_1, true_and]
      exact ih (i + 1) (by omega)
  rw [B_289_0]
  exact loop n 0 (by omega)
