/-! Office: a day -/
theorem le46 : (44 ≤ 44 ∧ 44 ≤ 46) ∧ (44 ≤ 45 ∧ 45 ≤ 46) ∧ (44 ≤ 46 ∧ 46 ≤ 46) := by omega
theorem x_for {σ : Type} (n : Nat) (I R : Nat → σ → Prop) (hx : ∀ s, I n s → R n s) (hs : ∀ i s, i < n → I i s → (∀ s', I (i + 1) s' → R (i + 1) s') → R i s) (i : Nat) (s : σ) (hi : i ≤ n) (h : I i s) : R i s := by
  have key : ∀ k i s, i + k = n → I i s → R i s := by
    intro k
    induction k with
    | zero =>
      intro i s hi h
      have : i = n := by omega
      subst this
      exact hx s h
    | succ k ih =>
      intro i s hi h
      exact hs i s (by omega) h fun s' h' => ih (i + 1) s' (by omega) h'
  exact key (n - i) i s (by omega) h
def iter {α : Type} (f : Nat → α → α) : Nat → α → α
  | 0, x => x
  | n + 1, x => f n (iter f n x)
theorem iter_s {α : Type} (f : Nat → α → α) (n : Nat) (x : α) : iter f (n + 1) x = f n (iter f n x) := rfl
theorem iter_rel {α β : Type} (R : Nat → α → β → Prop) (f : Nat → α → α) (g : Nat → β → β) (x : α) (y : β) (n : Nat) (h0 : R 0 x y) (hs : ∀ i a b, i < n → R i a b → R (i + 1) (f i a) (g i b)) : R n (iter f n x) (iter g n y) := by
  have key : ∀ i, i ≤ n → R i (iter f i x) (iter g i y) := by
    intro i
    induction i with
    | zero => intro _; exact h0
    | succ i ih => intro hi; exact hs i _ _ (by omega) (ih (by omega))
  exact key n (by omega)
theorem iter_inv {α : Type} (R : Nat → α → Prop) (f : Nat → α → α) (x : α) (n : Nat) (h0 : R 0 x) (hs : ∀ i a, i < n → R i a → R (i + 1) (f i a)) : R n (iter f n x) := by
  have key : ∀ i, i ≤ n → R i (iter f i x) := by
    intro i
    induction i with
    | zero => intro _; exact h0
    | succ i ih => intro hi; exact hs i _ (by omega) (ih (by omega))
  exact key n (by omega)
def oP (o : Nat) : Nat → Nat → Prop := fun b _ => o ≤ b ∧ b < o + 7
/-- an Office's cells and a Text's scratch -/
def oX (o t : Nat) : Nat → Nat → Prop := fun b _ => (o ≤ b ∧ b < o + 7) ∨ b = t + 19 ∨ b = t + 20
def sD (F : XO) (x : Int32) : XO := (x, F.2)
def sW (F : XO) (k : Nat) (x : Int32) : XO := (F.1, xone F.2.1 k x, F.2.2)
def sH (F : XO) (k : Nat) (x : Int32) : XO := (F.1, F.2.1, xone F.2.2.1 k x, F.2.2.2)
def sB (F : XO) (k : Nat) (x : Int32) : XO := (F.1, F.2.1, F.2.2.1, xone F.2.2.2.1 k x, F.2.2.2.2)
def sA (F : XO) (k : Nat) (x : Int32) : XO := (F.1, F.2.1, F.2.2.1, F.2.2.2.1, xone F.2.2.2.2.1 k x, F.2.2.2.2.2)
def sS (F : XO) (k : Nat) (x : Int32) : XO := (F.1, F.2.1, F.2.2.1, F.2.2.2.1, F.2.2.2.2.1, xone F.2.2.2.2.2.1 k x, F.2.2.2.2.2.2)
def sU (F : XO) (k : Nat) (x : Int32) : XO := (F.1, F.2.1, F.2.2.1, F.2.2.2.1, F.2.2.2.2.1, F.2.2.2.2.2.1, xone F.2.2.2.2.2.2 k x)
section XSO
variable {M : XM} {o : Nat} {F : XO}
theorem OffAt.w (h : OffAt M o) (a k : Nat) (x : Int32) : OffAt (xmI M a k x) o := h
theorem OffIs.w0 (h : OffIs M o F) (x : Int32) : OffIs (xmI M o 0 x) o (sD F x) := by
  refine ⟨h.1, ?_⟩
  rw [← h.2]
  unfold offOf sD
  rw [xI_I, xup_s, xup_n _ _ _ (by omega), xup_n _ _ _ (by omega), xup_n _ _ _ (by omega), xup_n _ _ _ (by omega), xup_n _ _ _ (by omega), xup_n _ _ _ (by omega), xone_s]
theorem OffIs.w1 (h : OffIs M o F) (k : Nat) (x : Int32) : OffIs (xmI M (o + 1) k x) o (sW F k x) := by
  refine ⟨h.1, ?_⟩
  rw [← h.2]
  unfold offOf sW
  rw [xI_I, xup_s, xup_n _ _ _ (by omega), xup_n _ _ _ (by omega), xup_n _ _ _ (by omega), xup_n _ _ _ (by omega), xup_n _ _ _ (by omega), xup_n _ _ _ (by omega)]
theorem OffIs.w2 (h : OffIs M o F) (k : Nat) (x : Int32) : OffIs (xmI M (o + 2) k x) o (sH F k x) := by
  refine ⟨h.1, ?_⟩
  rw [← h.2]
  unfold offOf sH
  rw [xI_I, xup_s, xup_n _ _ _ (by omega), xup_n _ _ _ (by omega), xup_n _ _ _ (by omega), xup_n _ _ _ (by omega), xup_n _ _ _ (by omega), xup_n _ _ _ (by omega)]
theorem OffIs.w3 (h : OffIs M o F) (k : Nat) (x : Int32) : OffIs (xmI M (o + 3) k x) o (sB F k x) := by
  refine ⟨h.1, ?_⟩
  rw [← h.2]
  unfold offOf sB
  rw [xI_I, xup_s, xup_n _ _ _ (by omega), xup_n _ _ _ (by omega), xup_n _ _ _ (by omega), xup_n _ _ _ (by omega), xup_n _ _ _ (by omega), xup_n _ _ _ (by omega)]
theorem OffIs.w4 (h : OffIs M o F) (k : Nat) (x : Int32) : OffIs (xmI M (o + 4) k x) o (sA F k x) := by
  refine ⟨h.1, ?_⟩
  rw [← h.2]
  unfold offOf sA
  rw [xI_I, xup_s, xup_n _ _ _ (by omega), xup_n _ _ _ (by omega), xup_n _ _ _ (by omega), xup_n _ _ _ (by omega), xup_n _ _ _ (by omega), xup_n _ _ _ (by omega)]
theorem OffIs.w5 (h : OffIs M o F) (k : Nat) (x : Int32) : OffIs (xmI M (o + 5) k x) o (sS F k x) := by
  refine ⟨h.1, ?_⟩
  rw [← h.2]
  unfold offOf sS
  rw [xI_I, xup_s, xup_n _ _ _ (by omega), xup_n _ _ _ (by omega), xup_n _ _ _ (by omega), xup_n _ _ _ (by omega), xup_n _ _ _ (by omega), xup_n _ _ _ (by omega)]
theorem OffIs.w6 (h : OffIs M o F) (k : Nat) (x : Int32) : OffIs (xmI M (o + 6) k x) o (sU F k x) := by
  refine ⟨h.1, ?_⟩
  rw [← h.2]
  unfold offOf sU
  rw [xI_I, xup_s, xup_n _ _ _ (by omega), xup_n _ _ _ (by omega), xup_n _ _ _ (by omega), xup_n _ _ _ (by omega), xup_n _ _ _ (by omega), xup_n _ _ _ (by omega)]
end XSO
def giveF (F : XO) (l a : Nat) : XO := sU (sS (sH (sW F l 2) l (nI a)) a (nI l)) a (oU F a + 1)
theorem c_giveTo {M : XM} {o l a : Nat} {F : XO} {Q : Option Value → XM → Prop} (hF : OffIs M o F) (hl : l < 7) (ha : a < 6)
    (hQ : ∀ M' : XM, Ex (oP o) M M' → OffIs M' o (giveF F l a) → Q none M') :
    RG xprog 150 0 [some (.ref o), some (.int (nI l)), some (.int (nI a))] [] M Q := by
  have c_l : Int32.toNatClampNeg (nI l) = l := nI_clamp (by omega)
  have c_a : Int32.toNatClampNeg (nI a) = a := nI_clamp (by omega)
  have h16 := hF.f.1
  have g1 : 16 ≤ o + 1 := by omega
  have g2 : 16 ≤ o + 2 := by omega
  have g5 : 16 ≤ o + 5 := by omega
  have g6 : 16 ≤ o + 6 := by omega
  rw [B_150_0, B_150_21]
  simp only [xI_I, xS_I, xF_I, xup_at, hF.f, hF.v, c_l, c_a, g1, g2, g5, g6, vp_in_nI (show l < 7 by omega) (by omega), vp_in_nI (show a < 6 by omega) (by omega), tnl, vpl, xcr, xc0, le46, true_and, and_true, true_or, or_true, not_false_eq_true, show ¬ o + 6 = o + 1 by omega, show ¬ o + 6 = o + 2 by omega, show ¬ o + 6 = o + 5 by omega, false_and, if_false]
  apply hQ
  · iterate 4 refine Ex.wr ?_ _ (by unfold oP; omega)
    exact Ex.refl _ _
  · exact (((hF.w1 _ _).w2 _ _).w5 _ _).w6 _ _
def takeF (F : XO) (l : Nat) (p : Int32) : XO := sW (sH (if oH F l = -2 then F else sS F (Int32.toNatClampNeg (oH F l)) (-2)) l (-2)) l p
theorem c_takeFrom {M : XM} {o l : Nat} {p : Int32} {F : XO} {Q : Option Value → XM → Prop} (hF : OffIs M o F) (hl : l < 7) (ha : oH F l = -2 ∨ ∃ a, a < 6 ∧ oH F l = nI a)
    (hQ : ∀ M' : XM, Ex (oP o) M M' → OffIs M' o (takeF F l p) → Q none M') :
    RG xprog 156 0 [some (.ref o), some (.int (nI l)), some (.int p)] [] M Q := by
  have c_l : Int32.toNatClampNeg (nI l) = l := nI_clamp (by omega)
  have h16 := hF.f.1
  have g1 : 16 ≤ o + 1 := by omega
  have g2 : 16 ≤ o + 2 := by omega
  have g5 : 16 ≤ o + 5 := by omega
  rw [B_156_0]
  unfold takeF at hQ
  simp only [xI_I, xS_I, xF_I, hF.f, hF.v, c_l, g1, g2, g5, vp_in_nI (show l < 7 by omega) (by omega), tnl, vpl, xcr, xc0, le46, true_and, and_true, true_or, or_true, not_false_eq_true, B_156_24]
  by_cases h2 : oH F l = -2
  · rw [if_pos h2]
    rw [if_pos h2] at hQ
    apply hQ
    · iterate 2 refine Ex.wr ?_ _ (by unfold oP; omega)
      exact Ex.refl _ _
    · exact (hF.w2 _ _).w1 _ _
  · rw [if_neg h2]
    rw [if_neg h2] at hQ
    obtain ⟨a, h3, h4⟩ := ha.resolve_left h2
    refine ⟨by rw [h4]; exact vp_in_nI (show a < 6 by omega) (by omega), ?_⟩
    apply hQ
    · iterate 3 refine Ex.wr ?_ _ (by unfold oP; omega)
      exact Ex.refl _ _
    · exact ((hF.w5 _ _).w2 _ _).w1 _ _
def stir (h v : Int32) : Int32 := (((h ^^^ v) * 1103515245) + 12345) ^^^ (Int32.toUInt32 (((h ^^^ v) * 1103515245) + 12345) >>> (Int32.toUInt32 15 &&& Int32.toUInt32 31)).toInt32
def lotv (seed day : Int32) : Int32 := (Int32.toUInt32 (stir (stir seed 149) (4 * day)) >>> (Int32.toUInt32 1 &&& Int32.toUInt32 31)).toInt32 - (Int32.toUInt32 (stir (stir seed 149) (4 * day)) >>> (Int32.toUInt32 1 &&& Int32.toUInt32 31)).toInt32 / 100 * 100
theorem c_isWet {seed day wet : Int32} {M : XM} {Q : Option Value → XM → Prop} : RG xprog 166 0 [some (.int seed), some (.int day), some (.int wet)] [] M Q = Q (some (.int (if wet ≤ lotv seed day then 0 else 1))) M := by
  rw [B_166_0, B_165_0, B_164_0]
  show RG xprog 165 7 _ [.int _] M _ = _
  rw [B_165_7, B_164_0]
  show RG xprog 165 11 _ [.int _] M _ = _
  rw [B_165_11, if_neg (by decide)]
  simp only [show ¬ (100 : Int32) = 0 by decide, tnl, vpl, xcr, xc0, le46, true_and, and_true, true_or, or_true, not_false_eq_true]
  show RG xprog 166 9 _ [.int _] M _ = _
  rw [B_166_9]
  simp only [tnl, vpl, xcr, xc0, le46, true_and, and_true, true_or, or_true, not_false_eq_true]
  split
  · rename_i hc
    rw [if_pos (show wet ≤ lotv seed day from hc)]
  · rename_i hc
    rw [if_neg (show ¬ wet ≤ lotv seed day from hc)]
def bringF (T : XT) (F : XO) : XO := iter (fun l F => if oW F l = 0 ∧ ¬ oD F < tL T l 3 then sW F l 1 else F) (tN T) F
theorem c_bring {M : XM} {t o : Nat} {T : XT} {F : XO} {Q : Option Value → XM → Prop} (hT : TxtAt M t T) (hF : OffIs M o F) (sep : o + 7 ≤ t ∨ t + 29 ≤ o)
    (hQ : ∀ M' : XM, Ex (oP o) M M' → OffIs M' o (bringF T F) → Q none M') :
    RG xprog 167 0 [some (.ref o), some (.ref t), none] [] M Q := by
  rw [B_167_0]
  have n7 := hT.n7
  refine x_for (tN T) (fun i M' => Ex (oP o) M M' ∧ OffIs M' o (iter (fun l F => if oW F l = 0 ∧ ¬ oD F < tL T l 3 then sW F l 1 else F) i F)) (fun i M' => RG xprog 167 2 [some (.ref o), some (.ref t), some (.int (nI i))] [] M' Q) ?_ ?_ 0 M (by omega) ⟨Ex.refl _ _, hF⟩
  · intro M' ⟨e, h⟩
    have hT' := hT.ex e (by intro a k q; unfold oP at q; omega)
    rw [B_167_2]
    simp only [hT'.f, hT'.n, tnl, vpl, xcr, xc0, le46, true_and, and_true, true_or, or_true, not_false_eq_true]
    rw [if_pos (Int32.le_refl _)]
    exact hQ M' e h
  · intro i M' hi ⟨e, h⟩ ih
    have hT' := hT.ex e (by intro a k q; unfold oP at q; omega)
    have g1 : 16 ≤ o + 1 := by have := hF.f.1; omega
    have c_i : Int32.toNatClampNeg (nI i) = i := nI_clamp (by omega)
    rw [B_167_2]
    simp only [hT'.f, hT'.n, h.f, h.v, hT'.l (show i < 7 by omega), hT'.lm (show i < 7 by omega), c_i, vp_in_nI (show i < 7 by omega) (by omega), g1, nI_1, tnl, vpl, xcr, xc0, le46, true_and, and_true, true_or, or_true, not_false_eq_true]
    rw [if_neg (nI_ge hi (by omega))]
    rw [iter_s] at ih
    by_cases h1 : oW (iter (fun l F => if oW F l = 0 ∧ ¬ oD F < tL T l 3 then sW F l 1 else F) i F) i = 0
    · rw [if_neg (fun q => q h1)]
      split
      · rename_i h2
        rw [if_neg (fun q => q.2 h2)] at ih
        exact ih M' ⟨e, h⟩
      · rename_i h2
        rw [if_pos ⟨h1, h2⟩] at ih
        exact ih _ ⟨e.wr _ (by unfold oP; omega), h.w1 _ _⟩
    · rw [if_pos h1]
      rw [if_neg (fun q => h1 q.1)] at ih
      exact ih M' ⟨e, h⟩
