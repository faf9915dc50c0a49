/-! the class's Law.value against lrun -/
def LawSh (M : XM) (w : Nat) : Prop := xS M w = (3, 0) ∧ xF M w 0 = w + 1 ∧ xS M (w + 1) = (40, 400) ∧ 16 ≤ w
/-- n steps s lie in the law w -/
def LawAt (M : XM) (w n : Nat) (s : Nat → Int32) : Prop := LawSh M w ∧ n ≤ 400 ∧ xI M w 1 = nI n ∧ (∀ i, i < n → xI M (w + 1) i = s i) ∧ ∀ i, i < n → (-600 : Int32) ≤ s i
theorem skip_d {x : Int32} (h1 : -600 ≤ x.toInt) (h2 : x.toInt ≤ -100) : ∃ d : Nat, d ≤ 500 ∧ -100 - x = nI d := by
  have e7 : ((-100 : Int32) - x).toInt = -100 - x.toInt := by
    rw [Int32.toInt_sub, show (-100 : Int32).toInt = -100 by decide, Int.bmod_eq_of_le (by omega) (by omega)]
  refine nI_of2 (M := 500) (n := 500) (by decide) ?_ ?_
  · rw [i32_lt, e7, show (0 : Int32).toInt = 0 by decide]; omega
  · rw [i32_le, e7, show (500 : Int32).toInt = 500 by decide]; omega
theorem c_value_loop {w va sa n : Nat} {s v : Nat → Int32} {M0 : XM} {Q : Option Value → XM → Prop}
    (hva : xS M0 va = (40, 9)) (hsa : xS M0 sa = (40, 32)) (h16 : 16 ≤ sa) (hw : LawAt M0 w n s) (hv : xI M0 va = v) (n1 : sa ≠ w) (n2 : sa ≠ w + 1) (n3 : sa ≠ va) :
    ∀ (f i t : Nat) (a5 a6 a7 : Option Value) (M : XM), Ex (fun a _ => a = sa) M0 M → (i ≤ n → n + 1 ≤ i + f) → 1 ≤ f → i ≤ 2000 → t ≤ 32 →
      (∀ M' : XM, Ex (fun a _ => a = sa) M0 M' → Q (some (.int (lrun n s v f i t (xI M sa)))) M') →
      RG xprog 126 5 [some (.ref w), some (.ref va), some (.ref sa), some (.int (nI t)), some (.int (nI i)), a5, a6, a7] [] M Q := by
  obtain ⟨⟨w1, w2, w3, w4⟩, hn, hl, hs, hb⟩ := hw
  intro f
  induction f with
  | zero =>
    intro i t a5 a6 a7 M hM hi hf hi2 ht hQ
    omega
  | succ f ih =>
    intro i t a5 a6 a7 M hM hi hf hi2 ht hQ
    have el : xI M w 1 = nI n := by rw [hM.I (fun q => n1 q.symm), hl]
    have ev : xI M va = v := by rw [hM.row (fun _ q => n3 q.symm), hv]
    have ct : Int32.toNatClampNeg (nI t) = t := nI_clamp (by omega)
    have ci : Int32.toNatClampNeg (nI i) = i := nI_clamp (by omega)
    have hend : (if nI t ≤ 0 then Q (some (.int 0)) M else (((xS M sa).1 = 40 ∧ vp_in (nI t - 1) (xS M sa).2) ∧ Q (some (.int (xI M sa (Int32.toNatClampNeg (nI t - 1))))) M)) = Q (some (.int (if t = 0 then 0 else xI M sa (t - 1)))) M := by
      by_cases h2 : t = 0
      · subst h2
        rw [if_pos (by decide), if_pos rfl]
      · rw [if_neg (nI_nle (by omega) (by omega)), if_neg h2, hM.S, hsa, show (1 : Int32) = nI 1 from rfl, nI_sub (by omega), nI_clamp (by omega)]
        simp only [vp_in_nI (show t - 1 < 32 by omega) (by omega), true_and]
    rw [B_126_5]
    simp only [hM.S, hM.F, w1, w2, w3, el, true_and, B_126_167, hva, hsa]
    simp only [hM.S, hsa, true_and] at hend
    rw [hend]
    rw [lrun_s] at hQ
    by_cases hge : n ≤ i
    · rw [if_pos (nI_le hge (by omega))]
      rw [if_pos (Or.inl hge)] at hQ
      exact hQ M hM
    rw [if_neg (nI_ge (by omega) (by omega))]
    have es : xI M (w + 1) i = s i := by rw [hM.I (fun q => n2 q.symm), hs i (by omega)]
    have bs := hb i (by omega)
    simp only [ci, es, vp_in_nI (show i < 400 by omega) (by omega), true_and]
    by_cases h14 : s i = -14
    · rw [if_pos h14]
      rw [if_pos (Or.inr h14)] at hQ
      exact hQ M hM
    rw [if_neg h14]
    rw [if_neg (by rintro (q | q) <;> contradiction)] at hQ
    rw [i32_le, show (-600 : Int32).toInt = -600 by decide] at bs
    by_cases h9 : s i < -9
    · rw [if_pos h9]
      rw [if_neg (fun q => q h9)] at hQ
      have k9 := h9
      rw [i32_lt, show (-9 : Int32).toInt = -9 by decide] at k9
      by_cases h2 : t < 2
      · rw [if_neg (by show ¬ nI 2 ≤ nI t; exact nI_ge (by omega) (by omega))]
        rw [if_pos h2] at hQ
        exact hQ M hM
      rw [if_pos (by show nI 2 ≤ nI t; exact nI_le (by omega) (by omega))]
      rw [if_neg h2] at hQ
      have e2 : nI t - 2 = nI (t - 2) := by show nI t - nI 2 = _; exact nI_sub (by omega)
      have e1 : nI t - 1 = nI (t - 1) := by show nI t - nI 1 = _; exact nI_sub (by omega)
      simp only [e1, e2, nI_clamp (show t - 1 < 2 ^ 31 by omega), nI_clamp (show t - 2 < 2 ^ 31 by omega), vp_in_nI (show t - 2 < 32 by omega) (by omega), vp_in_nI (show t - 1 < 32 by omega) (by omega), true_and]
      by_cases h100 : (-100 : Int32) < s i
      · rw [if_pos h100]
        rw [if_neg (fun q => q h100)] at hQ
        have go : (∀ M' : XM, Ex (fun a _ => a = sa) M0 M' → Q (some (.int (lrun n s v f (i + 1) (t - 1) (xone (xI M sa) (t - 2) (comb (s i) (xI M sa (t - 2)) (xI M sa (t - 1))))))) M') → RG xprog 126 144 [some (.ref w), some (.ref va), some (.ref sa), some (.int (nI t)), some (.int (nI i)), some (.int (s i)), some (.int (xI M sa (t - 2))), some (.int (xI M sa (t - 1)))] [] M Q := by
          intro hq
          rw [B_126_144, c_combined]
          have e3 : nI t + (-1) = nI (t - 1) := by rw [← e1, Int32.sub_eq_add_neg]
          have e4 : nI (t - 1) - 1 = nI (t - 2) := by show nI (t - 1) - nI 1 = _; rw [nI_sub (by omega)]; congr 1
          rw [e3, e4]
          show RG xprog 126 160 _ [.int (comb (s i) (xI M sa (t - 2)) (xI M sa (t - 1))), .int (nI (t - 2)), .ref sa] M Q
          rw [B_126_160]
          simp only [hM.S, hsa, h16, vp_in_nI (show t - 2 < 32 by omega) (by omega), true_and, nI_1, nI_clamp (show t - 2 < 2 ^ 31 by omega)]
          refine ih (i + 1) (t - 1) _ _ _ _ (hM.wr _ rfl) (by omega) (by omega) (by omega) (by omega) ?_
          rw [xI_I, xup_s]
          exact hq
        by_cases h13 : s i = -13
        · rw [if_neg (fun q => q h13)]
          by_cases h0 : xI M sa (t - 1) = 0
          · rw [if_neg (fun q => q h0)]
            rw [if_pos ⟨h13, h0⟩] at hQ
            exact hQ M hM
          · rw [if_pos h0]
            rw [if_neg (fun q => h0 q.2)] at hQ
            exact go hQ
        · rw [if_pos h13]
          rw [if_neg (fun q => h13 q.1)] at hQ
          exact go hQ
      · rw [if_neg h100]
        rw [if_pos h100] at hQ
        have e5 : nI t + (-2) = nI (t - 2) := by rw [← e2, Int32.sub_eq_add_neg]
        rw [i32_lt, show (-100 : Int32).toInt = -100 by decide] at h100
        obtain ⟨d, hd, ed⟩ := skip_d bs (by omega)
        have ec : Int32.toNatClampNeg (-100 - s i) = d := by rw [ed]; exact nI_clamp (by omega)
        rw [B_126_121, B_126_121, e5]
        by_cases hle : xI M sa (t - 1) ≤ xI M sa (t - 2)
        · rw [if_pos hle]
          rw [if_pos hle] at hQ
          rw [ed, nI_add, nI_1]
          rw [ec] at hQ
          exact ih _ (t - 2) _ _ _ M hM (by omega) (by omega) (by omega) (by omega) hQ
        · rw [if_neg hle]
          rw [if_neg hle] at hQ
          rw [Int32.add_zero, nI_1]
          exact ih _ (t - 2) _ _ _ M hM (by omega) (by omega) (by omega) (by omega) hQ
    rw [if_neg h9]
    rw [if_pos h9] at hQ
    rw [i32_lt, show (-9 : Int32).toInt = -9 by decide] at h9
    simp only [show (40 ≤ 40 ∧ 40 ≤ 46) by omega, true_and]
    by_cases h32 : 32 ≤ t
    · rw [if_neg (nI_nlt (by omega) (by omega))]
      rw [if_pos h32] at hQ
      exact hQ M hM
    rw [if_pos (nI_lt (by omega) (by omega))]
    rw [if_neg h32] at hQ
    have go : ∀ x : Int32, (∀ M' : XM, Ex (fun a _ => a = sa) M0 M' → Q (some (.int (lrun n s v f (i + 1) (t + 1) (xone (xI M sa) t x)))) M') → ∀ b5 : Int32, RG xprog 126 68 [some (.ref w), some (.ref va), some (.ref sa), some (.int (nI t)), some (.int (nI i)), some (.int b5), a6, a7] [.int x, .int (nI t), .ref sa] M Q := by
      intro x hq b5
      rw [B_126_68]
      simp only [hM.S, hsa, h16, vp_in_nI (show t < 32 by omega) (by omega), true_and, nI_1, ct]
      refine ih (i + 1) (t + 1) _ _ _ _ (hM.wr _ rfl) (by omega) (by omega) (by omega) (by omega) ?_
      rw [xI_I, xup_s]
      exact hq
    by_cases h0 : s i < 0
    · rw [if_pos h0]
      rw [if_pos h0] at hQ
      rw [i32_lt, show (0 : Int32).toInt = 0 by decide] at h0
      refine ⟨?_, ?_⟩
      · rw [vp_in_iff, Int32.toInt_sub, show (-1 : Int32).toInt = -1 by decide, Int.bmod_eq_of_le (by omega) (by omega)]
        omega
      · rw [ev]
        exact go _ hQ _
    · rw [if_neg h0]
      rw [if_neg h0] at hQ
      exact go _ hQ _
theorem c_value {w va sa n : Nat} {s : Nat → Int32} {M : XM} {Q : Option Value → XM → Prop}
    (hva : xS M va = (40, 9)) (hsa : xS M sa = (40, 32)) (h16 : 16 ≤ sa) (hw : LawAt M w n s) (n1 : sa ≠ w) (n2 : sa ≠ w + 1) (n3 : sa ≠ va)
    (hQ : ∀ M' : XM, Ex (fun a _ => a = sa) M M' → Q (some (.int (lawv n s (xI M va)))) M') :
    RG xprog 126 0 [some (.ref w), some (.ref va), some (.ref sa), none, none, none, none, none] [] M Q := by
  rw [B_126_0]
  refine c_value_loop hva hsa h16 hw rfl n1 n2 n3 (n + 1) 0 0 _ _ _ M (Ex.refl _ _) (by omega) (by omega) (by omega) (by omega) ?_
  rw [lrun_st n s _ _ (fun _ _ => rfl) (n + 1) 0 0 (xI M sa) (fun _ => 0) (fun j hj => absurd hj (by omega))]
  exact hQ
