/-! Text: its cells, what its laws say -/
/-- of an Office: day, where, holder, sentBack, want, has, had -/
abbrev XO : Type := Int32 × (Nat → Int32) × (Nat → Int32) × (Nat → Int32) × (Nat → Int32) × (Nat → Int32) × (Nat → Int32)
def oD (F : XO) : Int32 := F.1
def oW (F : XO) : Nat → Int32 := F.2.1
def oH (F : XO) : Nat → Int32 := F.2.2.1
def oB (F : XO) : Nat → Int32 := F.2.2.2.1
def oA (F : XO) : Nat → Int32 := F.2.2.2.2.1
def oS (F : XO) : Nat → Int32 := F.2.2.2.2.2.1
def oU (F : XO) : Nat → Int32 := F.2.2.2.2.2.2
def offOf (M : XM) (o : Nat) : XO := (xI M o 0, xI M (o + 1), xI M (o + 2), xI M (o + 3), xI M (o + 4), xI M (o + 5), xI M (o + 6))
def OffIs (M : XM) (o : Nat) (F : XO) : Prop := OffAt M o ∧ offOf M o = F
/-- of a Text: letters, readers, letters' marks, readers' marks, settings, laws -/
abbrev XT : Type := Nat × Nat × (Nat → Nat → Int32) × (Nat → Nat → Int32) × (Nat → Int32) × (Nat → (Nat → Int32) → Int32)
def tN (T : XT) : Nat := T.1
def tR (T : XT) : Nat := T.2.1
def tL (T : XT) : Nat → Nat → Int32 := T.2.2.1
def tM (T : XT) : Nat → Nat → Int32 := T.2.2.2.1
def tS (T : XT) : Nat → Int32 := T.2.2.2.2.1
def tW (T : XT) : Nat → (Nat → Int32) → Int32 := T.2.2.2.2.2
def txtOf (M : XM) (t : Nat) : XT := (Int32.toNatClampNeg (xI M t 0), Int32.toNatClampNeg (xI M t 1), fun l => if l < 7 then xI M (t + 2 + l) else fun _ => 0, fun a => if a < 6 then xI M (t + 10 + a) else fun _ => 0, xI M (t + 16), fun k => if k < 4 then lawv (Int32.toNatClampNeg (xI M (t + 21 + 2 * k) 1)) (xI M (t + 21 + 2 * k + 1)) else fun _ => 0)
def TxtSh (M : XM) (t : Nat) : Prop := (16 ≤ t ∧ xS M t = (8, 0) ∧ xF M t 2 = t + 1 ∧ xF M t 3 = t + 9 ∧ xF M t 4 = t + 16 ∧ xF M t 5 = t + 17 ∧ xF M t 6 = t + 18 ∧ xF M t 8 = t + 19 ∧ xF M t 9 = t + 20 ∧ xS M (t + 1) = (44, 7) ∧ xS M (t + 9) = (44, 6) ∧ xS M (t + 16) = (40, 3) ∧ xS M (t + 17) = (46, 4) ∧ xS M (t + 18) = (43, 13) ∧ xS M (t + 19) = (40, 9) ∧ xS M (t + 20) = (40, 32)) ∧
  (∀ l, l < 7 → xF M (t + 1) l = t + 2 + l ∧ xS M (t + 2 + l) = (40, 4)) ∧ (∀ a, a < 6 → xF M (t + 9) a = t + 10 + a ∧ xS M (t + 10 + a) = (40, 3)) ∧ ∀ k, k < 4 → xF M (t + 17) k = t + 21 + 2 * k ∧ LawSh M (t + 21 + 2 * k)
def TxtOk (M : XM) (t : Nat) : Prop := TxtSh M t ∧ xI M t 0 = nI (Int32.toNatClampNeg (xI M t 0)) ∧ xI M t 1 = nI (Int32.toNatClampNeg (xI M t 1)) ∧ Int32.toNatClampNeg (xI M t 0) ≤ 7 ∧ Int32.toNatClampNeg (xI M t 1) ≤ 6 ∧ ∀ k, k < 4 → LawAt M (t + 21 + 2 * k) (Int32.toNatClampNeg (xI M (t + 21 + 2 * k) 1)) (xI M (t + 21 + 2 * k + 1))
def TxtAt (M : XM) (t : Nat) (T : XT) : Prop := TxtOk M t ∧ txtOf M t = T
theorem OffAt.ex {M M' : XM} {o : Nat} {P : Nat → Nat → Prop} (h : OffAt M o) (e : Ex P M M') : OffAt M' o := by
  unfold OffAt
  rw [e.S, e.F]
  exact h
theorem OffIs.ex {M M' : XM} {o : Nat} {F : XO} {P : Nat → Nat → Prop} (h : OffIs M o F) (e : Ex P M M') (hp : ∀ a k, P a k → a < o ∨ o + 7 ≤ a) : OffIs M' o F := by
  refine ⟨h.1.ex e, ?_⟩
  rw [← h.2]
  have r : ∀ a, o ≤ a → a < o + 7 → xI M' a = xI M a := fun a h1 h2 => e.row fun k q => by have := hp a k q; omega
  unfold offOf
  rw [r o (by omega) (by omega), r (o + 1) (by omega) (by omega), r (o + 2) (by omega) (by omega), r (o + 3) (by omega) (by omega), r (o + 4) (by omega) (by omega), r (o + 5) (by omega) (by omega), r (o + 6) (by omega) (by omega)]
theorem LawSh.ex {M M' : XM} {w : Nat} {P : Nat → Nat → Prop} (h : LawSh M w) (e : Ex P M M') : LawSh M' w := by
  unfold LawSh
  rw [e.S, e.F]
  exact h
theorem TxtSh.ex {M M' : XM} {t : Nat} {P : Nat → Nat → Prop} (h : TxtSh M t) (e : Ex P M M') : TxtSh M' t := by
  unfold TxtSh LawSh
  rw [e.S, e.F]
  exact h
theorem TxtAt.ex {M M' : XM} {t : Nat} {T : XT} {P : Nat → Nat → Prop} (h : TxtAt M t T) (e : Ex P M M') (hp : ∀ a k, P a k → a < t ∨ t + 29 ≤ a ∨ a = t + 18 ∨ a = t + 19 ∨ a = t + 20 ∨ (a = t ∧ k = 7)) : TxtAt M' t T := by
  have r : ∀ a, t < a → a < t + 29 → a ≠ t + 18 → a ≠ t + 19 → a ≠ t + 20 → xI M' a = xI M a := fun a h1 h2 h3 h4 h5 => e.row fun k q => by have := hp a k q; omega
  have r0 : ∀ k, k ≠ 7 → xI M' t k = xI M t k := fun k hk => e.I fun q => by have := hp t k q; omega
  have rl : ∀ k, k < 4 → xI M' (t + 21 + 2 * k) = xI M (t + 21 + 2 * k) := fun k hk => r _ (by omega) (by omega) (by omega) (by omega) (by omega)
  have rl1 : ∀ k, k < 4 → xI M' (t + 21 + 2 * k + 1) = xI M (t + 21 + 2 * k + 1) := fun k hk => r _ (by omega) (by omega) (by omega) (by omega) (by omega)
  obtain ⟨⟨hsh, h1, h2, h3, h4, h5⟩, hT⟩ := h
  constructor
  · refine ⟨hsh.ex e, ?_, ?_, ?_, ?_, ?_⟩
    · rw [r0 0 (by omega)]; exact h1
    · rw [r0 1 (by omega)]; exact h2
    · rw [r0 0 (by omega)]; exact h3
    · rw [r0 1 (by omega)]; exact h4
    · intro k hk
      obtain ⟨p1, p2, p3, p4, p5⟩ := h5 k hk
      rw [rl k hk, rl1 k hk]
      exact ⟨p1.ex e, p2, by rw [rl k hk]; exact p3, by rw [rl1 k hk]; exact p4, p5⟩
  · rw [← hT]
    have e3 : (fun l => if l < 7 then xI M' (t + 2 + l) else fun _ => 0) = fun l => if l < 7 then xI M (t + 2 + l) else fun _ => 0 := by
      funext l
      by_cases hl : l < 7
      · rw [if_pos hl, if_pos hl, r (t + 2 + l) (by omega) (by omega) (by omega) (by omega) (by omega)]
      · rw [if_neg hl, if_neg hl]
    have e4 : (fun l => if l < 6 then xI M' (t + 10 + l) else fun _ => 0) = fun l => if l < 6 then xI M (t + 10 + l) else fun _ => 0 := by
      funext l
      by_cases hl : l < 6
      · rw [if_pos hl, if_pos hl, r (t + 10 + l) (by omega) (by omega) (by omega) (by omega) (by omega)]
      · rw [if_neg hl, if_neg hl]
    have e5 : (fun k => if k < 4 then lawv (Int32.toNatClampNeg (xI M' (t + 21 + 2 * k) 1)) (xI M' (t + 21 + 2 * k + 1)) else fun _ => 0) = fun k => if k < 4 then lawv (Int32.toNatClampNeg (xI M (t + 21 + 2 * k) 1)) (xI M (t + 21 + 2 * k + 1)) else fun _ => 0 := by
      funext k
      by_cases hl : k < 4
      · rw [if_pos hl, if_pos hl, rl k hl, rl1 k hl]
      · rw [if_neg hl, if_neg hl]
    unfold txtOf
    rw [e3, e4, e5, r0 0 (by omega), r0 1 (by omega), r (t + 16) (by omega) (by omega) (by omega) (by omega) (by omega)]
theorem TxtAt.n {M : XM} {t : Nat} {T : XT} (h : TxtAt M t T) : xI M t 0 = nI (tN T) := by rw [← h.2]; exact h.1.2.1
theorem TxtAt.r {M : XM} {t : Nat} {T : XT} (h : TxtAt M t T) : xI M t 1 = nI (tR T) := by rw [← h.2]; exact h.1.2.2.1
theorem TxtAt.n7 {M : XM} {t : Nat} {T : XT} (h : TxtAt M t T) : tN T ≤ 7 := by rw [← h.2]; exact h.1.2.2.2.1
theorem TxtAt.r6 {M : XM} {t : Nat} {T : XT} (h : TxtAt M t T) : tR T ≤ 6 := by rw [← h.2]; exact h.1.2.2.2.2.1
theorem TxtAt.lm {M : XM} {t : Nat} {T : XT} (h : TxtAt M t T) {l : Nat} (hl : l < 7) (k : Nat) : xI M (t + 2 + l) k = tL T l k := by rw [← h.2]; unfold tL txtOf; dsimp only; rw [if_pos hl]
theorem TxtAt.rm {M : XM} {t : Nat} {T : XT} (h : TxtAt M t T) {a : Nat} (hl : a < 6) (k : Nat) : xI M (t + 10 + a) k = tM T a k := by rw [← h.2]; unfold tM txtOf; dsimp only; rw [if_pos hl]
theorem TxtAt.st {M : XM} {t : Nat} {T : XT} (h : TxtAt M t T) : xI M (t + 16) = tS T := by rw [← h.2]; rfl
theorem TxtAt.f {M : XM} {t : Nat} {T : XT} (h : TxtAt M t T) : (16 ≤ t ∧ xS M t = (8, 0) ∧ xF M t 2 = t + 1 ∧ xF M t 3 = t + 9 ∧ xF M t 4 = t + 16 ∧ xF M t 5 = t + 17 ∧ xF M t 6 = t + 18 ∧ xF M t 8 = t + 19 ∧ xF M t 9 = t + 20 ∧ xS M (t + 1) = (44, 7) ∧ xS M (t + 9) = (44, 6) ∧ xS M (t + 16) = (40, 3) ∧ xS M (t + 17) = (46, 4) ∧ xS M (t + 18) = (43, 13) ∧ xS M (t + 19) = (40, 9) ∧ xS M (t + 20) = (40, 32)) := h.1.1.1
theorem TxtAt.l {M : XM} {t : Nat} {T : XT} (h : TxtAt M t T) {l : Nat} (hl : l < 7) : xF M (t + 1) l = t + 2 + l ∧ xS M (t + 2 + l) = (40, 4) := h.1.1.2.1 l hl
theorem TxtAt.a {M : XM} {t : Nat} {T : XT} (h : TxtAt M t T) {l : Nat} (hl : l < 6) : xF M (t + 9) l = t + 10 + l ∧ xS M (t + 10 + l) = (40, 3) := h.1.1.2.2.1 l hl
theorem OffIs.v {M : XM} {o : Nat} {F : XO} (h : OffIs M o F) : xI M o 0 = oD F ∧ xI M (o + 1) = oW F ∧ xI M (o + 2) = oH F ∧ xI M (o + 3) = oB F ∧ xI M (o + 4) = oA F ∧ xI M (o + 5) = oS F ∧ xI M (o + 6) = oU F := by rw [← h.2]; exact ⟨rfl, rfl, rfl, rfl, rfl, rfl, rfl⟩
theorem OffIs.f {M : XM} {o : Nat} {F : XO} (h : OffIs M o F) : 16 ≤ o ∧ xS M o = (5, 0) ∧ xF M o 1 = o + 1 ∧ xF M o 2 = o + 2 ∧ xF M o 3 = o + 3 ∧ xF M o 4 = o + 4 ∧ xF M o 5 = o + 5 ∧ xF M o 6 = o + 6 ∧ xS M (o + 1) = (40, 7) ∧ xS M (o + 2) = (40, 7) ∧ xS M (o + 3) = (40, 7) ∧ xS M (o + 4) = (40, 6) ∧ xS M (o + 5) = (40, 6) ∧ xS M (o + 6) = (40, 6) := ⟨h.1.ge, h.1.s, h.1.f1, h.1.f2, h.1.f3, h.1.f4, h.1.f5, h.1.f6, h.1.s1, h.1.s2, h.1.s3, h.1.s4, h.1.s5, h.1.s6⟩
/-- literals as places -/
theorem tnl : Int32.toNatClampNeg 0 = 0 ∧ Int32.toNatClampNeg 1 = 1 ∧ Int32.toNatClampNeg 2 = 2 ∧ Int32.toNatClampNeg 3 = 3 ∧ Int32.toNatClampNeg 4 = 4 ∧ Int32.toNatClampNeg 5 = 5 ∧ Int32.toNatClampNeg 6 = 6 ∧ Int32.toNatClampNeg 7 = 7 ∧ Int32.toNatClampNeg 8 = 8 := by decide
theorem vpl : vp_in 0 3 ∧ vp_in 1 3 ∧ vp_in 2 3 ∧ vp_in 0 4 ∧ vp_in 1 4 ∧ vp_in 2 4 ∧ vp_in 3 4 ∧ vp_in 0 9 ∧ vp_in 1 9 ∧ vp_in 2 9 ∧ vp_in 3 9 ∧ vp_in 4 9 ∧ vp_in 5 9 ∧ vp_in 6 9 ∧ vp_in 7 9 ∧ vp_in 8 9 ∧ vp_in 0 7 ∧ vp_in 0 64 := by unfold vp_in; decide
theorem xc2 (x y : Value) (hx : x.category ≤ 1) (hy : y.category ≤ 1) : xcat [x, y] ≤ 8 := by
  unfold xcat
  simp only [List.map_cons, List.map_nil, List.sum_cons, List.sum_nil]
  omega
theorem xcr (x : Int32) (y : Nat) : xcat [.int x, .ref y] ≤ 8 := xc2 _ _ (Nat.le_refl 1) (Nat.le_refl 1)
theorem xc1 (x : Value) (hx : x.category ≤ 1) : xcat [x] ≤ 8 := by
  unfold xcat
  simp only [List.map_cons, List.map_nil, List.sum_cons, List.sum_nil]
  omega
theorem xc0 : xcat [] ≤ 8 := by decide
def iabs (x : Int32) : Int32 := if 0 ≤ x then x else 0 - x
def ipos (x : Int32) : Int32 := if (0 : Int32) < x then x else 0
def iheld (x : Int32) : Int32 := if (0 : Int32) < (if x < 99 then x else 99) then (if x < 99 then x else 99) else 0
def vvar (T : XT) (F : XO) (l a : Nat) : Nat → Int32
  | 0 => iabs (tL T l 1 - oA F a)
  | 1 => tL T l 0
  | 2 => tL T l 2
  | 3 => tM T a 1
  | 4 => tM T a 2
  | 5 => ipos (oD F - tL T l 3)
  | 6 => oD F
  | 7 => nI a
  | 8 => oU F a
  | _ => 0
def lkv (T : XT) (F : XO) (l a : Nat) : Int32 := iheld (tW T 0 (vvar T F l a))
def rav (T : XT) (F : XO) (l a : Nat) : Int32 := iheld (tW T 1 (vvar T F l a))
def rev (T : XT) (F : XO) (l a : Nat) : Prop := (0 : Int32) < tW T 2 (vvar T F l a)
theorem c_setVars {M : XM} {t o l a : Nat} {T : XT} {F : XO} {Q : Option Value → XM → Prop} (hT : TxtAt M t T) (hF : OffIs M o F) (hl : l < 7) (ha : a < 6) (sep : o + 7 ≤ t ∨ t + 29 ≤ o)
    (hQ : ∀ M' : XM, Ex (fun b _ => b = t + 19) M M' → (∀ k, k < 9 → xI M' (t + 19) k = vvar T F l a k) → Q none M') :
    RG xprog 124 0 [some (.ref t), some (.ref o), some (.int (nI l)), some (.int (nI a)), none] [] M Q := by
  have cl : Int32.toNatClampNeg (nI l) = l := nI_clamp (by omega)
  have ca : Int32.toNatClampNeg (nI a) = a := nI_clamp (by omega)
  have h16 := hT.f.1
  have g16 : 16 ≤ t + 19 := by omega
  rw [B_124_0]
  have d1 : ¬ t + 2 + l = t + 19 := by omega
  have d2 : ¬ t + 10 + a = t + 19 := by omega
  have d3 : ¬ o = t + 19 := by omega
  have d4 : ¬ o + 4 = t + 19 := by omega
  have d6 : ¬ o + 6 = t + 19 := by omega
  have vl : vp_in (nI l) 7 := vp_in_nI hl (by omega)
  have va : vp_in (nI a) 6 := vp_in_nI ha (by omega)
  simp only [xI_I, xS_I, xF_I, xup_at, hT.f, hT.l hl, hT.a ha, hF.f, hF.v, cl, ca, tnl, vpl, g16, vl, va, true_and, xcr, show 44 ≤ 44 ∧ 44 ≤ 46 by omega, hT.lm hl, hT.rm ha, B_124_28, B_124_48, B_124_62, B_124_76, B_124_95, B_124_127, d1, d2, d3, d4, d6, false_and, if_false]
  apply hQ
  · iterate 9 refine Ex.wr ?_ _ rfl
    exact Ex.refl _ _
  · intro k hk
    simp only [xI_I, xup_at, true_and]
    match k, hk with
    | 0, _ => rfl
    | 1, _ => rfl
    | 2, _ => rfl
    | 3, _ => rfl
    | 4, _ => rfl
    | 5, _ => rfl
    | 6, _ => rfl
    | 7, _ => rfl
    | 8, _ => rfl
def tX (t : Nat) : Nat → Nat → Prop := fun b _ => b = t + 19 ∨ b = t + 20
theorem TxtAt.law {M : XM} {t : Nat} {T : XT} (h : TxtAt M t T) {k : Nat} (hk : k < 4) : ∃ n s, LawAt M (t + 21 + 2 * k) n s ∧ tW T k = lawv n s ∧ xF M (t + 17) k = t + 21 + 2 * k :=
  ⟨_, _, h.1.2.2.2.2.2 k hk, by rw [← h.2]; unfold tW txtOf; dsimp only; rw [if_pos hk], (h.1.1.2.2.2 k hk).1⟩
theorem lawv_v (n : Nat) (s v v' : Nat → Int32) (hv : ∀ k, k < 9 → v k = v' k) : lawv n s v = lawv n s v' := lrun_st n s v v' hv _ _ _ _ _ fun _ _ => rfl
theorem LawAt.ex {M M' : XM} {w n : Nat} {s : Nat → Int32} {P : Nat → Nat → Prop} (h : LawAt M w n s) (e : Ex P M M') (hp : ∀ a k, P a k → a ≠ w ∧ a ≠ w + 1) : LawAt M' w n s := by
  obtain ⟨h1, h2, h3, h4, h5⟩ := h
  refine ⟨h1.ex e, h2, ?_, ?_, h5⟩
  · rw [e.I fun q => (hp _ _ q).1 rfl]; exact h3
  · intro i hi
    rw [e.I fun q => (hp _ _ q).2 rfl]; exact h4 i hi
/-- value of law k once the variables stand -/
theorem c_lawval {M0 M : XM} {t k : Nat} {T : XT} {v : Nat → Int32} {Q : Option Value → XM → Prop} (hT : TxtAt M0 t T) (hk : k < 4) (e : Ex (fun b _ => b = t + 19) M0 M) (hv : ∀ j, j < 9 → xI M (t + 19) j = v j)
    (hQ : ∀ M' : XM, Ex (tX t) M0 M' → Q (some (.int (tW T k v))) M') :
    RG xprog 126 0 [some (.ref (t + 21 + 2 * k)), some (.ref (t + 19)), some (.ref (t + 20)), none, none, none, none, none] [] M Q := by
  have h16 := hT.f.1
  obtain ⟨n, s, h1, h2, h3⟩ := hT.law hk
  refine c_value (n := n) (s := s) ?_ ?_ (by omega) (h1.ex e (by intro a k q; omega)) (by omega) (by omega) (by omega) ?_
  · rw [e.S]; simp only [hT.f]
  · rw [e.S]; simp only [hT.f]
  · intro M' e'
    rw [lawv_v n s _ v hv, ← h2]
    apply hQ
    exact (e.mono (by intro a k q; exact Or.inl q)).trans (e'.mono (by intro a k q; exact Or.inr q))
theorem c_held {x : Int32} {M : XM} {Q : Option Value → XM → Prop} : RG xprog 127 0 [some (.int x)] [] M Q = Q (some (.int (iheld x))) M := by
  rw [B_127_0]
  simp only [xc1 (.int 0) (Nat.le_refl 1), xc0, true_and]
  rfl
theorem c_likesOf {M : XM} {t o l a : Nat} {T : XT} {F : XO} {Q : Option Value → XM → Prop} (hT : TxtAt M t T) (hF : OffIs M o F) (hl : l < 7) (ha : a < 6) (sep : o + 7 ≤ t ∨ t + 29 ≤ o)
    (hQ : ∀ M' : XM, Ex (tX t) M M' → Q (some (.int (lkv T F l a))) M') :
    RG xprog 128 0 [some (.ref t), some (.ref o), some (.int (nI l)), some (.int (nI a))] [] M Q := by
  rw [B_128_0]
  simp only [hT.f, true_and]
  refine c_setVars hT hF hl ha sep ?_
  intro M1 e1 v1
  show RG xprog 128 7 _ [] M1 Q
  obtain ⟨n, s, h1, h2, h3⟩ := hT.law (k := 0) (by omega)
  rw [B_128_7]
  simp only [e1.S, e1.F, hT.f, h3, h1.1.1, tnl, vpl, show 44 ≤ 46 ∧ 46 ≤ 46 by omega, true_and]
  refine c_lawval hT (k := 0) (by omega) e1 v1 ?_
  intro M2 e2
  show RG xprog 128 24 _ [.int _] M2 Q
  rw [B_128_24, c_held]
  show RG xprog 128 27 _ [.int _] M2 Q
  rw [B_128_27]
  exact hQ M2 e2
theorem c_rathersOf {M : XM} {t o l a : Nat} {T : XT} {F : XO} {Q : Option Value → XM → Prop} (hT : TxtAt M t T) (hF : OffIs M o F) (hl : l < 7) (ha : a < 6) (sep : o + 7 ≤ t ∨ t + 29 ≤ o)
    (hQ : ∀ M' : XM, Ex (tX t) M M' → Q (some (.int (rav T F l a))) M') :
    RG xprog 130 0 [some (.ref t), some (.ref o), some (.int (nI l)), some (.int (nI a))] [] M Q := by
  rw [B_130_0]
  simp only [hT.f, true_and]
  refine c_setVars hT hF hl ha sep ?_
  intro M1 e1 v1
  show RG xprog 130 7 _ [] M1 Q
  obtain ⟨n, s, h1, h2, h3⟩ := hT.law (k := 1) (by omega)
  rw [B_130_7]
  simp only [e1.S, e1.F, hT.f, h3, h1.1.1, tnl, vpl, show 44 ≤ 46 ∧ 46 ≤ 46 by omega, true_and]
  refine c_lawval hT (k := 1) (by omega) e1 v1 ?_
  intro M2 e2
  show RG xprog 130 24 _ [.int _] M2 Q
  rw [B_130_24, c_held]
  show RG xprog 130 27 _ [.int _] M2 Q
  rw [B_130_27]
  exact hQ M2 e2
def b32 (p : Prop) [Decidable p] : Int32 := if p then 1 else 0
theorem c_isReturned {M : XM} {t o l a : Nat} {T : XT} {F : XO} {Q : Option Value → XM → Prop} (hT : TxtAt M t T) (hF : OffIs M o F) (hl : l < 7) (ha : a < 6) (sep : o + 7 ≤ t ∨ t + 29 ≤ o)
    (hQ : ∀ M' : XM, Ex (tX t) M M' → Q (some (.int (if tW T 2 (vvar T F l a) ≤ 0 then 0 else 1))) M') :
    RG xprog 131 0 [some (.ref t), some (.ref o), some (.int (nI l)), some (.int (nI a))] [] M Q := by
  rw [B_131_0]
  simp only [hT.f, true_and]
  refine c_setVars hT hF hl ha sep ?_
  intro M1 e1 v1
  show RG xprog 131 7 _ [] M1 Q
  obtain ⟨n, s, h1, h2, h3⟩ := hT.law (k := 2) (by omega)
  rw [B_131_7]
  simp only [e1.S, e1.F, hT.f, h3, h1.1.1, tnl, vpl, show 44 ≤ 46 ∧ 46 ≤ 46 by omega, true_and]
  refine c_lawval hT (k := 2) (by omega) e1 v1 ?_
  intro M2 e2
  show RG xprog 131 24 _ [.int _] M2 Q
  have q := hQ M2 e2
  rw [B_131_24]
  split
  · rename_i hc
    rw [if_pos hc] at q
    exact ⟨Or.inl rfl, q⟩
  · rename_i hc
    rw [if_neg hc] at q
    exact ⟨Or.inr rfl, q⟩
/-- the variables of the law of answers: l (later) answers e (earlier) on day d -/
def avar (T : XT) (e l : Nat) (d : Int32) : Nat → Int32
  | 0 => iabs (tL T l 1 - tL T e 1)
  | 1 => tL T l 0
  | 2 => tL T l 2
  | 3 => tL T e 0
  | 4 => tL T e 2
  | 5 => tL T l 3 - tL T e 3
  | 6 => d
  | 7 => nI l
  | 8 => 0
  | _ => 0
theorem c_isAnswered {M : XM} {t i l : Nat} {d : Int32} {T : XT} {Q : Option Value → XM → Prop} (hT : TxtAt M t T) (hi : i < 7) (hl : l < 7)
    (hQ : ∀ M' : XM, Ex (tX t) M M' → Q (some (.int (if tW T 3 (avar T i l d) ≤ 0 then 0 else 1))) M') :
    RG xprog 142 0 [some (.ref t), some (.int (nI i)), some (.int (nI l)), some (.int d), none, none] [] M Q := by
  have cl : Int32.toNatClampNeg (nI l) = l := nI_clamp (by omega)
  have ca : Int32.toNatClampNeg (nI i) = i := nI_clamp (by omega)
  have h16 := hT.f.1
  have g16 : 16 ≤ t + 19 := by omega
  rw [B_142_0]
  have d1 : ¬ t + 2 + l = t + 19 := by omega
  have d2 : ¬ t + 2 + i = t + 19 := by omega
  have vl : vp_in (nI l) 7 := vp_in_nI hl (by omega)
  have va : vp_in (nI i) 7 := vp_in_nI hi (by omega)
  simp only [xI_I, xS_I, xF_I, xup_at, hT.f, hT.l hl, hT.l hi, cl, ca, tnl, vpl, g16, vl, va, true_and, xcr, show 44 ≤ 44 ∧ 44 ≤ 46 by omega, hT.lm hl, hT.lm hi, B_142_34, B_142_54, B_142_74, B_142_89, d1, d2, false_and, if_false]
  obtain ⟨n, s, h1, h2, h3⟩ := hT.law (k := 3) (by omega)
  rw [B_142_113]
  simp only [xI_I, xS_I, xF_I, hT.f, h3, h1.1.1, tnl, vpl, show 44 ≤ 46 ∧ 46 ≤ 46 by omega, true_and]
  refine c_lawval (v := avar T i l d) hT (k := 3) (by omega) ?_ ?_ ?_
  · iterate 9 refine Ex.wr ?_ _ rfl
    exact Ex.refl _ _
  · intro k hk
    simp only [xI_I, xup_at, true_and]
    match k, hk with
    | 0, _ => rfl
    | 1, _ => rfl
    | 2, _ => rfl
    | 3, _ => rfl
    | 4, _ => rfl
    | 5, _ => rfl
    | 6, _ => rfl
    | 7, _ => rfl
    | 8, _ => rfl
  intro M2 e2
  show RG xprog 142 130 _ [.int _] M2 Q
  have q := hQ M2 e2
  rw [B_142_130]
  split
  · rename_i hc
    rw [if_pos hc] at q
    exact ⟨Or.inl rfl, q⟩
  · rename_i hc
    rw [if_neg hc] at q
    exact ⟨Or.inr rfl, q⟩
theorem c_ageOn {M : XM} {t l : Nat} {d : Int32} {T : XT} {Q : Option Value → XM → Prop} (hT : TxtAt M t T) (hl : l < 7) :
    RG xprog 111 0 [some (.ref t), some (.int (nI l)), some (.int d)] [] M Q = Q (some (.int (ipos (d - tL T l 3)))) M := by
  have cl : Int32.toNatClampNeg (nI l) = l := nI_clamp (by omega)
  have vl : vp_in (nI l) 7 := vp_in_nI hl (by omega)
  rw [B_111_0]
  simp only [hT.f, hT.l hl, cl, tnl, vpl, vl, true_and, xc0, show 44 ≤ 44 ∧ 44 ≤ 46 by omega, hT.lm hl]
  rfl
theorem c_cameEarlier {M : XM} {t i l : Nat} {T : XT} {Q : Option Value → XM → Prop} (hT : TxtAt M t T) (hi : i < 7) (hl : l < 7) :
    RG xprog 141 0 [some (.ref t), some (.int (nI i)), some (.int (nI l))] [] M Q = Q (some (.int (if tL T l 3 ≤ tL T i 3 then 0 else 1))) M := by
  have cl : Int32.toNatClampNeg (nI l) = l := nI_clamp (by omega)
  have ci : Int32.toNatClampNeg (nI i) = i := nI_clamp (by omega)
  have vl : vp_in (nI l) 7 := vp_in_nI hl (by omega)
  have vi : vp_in (nI i) 7 := vp_in_nI hi (by omega)
  rw [B_141_0]
  simp only [hT.f, hT.l hl, hT.l hi, cl, ci, tnl, vpl, vl, vi, true_and, true_or, or_true, show 44 ≤ 44 ∧ 44 ≤ 46 by omega, hT.lm hl, hT.lm hi]
  split <;> rfl
theorem c_seed {M : XM} {t : Nat} {T : XT} {Q : Option Value → XM → Prop} (hT : TxtAt M t T) : RG xprog 162 0 [some (.ref t)] [] M Q = Q (some (.int (tS T 2))) M := by
  rw [B_162_0]
  simp only [hT.f, tnl, vpl, true_and, hT.st]
theorem c_wet {M : XM} {t : Nat} {T : XT} {Q : Option Value → XM → Prop} (hT : TxtAt M t T) : RG xprog 163 0 [some (.ref t)] [] M Q = Q (some (.int (tS T 1))) M := by
  rw [B_163_0]
  simp only [hT.f, tnl, vpl, true_and, hT.st]
theorem c_turns {M : XM} {t : Nat} {T : XT} {Q : Option Value → XM → Prop} (hT : TxtAt M t T) : RG xprog 171 0 [some (.ref t)] [] M Q = Q (some (.int (tS T 0))) M := by
  rw [B_171_0]
  simp only [hT.f, tnl, vpl, true_and, hT.st]
theorem c_hasChance {M : XM} {t : Nat} {T : XT} {Q : Option Value → XM → Prop} (hT : TxtAt M t T) : RG xprog 263 0 [some (.ref t)] [] M Q = Q (some (.int (if tS T 1 ≤ 0 then 0 else if 100 ≤ tS T 1 then 0 else 1))) M := by
  rw [B_263_0]
  simp only [hT.f, true_and, c_wet hT]
  show RG xprog 263 4 _ [.int _] M Q = _
  rw [B_263_4]
  simp only [hT.f, true_and, c_wet hT]
  have e : RG xprog 263 11 [some (.ref t)] ([Value.int (tS T 1)] ++ []) M Q = Q (some (.int (if 100 ≤ tS T 1 then 0 else 1))) M := by
    show RG xprog 263 11 _ [.int _] M Q = _
    rw [B_263_11]
    split
    · exact propext ⟨fun z => z.2, fun z => ⟨Or.inl rfl, z⟩⟩
    · exact propext ⟨fun z => z.2, fun z => ⟨Or.inr rfl, z⟩⟩
  split
  · simp only [true_and, true_or]
  · exact e
