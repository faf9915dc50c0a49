/-! read of the class -/
theorem ystep_e (sm : Nat → Nat → Bool) (v j : Nat) (p : YS) (h : (ystep sm 0 v j p).1 ≠ 0) : (ystep sm 0 v j p).2.1.1 = 0 := by
  obtain ⟨⟨st, tk, fd, ifs, ne, pe⟩, ⟨m, a, r, nm, L, R, S⟩, ⟨W, lw, l, z, sk⟩⟩ := p
  have un : ∀ st', yunit 0 v ((st', tk, fd, ifs, ne, pe), (m, a, r, nm, L, R, S), (W, lw, l, z, sk)) = (0, ((st', tk, fd, ifs, ne, pe), (m, a, r, nm, L, R, S), (W, lw, l, z, sk))) := fun _ => rfl
  by_cases q0 : st = 0
  · subst q0; rfl
  by_cases q1 : st = 1
  · subst q1; exact absurd rfl h
  by_cases q2 : st = 2
  · subst q2; exact absurd rfl h
  by_cases q3 : st = 3
  · subst q3; exact absurd rfl h
  by_cases q4 : st = 4
  · subst q4; exact absurd rfl h
  by_cases q5 : st = 5
  · subst q5; exact absurd rfl h
  by_cases q6 : st = 6
  · subst q6; exact absurd rfl h
  unfold ystep at h ⊢
  dsimp only at h ⊢
  rw [if_neg q0, if_neg q1, if_neg q2, if_neg q3, if_neg q4, if_neg (by omega), if_neg (by omega)] at h ⊢
  unfold ybeh at h ⊢
  dsimp only at h ⊢
  rw [if_neg (by omega), if_neg (by omega)] at h ⊢
  by_cases y : 0 = pe ∧ ne = 0
  · rw [if_pos y, if_neg (by omega), if_neg (by omega), if_neg (by omega)]
  · rw [if_neg y] at h; exact absurd rfl h
theorem yrun_e (sm : Nat → Nat → Bool) (K V P : Nat → Nat) : ∀ (f i : Nat) (p : YS), (yrun sm K V P f i p).1 = 0 → (yrun sm K V P f i p).2.2.1.1 = 0
  | 0, i, p, h => by cases h
  | f + 1, i, p, h => by
    rw [yrun_s] at h ⊢
    by_cases q : (ystep sm (K i) (V i) (P i) p).1 = 0
    · rw [if_pos q] at h; cases h
    · rw [if_neg q] at h ⊢
      by_cases k : K i = 0
      · rw [if_pos k] at h ⊢
        rw [k] at q ⊢
        exact ystep_e _ _ _ _ q
      · rw [if_neg k] at h ⊢
        by_cases r : (ystep sm (K i) (V i) (P i) p).1 = 2 ∨ 400 ≤ i
        · rw [if_pos r] at h; cases h
        · rw [if_neg r] at h ⊢
          exact yrun_e sm K V P f (i + 1) _ h
/-- the text that was read -/
def yT : YS → XT
  | (_, (_, a, r, _, L, R, S), (W, _)) => (a, r, fun l => if l < 7 then L l else fun _ => 0, fun l => if l < 6 then R l else fun _ => 0, S, fun k => if k < 4 then lawv (W k).1 (W k).2 else fun _ => 0)
theorem cr_txt {M : XM} {d : Nat} {N : Nat → Int64} {p : YS} (h : CR M d N p) (h0 : p.1.1 = 0) : TxtAt M d (yT p) := by
  obtain ⟨⟨st, tk, fd, ifs, ne, pe⟩, ⟨m, a, r, nm, L, R, S⟩, ⟨W, lw, l, z, sk⟩⟩ := p
  have st0 : st = 0 := h0
  obtain ⟨⟨cp, ⟨x1, ⟨x4, x5, x6, x7, x8⟩, x9, x10, x11, x12⟩, cl⟩, ⟨_, _, _, _, q5⟩⟩ := h
  have lw4 : lw = 4 := q5 (by omega)
  have ca : Int32.toNatClampNeg (xI M d 0) = a := by rw [x4]; exact nI_clamp (by omega)
  have cr : Int32.toNatClampNeg (xI M d 1) = r := by rw [x5]; exact nI_clamp (by omega)
  have lk : ∀ k, k < 4 → LwI M (d + 21 + 2 * k) (W k) := fun k hk => by
    have := cl k hk
    rw [lw4, if_neg (by omega)] at this
    exact this
  have cl' : ∀ k, k < 4 → Int32.toNatClampNeg (xI M (d + 21 + 2 * k) 1) = (W k).1 := fun k hk => by
    rw [(lk k hk).1]; exact nI_clamp (by have := (lk k hk).2.1; omega)
  refine ⟨⟨cp.2.2.1, by rw [ca]; exact x4, by rw [cr]; exact x5, by rw [ca]; exact x7, by rw [cr]; exact x8, fun k hk => ?_⟩, ?_⟩
  · obtain ⟨g1, g2, g3, g4⟩ := lk k hk
    rw [cl' k hk]
    exact ⟨(cp.2.2.1.2.2.2 k hk).2, g2, g1, fun _ _ => rfl, by rw [g3]; exact g4⟩
  · unfold txtOf yT
    dsimp only
    rw [ca, cr, x12]
    have e1 : (fun l => if l < 7 then xI M (d + 2 + l) else fun _ => 0) = fun l => if l < 7 then L l else fun _ => 0 := by
      funext l
      by_cases q : l < 7
      · rw [if_pos q, if_pos q, x10 l q]
      · rw [if_neg q, if_neg q]
    have e2 : (fun l => if l < 6 then xI M (d + 10 + l) else fun _ => 0) = fun l => if l < 6 then R l else fun _ => 0 := by
      funext l
      by_cases q : l < 6
      · rw [if_pos q, if_pos q, x11 l q]
      · rw [if_neg q, if_neg q]
    have e3 : (fun k => if k < 4 then lawv (Int32.toNatClampNeg (xI M (d + 21 + 2 * k) 1)) (xI M (d + 21 + 2 * k + 1)) else fun _ => 0) = fun k => if k < 4 then lawv (W k).1 (W k).2 else fun _ => 0 := by
      funext k
      by_cases q : k < 4
      · rw [if_pos q, if_pos q, cl' k q, (lk k q).2.2.1]
      · rw [if_neg q, if_neg q]
    rw [e1, e2, e3]
section XCE
variable {M M' : XM} {P R F : Nat → Nat → Prop}
theorem TxtAt.e3 {t : Nat} {T : XT} (h : TxtAt M t T) (e : E3 P R F M M') (hp : ∀ a k, P a k → a < t ∨ t + 29 ≤ a) (hf : ∀ a k, F a k → a < t ∨ t + 29 ≤ a) : TxtAt M' t T := by
  have r : ∀ a, t ≤ a → a < t + 29 → xI M' a = xI M a := fun a h1 h2 => e.rowI fun k q => by have := hp a k q; omega
  obtain ⟨⟨hsh, h1, h2, h3, h4, h5⟩, hT⟩ := h
  constructor
  · refine ⟨hsh.e3 e hf, ?_, ?_, ?_, ?_, ?_⟩
    · rw [r t (by omega) (by omega)]; exact h1
    · rw [r t (by omega) (by omega)]; exact h2
    · rw [r t (by omega) (by omega)]; exact h3
    · rw [r t (by omega) (by omega)]; exact h4
    · intro k hk
      obtain ⟨p1, p2, p3, p4, p5⟩ := h5 k hk
      rw [r (t + 21 + 2 * k) (by omega) (by omega), r (t + 21 + 2 * k + 1) (by omega) (by omega)]
      exact ⟨p1.e3 e (fun a j q => by have := hf a j q; omega), p2, by rw [r _ (by omega) (by omega)]; exact p3, by rw [r _ (by omega) (by omega)]; exact p4, p5⟩
  · rw [← hT]
    unfold txtOf
    have e3 : (fun l => if l < 7 then xI M' (t + 2 + l) else fun _ => 0) = fun l => if l < 7 then xI M (t + 2 + l) else fun _ => 0 := by
      funext l
      by_cases hl : l < 7
      · rw [if_pos hl, if_pos hl, r (t + 2 + l) (by omega) (by omega)]
      · rw [if_neg hl, if_neg hl]
    have e4 : (fun l => if l < 6 then xI M' (t + 10 + l) else fun _ => 0) = fun l => if l < 6 then xI M (t + 10 + l) else fun _ => 0 := by
      funext l
      by_cases hl : l < 6
      · rw [if_pos hl, if_pos hl, r (t + 10 + l) (by omega) (by omega)]
      · rw [if_neg hl, if_neg hl]
    have e5 : (fun k => if k < 4 then lawv (Int32.toNatClampNeg (xI M' (t + 21 + 2 * k) 1)) (xI M' (t + 21 + 2 * k + 1)) else fun _ => 0) = fun k => if k < 4 then lawv (Int32.toNatClampNeg (xI M (t + 21 + 2 * k) 1)) (xI M (t + 21 + 2 * k + 1)) else fun _ => 0 := by
      funext k
      by_cases hl : k < 4
      · rw [if_pos hl, if_pos hl, r (t + 21 + 2 * k) (by omega) (by omega), r (t + 21 + 2 * k + 1) (by omega) (by omega)]
      · rw [if_neg hl, if_neg hl]
    rw [r t (by omega) (by omega), r (t + 16) (by omega) (by omega), e3, e4, e5]
theorem OffAt.e3 {o : Nat} (h : OffAt M o) (e : E3 P R F M M') (hf : ∀ a k, F a k → a ≠ o) : OffAt M' o := by
  obtain ⟨h1, h2, h3, h4, h5⟩ := h
  exact ⟨by rw [e.S]; exact h1, h2, fun k q1 q2 => by rw [e.FF (fun q => hf _ _ q rfl)]; exact h3 k q1 q2, fun k q1 q2 => by rw [e.S]; exact h4 k q1 q2, fun k q1 q2 => by rw [e.S]; exact h5 k q1 q2⟩
theorem offOf_e3 {o : Nat} (e : E3 P R F M M') (hp : ∀ a k, P a k → a < o ∨ o + 7 ≤ a) : offOf M' o = offOf M o := by
  have r : ∀ a, o ≤ a → a < o + 7 → xI M' a = xI M a := fun a h1 h2 => e.rowI fun k q => by have := hp a k q; omega
  unfold offOf
  rw [r o (by omega) (by omega), r (o + 1) (by omega) (by omega), r (o + 2) (by omega) (by omega), r (o + 3) (by omega) (by omega), r (o + 4) (by omega) (by omega), r (o + 5) (by omega) (by omega), r (o + 6) (by omega) (by omega)]
theorem OffIs.e3 {o : Nat} {G : XO} (h : OffIs M o G) (e : E3 P R F M M') (hp : ∀ a k, P a k → a < o ∨ o + 7 ≤ a) (hf : ∀ a k, F a k → a ≠ o) : OffIs M' o G := ⟨h.1.e3 e hf, by rw [offOf_e3 e hp]; exact h.2⟩
theorem OffC.e3 {o : Nat} (h : OffC M o) (e : E3 P R F M M') (hp : ∀ a k, P a k → a < o ∨ o + 7 ≤ a) (hf : ∀ a k, F a k → a ≠ o) : OffC M' o := ⟨h.1.e3 e hf, by rw [offOf_e3 e hp]; exact h.2⟩
theorem CSh.e3 {t : Nat} (h : CSh M t) (e : E3 P R pF M M') : CSh M' t := by
  have fr : ∀ a, a ≠ 19 → a ≠ 20 → a ≠ 22 → xF M' a = xF M a := fun a h1 h2 h3 => funext fun k => e.FF fun q => by unfold pF at q; omega
  have f : ∀ a k, ¬ pF a k → xF M' a k = xF M a k := fun a k q => e.FF q
  unfold CSh at h ⊢
  rw [e.S, fr 16 (by omega) (by omega) (by omega), fr 17 (by omega) (by omega) (by omega), fr 98 (by omega) (by omega) (by omega), fr 120 (by omega) (by omega) (by omega), fr 121 (by omega) (by omega) (by omega), fr 402 (by omega) (by omega) (by omega), fr 406 (by omega) (by omega) (by omega), fr 407 (by omega) (by omega) (by omega), fr 415 (by omega) (by omega) (by omega), fr 424 (by omega) (by omega) (by omega), fr 435 (by omega) (by omega) (by omega), f 19 0 (by unfold pF; omega), f 19 1 (by unfold pF; omega), f 20 0 (by unfold pF; omega), f 22 0 (by unfold pF; omega)]
  exact h
end XCE
/-- what reading may change in the class's cells -/
def lP (d : Nat) : Nat → Nat → Prop := fun a k => pP d a k ∨ (a = 16 ∧ k = 12) ∨ (a = 17 ∧ k = 1)
def S_fail (S : XS) (x : Int32) : XS := (S.1, S.2.1, (0, zP S), x, S.2.2.2.2)
theorem CW.fail {M M' : XM} {t : Nat} {S : XS} {x : Int32} (h : CW M t S) (e : E3 (lP (81 - t)) (pJ (81 - t)) pF M M') (h12 : xI M' 16 12 = x) (h17 : xI M' 17 1 = nI 0) : CW M' t (S_fail S x) := by
  have ht := h.t2
  obtain ⟨h1, h2, h3, h4, h5, h6, h7, h8, h9, h10⟩ := h
  have np : ∀ a k, lP (81 - t) a k → a < 24 ∨ (81 - t ≤ a ∧ a < 81 - t + 29) := fun a k q => by unfold lP pP at q; omega
  have nf : ∀ a k, pF a k → a < 24 := fun a k q => by unfold pF at q; omega
  have r : ∀ a, 84 ≤ a → xI M' a = xI M a := fun a q => e.rowI fun k z => by have := np a k z; omega
  refine ⟨h1.e3 e, h2.e3 e (fun a k q => by have := np a k q; omega) (fun a k q => by have := nf a k q; omega), h3.e3 e (fun a k q => by have := nf a k q; omega), h4.e3 e (fun a k q => by have := np a k q; omega) (fun a k q => by have := nf a k q; omega), h5.e3 e (fun a k q => by have := np a k q; omega) (fun a k q => by have := nf a k q; omega), ⟨h17, fun i hi => absurd hi (Nat.not_lt_zero _)⟩, h12, ?_, ?_, ?_⟩
  · rw [r 120 (by omega)]
    obtain ⟨w, q1, q2, q3⟩ := h8.2.1
    exact ⟨h8.1, ⟨w, q1, q2, fun i hi => (q3 i hi).e3 e (fun a k q => by have := np a k q; omega) (fun a k q => by have := nf a k q; omega)⟩, fun i hi => (h8.2.2 i hi).e3 e (fun a k q => by have := np a k q; omega) (fun a k q => by have := nf a k q; omega)⟩
  · rw [e.I (by unfold lP pP; omega)]
    exact ⟨h9.1, fun i hi G hG => (h9.2.1 i hi G hG).e3 e (fun a k q => by have := np a k q; omega) (fun a k q => by have := nf a k q; omega), fun i hi => (h9.2.2 i hi).e3 e (fun a k q => by have := np a k q; omega) (fun a k q => by have := nf a k q; omega)⟩
  · rw [r 402 (by omega), r 403 (by omega), r 404 (by omega), r 405 (by omega)]; exact h10
