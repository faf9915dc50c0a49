/-! the drawer that is just made -/
theorem openF_i {T : XT} (h : TOk T) : OInv T (openF T) := by
  refine ⟨fun l hl => Or.inl ⟨if_pos hl, ?_⟩, fun a ha => Or.inl (if_pos ha), fun l hl => ⟨Or.inl rfl, Or.inl rfl⟩, fun l _ hl => ⟨rfl, rfl⟩, fun a ha => ?_, openF_c T⟩
  · exact fun q => absurd (show (0 : Int32) = 2 from q) (by decide)
  · obtain ⟨w, q1, q2⟩ := h.2.2.2.1 a ha 0 (by omega)
    have := h.2.1
    exact ⟨w, q1, (if_pos (by omega) : oA (openF T) a = tM T a 0).trans q2⟩
theorem lawv_0 {s v : Nat → Int32} (h0 : s 0 = 10) (h1 : s 1 = -1) (h2 : s 2 = -11) : lawv 3 s v = 10 - v 0 := by
  unfold lawv
  rw [lrun_s, h0, if_neg (by decide), if_pos (by decide), if_neg (by decide), if_neg (by decide), lrun_s, h1, if_neg (by decide), if_pos (by decide), if_neg (by decide), if_pos (by decide), lrun_s, h2, if_neg (by decide), if_neg (by decide), if_neg (by decide), if_neg (by decide), if_neg (fun q => absurd q.1 (by decide)), lrun_s, if_pos (Or.inl (by decide)), if_neg (by decide)]
  rfl
theorem lawv_1 {s v : Nat → Int32} (x : Int32) (h0 : s 0 = x) (h : ¬ x < -9) : lawv 1 s v = if x < 0 then v (Int32.toNatClampNeg (-1 - x)) else x := by
  unfold lawv
  have h14 : ¬ x = -14 := fun q => h (by rw [q]; decide)
  rw [lrun_s, h0, if_neg (fun q => q.elim (by omega) h14), if_pos h, if_neg (by omega), lrun_s, if_pos (Or.inl (by omega)), if_neg (by omega)]
  rfl
theorem clr_txt {M : XM} {t : Nat} (hs : TxtSh M t) (h : TClr M t) : TxtAt M t (txtOf M t) ∧ tN (txtOf M t) = 0 ∧ tR (txtOf M t) = 0 ∧ (∀ i, i < 3 → tS (txtOf M t) i = 0) ∧ ∀ k, k < 4 → ∀ v, tW (txtOf M t) k v = plv k v := by
  obtain ⟨⟨a0, a1, a7, a16⟩, ⟨b0, b1, b2, b3⟩, ⟨c0, c1⟩, ⟨d0, d1⟩, e0, e1⟩ := h
  have hl := hs.2.2.2
  have l0 : LawSh M (t + 21) := (hl 0 (by omega)).2
  have l1 : LawSh M (t + 23) := (hl 1 (by omega)).2
  have l2 : LawSh M (t + 25) := (hl 2 (by omega)).2
  have l3 : LawSh M (t + 27) := (hl 3 (by omega)).2
  have c3 : Int32.toNatClampNeg (nI 3) = 3 := by decide
  have c1' : Int32.toNatClampNeg (nI 1) = 1 := by decide
  have c0' : Int32.toNatClampNeg (0 : Int32) = 0 := by decide
  refine ⟨⟨⟨hs, ?_, ?_, ?_, ?_, ?_⟩, rfl⟩, ?_, ?_, ?_, ?_⟩
  · rw [a0]; decide
  · rw [a1]; decide
  · rw [a0, c0']; omega
  · rw [a1, c0']; omega
  · intro k hk
    have : k = 0 ∨ k = 1 ∨ k = 2 ∨ k = 3 := by omega
    rcases this with rfl | rfl | rfl | rfl
    · show LawAt M (t + 21) (Int32.toNatClampNeg (xI M (t + 21) 1)) (xI M (t + 22))
      rw [b0, c3]
      refine ⟨l0, by omega, b0, fun _ _ => rfl, fun i hi => ?_⟩
      have : i = 0 ∨ i = 1 ∨ i = 2 := by omega
      rcases this with rfl | rfl | rfl
      · rw [b1]; decide
      · rw [b2]; decide
      · rw [b3]; decide
    · show LawAt M (t + 23) (Int32.toNatClampNeg (xI M (t + 23) 1)) (xI M (t + 24))
      rw [c0, c1']
      refine ⟨l1, by omega, c0, fun _ _ => rfl, fun i hi => ?_⟩
      have : i = 0 := by omega
      subst this
      rw [c1]; decide
    · show LawAt M (t + 25) (Int32.toNatClampNeg (xI M (t + 25) 1)) (xI M (t + 26))
      rw [d0, c1']
      refine ⟨l2, by omega, d0, fun _ _ => rfl, fun i hi => ?_⟩
      have : i = 0 := by omega
      subst this
      rw [d1]; decide
    · show LawAt M (t + 27) (Int32.toNatClampNeg (xI M (t + 27) 1)) (xI M (t + 28))
      rw [e0, c1']
      refine ⟨l3, by omega, e0, fun _ _ => rfl, fun i hi => ?_⟩
      have : i = 0 := by omega
      subst this
      rw [e1]; decide
  · show Int32.toNatClampNeg (xI M t 0) = 0
    rw [a0, c0']
  · show Int32.toNatClampNeg (xI M t 1) = 0
    rw [a1, c0']
  · exact a16
  · intro k hk v
    have : k = 0 ∨ k = 1 ∨ k = 2 ∨ k = 3 := by omega
    unfold plv
    rcases this with rfl | rfl | rfl | rfl
    · show lawv (Int32.toNatClampNeg (xI M (t + 21) 1)) (xI M (t + 22)) v = 10 - v 0
      rw [b0, c3]
      exact lawv_0 b1 b2 b3
    · show lawv (Int32.toNatClampNeg (xI M (t + 23) 1)) (xI M (t + 24)) v = v 4
      rw [c0, c1', lawv_1 (-5) c1 (by decide)]
      rfl
    · show lawv (Int32.toNatClampNeg (xI M (t + 25) 1)) (xI M (t + 26)) v = 0
      rw [d0, c1', lawv_1 0 d1 (by decide)]
      rfl
    · show lawv (Int32.toNatClampNeg (xI M (t + 27) 1)) (xI M (t + 28)) v = 0
      rw [e0, c1', lawv_1 0 e1 (by decide)]
      rfl
theorem clr_ok {M : XM} {t : Nat} (hs : TxtSh M t) (h : TClr M t) : TOk (txtOf M t) := by
  obtain ⟨_, h1, h2, h3, _⟩ := clr_txt hs h
  refine ⟨by omega, by omega, fun l hl => by omega, fun a ha => by omega, ⟨0, by omega, h3 0 (by omega)⟩, ⟨0, by omega, h3 1 (by omega)⟩, 0, by omega, h3 2 (by omega)⟩
section XFRESH
variable {M N : XM} {z u : Nat} {g : Nat → Int32} {jj : Nat → Nat → Int64} {sh ff : List (Nat × Nat × Nat)} {o : Nat}
def offB (sh ff : List (Nat × Nat × Nat)) (o : Nat) : Bool := lkS sh o == some (5, 0) && (List.range 6).all (fun i => lkF ff o (i + 1) == some (o + (i + 1))) && (List.range 3).all (fun i => lkS sh (o + (i + 1)) == some (40, 7)) && (List.range 3).all (fun i => lkS sh (o + (i + 4)) == some (40, 6))
theorem NI.off (h : NI o M z u sh ff g jj N) {a : Nat} (ha : 16 ≤ a) (hb : offB sh ff a = true) : OffAt N a := by
  unfold offB at hb
  simp only [Bool.and_eq_true, beq_iff_eq, List.all_eq_true, List.mem_range] at hb
  obtain ⟨⟨⟨h1, h2⟩, h3⟩, h4⟩ := hb
  refine ⟨h.S _ _ h1, ha, fun k q1 q2 => ?_, fun k q1 q2 => ?_, fun k q1 q2 => ?_⟩
  · have := h.F _ _ _ (h2 (k - 1) (by omega))
    rw [show k - 1 + 1 = k by omega] at this
    exact this
  · have := h.S _ _ (h3 (k - 1) (by omega))
    rw [show k - 1 + 1 = k by omega] at this
    exact this
  · have := h.S _ _ (h4 (k - 4) (by omega))
    rw [show k - 4 + 4 = k by omega] at this
    exact this
theorem NI.offc (h : NI o M z u sh ff g jj N) {a : Nat} (ha : 16 ≤ a) (hb : offB sh ff a = true) (h1 : o < a) (h2 : a + 7 ≤ z) : OffC N a := by
  refine ⟨h.off ha hb, fun k hk => ⟨?_, ?_, ?_⟩, fun k hk => ⟨?_, ?_, ?_⟩⟩
  · exact h.I (a + 1) k (by omega) (by omega)
  · exact h.I (a + 2) k (by omega) (by omega)
  · exact h.I (a + 3) k (by omega) (by omega)
  · exact h.I (a + 4) k (by omega) (by omega)
  · exact h.I (a + 5) k (by omega) (by omega)
  · exact h.I (a + 6) k (by omega) (by omega)
def txtB (sh ff : List (Nat × Nat × Nat)) (t : Nat) : Bool :=
  (lkS sh t == some (8, 0) && lkF ff t 2 == some (t + 1) && lkF ff t 3 == some (t + 9) && lkF ff t 4 == some (t + 16) && lkF ff t 5 == some (t + 17) && lkF ff t 6 == some (t + 18) && lkF ff t 8 == some (t + 19) && lkF ff t 9 == some (t + 20) && lkS sh (t + 1) == some (44, 7) && lkS sh (t + 9) == some (44, 6) && lkS sh (t + 16) == some (40, 3) && lkS sh (t + 17) == some (46, 4) && lkS sh (t + 18) == some (43, 13) && lkS sh (t + 19) == some (40, 9) && lkS sh (t + 20) == some (40, 32)) &&
  (List.range 7).all (fun l => lkF ff (t + 1) l == some (t + 2 + l) && lkS sh (t + 2 + l) == some (40, 4)) && (List.range 6).all (fun l => lkF ff (t + 9) l == some (t + 10 + l) && lkS sh (t + 10 + l) == some (40, 3)) &&
  (List.range 4).all (fun k => lkF ff (t + 17) k == some (t + 21 + 2 * k) && lkS sh (t + 21 + 2 * k) == some (3, 0) && lkF ff (t + 21 + 2 * k) 0 == some (t + 21 + 2 * k + 1) && lkS sh (t + 21 + 2 * k + 1) == some (40, 400))
theorem NI.txt (h : NI o M z u sh ff g jj N) {t : Nat} (ht : 16 ≤ t) (hb : txtB sh ff t = true) : TxtSh N t := by
  unfold txtB at hb
  simp only [Bool.and_eq_true, beq_iff_eq, List.all_eq_true, List.mem_range] at hb
  obtain ⟨⟨⟨h1, h2⟩, h3⟩, h4⟩ := hb
  obtain ⟨⟨⟨⟨⟨⟨⟨⟨⟨⟨⟨⟨⟨⟨a1, a2⟩, a3⟩, a4⟩, a5⟩, a6⟩, a7⟩, a8⟩, a9⟩, a10⟩, a11⟩, a12⟩, a13⟩, a14⟩, a15⟩ := h1
  refine ⟨⟨ht, h.S _ _ a1, h.F _ _ _ a2, h.F _ _ _ a3, h.F _ _ _ a4, h.F _ _ _ a5, h.F _ _ _ a6, h.F _ _ _ a7, h.F _ _ _ a8, h.S _ _ a9, h.S _ _ a10, h.S _ _ a11, h.S _ _ a12, h.S _ _ a13, h.S _ _ a14, h.S _ _ a15⟩, fun l hl => ?_, fun l hl => ?_, fun k hk => ?_⟩
  · exact ⟨h.F _ _ _ (h2 l hl).1, h.S _ _ (h2 l hl).2⟩
  · exact ⟨h.F _ _ _ (h3 l hl).1, h.S _ _ (h3 l hl).2⟩
  · obtain ⟨⟨⟨b1, b2⟩, b3⟩, b4⟩ := h4 k hk
    exact ⟨h.F _ _ _ b1, h.S _ _ b2, h.F _ _ _ b3, h.S _ _ b4, by omega⟩
end XFRESH
/-- what the class holds when it was just made -/
def S0of (T : XT) : XS := (T, openF T, (0, fun _ => 0), -1, (0, fun _ => openF T), fun _ => none, (0, fun _ => 0, fun _ => 0, fun _ => 0))
theorem s0_inv {T : XT} (h : TOk T) : SInv 0 (S0of T) := by
  refine ⟨h, openF_i h, openF_d T 0, Nat.zero_le _, Nat.zero_le _, fun i hi => absurd hi (Nat.not_lt_zero _), fun i _ G hG => ?_, Nat.zero_le _, fun i hi => absurd hi (Nat.not_lt_zero _)⟩
  have : (none : Option XO) = some G := hG
  cases this
theorem fresh_sh {M N : XM} (h : NI 16 M 439 8811 dS14 dF14 (fun j => if j = 12 then -1 else 0) J1 N) : CSh N 26 := by
  have f7 : ∀ i, i < 7 → lkF dF14 407 i = some (408 + i) ∧ lkS dS14 (408 + i) = some (40, 6) := by decide +kernel
  have f8 : ∀ i, i < 8 → lkF dF14 415 i = some (416 + i) ∧ lkS dS14 (416 + i) = some (40, 64) := by decide +kernel
  have f9 : ∀ i, i < 7 → lkF dF14 424 i = some (425 + i) ∧ lkS dS14 (425 + i) = some (40, 6) := by decide +kernel
  have f3 : ∀ i, i < 3 → lkF dF14 98 i = some (99 + 7 * i) := by decide +kernel
  have f40 : ∀ i, i < 40 → lkF dF14 121 i = some (122 + 7 * i) := by decide +kernel
  have F := fun b k v => h.F b k v
  have S := fun b x => h.S b x
  refine ⟨⟨Or.inl rfl, S _ _ (by decide +kernel), F _ _ _ (by decide +kernel), F _ _ _ (by decide +kernel), F _ _ _ (by decide +kernel), F _ _ _ (by decide +kernel), F _ _ _ (by decide +kernel), F _ _ _ (by decide +kernel), F _ _ _ (by decide +kernel), F _ _ _ (by decide +kernel), F _ _ _ (by decide +kernel), F _ _ _ (by decide +kernel), F _ _ _ (by decide +kernel)⟩, ⟨S _ _ (by decide +kernel), F _ _ _ (by decide +kernel), S _ _ (by decide +kernel)⟩, ⟨S _ _ (by decide +kernel), F _ _ _ (by decide +kernel), F _ _ _ (by decide +kernel), S _ _ (by decide +kernel), F _ _ _ (by decide +kernel), S _ _ (by decide +kernel), S _ _ (by decide +kernel), F _ _ _ (by decide +kernel), S _ _ (by decide +kernel)⟩, ⟨S _ _ (by decide +kernel), fun i hi => F _ _ _ (f3 i hi)⟩, ⟨S _ _ (by decide +kernel), F _ _ _ (by decide +kernel), S _ _ (by decide +kernel), fun i hi => F _ _ _ (f40 i hi)⟩, ⟨S _ _ (by decide +kernel), F _ _ _ (by decide +kernel), F _ _ _ (by decide +kernel), F _ _ _ (by decide +kernel), S _ _ (by decide +kernel), S _ _ (by decide +kernel), S _ _ (by decide +kernel)⟩, ⟨⟨S _ _ (by decide +kernel), F _ _ _ (by decide +kernel), F _ _ _ (by decide +kernel), F _ _ _ (by decide +kernel), F _ _ _ (by decide +kernel), F _ _ _ (by decide +kernel), F _ _ _ (by decide +kernel), S _ _ (by decide +kernel), S _ _ (by decide +kernel), S _ _ (by decide +kernel), S _ _ (by decide +kernel), S _ _ (by decide +kernel), S _ _ (by decide +kernel)⟩, fun i hi => ⟨F _ _ _ (f7 i hi).1, S _ _ (f7 i hi).2⟩, fun i hi => ⟨F _ _ _ (f8 i hi).1, S _ _ (f8 i hi).2⟩, fun i hi => ⟨F _ _ _ (f9 i hi).1, S _ _ (f9 i hi).2⟩⟩, ⟨S _ _ (by decide +kernel), F _ _ _ (by decide +kernel), F _ _ _ (by decide +kernel), F _ _ _ (by decide +kernel), S _ _ (by decide +kernel), S _ _ (by decide +kernel), S _ _ (by decide +kernel)⟩⟩
theorem c_new {M N : XM} {Q : Option Value → XM → Prop} (h0 : NI 16 M 17 13 dS0 dF0 (fun _ => 0) J0 N) (hw : StrAt M 5 6 168 xb19)
    (hQ : ∀ (M' : XM) (T : XT), xZ M' = 439 → xU M' = 8811 → Fr 16 M M' → xJ M' 21 = wC 21 → CW M' 26 (S0of T) → TOk T → tN T = 0 → tR T = 0 → (∀ i, i < 3 → tS T i = 0) → (∀ k, k < 4 → ∀ v, tW T k v = plv k v) → Q none M') :
    RG xprog 24 0 [some (.ref 16), none] [] N Q := by
  refine n_Drawer h0 hw ?_
  intro N1 h1
  have t26 : TxtSh N1 26 := h1.txt (by decide) (by decide +kernel)
  have t55 : TxtSh N1 55 := h1.txt (by decide) (by decide +kernel)
  have c0 := fresh_sh h1
  have o84 : OffC N1 84 := h1.offc (by decide) (by decide +kernel) (by decide) (by decide)
  have o91 : OffC N1 91 := h1.offc (by decide) (by decide +kernel) (by decide) (by decide)
  have b3 : ∀ i, i < 3 → offB dS14 dF14 (99 + 7 * i) = true := by decide +kernel
  have b40 : ∀ i, i < 40 → offB dS14 dF14 (122 + 7 * i) = true := by decide +kernel
  have o3 : ∀ i, i < 3 → OffC N1 (99 + 7 * i) := fun i hi => h1.offc (by omega) (b3 i hi) (by omega) (by omega)
  have o40 : ∀ i, i < 40 → OffC N1 (122 + 7 * i) := fun i hi => h1.offc (by omega) (b40 i hi) (by omega) (by omega)
  refine c_clear t26 ?_
  intro N2 e2 cl
  have t26' : TxtSh N2 26 := t26.ex e2
  obtain ⟨hT, n0, r0, s0, w0⟩ := clr_txt t26' cl
  have tok := clr_ok t26' cl
  have o84' : OffC N2 84 := o84.exR e2 (by intro a k q1 q2 q; unfold tC at q; omega)
  have c2 := c0.ex e2
  simp (disch := omega) only [Option.toList_none, List.nil_append]
  rw [B_24_160]
  simp (disch := omega) only [c2.1.2, o84'.1.s, true_and]
  refine c_open hT o84' (by omega) ?_
  intro N3 e3 o3'
  simp (disch := omega) only [Option.toList_none, List.nil_append]
  rw [B_24_171]
  have e : Ex (fun a k => tC 26 a k ∨ (84 ≤ a ∧ a < 84 + 7)) N1 N3 := (e2.mono fun a k q => Or.inl q).trans (e3.mono fun a k q => Or.inr q)
  have nz : ∀ a k, 16 < a → a < 439 → ¬ (tC 26 a k ∨ (84 ≤ a ∧ a < 84 + 7)) → xI N3 a k = 0 := fun a k q1 q2 q3 => by rw [e.I q3]; exact h1.I a k q1 q2
  have g16 : ∀ k, xI N3 16 k = if k = 12 then -1 else 0 := fun k => by
    rw [e.I (by unfold tC; omega), h1.hg]
  have fr : Fr 16 M N3 := by
    intro b hb
    obtain ⟨q1, q2, q3, q4⟩ := h1.fr b hb
    refine ⟨?_, ?_, ?_, ?_⟩
    · show xS N3 b = _
      rw [e.S]; exact q1
    · show xI N3 b = _
      rw [e.row (fun k q => by unfold tC at q; omega)]; exact q2
    · show xJ N3 b = _
      rw [e.2.2.2.1]; exact q3
    · show xF N3 b = _
      rw [e.F]; exact q4
  refine hQ N3 (txtOf N2 26) ?_ ?_ fr ?_ ?_ tok n0 r0 s0 w0
  · have : N3.1 = N1.1 := e.1
    show N3.1.1 = 439
    rw [this]; exact h1.hz
  · have : N3.1 = N1.1 := e.1
    show N3.1.2 = 8811
    rw [this]; exact h1.hu
  · rw [e.2.2.2.1, h1.J 21 (by decide) (by decide)]
    rfl
  · refine ⟨c0.ex e, hT.ex e3 (by intro a k q; omega), t55.ex e, o3', o91.exR e (by intro a k q1 q2 q; unfold tC at q; omega), ⟨nz 17 1 (by omega) (by omega) (by unfold tC; omega), fun i hi => absurd hi (Nat.not_lt_zero _)⟩, g16 12, ⟨nz 120 2 (by omega) (by omega) (by unfold tC; omega), ⟨0, by omega, nz 120 1 (by omega) (by omega) (by unfold tC; omega), fun i hi => absurd hi (Nat.not_lt_zero _)⟩, fun i hi => (o40 i hi).exR e (by intro a k q1 q2 q; unfold tC at q; omega)⟩, ⟨g16 7, fun i _ G hG => ?_, fun i hi => (o3 i hi).exR e (by intro a k q1 q2 q; unfold tC at q; omega)⟩, nz 402 3 (by omega) (by omega) (by unfold tC; omega), fun i hi => absurd hi (Nat.not_lt_zero _)⟩
    have : (none : Option XO) = some G := hG
    cases this
