/-! what is owed, but for read -/
def PKx (J : Nat → Nat → Int64) : Prop := (∀ i, i < 21 → J 21 i = cwF i 8) ∧ ∀ i, i < 21 → J 446 i = kL.getD i 0
/-- read, as the law calls it -/
def OweRead (L : Nat) (xs : Nat → Int32) : Prop := ∀ (Q : Option Value → XM → Prop) (M : XM) (k : Nat), 6 * k + 6 ≤ L → LG PKx L xs (60 * k) M → (∀ M' : XM, LG PKx L xs (60 * (k + 1)) M' → RG xprog 293 18 [some (.ref 1), some (.ref 16), some (.ref 439), some (.int (nI (6 * k + 6)))] [] M' Q) →
      RG xprog 83 0 [some (.ref 16), none] [] M (fun v M' => RG xprog 293 290 [some (.ref 1), some (.ref 16), some (.ref 439), some (.int (nI (6 * k)))] (v.toList ++ []) M' Q)
theorem x_owed0 (L : Nat) (xs : Nat → Int32) (hL : L ≤ 3072) (hr : OweRead L xs) : xOwed L xs := by
  unfold xOwed
  have z0 : xZ (xM0 L xs) = 16 := rfl
  have u0 : xU (xM0 L xs) = 0 := rfl
  have st : StrAt (xM0 L xs) 5 6 168 xb19 := ⟨rfl, rfl, rfl, rfl, fun k _ => rfl⟩
  have h0 := ni_start (xM0 L xs) 11 0 13
  rw [z0, u0] at h0
  have s0 : xS (xnew (xM0 L xs) 11 0 13) 16 = (11, 0) := h0.Sz
  rw [B_293_0, z0, B_293_3, s0]
  refine ⟨⟨rfl, by decide⟩, ?_⟩
  refine c_new h0 st ?_
  intro M1 T z1 u1 f1 j1 c1 tok n0 r0 t0 w0
  simp (disch := omega) only [Option.toList_none, List.nil_append]
  rw [B_293_7, z1]
  have s1 : xS (xnew M1 12 0 68) 439 = (12, 0) := by rw [xS_new, z1]; rfl
  rw [B_293_11, s1]
  refine ⟨⟨rfl, by decide⟩, ?_⟩
  refine r_new z1 u1 tok n0 r0 t0 w0 ?_
  intro M2 z2 u2 f2 j2 r2
  simp (disch := omega) only [Option.toList_none, List.nil_append]
  rw [B_293_15]
  have c2 : CW M2 26 (S0of T) := c1.fr f2
  have lo : ∀ b, b < 16 → xS M2 b = xsh0 L b ∧ xI M2 b = xmi0 xs b ∧ xF M2 b = xmr0 b := by
    intro b hb
    rw [f2.S (show b < 439 by omega), f2.I (show b < 439 by omega), f2.F (show b < 439 by omega), f1.S hb, f1.I hb, f1.F hb]
    exact ⟨rfl, rfl, rfl⟩
  have l2 : LG PKx L xs (60 * 0) M2 := by
    refine ⟨⟨(lo 1 (by decide)).1, fun j => by rw [(lo 1 (by decide)).2.1]; rfl, ?_, ?_, lo⟩, ⟨fun i hi => ?_, j2⟩, 26, 0, S0of T, c2, r2, s0_inv tok⟩
    · have : M2.1.1 = 486 := z2
      omega
    · have : M2.1.2 = 20270 := u2
      omega
    · rw [f2.J (show 21 < 439 by decide), j1]
      exact if_pos hi
  exact law_loop hL (fun M k h1 h2 h3 => hr _ M k h1 h2 h3) (fun M h1 h2 => ⟨rfl, h1, h2⟩) 513 0 M2 (by omega) l2
