/-! THE WORLD: what class and reference hold, told by one state -/
/-- text, office, tape, place, what can be undone (the latest first), slots, what is told -/
abbrev XS : Type := XT × XO × (Nat × (Nat → Int32)) × Int32 × (Nat × (Nat → XO)) × (Nat → Option XO) × (Nat × (Nat → Int32) × (Nat → Int32) × (Nat → Int32))
def zT (S : XS) : XT := S.1
def zF (S : XS) : XO := S.2.1
def zPn (S : XS) : Nat := S.2.2.1.1
def zP (S : XS) : Nat → Int32 := S.2.2.1.2
def zL (S : XS) : Int32 := S.2.2.2.1
def zHn (S : XS) : Nat := S.2.2.2.2.1.1
def zH (S : XS) : Nat → XO := S.2.2.2.2.1.2
def zS (S : XS) : Nat → Option XO := S.2.2.2.2.2.1
def zDn (S : XS) : Nat := S.2.2.2.2.2.2.1
def zD0 (S : XS) : Nat → Int32 := S.2.2.2.2.2.2.2.1
def zD1 (S : XS) : Nat → Int32 := S.2.2.2.2.2.2.2.2.1
def zD2 (S : XS) : Nat → Int32 := S.2.2.2.2.2.2.2.2.2
/-- an office that may hold anything -/
def OffC (M : XM) (o : Nat) : Prop := OffAt M o ∧ Ocl (offOf M o)
/-- the class's cells that never change -/
def CSh (M : XM) (t : Nat) : Prop :=
  ((t = 26 ∨ t = 55) ∧ xS M 16 = (11, 0) ∧ xF M 16 0 = 17 ∧ xF M 16 1 = 19 ∧ xF M 16 2 = t ∧ xF M 16 3 = 81 - t ∧ xF M 16 4 = 84 ∧ xF M 16 5 = 91 ∧ xF M 16 6 = 98 ∧ xF M 16 8 = 120 ∧ xF M 16 9 = 402 ∧ xF M 16 10 = 406 ∧ xF M 16 11 = 435) ∧
  (xS M 17 = (7, 0) ∧ xF M 17 0 = 18 ∧ xS M 18 = (41, 2000)) ∧
  (xS M 19 = (6, 0) ∧ xF M 19 0 = 20 ∧ xF M 19 1 = 22 ∧ xS M 20 = (9, 0) ∧ xF M 20 0 = 21 ∧ xS M 21 = (43, 21) ∧ xS M 22 = (4, 0) ∧ xF M 22 0 = 23 ∧ xS M 23 = (40, 20)) ∧
  (xS M 98 = (45, 3) ∧ ∀ i, i < 3 → xF M 98 i = 99 + 7 * i) ∧
  (xS M 120 = (2, 0) ∧ xF M 120 0 = 121 ∧ xS M 121 = (45, 40) ∧ ∀ i, i < 40 → xF M 121 i = 122 + 7 * i) ∧
  (xS M 402 = (10, 0) ∧ xF M 402 0 = 403 ∧ xF M 402 1 = 404 ∧ xF M 402 2 = 405 ∧ xS M 403 = (40, 20) ∧ xS M 404 = (40, 20) ∧ xS M 405 = (42, 20)) ∧
  ((xS M 406 = (1, 0) ∧ xF M 406 0 = 407 ∧ xF M 406 1 = 415 ∧ xF M 406 2 = 424 ∧ xF M 406 3 = 432 ∧ xF M 406 4 = 433 ∧ xF M 406 5 = 434 ∧ xS M 407 = (44, 7) ∧ xS M 415 = (44, 8) ∧ xS M 424 = (44, 7) ∧ xS M 432 = (40, 7) ∧ xS M 433 = (40, 6) ∧ xS M 434 = (40, 7)) ∧
   (∀ i, i < 7 → xF M 407 i = 408 + i ∧ xS M (408 + i) = (40, 6)) ∧ (∀ i, i < 8 → xF M 415 i = 416 + i ∧ xS M (416 + i) = (40, 64)) ∧ ∀ i, i < 7 → xF M 424 i = 425 + i ∧ xS M (425 + i) = (40, 6)) ∧
  (xS M 435 = (0, 0) ∧ xF M 435 0 = 436 ∧ xF M 435 1 = 437 ∧ xF M 435 2 = 438 ∧ xS M 436 = (40, 7) ∧ xS M 437 = (40, 7) ∧ xS M 438 = (40, 7))
def slb (f : Nat → Option XO) : Nat → Bool := fun i => (f i).isSome
/-- the class holds S; its words' codes are wc -/
def CW (M : XM) (t : Nat) (S : XS) : Prop :=
  CSh M t ∧ TxtAt M t (zT S) ∧ TxtSh M (81 - t) ∧ OffIs M 84 (zF S) ∧ OffC M 91 ∧
  (xI M 17 1 = nI (zPn S) ∧ ∀ i, i < zPn S → xI M 18 i = zP S i) ∧ xI M 16 12 = zL S ∧
  (xI M 120 2 = nI (zHn S) ∧ (∃ w, w < 40 ∧ xI M 120 1 = nI w ∧ ∀ i, i < zHn S → OffIs M (122 + 7 * ((w + 40 - i) % 40)) (zH S i)) ∧ ∀ i, i < 40 → OffC M (122 + 7 * i)) ∧
  (xI M 16 7 = nI (bn (slb (zS S)) 3) ∧ (∀ i, i < 3 → ∀ G, zS S i = some G → OffIs M (99 + 7 * i) G) ∧ ∀ i, i < 3 → OffC M (99 + 7 * i)) ∧
  (xI M 402 3 = nI (zDn S) ∧ ∀ i, i < zDn S → xI M 403 i = zD0 S i ∧ xI M 404 i = zD1 S i ∧ xI M 405 i = zD2 S i)
/-- the reference holds S -/
def RWd (M : XM) (lv : Nat) (S : XS) : Prop :=
  RW M lv (zT S) ∧ RowIs (zT S) (xI M 472) (zF S) ∧
  (xI M 439 2 = nI (zPn S) ∧ ∀ i, i < zPn S → xI M 440 i = zP S i) ∧ xI M 439 17 = zL S ∧
  (xI M 439 55 = nI (zHn S) ∧ ∀ i, i < zHn S → RowIs (zT S) (fun k => xI M 475 (34 * (zHn S - 1 - i) + k)) (zH S i)) ∧
  (∀ i, i < 3 → xI M 484 i = (if slb (zS S) i = true then 1 else 0) ∧ ∀ G, zS S i = some G → RowIs (zT S) (fun k => xI M 485 (34 * i + k)) G) ∧
  (xI M 439 62 = nI (zDn S) ∧ ∀ i, i < zDn S → xI M 481 i = zD0 S i ∧ xI M 482 i = zD1 S i ∧ xI M 483 i = zD2 S i)
/-- what holds of all states; days below B -/
def SInv (B : Nat) (S : XS) : Prop :=
  TOk (zT S) ∧ OInv (zT S) (zF S) ∧ DB B (zF S) ∧ zPn S ≤ 2000 ∧ zHn S ≤ 40 ∧ (∀ i, i < zHn S → OInv (zT S) (zH S i) ∧ DB B (zH S i)) ∧ (∀ i, i < 3 → ∀ G, zS S i = some G → OInv (zT S) G ∧ DB B G) ∧
  zDn S ≤ 20 ∧ ∀ i, i < zDn S → (∃ m, m < 3 ∧ zD0 S i = nI m) ∧ (∃ v, v < 10 ∧ zD1 S i = nI v) ∧ (zD2 S i = 0 ∨ zD2 S i = 1)
theorem CSh.ex {M M' : XM} {t : Nat} {P : Nat → Nat → Prop} (h : CSh M t) (e : Ex P M M') : CSh M' t := by
  unfold CSh
  rw [e.S, e.F]
  exact h
theorem OffIs.exR {M M' : XM} {o : Nat} {F : XO} {P : Nat → Nat → Prop} (h : OffIs M o F) (e : Ex P M M') (hp : ∀ a k, o ≤ a → a < o + 7 → ¬ P a k) : OffIs M' o F := h.ex e fun a k q => by
  by_cases h1 : o ≤ a
  · by_cases h2 : a < o + 7
    · exact absurd q (hp a k h1 h2)
    · exact Or.inr (by omega)
  · exact Or.inl (by omega)
theorem OffC.exR {M M' : XM} {o : Nat} {P : Nat → Nat → Prop} (h : OffC M o) (e : Ex P M M') (hp : ∀ a k, o ≤ a → a < o + 7 → ¬ P a k) : OffC M' o := by
  have h1 : OffIs M o (offOf M o) := ⟨h.1, rfl⟩
  have h2 := h1.exR e hp
  refine ⟨h2.1, ?_⟩
  rw [h2.2]
  exact h.2
theorem OffIs.c {M : XM} {o : Nat} {F : XO} (h : OffIs M o F) (c : Ocl F) : OffC M o := ⟨h.1, by rw [h.2]; exact c⟩
theorem OffC.is {M : XM} {o : Nat} (h : OffC M o) : ∃ G, OffIs M o G ∧ Ocl G := ⟨_, ⟨h.1, rfl⟩, h.2⟩
/-- what the class may write without changing S -/
def cS (t : Nat) : Nat → Nat → Prop := fun a k => a < 16 ∨ a = t + 19 ∨ a = t + 20 ∨ (a = 406 ∧ k = 6) ∨ (408 ≤ a ∧ a ≤ 434) ∨ (a = 435 ∧ k = 3) ∨ (436 ≤ a)
/-- .. and the office ahead -/
def cA (t : Nat) : Nat → Nat → Prop := fun a k => (91 ≤ a ∧ a < 98) ∨ cS t a k
theorem CW.exA {M M' : XM} {t : Nat} {S : XS} {P : Nat → Nat → Prop} (h : CW M t S) (e : Ex P M M') (hp : ∀ a k, P a k → cA t a k) (hA : OffC M' 91) : CW M' t S := by
  obtain ⟨h1, h2, h3, h4, h5, h6, h7, h8, h9, h10⟩ := h
  have ht : t = 26 ∨ t = 55 := h1.1.1
  have hq : ∀ a k, ¬ cA t a k → xI M' a k = xI M a k := fun a k q => e.I fun z => q (hp a k z)
  have e' : Ex (cA t) M M' := e.mono hp
  have n1 : ∀ o, (o = 84 ∨ (98 ≤ o ∧ o + 7 ≤ 402)) → ∀ a k, o ≤ a → a < o + 7 → ¬ cA t a k := by
    intro o ho a k h1 h2 q
    unfold cA cS at q
    omega
  have r18 : xI M' 18 = xI M 18 := e'.row fun k q => by unfold cA cS at q; omega
  have r403 : xI M' 403 = xI M 403 := e'.row fun k q => by unfold cA cS at q; omega
  have r404 : xI M' 404 = xI M 404 := e'.row fun k q => by unfold cA cS at q; omega
  have r405 : xI M' 405 = xI M 405 := e'.row fun k q => by unfold cA cS at q; omega
  have r120 : xI M' 120 = xI M 120 := e'.row fun k q => by unfold cA cS at q; omega
  have r402 : xI M' 402 = xI M 402 := e'.row fun k q => by unfold cA cS at q; omega
  have r16 : xI M' 16 = xI M 16 := e'.row fun k q => by unfold cA cS at q; omega
  have r17 : xI M' 17 = xI M 17 := e'.row fun k q => by unfold cA cS at q; omega
  refine ⟨h1.ex e, h2.ex e' ?_, h3.ex e, h4.exR e' (n1 84 (by omega)), hA, ?_, ?_, ?_, ?_, ?_⟩
  · intro a k q
    unfold cA cS at q
    omega
  · rw [r17, r18]; exact h6
  · rw [r16]; exact h7
  · rw [r120]
    obtain ⟨w, q1, q2, q3⟩ := h8.2.1
    refine ⟨h8.1, ⟨w, q1, q2, fun i hi => (q3 i hi).exR e' (n1 _ (by omega))⟩, fun i hi => (h8.2.2 i hi).exR e' (n1 _ (by omega))⟩
  · rw [r16]
    exact ⟨h9.1, fun i hi G hG => (h9.2.1 i hi G hG).exR e' (n1 _ (by omega)), fun i hi => (h9.2.2 i hi).exR e' (n1 _ (by omega))⟩
  · rw [r402, r403, r404, r405]; exact h10
theorem CW.ex {M M' : XM} {t : Nat} {S : XS} {P : Nat → Nat → Prop} (h : CW M t S) (e : Ex P M M') (hp : ∀ a k, P a k → cS t a k) : CW M' t S := by
  refine h.exA e (fun a k q => Or.inr (hp a k q)) (h.2.2.2.2.1.exR e fun a k h1 h2 q => ?_)
  have ht : t = 26 ∨ t = 55 := h.1.1.1
  have := hp a k q
  unfold cS at this
  omega
/-- what the reference may write without changing S -/
def rS : Nat → Nat → Prop := fun a k => a < 439 ∨ rL a k ∨ a = 473 ∨ a = 474 ∨ (a = 439 ∧ (k = 52 ∨ k = 53)) ∨ (476 ≤ a ∧ a ≤ 480)
theorem RWd.ex {M M' : XM} {lv : Nat} {S : XS} {P : Nat → Nat → Prop} (h : RWd M lv S) (e : Ex P M M') (hp : ∀ a k, P a k → rS a k) : RWd M' lv S := by
  obtain ⟨h1, h2, h3, h4, h5, h6, h7⟩ := h
  have e' : Ex rS M M' := e.mono hp
  have hk : ∀ k, (k = 2 ∨ k = 17 ∨ k = 55 ∨ k = 62) → xI M' 439 k = xI M 439 k := fun k q => e'.I fun z => by unfold rS rL at z; omega
  have hr : ∀ a, (a = 440 ∨ a = 472 ∨ a = 475 ∨ (481 ≤ a)) → xI M' a = xI M a := fun a q => e'.row fun k z => by unfold rS rL at z; omega
  refine ⟨h1.ex e' ?_, ?_, ?_, ?_, ?_, ?_, ?_⟩
  · intro a k q
    unfold rS rL at q
    unfold rNT
    omega
  · rw [hr 472 (by omega)]; exact h2
  · rw [hk 2 (by omega), hr 440 (by omega)]; exact h3
  · rw [hk 17 (by omega)]; exact h4
  · rw [hk 55 (by omega), hr 475 (by omega)]; exact h5
  · rw [hr 484 (by omega), hr 485 (by omega)]; exact h6
  · rw [hk 62 (by omega), hr 481 (by omega), hr 482 (by omega), hr 483 (by omega)]; exact h7
theorem xbits_free {F : XO} {n : Nat} : xbits (oS F) (-2) n = xbits (oS F) (-2) n := rfl
section XCW
variable {M : XM} {t : Nat} {S : XS}
theorem CW.t2 (h : CW M t S) : t = 26 ∨ t = 55 := h.1.1.1
theorem CW.d (h : CW M t S) : xS M 16 = (11, 0) ∧ xF M 16 0 = 17 ∧ xF M 16 1 = 19 ∧ xF M 16 2 = t ∧ xF M 16 3 = 81 - t ∧ xF M 16 4 = 84 ∧ xF M 16 5 = 91 ∧ xF M 16 6 = 98 ∧ xF M 16 8 = 120 ∧ xF M 16 9 = 402 ∧ xF M 16 10 = 406 ∧ xF M 16 11 = 435 := h.1.1.2
theorem CW.tx (h : CW M t S) : TxtAt M t (zT S) := h.2.1
theorem CW.of (h : CW M t S) : OffIs M 84 (zF S) := h.2.2.2.1
theorem CW.ah (h : CW M t S) : OffC M 91 := h.2.2.2.2.1
theorem CW.sep (h : CW M t S) : 84 + 7 ≤ t ∨ t + 29 ≤ 84 := by have := h.t2; omega
theorem CW.sepA (h : CW M t S) : 91 + 7 ≤ t ∨ t + 29 ≤ 91 := by have := h.t2; omega
end XCW
