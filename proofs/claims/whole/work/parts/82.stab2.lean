/-! stable: the class -/
section XSC
variable {tb ra : Nat → Nat → Int} {n r : Nat}
theorem nxt_some {s : XST} {l a : Nat} (hx : nxt tb ra s l r = some a) : a < r ∧ opn tb s l a = true := by
  rcases nxt_p tb ra s l r with ⟨q, _⟩ | ⟨b, q1, q2, q3, _⟩
  · rw [q] at hx; cases hx
  · rw [hx] at q1; cases q1; exact ⟨q2, q3⟩
theorem nxt_none {s : XST} {l : Nat} (hx : nxt tb ra s l r = none) : ∀ a, a < r → opn tb s l a = false := by
  rcases nxt_p tb ra s l r with ⟨_, q⟩ | ⟨b, q1, _⟩
  · exact q
  · rw [hx] at q1; cases q1
theorem opn_asked {s : XST} {l a : Nat} (h : s.1 l a = true) : opn tb s l a = false := by unfold opn; rw [h, Bool.not_true, Bool.and_false]
theorem opn_not {s : XST} {l a : Nat} (h : opn tb s l a = true) : s.1 l a = false := by
  cases q : s.1 l a
  · rfl
  · rw [opn_asked q] at h; cases h
theorem least_ask {s : XST} (hA : Good tb ra n r s) (hL : Least tb ra n r s) {l a : Nat} (hl : l < n) (hf : fre r s l) (hx : nxt tb ra s l r = some a) : Least tb ra n r (sAsk tb s l a) := fun B hB fB => ask_sub hA hB fB (hL B hB fB) hl hf hx
theorem fin_all {s : XST} (h : n * r ≤ nAsk s r n) : Ends tb n r s := fun l hl => Or.inr fun a ha => by
  cases q : s.1 l a
  · have := nAsk_lt s r l a ha q n hl
    omega
  · exact opn_asked q
theorem nAsk_1 {s : XST} {l a : Nat} (hl : l < n) (hx : nxt tb ra s l r = some a) : nAsk (sAsk tb s l a) r n = nAsk s r n + 1 := by
  obtain ⟨h1, h2⟩ := nxt_some hx
  rw [nAsk_ask tb s h1 (opn_not h2) n, if_pos hl]
theorem stab_ex : ∀ k (s : XST), Good tb ra n r s → Least tb ra n r s → n * r ≤ nAsk s r n + k → ∃ s', Good tb ra n r s' ∧ Least tb ra n r s' ∧ Ends tb n r s'
  | 0, s, h1, h2, h3 => ⟨s, h1, h2, fin_all h3⟩
  | k + 1, s, h1, h2, h3 => by
    by_cases hF : Ends tb n r s
    · exact ⟨s, h1, h2, hF⟩
    · obtain ⟨l, hl, hn⟩ : ∃ l, l < n ∧ ¬ ((∃ a, a < r ∧ s.2 a = some l) ∨ ∀ a, a < r → opn tb s l a = false) := by
        apply Classical.byContradiction
        intro hc
        apply hF
        intro l hl
        apply Classical.byContradiction
        intro hd
        exact hc ⟨l, hl, hd⟩
      have hf : fre r s l := fun a ha hk => hn (Or.inl ⟨a, ha, hk⟩)
      cases hx : nxt tb ra s l r with
      | none => exact absurd (Or.inr (nxt_none hx)) hn
      | some a => exact stab_ex k _ (good_ask h1 hl hf hx) (least_ask h1 h2 hl hf hx) (by rw [nAsk_1 hl hx]; omega)
/-- whom each letter has -/
def WHs (r n : Nat) (w : Nat → Int32) (s : XST) : Prop := ∀ l, l < n → (∀ a, a < r → s.2 a = some l → w l = nI a) ∧ (fre r s l → w l = -2)
theorem wh_none {s : XST} {w w' : Nat → Int32} {l a : Nat} (ha : a < r) (hk : s.2 a = none) (h : WHs r n w s) (h1 : w' l = nI a) (h2 : ∀ x, x ≠ l → w' x = w x) (hf : fre r s l) : WHs r n w' (sAsk tb s l a) := by
  have e2 : ∀ y, y ≠ a → (sAsk tb s l a).2 y = s.2 y := fun y hy => if_neg hy
  have e3 : (sAsk tb s l a).2 a = some l := (if_pos rfl : (sAsk tb s l a).2 a = _).trans (by rw [hk])
  intro x hx
  by_cases q : x = l
  · subst q
    refine ⟨fun y hy hk2 => ?_, fun hf2 => absurd e3 (hf2 a ha)⟩
    by_cases z : y = a
    · rw [z]; exact h1
    · rw [e2 y z] at hk2; exact absurd hk2 (hf y hy)
  · rw [h2 x q]
    refine ⟨fun y hy hk2 => ?_, fun hf2 => (h x hx).2 fun y hy hk2 => ?_⟩
    · by_cases z : y = a
      · rw [z, e3] at hk2; cases hk2; exact absurd rfl q
      · rw [e2 y z] at hk2; exact (h x hx).1 y hy hk2
    · by_cases z : y = a
      · rw [z, hk] at hk2; cases hk2
      · exact hf2 y hy (by rw [e2 y z]; exact hk2)
theorem wh_more {s : XST} {w w' : Nat → Int32} {l a o : Nat} (hg : Good tb ra n r s) (ha : a < r) (hk : s.2 a = some o) (hb : btr tb a l o) (h : WHs r n w s) (h0 : w' o = -2) (h1 : w' l = nI a) (h2 : ∀ x, x ≠ l → x ≠ o → w' x = w x) (hf : fre r s l) : WHs r n w' (sAsk tb s l a) := by
  have e2 : ∀ y, y ≠ a → (sAsk tb s l a).2 y = s.2 y := fun y hy => if_neg hy
  have e3 : (sAsk tb s l a).2 a = some l := (if_pos rfl : (sAsk tb s l a).2 a = _).trans (by rw [hk]; exact if_pos hb)
  have hol : o ≠ l := fun z => hf a ha (by rw [hk, z])
  intro x hx
  by_cases q : x = l
  · subst q
    refine ⟨fun y hy hk2 => ?_, fun hf2 => absurd e3 (hf2 a ha)⟩
    by_cases z : y = a
    · rw [z]; exact h1
    · rw [e2 y z] at hk2; exact absurd hk2 (hf y hy)
  · by_cases q2 : x = o
    · subst q2
      refine ⟨fun y hy hk2 => ?_, fun _ => h0⟩
      by_cases z : y = a
      · rw [z, e3] at hk2; cases hk2; exact absurd rfl q
      · rw [e2 y z] at hk2
        exact absurd (hg.2.2.2.2 y a x hk2 hk) z
    · rw [h2 x q q2]
      refine ⟨fun y hy hk2 => ?_, fun hf2 => (h x hx).2 fun y hy hk2 => ?_⟩
      · by_cases z : y = a
        · rw [z, e3] at hk2; cases hk2; exact absurd rfl q
        · rw [e2 y z] at hk2; exact (h x hx).1 y hy hk2
      · by_cases z : y = a
        · rw [z, hk] at hk2; cases hk2; exact absurd rfl q2
        · exact hf2 y hy (by rw [e2 y z]; exact hk2)
theorem ask_less {s : XST} {l a o : Nat} (hk : s.2 a = some o) (hb : ¬ btr tb a l o) : (sAsk tb s l a).2 = s.2 := by
  funext y
  show (if y = a then _ else s.2 y) = s.2 y
  by_cases q : y = a
  · rw [if_pos q, q, hk]; exact if_neg hb
  · rw [if_neg q]
theorem wh_same {s s' : XST} {w : Nat → Int32} (h : WHs r n w s) (e : s'.2 = s.2) : WHs r n w s' := by
  unfold WHs fre at *
  rw [e]
  exact h
end XSC
def tbF (T : XT) (F : XO) (l a : Nat) : Int := (tab T F l a).toInt
def raF (T : XT) (F : XO) (l a : Nat) : Int := (rav T F l a).toInt
abbrev GoodF (T : XT) (F : XO) (s : XST) : Prop := Good (tbF T F) (raF T F) (tN T) (tR T) s
abbrev LeastF (T : XT) (F : XO) (s : XST) : Prop := Least (tbF T F) (raF T F) (tN T) (tR T) s
abbrev FinF (T : XT) (F : XO) (s : XST) : Prop := Ends (tbF T F) (tN T) (tR T) s
theorem stS_ex (T : XT) (F : XO) : ∃ s, GoodF T F s ∧ LeastF T F s ∧ FinF T F s := stab_ex (tN T * tR T) s0A (good0 _ _ _ _) (least0 _ _ _ _) (Nat.le_add_left _ _)
noncomputable def stS (T : XT) (F : XO) : XST := Classical.choose (stS_ex T F)
theorem stS_uni {T : XT} {F : XO} {s : XST} (h1 : GoodF T F s) (h2 : LeastF T F s) (h3 : FinF T F s) : s.2 = (stS T F).2 := by
  obtain ⟨g1, g2, g3⟩ := Classical.choose_spec (stS_ex T F)
  exact same_kept h1 g1 (h2 _ g1 g3) (g2 _ h1 h3)
noncomputable def stV (T : XT) (F : XO) (l : Nat) : Int32 := if kpr (tR T) (stS T F) l < tR T then nI (kpr (tR T) (stS T F) l) else -2
theorem stV_eq {T : XT} {F : XO} {s : XST} {w : Nat → Int32} {l : Nat} (h1 : GoodF T F s) (h2 : LeastF T F s) (h3 : FinF T F s) (hw : WHs (tR T) (tN T) w s) (hl : l < tN T) : w l = stV T F l := by
  have e := stS_uni h1 h2 h3
  obtain ⟨w1, w2⟩ := wh_same hw e.symm l hl
  unfold stV
  rcases kpr_p (tR T) (stS T F) l with ⟨k1, k2⟩ | ⟨k1, k2⟩
  · rw [if_neg (by omega)]
    exact w2 k2
  · rw [if_pos k1]
    exact w1 _ k1 k2
noncomputable def A_stable (S : XS) (x : Int32) : Int32 := if isLb (tN (zT S)) x then stV (zT S) (zF S) (cN x) else -1
theorem tab_pos (T : XT) (F : XO) (l a : Nat) : tab T F l a ≤ 0 ↔ ¬ 0 < tbF T F l a := by
  unfold tbF
  rw [Int32.le_iff_toInt_le, show (0 : Int32).toInt = 0 from rfl]
  omega
