/-! stable: asking in whatever order -/
abbrev XST : Type := (Nat → Nat → Bool) × (Nat → Option Nat)
/-- a would rather have l than o -/
abbrev btr (tb : Nat → Nat → Int) (a l o : Nat) : Prop := tb o a < tb l a ∨ (tb l a = tb o a ∧ l < o)
/-- l would rather have b than a -/
abbrev prf (ra : Nat → Nat → Int) (l b a : Nat) : Prop := ra l a < ra l b ∨ (ra l a = ra l b ∧ b < a)
def sAsk (tb : Nat → Nat → Int) (s : XST) (l a : Nat) : XST := (fun x y => if x = l ∧ y = a then true else s.1 x y, fun y => if y = a then (match s.2 a with
  | none => some l
  | some o => if btr tb a l o then some l else some o) else s.2 y)
def Good (tb ra : Nat → Nat → Int) (n r : Nat) (s : XST) : Prop :=
  (∀ l a, s.1 l a = true → l < n ∧ a < r ∧ 0 < tb l a) ∧
  (∀ l a b, s.1 l a = true → b < r → 0 < tb l b → prf ra l b a → s.1 l b = true) ∧
  (∀ a, s.2 a = none → ∀ l, s.1 l a = false) ∧
  (∀ a o, s.2 a = some o → s.1 o a = true ∧ ∀ l, s.1 l a = true → l ≠ o → btr tb a o l) ∧
  ∀ a b l, s.2 a = some l → s.2 b = some l → a = b
def opn (tb : Nat → Nat → Int) (s : XST) (l a : Nat) : Bool := decide (0 < tb l a) && !s.1 l a
def nxt (tb ra : Nat → Nat → Int) (s : XST) (l : Nat) : Nat → Option Nat
  | 0 => none
  | i + 1 => if opn tb s l i = true then (match nxt tb ra s l i with
    | none => some i
    | some b => if ra l i ≤ ra l b then some b else some i) else nxt tb ra s l i
theorem nxt_s (tb ra : Nat → Nat → Int) (s : XST) (l i : Nat) : nxt tb ra s l (i + 1) = if opn tb s l i = true then (match nxt tb ra s l i with
    | none => some i
    | some b => if ra l i ≤ ra l b then some b else some i) else nxt tb ra s l i := rfl
theorem nxt_p (tb ra : Nat → Nat → Int) (s : XST) (l : Nat) : ∀ i, (nxt tb ra s l i = none ∧ ∀ a, a < i → opn tb s l a = false) ∨ ∃ b, nxt tb ra s l i = some b ∧ b < i ∧ opn tb s l b = true ∧ ∀ a, a < i → opn tb s l a = true → a ≠ b → prf ra l b a
  | 0 => Or.inl ⟨rfl, fun a ha => by omega⟩
  | i + 1 => by
    have ih := nxt_p tb ra s l i
    rw [nxt_s]
    by_cases ho : opn tb s l i = true
    · rw [if_pos ho]
      rcases ih with ⟨h1, h2⟩ | ⟨b, h1, h2, h3, h4⟩
      · rw [h1]
        refine Or.inr ⟨i, rfl, by omega, ho, fun a ha hoa hne => ?_⟩
        rw [h2 a (by omega)] at hoa; cases hoa
      · rw [h1]
        dsimp only
        by_cases hc : ra l i ≤ ra l b
        · rw [if_pos hc]
          refine Or.inr ⟨b, rfl, by omega, h3, fun a ha hoa hne => ?_⟩
          by_cases q : a = i
          · subst q
            unfold prf
            omega
          · exact h4 a (by omega) hoa hne
        · rw [if_neg hc]
          refine Or.inr ⟨i, rfl, by omega, ho, fun a ha hoa hne => ?_⟩
          by_cases q : a = b
          · subst q
            unfold prf
            omega
          · have := h4 a (by omega) hoa q
            unfold prf at this ⊢
            omega
    · rw [if_neg ho]
      rcases ih with ⟨h1, h2⟩ | ⟨b, h1, h2, h3, h4⟩
      · refine Or.inl ⟨h1, fun a ha => ?_⟩
        by_cases q : a = i
        · rw [q]; simpa using ho
        · exact h2 a (by omega)
      · refine Or.inr ⟨b, h1, by omega, h3, fun a ha hoa hne => ?_⟩
        by_cases q : a = i
        · rw [q] at hoa; exact absurd hoa ho
        · exact h4 a (by omega) hoa hne
section XSB
variable {tb ra : Nat → Nat → Int} {n r : Nat}
def fre (r : Nat) (s : XST) (l : Nat) : Prop := ∀ a, a < r → s.2 a ≠ some l
theorem good_kr {s : XST} (h : Good tb ra n r s) {a l : Nat} (hk : s.2 a = some l) : l < n ∧ a < r := by
  obtain ⟨h1, _, _, h4, _⟩ := h
  have := h1 l a (h4 a l hk).1
  exact ⟨this.1, this.2.1⟩
theorem good_ask {s : XST} (h : Good tb ra n r s) {l a : Nat} (hl : l < n) (hf : fre r s l) (hx : nxt tb ra s l r = some a) : Good tb ra n r (sAsk tb s l a) := by
  obtain ⟨b, x1, x2, x3, x4⟩ : ∃ b, nxt tb ra s l r = some b ∧ b < r ∧ opn tb s l b = true ∧ ∀ a, a < r → opn tb s l a = true → a ≠ b → prf ra l b a := by
    rcases nxt_p tb ra s l r with ⟨q, _⟩ | q
    · rw [q] at hx; cases hx
    · exact q
  rw [hx] at x1
  cases x1
  unfold opn at x3
  simp only [Bool.and_eq_true, decide_eq_true_eq, Bool.not_eq_true'] at x3
  obtain ⟨hta, hna⟩ := x3
  have kr := fun (y o : Nat) => good_kr h (a := y) (l := o)
  obtain ⟨h1, h2, h3, h4, h5⟩ := h
  have e1 : ∀ x y, (sAsk tb s l a).1 x y = if x = l ∧ y = a then true else s.1 x y := fun _ _ => rfl
  have e2 : ∀ y, y ≠ a → (sAsk tb s l a).2 y = s.2 y := fun y hy => if_neg hy
  have e3 : (sAsk tb s l a).2 a = match s.2 a with
    | none => some l
    | some o => if btr tb a l o then some l else some o := if_pos rfl
  refine ⟨?_, ?_, ?_, ?_, ?_⟩
  · intro x y hxy
    rw [e1] at hxy
    by_cases q : x = l ∧ y = a
    · rw [q.1, q.2]; exact ⟨hl, x2, hta⟩
    · rw [if_neg q] at hxy; exact h1 x y hxy
  · intro x y b hxy hb htb hp
    rw [e1] at hxy ⊢
    by_cases q2 : x = l ∧ b = a
    · rw [if_pos q2]
    · rw [if_neg q2]
      by_cases q : x = l ∧ y = a
      · obtain ⟨rfl, rfl⟩ := q
        cases hz : s.1 x b
        · have ob : opn tb s x b = true := by
            unfold opn
            rw [hz, decide_eq_true htb]; rfl
          have := x4 b hb ob (fun z => q2 ⟨rfl, z⟩)
          unfold prf at this hp
          omega
        · rfl
      · rw [if_neg q] at hxy
        exact h2 x y b hxy hb htb hp
  · intro y hy x
    by_cases q : y = a
    · rw [q, e3] at hy
      cases hz : s.2 a with
      | none => rw [hz] at hy; cases hy
      | some o =>
        rw [hz] at hy
        dsimp only at hy
        split at hy <;> cases hy
    · rw [e2 y q] at hy
      rw [e1, if_neg (fun z => q z.2)]
      exact h3 y hy x
  · intro y o hy
    by_cases q : y = a
    · subst q
      rw [e3] at hy
      cases hz : s.2 y with
      | none =>
        rw [hz] at hy
        cases hy
        refine ⟨by rw [e1, if_pos ⟨rfl, rfl⟩], fun x hx hne => ?_⟩
        rw [e1, if_neg (fun z => hne z.1), h3 y hz x] at hx
        cases hx
      | some o' =>
        rw [hz] at hy
        dsimp only at hy
        obtain ⟨k1, k2⟩ := h4 y o' hz
        have hol : o' ≠ l := fun z => by rw [z, hna] at k1; cases k1
        by_cases hb : btr tb y l o'
        · rw [if_pos hb] at hy
          cases hy
          refine ⟨by rw [e1, if_pos ⟨rfl, rfl⟩], fun x hx hne => ?_⟩
          rw [e1, if_neg (fun z => hne z.1)] at hx
          by_cases q : x = o'
          · rw [q]; exact hb
          · have := k2 x hx q
            unfold btr at this hb ⊢
            omega
        · rw [if_neg hb] at hy
          cases hy
          refine ⟨by rw [e1, if_neg (fun z => hol z.1)]; exact k1, fun x hx hne => ?_⟩
          rw [e1] at hx
          by_cases q : x = l
          · rw [q]
            unfold btr at hb ⊢
            omega
          · rw [if_neg (fun z => q z.1)] at hx
            exact k2 x hx hne
    · rw [e2 y q] at hy
      obtain ⟨k1, k2⟩ := h4 y o hy
      refine ⟨by rw [e1, if_neg (fun z => q z.2)]; exact k1, fun x hx hne => ?_⟩
      rw [e1, if_neg (fun z => q z.2)] at hx
      exact k2 x hx hne
  · intro y z o hy hz
    have key : ∀ y, (sAsk tb s l a).2 y = some o → (s.2 y = some o ∧ o ≠ l) ∨ (y = a ∧ o = l) := by
      intro y hy
      by_cases q : y = a
      · rw [q, e3] at hy
        cases hs : s.2 a with
        | none =>
          rw [hs] at hy
          cases hy
          exact Or.inr ⟨q, rfl⟩
        | some o' =>
          rw [hs] at hy
          dsimp only at hy
          split at hy
          · cases hy; exact Or.inr ⟨q, rfl⟩
          · cases hy
            refine Or.inl ⟨by rw [q]; exact hs, fun w => ?_⟩
            exact hf a x2 (by rw [hs, w])
      · rw [e2 y q] at hy
        refine Or.inl ⟨hy, fun w => ?_⟩
        exact hf y (kr y o hy).2 (by rw [hy, w])
    rcases key y hy with ⟨a1, a2⟩ | ⟨a1, a2⟩
    · rcases key z hz with ⟨b1, b2⟩ | ⟨b1, b2⟩
      · exact h5 y z o a1 b1
      · exact absurd b2 a2
    · rcases key z hz with ⟨b1, b2⟩ | ⟨b1, b2⟩
      · exact absurd a2 b2
      · rw [a1, b1]
/-- nobody has whom to ask -/
def Ends (tb : Nat → Nat → Int) (n r : Nat) (s : XST) : Prop := ∀ l, l < n → (∃ a, a < r ∧ s.2 a = some l) ∨ ∀ a, a < r → opn tb s l a = false
def subA (s s' : XST) : Prop := ∀ l a, s.1 l a = true → s'.1 l a = true
theorem ask_in {A B : XST} (hA : Good tb ra n r A) (hB : Good tb ra n r B) (fB : Ends tb n r B) (hs : subA A B) {l a : Nat} (hl : l < n) (hf : fre r A l) (hx : nxt tb ra A l r = some a) : B.1 l a = true := by
  obtain ⟨b, x1, x2, x3, x4⟩ : ∃ b, nxt tb ra A l r = some b ∧ b < r ∧ opn tb A l b = true ∧ ∀ a, a < r → opn tb A l a = true → a ≠ b → prf ra l b a := by
    rcases nxt_p tb ra A l r with ⟨q, _⟩ | q
    · rw [q] at hx; cases hx
    · exact q
  rw [hx] at x1
  cases x1
  unfold opn at x3
  simp only [Bool.and_eq_true, decide_eq_true_eq, Bool.not_eq_true'] at x3
  cases hz : B.1 l a
  · exfalso
    rcases fB l hl with ⟨y, y1, y2⟩ | h
    · have k1 := (hB.2.2.2.1 y l y2).1
      obtain ⟨_, _, ty⟩ := hB.1 l y k1
      have hy : A.1 l y = true := by
        cases hw : A.1 l y
        · have oy : opn tb A l y = true := by
            unfold opn
            rw [hw, decide_eq_true ty]; rfl
          by_cases q : y = a
          · rw [q, hz] at k1; cases k1
          · have hp := x4 y y1 oy q
            rw [hB.2.1 l y a k1 x2 x3.1 hp] at hz
            cases hz
        · rfl
      cases hk : A.2 y with
      | none => rw [hA.2.2.1 y hk l] at hy; cases hy
      | some o =>
        by_cases q : o = l
        · exact hf y y1 (by rw [hk, q])
        · obtain ⟨c1, c2⟩ := hA.2.2.2.1 y o hk
          have d1 := c2 l hy (fun z => q z.symm)
          have d2 := (hB.2.2.2.1 y l y2).2 o (hs o y c1) q
          unfold btr at d1 d2
          omega
    · have := h a x2
      unfold opn at this
      rw [hz, decide_eq_true x3.1] at this
      cases this
  · rfl
theorem ask_sub {A B : XST} (hA : Good tb ra n r A) (hB : Good tb ra n r B) (fB : Ends tb n r B) (hs : subA A B) {l a : Nat} (hl : l < n) (hf : fre r A l) (hx : nxt tb ra A l r = some a) : subA (sAsk tb A l a) B := by
  intro x y hxy
  have e1 : (sAsk tb A l a).1 x y = if x = l ∧ y = a then true else A.1 x y := rfl
  rw [e1] at hxy
  by_cases q : x = l ∧ y = a
  · rw [q.1, q.2]; exact ask_in hA hB fB hs hl hf hx
  · rw [if_neg q] at hxy; exact hs x y hxy
/-- least of all that end -/
def Least (tb ra : Nat → Nat → Int) (n r : Nat) (s : XST) : Prop := ∀ B, Good tb ra n r B → Ends tb n r B → subA s B
theorem same_kept {A B : XST} (hA : Good tb ra n r A) (hB : Good tb ra n r B) (h1 : subA A B) (h2 : subA B A) : A.2 = B.2 := by
  funext a
  cases ha : A.2 a with
  | none =>
    cases hb : B.2 a with
    | none => rfl
    | some o =>
      have := h2 o a (hB.2.2.2.1 a o hb).1
      rw [hA.2.2.1 a ha o] at this
      cases this
  | some o =>
    obtain ⟨a1, a2⟩ := hA.2.2.2.1 a o ha
    cases hb : B.2 a with
    | none =>
      have := h1 o a a1
      rw [hB.2.2.1 a hb o] at this
      cases this
    | some o' =>
      obtain ⟨b1, b2⟩ := hB.2.2.2.1 a o' hb
      by_cases q : o = o'
      · rw [q]
      · have d1 := a2 o' (h2 o' a b1) (fun z => q z.symm)
        have d2 := b2 o (h1 o a a1) q
        unfold btr at d1 d2
        omega
end XSB
def s0A : XST := (fun _ _ => false, fun _ => none)
theorem s0A_a (l a : Nat) : ¬ s0A.1 l a = true := fun h => by
  have : (false : Bool) = true := h
  cases this
theorem s0A_k (a o : Nat) : ¬ s0A.2 a = some o := fun h => by
  have : (none : Option Nat) = some o := h
  cases this
theorem good0 (tb ra : Nat → Nat → Int) (n r : Nat) : Good tb ra n r s0A :=
  ⟨fun l a h => absurd h (s0A_a l a), fun l a _ h => absurd h (s0A_a l a), fun _ _ _ => rfl, fun a o h => absurd h (s0A_k a o), fun a _ o h => absurd h (s0A_k a o)⟩
theorem least0 (tb ra : Nat → Nat → Int) (n r : Nat) : Least tb ra n r s0A := fun _ _ _ l a h => absurd h (s0A_a l a)
/-- how many pairs were asked -/
def nAsk (s : XST) (r : Nat) : Nat → Nat
  | 0 => 0
  | n + 1 => nAsk s r n + cnt (fun a => s.1 n a) r
theorem nAsk_s (s : XST) (r n : Nat) : nAsk s r (n + 1) = nAsk s r n + cnt (fun a => s.1 n a) r := rfl
theorem nAsk_le (s : XST) (r : Nat) : ∀ n, nAsk s r n ≤ n * r
  | 0 => Nat.zero_le _
  | n + 1 => by
    have := nAsk_le s r n
    have := cnt_le (fun a => s.1 n a) r
    rw [nAsk_s, Nat.succ_mul]
    omega
theorem nAsk_lt (s : XST) (r l a : Nat) (ha : a < r) (hf : s.1 l a = false) : ∀ n, l < n → nAsk s r n < n * r
  | 0, h => absurd h (by omega)
  | n + 1, h => by
    rw [nAsk_s, Nat.succ_mul]
    by_cases q : l = n
    · subst q
      have h1 := nAsk_le s r l
      have h2 := cnt_lt (p := fun a => s.1 l a) (q := fun _ => true) (j := a) rfl hf r ha (fun _ _ _ => rfl)
      rw [cnt_all (p := fun _ => true) r (fun _ _ => rfl)] at h2
      omega
    · have h1 := nAsk_lt s r l a ha hf n (by omega)
      have h2 := cnt_le (fun a => s.1 n a) r
      omega
theorem cnt_one {p q : Nat → Bool} {b : Nat} (hp : p b = false) (hq : q b = true) : ∀ n, b < n → (∀ i, i < n → i ≠ b → p i = q i) → cnt q n = cnt p n + 1
  | 0, h, _ => absurd h (by omega)
  | n + 1, h, he => by
    rw [cnt_s, cnt_s]
    by_cases z : b = n
    · subst z
      rw [hp, hq, cnt_congr (p := q) (q := p) b fun i hi => (he i (by omega) (by omega)).symm]
      simp
    · rw [cnt_one hp hq n (by omega) fun i hi hne => he i (by omega) hne, he n (by omega) (fun w => z w.symm)]
      omega
theorem nAsk_ask (tb : Nat → Nat → Int) (s : XST) {r l a : Nat} (ha : a < r) (hf : s.1 l a = false) : ∀ n, nAsk (sAsk tb s l a) r n = nAsk s r n + if l < n then 1 else 0
  | 0 => by rw [if_neg (by omega)]; rfl
  | n + 1 => by
    have e1 : ∀ x y, (sAsk tb s l a).1 x y = if x = l ∧ y = a then true else s.1 x y := fun _ _ => rfl
    rw [nAsk_s, nAsk_s, nAsk_ask tb s ha hf n]
    by_cases q : l = n
    · subst q
      rw [if_neg (by omega), if_pos (by omega)]
      have : cnt (fun a' => (sAsk tb s l a).1 l a') r = cnt (fun a' => s.1 l a') r + 1 := cnt_one (b := a) hf (by rw [e1, if_pos ⟨rfl, rfl⟩]) r ha fun i hi hne => by rw [e1, if_neg (fun z => hne z.2)]
      omega
    · have : cnt (fun a' => (sAsk tb s l a).1 n a') r = cnt (fun a' => s.1 n a') r := cnt_congr r fun i hi => by rw [e1, if_neg (fun z => q z.1.symm)]
      rw [this]
      by_cases z : l < n
      · rw [if_pos z, if_pos (by omega)]; omega
      · rw [if_neg z, if_neg (by omega)]; omega
/-- whom a letter has -/
def kpr (r : Nat) (s : XST) (l : Nat) : Nat := fstN (fun a => decide (s.2 a = some l)) r 0
theorem kpr_p (r : Nat) (s : XST) (l : Nat) : (kpr r s l = r ∧ fre r s l) ∨ (kpr r s l < r ∧ s.2 (kpr r s l) = some l) := by
  unfold kpr
  rcases fstN_p (fun a => decide (s.2 a = some l)) r 0 with ⟨h1, h2⟩ | ⟨_, h2, h3⟩
  · refine Or.inl ⟨by omega, fun a ha => ?_⟩
    have := h2 a (by omega) (by omega)
    rw [decide_eq_false_iff_not] at this
    exact this
  · refine Or.inr ⟨by omega, ?_⟩
    rw [decide_eq_true_eq] at h3
    exact h3
