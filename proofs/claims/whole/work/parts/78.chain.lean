/-! chain: the longest rows -/
def mst (p : Nat → Nat → Bool) (l o : Nat) (h : Nat → Nat) : Nat → Nat := if p o l = true ∧ h l ≤ h o then xone h l (h o + 1) else h
def mrl (p : Nat → Nat → Bool) (n l : Nat) (h : Nat → Nat) : Nat → Nat := iter (mst p l) n h
def mr (p : Nat → Nat → Bool) (n : Nat) (h : Nat → Nat) : Nat → Nat := iter (mrl p n) n h
section XCH
variable {p : Nat → Nat → Bool} {d : Nat → Nat} {n : Nat}
/-- nothing that answers a letter of X is as long as it -/
def Jx (p : Nat → Nat → Bool) (n : Nat) (X : Nat → Prop) (h : Nat → Nat) : Prop := ∀ l, l < n → X l → ∀ o, o < n → p o l = true → h o < h l
theorem Jx_step {X : Nat → Prop} (hX : ∀ l o, l < n → o < n → X l → p o l = true → X o) {h : Nat → Nat} (hj : Jx p n X h) {l o : Nat} (hl : l < n) (ho : o < n) : Jx p n X (mst p l o h) := by
  unfold mst
  split
  · rename_i hc
    intro l' hl' hx o' ho' hp
    have hne : l' ≠ l := fun z => by
      subst z
      have := hj l' hl' hx o ho hc.1
      omega
    have hne2 : o' ≠ l := fun z => by
      subst z
      have := hj o' ho' (hX l' o' hl' ho' hx hp) o ho hc.1
      omega
    rw [xo_at, xo_at, if_neg hne, if_neg hne2]
    exact hj l' hl' hx o' ho' hp
  · exact hj
theorem Jx_row {X : Nat → Prop} (hX : ∀ l o, l < n → o < n → X l → p o l = true → X o) {h : Nat → Nat} (hj : Jx p n X h) {l : Nat} (hl : l < n) (hlo : ∀ o, o < n → p o l = true → X o) (hir : p l l = false) : Jx p n (fun x => X x ∨ x = l) (mrl p n l h) := by
  have key := iter_inv (fun i g => Jx p n X g ∧ (∀ x, x ≠ l → g x = h x) ∧ ∀ o, o < i → p o l = true → g o < g l) (mst p l) h n ⟨hj, fun _ _ => rfl, fun o ho => by omega⟩ (by
    intro i g hi ⟨g1, g2, g3⟩
    refine ⟨Jx_step hX g1 hl hi, ?_, ?_⟩
    · intro x hx
      unfold mst
      split
      · rw [xo_at, if_neg hx]; exact g2 x hx
      · exact g2 x hx
    · intro o ho hp
      have hol : o ≠ l := fun z => by rw [z, hir] at hp; cases hp
      unfold mst
      by_cases hc : p i l = true ∧ g l ≤ g i
      · rw [if_pos hc, xo_at, xo_at, if_pos rfl, if_neg hol]
        by_cases q : o = i
        · rw [q]; omega
        · have := g3 o (by omega) hp
          omega
      · rw [if_neg hc]
        by_cases q : o = i
        · subst q
          have : ¬ g l ≤ g o := fun z => hc ⟨hp, z⟩
          omega
        · exact g3 o (by omega) hp)
  obtain ⟨k1, _, k3⟩ := key
  intro l' hl' hx o' ho' hp
  rcases hx with q | q
  · exact k1 l' hl' q o' ho' hp
  · subst q
    exact k3 o' ho' hp
theorem mr_J (hd : ∀ l o, l < n → o < n → p o l = true → d o < d l) : ∀ k (h : Nat → Nat), Jx p n (fun l => d l < k) h → Jx p n (fun l => d l < k + 1) (mr p n h) := by
  intro k h hj
  have hir : ∀ l, l < n → p l l = false := fun l hl => by
    cases hz : p l l
    · rfl
    · have := hd l l hl hl hz; omega
  have key := iter_inv (fun i g => Jx p n (fun l => d l < k ∨ (l < i ∧ d l = k)) g) (mrl p n) h n (fun l hl hx => hj l hl (by rcases hx with q | q <;> omega)) (by
    intro i g hi hg
    by_cases hk : d i = k
    · have := Jx_row (p := p) (n := n) (X := fun l => d l < k ∨ (l < i ∧ d l = k)) (fun l o hl ho hx hp => by
        have := hd l o hl ho hp
        omega) hg hi (fun o ho hp => by
        have := hd i o hi ho hp
        omega) (hir i hi)
      intro l hl hx
      refine this l hl ?_
      rcases hx with q | q
      · exact Or.inl (Or.inl q)
      · by_cases z : l = i
        · exact Or.inr z
        · exact Or.inl (Or.inr ⟨by omega, q.2⟩)
    · have : Jx p n (fun l => d l < k ∨ (l < i ∧ d l = k)) (mrl p n i g) := iter_inv (fun _ g => Jx p n (fun l => d l < k ∨ (l < i ∧ d l = k)) g) (mst p i) g n hg fun o g ho hg => Jx_step (fun l o hl ho hx hp => by
        have := hd l o hl ho hp
        omega) hg hi ho
      intro l hl hx
      refine this l hl ?_
      rcases hx with q | q
      · exact Or.inl q
      · refine Or.inr ⟨?_, q.2⟩
        rcases Nat.lt_or_ge l i with z | z
        · exact z
        · have : l = i := by omega
          subst this
          exact absurd q.2 hk)
  intro l hl hx
  exact key l hl (by
    rcases Nat.lt_or_ge (d l) k with z | z
    · exact Or.inl z
    · exact Or.inr ⟨hl, by omega⟩)
theorem mr_Jn (hd : ∀ l o, l < n → o < n → p o l = true → d o < d l) (h : Nat → Nat) : ∀ k, Jx p n (fun l => d l < k) (iter (fun _ g => mr p n g) k h)
  | 0 => fun l _ hx => absurd hx (by omega)
  | k + 1 => mr_J hd k _ (mr_Jn hd h k)
theorem mr_fix {h : Nat → Nat} (hj : Jx p n (fun _ => True) h) : mr p n h = h := by
  have st : ∀ l o, l < n → o < n → mst p l o h = h := by
    intro l o hl ho
    unfold mst
    rw [if_neg]
    intro hc
    have := hj l hl trivial o ho hc.1
    omega
  have row : ∀ l, l < n → ∀ k, k ≤ n → iter (mst p l) k h = h := by
    intro l hl k
    induction k with
    | zero => intro _; rfl
    | succ k ih => intro hk; rw [iter_s, ih (by omega), st l k hl (by omega)]
  have all : ∀ k, k ≤ n → iter (mrl p n) k h = h := by
    intro k
    induction k with
    | zero => intro _; rfl
    | succ k ih => intro hk; rw [iter_s, ih (by omega)]; exact row k (by omega) n (Nat.le_refl _)
  exact all n (Nat.le_refl _)
theorem mr_more (hd : ∀ l o, l < n → o < n → p o l = true → d o < d l) (hdn : ∀ l, l < n → d l < n) (h : Nat → Nat) : ∀ j, iter (fun _ g => mr p n g) (n + j) h = iter (fun _ g => mr p n g) n h
  | 0 => rfl
  | j + 1 => by
    have e : iter (fun _ g => mr p n g) (n + (j + 1)) h = mr p n (iter (fun _ g => mr p n g) (n + j) h) := rfl
    rw [e, mr_more hd hdn h j]
    exact mr_fix fun l hl _ o ho hp => mr_Jn hd h n l hl (hdn l hl) o ho hp
/-- what holds all the while: a height has its ground; none is too great -/
def Wt (p : Nat → Nat → Bool) (d : Nat → Nat) (n : Nat) (h : Nat → Nat) : Prop := (∀ l, l < n → h l ≤ 1 ∨ ∃ o, o < n ∧ p o l = true ∧ h l ≤ h o + 1) ∧ (∀ l, l < n → h l ≤ d l + 1)
theorem Wt_step (hd : ∀ l o, l < n → o < n → p o l = true → d o < d l) {h : Nat → Nat} (hw : Wt p d n h) {l o : Nat} (hl : l < n) (ho : o < n) : Wt p d n (mst p l o h) := by
  unfold mst
  split
  · rename_i hc
    have dl := hd l o hl ho hc.1
    have hol : o ≠ l := fun z => by rw [z] at dl; omega
    refine ⟨fun l' hl' => ?_, fun l' hl' => ?_⟩
    · simp only [xo_at]
      by_cases q : l' = l
      · rw [if_pos q]
        right
        refine ⟨o, ho, by rw [q]; exact hc.1, ?_⟩
        rw [if_neg hol]
        omega
      · rw [if_neg q]
        rcases hw.1 l' hl' with z | ⟨o', z1, z2, z3⟩
        · exact Or.inl z
        · refine Or.inr ⟨o', z1, z2, ?_⟩
          by_cases q2 : o' = l
          · rw [if_pos q2]
            rw [q2] at z3
            omega
          · rw [if_neg q2]; exact z3
    · rw [xo_at]
      by_cases q : l' = l
      · rw [if_pos q, q]
        have := hw.2 o ho
        omega
      · rw [if_neg q]; exact hw.2 l' hl'
  · exact hw
theorem Wt_all (hd : ∀ l o, l < n → o < n → p o l = true → d o < d l) {h : Nat → Nat} (hw : Wt p d n h) (k : Nat) : Wt p d n (iter (fun _ g => mr p n g) k h) :=
  iter_inv (fun _ g => Wt p d n g) _ h k hw fun _ g _ hg => iter_inv (fun _ g => Wt p d n g) (mrl p n) g n hg fun l g hl hg => iter_inv (fun _ g => Wt p d n g) (mst p l) g n hg fun o g ho hg => Wt_step hd hg hl ho
end XCH
/-- heights are 0 just beyond th -/
theorem mst_th {p : Nat → Nat → Bool} {n : Nat} {th : Nat → Prop} (hp : ∀ o l, p o l = true → th l) {h : Nat → Nat} {l o : Nat} (hh : ∀ x, 0 < h x ↔ th x) : ∀ x, 0 < mst p l o h x ↔ th x := by
  intro x
  unfold mst
  split
  · rename_i hc
    rw [xo_at]
    by_cases q : x = l
    · rw [if_pos q, q]
      exact ⟨fun _ => hp o l hc.1, fun _ => by omega⟩
    · rw [if_neg q]; exact hh x
  · exact hh x
/-- the first below a + k with q, else a + k -/
def fstN (q : Nat → Bool) : Nat → Nat → Nat
  | 0, a => a
  | k + 1, a => if q a = true then a else fstN q k (a + 1)
theorem fstN_s (q : Nat → Bool) (k a : Nat) : fstN q (k + 1) a = if q a = true then a else fstN q k (a + 1) := rfl
theorem fstN_p (q : Nat → Bool) : ∀ k a, (fstN q k a = a + k ∧ ∀ j, a ≤ j → j < a + k → q j = false) ∨ (a ≤ fstN q k a ∧ fstN q k a < a + k ∧ q (fstN q k a) = true)
  | 0, a => Or.inl ⟨rfl, fun j h1 h2 => by omega⟩
  | k + 1, a => by
    rw [fstN_s]
    by_cases h : q a = true
    · rw [if_pos h]
      exact Or.inr ⟨Nat.le_refl _, by omega, h⟩
    · rw [if_neg h]
      rcases fstN_p q k (a + 1) with ⟨h1, h2⟩ | ⟨h1, h2, h3⟩
      · refine Or.inl ⟨by omega, fun j j1 j2 => ?_⟩
        by_cases z : j = a
        · rw [z]; simpa using h
        · exact h2 j (by omega) (by omega)
      · exact Or.inr ⟨by omega, by omega, h3⟩
theorem fstN_ex {q : Nat → Bool} {n j : Nat} (hj : j < n) (hq : q j = true) : fstN q n 0 < n ∧ q (fstN q n 0) = true := by
  rcases fstN_p q n 0 with ⟨_, h2⟩ | ⟨_, h2, h3⟩
  · rw [h2 j (by omega) (by omega)] at hq; cases hq
  · exact ⟨by omega, h3⟩
theorem fstN_congr {q r : Nat → Bool} : ∀ k a, (∀ j, a ≤ j → j < a + k → q j = r j) → fstN q k a = fstN r k a
  | 0, _, _ => rfl
  | k + 1, a, h => by
    rw [fstN_s, fstN_s, h a (by omega) (by omega), fstN_congr k (a + 1) fun j h1 h2 => h j (by omega) (by omega)]
def mxN (h : Nat → Nat) : Nat → Nat
  | 0 => 0
  | n + 1 => if mxN h n < h n then h n else mxN h n
theorem mxN_s (h : Nat → Nat) (n : Nat) : mxN h (n + 1) = if mxN h n < h n then h n else mxN h n := rfl
theorem mxN_p (h : Nat → Nat) : ∀ n, (∀ l, l < n → h l ≤ mxN h n) ∧ (mxN h n = 0 ∨ ∃ l, l < n ∧ h l = mxN h n)
  | 0 => ⟨fun l hl => by omega, Or.inl rfl⟩
  | n + 1 => by
    obtain ⟨h1, h2⟩ := mxN_p h n
    rw [mxN_s]
    by_cases hc : mxN h n < h n
    · rw [if_pos hc]
      refine ⟨fun l hl => ?_, Or.inr ⟨n, by omega, rfl⟩⟩
      by_cases q : l = n
      · rw [q]; exact Nat.le_refl _
      · have := h1 l (by omega); omega
    · rw [if_neg hc]
      refine ⟨fun l hl => ?_, ?_⟩
      · by_cases q : l = n
        · rw [q]; omega
        · exact h1 l (by omega)
      · rcases h2 with q | ⟨l, q1, q2⟩
        · exact Or.inl q
        · exact Or.inr ⟨l, by omega, q2⟩
/-- the k-th of the chain -/
def chN (p : Nat → Nat → Bool) (h : Nat → Nat) (n mx : Nat) : Nat → Nat
  | 0 => fstN (fun l => decide (h l = mx)) n 0
  | k + 1 => fstN (fun o => decide (h o = mx - (k + 1)) && p o (chN p h n mx k)) n 0
theorem chN_p {p : Nat → Nat → Bool} {d : Nat → Nat} {n : Nat} {h : Nat → Nat} (hj : Jx p n (fun _ => True) h) (hw : Wt p d n h) : ∀ k, k < mxN h n → chN p h n (mxN h n) k < n ∧ h (chN p h n (mxN h n) k) = mxN h n - k
  | 0, hk => by
    rcases (mxN_p h n).2 with q | ⟨l, q1, q2⟩
    · omega
    · have := fstN_ex (q := fun l => decide (h l = mxN h n)) q1 (decide_eq_true q2)
      refine ⟨this.1, ?_⟩
      have := this.2
      rw [decide_eq_true_eq] at this
      exact this
  | k + 1, hk => by
    obtain ⟨h1, h2⟩ := chN_p hj hw k (by omega)
    rcases hw.1 _ h1 with q | ⟨o, o1, o2, o3⟩
    · omega
    · have o4 := hj _ h1 trivial o o1 o2
      have := fstN_ex (q := fun o => decide (h o = mxN h n - (k + 1)) && p o (chN p h n (mxN h n) k)) o1 (by rw [decide_eq_true (by omega), o2]; rfl)
      refine ⟨this.1, ?_⟩
      have := this.2
      simp only [Bool.and_eq_true, decide_eq_true_eq] at this
      exact this.1
