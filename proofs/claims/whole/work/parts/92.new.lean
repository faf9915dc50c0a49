/-! the constructors: cells that are just made -/
def Fr (z : Nat) (M M' : XM) : Prop := ∀ b, b < z → xRow M M' b
theorem Fr.S {z : Nat} {M M' : XM} (h : Fr z M M') {b : Nat} (hb : b < z) : xS M' b = xS M b := (h b hb).1
theorem Fr.I {z : Nat} {M M' : XM} (h : Fr z M M') {b : Nat} (hb : b < z) : xI M' b = xI M b := (h b hb).2.1
theorem Fr.J {z : Nat} {M M' : XM} (h : Fr z M M') {b : Nat} (hb : b < z) : xJ M' b = xJ M b := (h b hb).2.2.1
theorem Fr.F {z : Nat} {M M' : XM} (h : Fr z M M') {b : Nat} (hb : b < z) : xF M' b = xF M b := (h b hb).2.2.2
theorem Fr.refl (z : Nat) (M : XM) : Fr z M M := fun _ _ => ⟨rfl, rfl, rfl, rfl⟩
theorem Fr.trans {y z : Nat} {M M' M'' : XM} (h : Fr y M M') (h2 : Fr z M' M'') (hz : y ≤ z) : Fr y M M'' := fun b hb => by
  obtain ⟨a1, a2, a3, a4⟩ := h b hb
  obtain ⟨b1, b2, b3, b4⟩ := h2 b (by omega)
  exact ⟨b1.trans a1, b2.trans a2, b3.trans a3, b4.trans a4⟩
theorem Fr.mono {y z : Nat} {M M' : XM} (h : Fr z M M') (hz : y ≤ z) : Fr y M M' := fun b hb => h b (by omega)
theorem fr_new (M : XM) (t n w : Nat) : Fr (xZ M) M (xnew M t n w) := fun b hb => by
  have e : ¬ b = M.1.1 := fun q => by have : b < M.1.1 := hb; omega
  refine ⟨?_, ?_, ?_, ?_⟩
  · exact if_neg e
  · show xI (xnew M t n w) b = xI M b
    rw [xI_new]; exact if_neg e
  · show xJ (xnew M t n w) b = xJ M b
    rw [xJ_new]; exact if_neg e
  · show xF (xnew M t n w) b = xF M b
    rw [xF_new]; exact if_neg e
theorem fr_R (M : XM) {o k x z : Nat} (h : z ≤ o) : Fr z M (xmR M o k x) := fun b hb => ⟨rfl, rfl, rfl, by
  show xF (xmR M o k x) b = xF M b
  rw [xF_R]
  exact xup_n _ _ _ (by omega)⟩
section XNEW
variable (M : XM) (n k : Nat)
theorem xZ_m : xZ (xmulti M n k) = xZ M + 1 + n := rfl
theorem xU_m : xU (xmulti M n k) = xU M + n + n * k := rfl
theorem xS_m (b : Nat) : xS (xmulti M n k) b = if b = xZ M then (44, n) else if xZ M ≤ b ∧ b ≤ xZ M + n then (40, k) else xS M b := rfl
theorem xI_m (b : Nat) : xI (xmulti M n k) b = if xZ M ≤ b ∧ b ≤ xZ M + n then fun _ => 0 else xI M b := rfl
theorem xJ_m (b : Nat) : xJ (xmulti M n k) b = if xZ M ≤ b ∧ b ≤ xZ M + n then fun _ => 0 else xJ M b := rfl
theorem xF_m (b : Nat) : xF (xmulti M n k) b = if b = xZ M then (fun i => if i < n then xZ M + 1 + i else 0) else if xZ M ≤ b ∧ b ≤ xZ M + n then fun _ => 0 else xF M b := rfl
theorem fr_m : Fr (xZ M) M (xmulti M n k) := fun b hb => by
  have e : ¬ b = xZ M := by omega
  have e2 : ¬ (xZ M ≤ b ∧ b ≤ xZ M + n) := by omega
  refine ⟨?_, ?_, ?_, ?_⟩
  · show xS (xmulti M n k) b = xS M b
    rw [xS_m, if_neg e, if_neg e2]
  · show xI (xmulti M n k) b = xI M b
    rw [xI_m, if_neg e2]
  · show xJ (xmulti M n k) b = xJ M b
    rw [xJ_m, if_neg e2]
  · show xF (xmulti M n k) b = xF M b
    rw [xF_m, if_neg e, if_neg e2]
end XNEW
/-- what is known of cells: newest first -/
def lkS : List (Nat × Nat × Nat) → Nat → Option (Nat × Nat)
  | [], _ => none
  | (a, x) :: r, b => if b = a then some x else lkS r b
def lkF : List (Nat × Nat × Nat) → Nat → Nat → Option Nat
  | [], _, _ => none
  | (a, j, v) :: r, b, k => if b = a ∧ k = j then some v else lkF r b k
theorem lkS_mem : ∀ {l : List (Nat × Nat × Nat)} {b : Nat} {x : Nat × Nat} {z : Nat}, lkS l b = some x → (∀ y, y ∈ l → y.1 < z) → b < z
  | (a, y) :: r, b, x, z, h, hz => by
    rw [lkS] at h
    by_cases q : b = a
    · rw [q]; exact hz _ List.mem_cons_self
    · rw [if_neg q] at h; exact lkS_mem h fun w hw => hz w (List.mem_cons_of_mem _ hw)
theorem lkF_mem : ∀ {l : List (Nat × Nat × Nat)} {b k v : Nat} {z : Nat}, lkF l b k = some v → (∀ y, y ∈ l → y.1 < z) → b < z
  | (a, j, w) :: r, b, k, v, z, h, hz => by
    rw [lkF] at h
    by_cases q : b = a ∧ k = j
    · rw [q.1]; exact hz _ List.mem_cons_self
    · rw [if_neg q] at h; exact lkF_mem h fun w hw => hz w (List.mem_cons_of_mem _ hw)
/-- the cells from o on, as told; ints are zero but for o's -/
def NI (o : Nat) (M : XM) (z u : Nat) (sh ff : List (Nat × Nat × Nat)) (g : Nat → Int32) (jj : Nat → Nat → Int64) (N : XM) : Prop :=
  (xZ N = z) ∧ (xU N = u) ∧ (Fr o M N) ∧ (∀ b x, lkS sh b = some x → xS N b = x) ∧ (∀ b k v, lkF ff b k = some v → xF N b k = v) ∧ (∀ b k, o < b → b < z → xI N b k = 0) ∧ (xI N o = g) ∧ (∀ b, o ≤ b → b < z → xJ N b = jj b) ∧ (∀ y, y ∈ sh → y.1 < z) ∧ (∀ y, y ∈ ff → y.1 < z) ∧ (o < z)
section XNI0
variable {o z u : Nat} {M N : XM} {sh ff : List (Nat × Nat × Nat)} {g : Nat → Int32} {jj : Nat → Nat → Int64}
theorem NI.hz (h : NI o M z u sh ff g jj N) : xZ N = z := h.1
theorem NI.hu (h : NI o M z u sh ff g jj N) : xU N = u := h.2.1
theorem NI.fr (h : NI o M z u sh ff g jj N) : Fr o M N := h.2.2.1
theorem NI.S (h : NI o M z u sh ff g jj N) : ∀ b x, lkS sh b = some x → xS N b = x := h.2.2.2.1
theorem NI.F (h : NI o M z u sh ff g jj N) : ∀ b k v, lkF ff b k = some v → xF N b k = v := h.2.2.2.2.1
theorem NI.I (h : NI o M z u sh ff g jj N) : ∀ b k, o < b → b < z → xI N b k = 0 := h.2.2.2.2.2.1
theorem NI.hg (h : NI o M z u sh ff g jj N) : xI N o = g := h.2.2.2.2.2.2.1
theorem NI.J (h : NI o M z u sh ff g jj N) : ∀ b, o ≤ b → b < z → xJ N b = jj b := h.2.2.2.2.2.2.2.1
theorem NI.hs (h : NI o M z u sh ff g jj N) : ∀ y, y ∈ sh → y.1 < z := h.2.2.2.2.2.2.2.2.1
theorem NI.hf (h : NI o M z u sh ff g jj N) : ∀ y, y ∈ ff → y.1 < z := h.2.2.2.2.2.2.2.2.2.1
theorem NI.oz (h : NI o M z u sh ff g jj N) : o < z := h.2.2.2.2.2.2.2.2.2.2
end XNI0
section XNI
variable {o z u : Nat} {M N : XM} {sh ff : List (Nat × Nat × Nat)} {g : Nat → Int32} {jj : Nat → Nat → Int64}
theorem NI.new (h : NI o M z u sh ff g jj N) (t n w : Nat) (hj : jj z = fun _ => 0) : NI o M (z + 1) (u + w) ((z, t, n) :: sh) ff g jj (xnew N t n w) := by
  have hz := h.hz
  have f := fr_new N t n w
  rw [hz] at f
  refine ⟨by rw [xZ_new, hz], by rw [xU_new, h.hu], h.fr.trans f (by have := h.oz; omega), ?_, ?_, ?_, ?_, ?_, ?_, ?_, by have := h.oz; omega⟩
  · intro b x hb
    rw [lkS] at hb
    rw [xS_new, hz]
    by_cases q : b = z
    · rw [if_pos q] at hb ⊢
      exact Option.some.inj hb
    · rw [if_neg q] at hb ⊢
      exact h.S b x hb
  · intro b k v hb
    rw [xF_new2, hz, if_neg (by have := lkF_mem hb h.hf; omega)]
    exact h.F b k v hb
  · intro b k h1 h2
    rw [xI_new2, hz]
    by_cases q : b = z
    · rw [if_pos q]
    · rw [if_neg q]; exact h.I b k h1 (by omega)
  · rw [xI_new, hz, if_neg (by have := h.oz; omega)]; exact h.hg
  · intro b h1 h2
    rw [xJ_new, hz]
    by_cases q : b = z
    · rw [if_pos q, q, hj]
    · rw [if_neg q]; exact h.J b h1 (by omega)
  · intro y hy
    rcases List.mem_cons.mp hy with q | q
    · rw [q]; exact Nat.lt_succ_self z
    · have := h.hs y q; omega
  · intro y hy
    have := h.hf y hy; omega
theorem NI.put (h : NI o M z u sh ff g jj N) {a : Nat} (k v : Nat) (h1 : o ≤ a) (h2 : a < z) : NI o M z u sh ((a, k, v) :: ff) g jj (xmR N a k v) := by
  refine ⟨h.hz, h.hu, h.fr.trans (fr_R N h1) (Nat.le_refl _), h.S, ?_, h.I, h.hg, h.J, h.hs, ?_, h.oz⟩
  · intro b j w hb
    rw [lkF] at hb
    rw [xF_R, xup_at]
    by_cases q : b = a ∧ j = k
    · rw [if_pos q] at hb ⊢
      exact Option.some.inj hb
    · rw [if_neg q] at hb ⊢
      exact h.F b j w hb
  · intro y hy
    rcases List.mem_cons.mp hy with q | q
    · rw [q]; exact h2
    · exact h.hf y q
/-- a row of rows -/
def mS (z n k : Nat) : Nat → List (Nat × Nat × Nat) → List (Nat × Nat × Nat)
  | 0, sh => (z, 44, n) :: sh
  | i + 1, sh => (z + 1 + i, 40, k) :: mS z n k i sh
def mF (z : Nat) : Nat → List (Nat × Nat × Nat) → List (Nat × Nat × Nat)
  | 0, ff => ff
  | i + 1, ff => (z, i, z + 1 + i) :: mF z i ff
theorem NI.multi (h : NI o M z u sh ff g jj N) (n k : Nat) (hj : ∀ b, z ≤ b → b ≤ z + n → jj b = fun _ => 0) : NI o M (z + 1 + n) (u + n + n * k) (mS z n k n sh) (mF z n ff) g jj (xmulti N n k) := by
  have hz := h.hz
  have oz := h.oz
  have f := fr_m N n k
  rw [hz] at f
  refine ⟨by rw [xZ_m, hz], by rw [xU_m, h.hu], h.fr.trans f (by omega), ?_, ?_, ?_, ?_, ?_, ?_, ?_, by omega⟩
  · have key : ∀ i, i ≤ n → ∀ b x, lkS (mS z n k i sh) b = some x → xS (xmulti N n k) b = x := by
      intro i
      induction i with
      | zero =>
        intro _ b x hb
        rw [mS, lkS] at hb
        rw [xS_m, hz]
        by_cases q : b = z
        · rw [if_pos q] at hb ⊢
          exact Option.some.inj hb
        · rw [if_neg q] at hb
          rw [if_neg q, if_neg (by have := lkS_mem hb h.hs; omega)]
          exact h.S b x hb
      | succ i ih =>
        intro hi b x hb
        rw [mS, lkS] at hb
        by_cases q : b = z + 1 + i
        · rw [if_pos q] at hb
          rw [xS_m, hz, if_neg (by omega), if_pos (by omega)]
          exact Option.some.inj hb
        · rw [if_neg q] at hb
          exact ih (by omega) b x hb
    exact key n (Nat.le_refl _)
  · have key : ∀ i, i ≤ n → ∀ b j v, lkF (mF z i ff) b j = some v → xF (xmulti N n k) b j = v := by
      intro i
      induction i with
      | zero =>
        intro _ b j v hb
        rw [mF] at hb
        have := lkF_mem hb h.hf
        rw [xF_m, hz, if_neg (by omega), if_neg (by omega)]
        exact h.F b j v hb
      | succ i ih =>
        intro hi b j v hb
        rw [mF, lkF] at hb
        by_cases q : b = z ∧ j = i
        · rw [if_pos q] at hb
          rw [xF_m, hz, if_pos q.1]
          show (if j < n then z + 1 + j else 0) = v
          rw [if_pos (by omega), q.2]
          exact Option.some.inj hb
        · rw [if_neg q] at hb
          exact ih (by omega) b j v hb
    exact key n (Nat.le_refl _)
  · intro b j h1 h2
    rw [xI_m, hz]
    by_cases q : z ≤ b ∧ b ≤ z + n
    · rw [if_pos q]
    · rw [if_neg q]; exact h.I b j h1 (by omega)
  · rw [xI_m, hz, if_neg (by omega)]; exact h.hg
  · intro b h1 h2
    rw [xJ_m, hz]
    by_cases q : z ≤ b ∧ b ≤ z + n
    · rw [if_pos q, hj b q.1 q.2]
    · rw [if_neg q]; exact h.J b h1 (by omega)
  · have key : ∀ i, i ≤ n → ∀ y, y ∈ mS z n k i sh → y.1 < z + 1 + n := by
      intro i
      induction i with
      | zero =>
        intro _ y hy
        rw [mS] at hy
        rcases List.mem_cons.mp hy with q | q
        · rw [q]; show z < z + 1 + n; omega
        · have := h.hs y q; omega
      | succ i ih =>
        intro hi y hy
        rw [mS] at hy
        rcases List.mem_cons.mp hy with q | q
        · rw [q]; show z + 1 + i < z + 1 + n; omega
        · exact ih (by omega) y q
    exact key n (Nat.le_refl _)
  · have key : ∀ i, i ≤ n → ∀ y, y ∈ mF z i ff → y.1 < z + 1 + n := by
      intro i
      induction i with
      | zero =>
        intro _ y hy
        rw [mF] at hy
        have := h.hf y hy; omega
      | succ i ih =>
        intro hi y hy
        rw [mF] at hy
        rcases List.mem_cons.mp hy with q | q
        · rw [q]; show z < z + 1 + n; omega
        · exact ih (by omega) y q
    exact key n (Nat.le_refl _)
theorem NI.Sz {z' t n : Nat} (h : NI o M z u ((z', t, n) :: sh) ff g jj N) : xS N z' = (t, n) := h.S z' (t, n) (by rw [lkS, if_pos rfl])
end XNI
