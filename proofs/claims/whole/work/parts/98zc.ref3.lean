/-! laws in the making: what waits, how deep the stack is -/
def lev (z : Nat → Nat) : Nat → Nat
  | 0 => 0
  | n + 1 => if z n = 11 then 0 else if yrk (z n) = 1 then (if lev z n = 0 then 1 else 9) else (if lev z n = 0 then 2 else if lev z n = 1 then 3 else 9)
def zb (z : Nat → Nat) : Nat → Nat
  | 0 => 0
  | n + 1 => zb z n + if z n = 11 then 1 else 0
theorem lev_s (z : Nat → Nat) (n : Nat) : lev z (n + 1) = if z n = 11 then 0 else if yrk (z n) = 1 then (if lev z n = 0 then 1 else 9) else (if lev z n = 0 then 2 else if lev z n = 1 then 3 else 9) := rfl
theorem zb_s (z : Nat → Nat) (n : Nat) : zb z (n + 1) = zb z n + if z n = 11 then 1 else 0 := rfl
def WZ (z : Nat → Nat) (n ne : Nat) : Prop := (∀ i, i < n → (6 ≤ z i ∧ z i ≤ 9) ∨ z i = 11) ∧ (∀ i, i ≤ n → lev z i ≤ 3) ∧ zb z n = ne
theorem lev_sz (z : Nat → Nat) : ∀ n, (∀ i, i ≤ n → lev z i ≤ 3) → n ≤ 3 * zb z n + 2 ∧ (lev z n = 0 → n ≤ 3 * zb z n) ∧ (lev z n ≠ 3 → n ≤ 3 * zb z n + 1)
  | 0, _ => by omega
  | n + 1, h => by
    obtain ⟨a1, a2, a3⟩ := lev_sz z n fun i hi => h i (by omega)
    have hn := h (n + 1) (by omega)
    rw [lev_s] at hn ⊢
    rw [zb_s]
    by_cases q : z n = 11
    · rw [if_pos q, if_pos q]; omega
    · rw [if_neg q] at hn
      rw [if_neg q, if_neg q]
      by_cases y : yrk (z n) = 1
      · rw [if_pos y] at hn
        rw [if_pos y]
        by_cases l : lev z n = 0
        · rw [if_pos l]; have := a2 l; omega
        · rw [if_neg l] at hn; omega
      · rw [if_neg y] at hn
        rw [if_neg y]
        by_cases l : lev z n = 0
        · rw [if_pos l]; have := a2 l; omega
        · rw [if_neg l] at hn
          rw [if_neg l]
          by_cases l1 : lev z n = 1
          · rw [if_pos l1]; have := a3 (by omega); omega
          · rw [if_neg l1] at hn; omega
theorem zb_le (z : Nat → Nat) : ∀ n, zb z n ≤ n
  | 0 => Nat.le_refl 0
  | n + 1 => by
    have := zb_le z n
    rw [zb_s]
    split <;> omega
theorem lev_c {z z' : Nat → Nat} : ∀ n, (∀ i, i < n → z i = z' i) → lev z n = lev z' n
  | 0, _ => rfl
  | n + 1, h => by rw [lev_s, lev_s, h n (by omega), lev_c n fun i hi => h i (by omega)]
theorem zb_c {z z' : Nat → Nat} : ∀ n, (∀ i, i < n → z i = z' i) → zb z n = zb z' n
  | 0, _ => rfl
  | n + 1, h => by rw [zb_s, zb_s, h n (by omega), zb_c n fun i hi => h i (by omega)]
theorem WZ.push {z : Nat → Nat} {n ne k : Nat} (h : WZ z n ne) (hk : (6 ≤ k ∧ k ≤ 9) ∨ k = 11) (hl : k = 11 ∨ (yrk k = 1 ∧ lev z n = 0) ∨ (yrk k = 2 ∧ lev z n ≤ 1)) : WZ (xone z n k) (n + 1) (if k = 11 then ne + 1 else ne) := by
  obtain ⟨h1, h2, h3⟩ := h
  have e : ∀ i, i < n → xone z n k i = z i := fun i hi => xone_n _ _ (by omega)
  have le : ∀ i, i ≤ n → lev (xone z n k) i = lev z i := fun i hi => lev_c i fun j hj => e j (by omega)
  refine ⟨fun i hi => ?_, fun i hi => ?_, ?_⟩
  · by_cases q : i = n
    · rw [q, xone_s]; exact hk
    · rw [e i (by omega)]; exact h1 i (by omega)
  · by_cases q : i = n + 1
    · rw [q, lev_s, xone_s, le n (Nat.le_refl _)]
      rcases hl with y | ⟨y1, y2⟩ | ⟨y1, y2⟩
      · rw [if_pos y]; omega
      · by_cases z : k = 11
        · rw [if_pos z]; omega
        · rw [if_neg z, if_pos y1, if_pos y2]; omega
      · by_cases z : k = 11
        · rw [if_pos z]; omega
        · rw [if_neg z, if_neg (by omega)]
          split
          · omega
          · split <;> omega
    · rw [le i (by omega)]; exact h2 i (by omega)
  · rw [zb_s, xone_s, zb_c n e, h3]
    split <;> rfl
theorem WZ.pre {z : Nat → Nat} {n ne : Nat} (h : WZ z (n + 1) ne) : WZ z n (if z n = 11 then ne - 1 else ne) := by
  obtain ⟨h1, h2, h3⟩ := h
  refine ⟨fun i hi => h1 i (by omega), fun i hi => h2 i (by omega), ?_⟩
  rw [zb_s] at h3
  by_cases q : z n = 11
  · rw [if_pos q] at h3 ⊢; omega
  · rw [if_neg q] at h3 ⊢; omega
theorem yrk_0 {k : Nat} : yrk k = 0 ↔ k = 11 := by
  unfold yrk
  by_cases q : k = 11
  · rw [if_pos q]; exact ⟨fun _ => q, fun _ => rfl⟩
  · rw [if_neg q]
    refine ⟨fun h => ?_, fun h => absurd h q⟩
    split at h
    · omega
    · split at h <;> omega
theorem yrel_wz {z : Nat → Nat} {ne lr : Nat} (h1 : 1 ≤ lr) : ∀ (n : Nat) (l : YL), WZ z n ne → WZ z (yrel lr z n l).1 ne ∧ ((yrel lr z n l).1 = 0 ∨ yrk (z ((yrel lr z n l).1 - 1)) < lr)
  | 0, l, h => ⟨h, Or.inl rfl⟩
  | n + 1, l, h => by
    rw [yrel_s]
    by_cases q : lr ≤ yrk (z n)
    · rw [if_pos q]
      have hp := h.pre
      rw [if_neg (fun y => by have := yrk_0.mpr y; omega)] at hp
      exact yrel_wz h1 n _ hp
    · rw [if_neg q]
      exact ⟨h, Or.inr (by show yrk (z (n + 1 - 1)) < lr; rw [Nat.add_sub_cancel]; omega)⟩
theorem lev_1 {z : Nat → Nat} {n : Nat} (h : n = 0 ∨ yrk (z (n - 1)) < 1) : lev z n = 0 := by
  rcases h with q | q
  · rw [q]; rfl
  · cases n with
    | zero => rfl
    | succ n =>
      rw [Nat.add_sub_cancel] at q
      rw [lev_s, if_pos (yrk_0.mp (by omega))]
theorem lev_2 {z : Nat → Nat} {n ne : Nat} (w : WZ z n ne) (h : n = 0 ∨ yrk (z (n - 1)) < 2) : lev z n ≤ 1 := by
  rcases h with q | q
  · rw [q]; exact Nat.zero_le _
  · cases n with
    | zero => exact Nat.zero_le _
    | succ n =>
      rw [Nat.add_sub_cancel] at q
      have hn := w.2.1 (n + 1) (Nat.le_refl _)
      rw [lev_s] at hn ⊢
      by_cases y : z n = 11
      · rw [if_pos y]; omega
      · rw [if_neg y] at hn ⊢
        have y0 : yrk (z n) ≠ 0 := fun q => y (yrk_0.mp q)
        have y1 : yrk (z n) = 1 := by omega
        rw [if_pos y1] at hn ⊢
        by_cases l : lev z n = 0
        · rw [if_pos l]; omega
        · rw [if_neg l] at hn; omega
/-- a step of a law of the class, and the reference's code of it -/
def Sy (x cd ci : Int32) : Prop := (∃ v, v ≤ 9999 ∧ x = nI v ∧ cd = 0 ∧ ci = nI v) ∨ (∃ i, i < 9 ∧ x = -1 - nI i ∧ cd = 1 ∧ ci = nI i) ∨ (∃ o, o < 4 ∧ x = -10 - nI o ∧ cd = nI (2 + o) ∧ ci = 0)
def yun (x : Int32) : Prop := (∃ v, v ≤ 9999 ∧ x = nI v) ∨ (∃ i, i < 9 ∧ x = -1 - nI i)
def yopc (x : Int32) : Prop := ∃ o, o < 4 ∧ x = -10 - nI o
/-- cnt steps from a on leave dd values -/
def DP (s : Nat → Int32) (a : Nat) : Nat → Nat → Prop
  | 0, dd => dd = 0
  | cnt + 1, dd => (yun (s (a + cnt)) ∧ 1 ≤ dd ∧ dd ≤ 20 ∧ DP s a cnt (dd - 1)) ∨ (yopc (s (a + cnt)) ∧ 1 ≤ dd ∧ DP s a cnt (dd + 1))
theorem DP.c {s s' : Nat → Int32} {a : Nat} : ∀ {cnt dd : Nat}, (∀ i, i < cnt → s' (a + i) = s (a + i)) → DP s a cnt dd → DP s' a cnt dd
  | 0, _, _, h => h
  | cnt + 1, dd, e, h => by
    unfold DP
    rw [e cnt (by omega)]
    rcases h with ⟨a1, a2, a3, a4⟩ | ⟨a1, a2, a3⟩
    · exact Or.inl ⟨a1, a2, a3, DP.c (fun i hi => e i (by omega)) a4⟩
    · exact Or.inr ⟨a1, a2, DP.c (fun i hi => e i (by omega)) a3⟩
def PF (sb : Nat → Int32) (l0 : Nat) (l : YL) (dd : Nat) : Prop := l0 ≤ l.1 ∧ DP l.2 l0 (l.1 - l0) dd ∧ ∀ i, i < l0 → l.2 i = sb i
theorem yadd_l {l : YL} {x : Int32} (h : l.1 < 400) : yadd l x = (l.1 + 1, xone l.2 l.1 x) := if_pos h
theorem PF.unit {sb : Nat → Int32} {l0 dd : Nat} {l : YL} {x : Int32} (h : PF sb l0 l dd) (hl : l.1 < 400) (hx : yun x) (hd : dd + 1 ≤ 20) : PF sb l0 (yadd l x) (dd + 1) := by
  rw [yadd_l hl]
  have h1 := h.1
  refine ⟨by show l0 ≤ l.1 + 1; omega, ?_, fun i hi => (xone_n _ _ (by omega)).trans (h.2.2 i hi)⟩
  show DP (xone l.2 l.1 x) l0 (l.1 + 1 - l0) (dd + 1)
  rw [show l.1 + 1 - l0 = (l.1 - l0) + 1 by omega]
  refine Or.inl ⟨?_, by omega, hd, h.2.1.c fun i hi => xone_n _ _ (by omega)⟩
  rw [show l0 + (l.1 - l0) = l.1 by omega, xone_s]
  exact hx
theorem PF.op {sb : Nat → Int32} {l0 dd : Nat} {l : YL} {x : Int32} (h : PF sb l0 l (dd + 1)) (hl : l.1 < 400) (hx : yopc x) (hd : 1 ≤ dd) : PF sb l0 (yadd l x) dd := by
  rw [yadd_l hl]
  have h1 := h.1
  refine ⟨by show l0 ≤ l.1 + 1; omega, ?_, fun i hi => (xone_n _ _ (by omega)).trans (h.2.2 i hi)⟩
  show DP (xone l.2 l.1 x) l0 (l.1 + 1 - l0) dd
  rw [show l.1 + 1 - l0 = (l.1 - l0) + 1 by omega]
  refine Or.inr ⟨?_, hd, h.2.1.c fun i hi => xone_n _ _ (by omega)⟩
  rw [show l0 + (l.1 - l0) = l.1 by omega, xone_s]
  exact hx
theorem yrel_pf {sb : Nat → Int32} {z : Nat → Nat} {l0 ne lr : Nat} (h1 : 1 ≤ lr) : ∀ (n : Nat) (l : YL), WZ z n ne → PF sb l0 l (n - ne + 1) → l.1 + n ≤ 400 → PF sb l0 (yrel lr z n l).2 ((yrel lr z n l).1 - ne + 1) ∧ (yrel lr z n l).2.1 + (yrel lr z n l).1 = l.1 + n ∧ l.1 ≤ (yrel lr z n l).2.1
  | 0, l, h, hp, hl => ⟨hp, rfl, Nat.le_refl _⟩
  | n + 1, l, h, hp, hl => by
    rw [yrel_s]
    by_cases q : lr ≤ yrk (z n)
    · rw [if_pos q]
      have hz := h.pre
      have z11 : ¬ z n = 11 := fun y => by have := yrk_0.mpr y; omega
      rw [if_neg z11] at hz
      have zl := zb_le z n
      rw [hz.2.2] at zl
      have hn : n + 1 - ne + 1 = (n - ne + 1) + 1 := by omega
      rw [hn] at hp
      have z6 := (h.1 n (by omega)).resolve_right z11
      have hp' := hp.op (x := -10 - nI (z n - 6)) (by omega) ⟨z n - 6, by omega, rfl⟩ (by omega)
      have ya : (yadd l (-10 - nI (z n - 6))).1 = l.1 + 1 := by rw [yadd_l (by omega)]
      obtain ⟨b1, b2, b3⟩ := yrel_pf h1 n (yadd l (-10 - nI (z n - 6))) hz hp' (by omega)
      exact ⟨b1, by omega, by omega⟩
    · rw [if_neg q]
      exact ⟨hp, rfl, Nat.le_refl _⟩
