/-! tokens: all that the reference cuts -/
def tpos (n : Nat) (c : Nat → Nat) : Nat → Nat
  | 0 => rn (isBl c) n 2000 0
  | m + 1 => rn (isBl c) n 2000 (tkE n c (tpos n c m))
def rkK (n : Nat) (c : Nat → Nat) (j : Nat) : Nat := if j < n then (if isWd c j = true then (if rn (isWd c) n 2000 j - j ≤ 8 then lsK (Int64.ofNat (nmv 27 c j (rn (isWd c) n 2000 j - j))) 21 else 3) else if isDg c j = true then (if rn (isDg c) n 2000 j - j ≤ 4 then 2 else 3) else rsg (c j)) else 0
def rkV (n : Nat) (c : Nat → Nat) (j : Nat) : Nat := if j < n then (if isWd c j = true then 0 else if isDg c j = true then dgv c j (rn (isDg c) n 2000 j - j) else 0) else 0
def rkNm (n : Nat) (c : Nat → Nat) (j : Nat) : Int64 := if j < n then (if isWd c j = true then Int64.ofNat (nmv 27 c j (rn (isWd c) n 2000 j - j)) else 0) else 0
/-- the first m tokens of the text stand in the reference's rows -/
def RTk (M : XM) (n : Nat) (c : Nat → Nat) (m : Nat) : Prop := TkR M m (fun i => nI (rkK n c (tpos n c i))) (fun i => nI (tpos n c i)) (fun i => nI (rkV n c (tpos n c i))) (fun i => rkNm n c (tpos n c i))
theorem rtk_up {M : XM} {n m : Nat} {c : Nat → Nat} {k p v : Int32} {w : Int64} (h : TkR M (m + 1) (upI (fun i => nI (rkK n c (tpos n c i))) m k) (upI (fun i => nI (tpos n c i)) m p) (upI (fun i => nI (rkV n c (tpos n c i))) m v) (upJ (fun i => rkNm n c (tpos n c i)) m w))
    (h1 : k = nI (rkK n c (tpos n c m))) (h2 : p = nI (tpos n c m)) (h3 : v = nI (rkV n c (tpos n c m))) (h4 : w = rkNm n c (tpos n c m)) : RTk M n c (m + 1) := by
  refine ⟨h.1, fun i hi => ?_⟩
  obtain ⟨a1, a2, a3, a4⟩ := h.2 i hi
  unfold upI at a1 a2 a3
  unfold upJ at a4
  by_cases q : i = m
  · rw [if_pos q] at a1 a2 a3 a4
    subst q
    exact ⟨by rw [a1, h1], by rw [a2, h2], by rw [a3, h3], by rw [a4, h4]⟩
  · rw [if_neg q] at a1 a2 a3 a4
    exact ⟨a1, a2, a3, a4⟩
theorem RB.e3 {M M' : XM} {n : Nat} {c : Nat → Nat} (h : RB M n c) (e : E3 ctP ctJ noF M M') : RB M' n c := by
  obtain ⟨h1, h2, h3, h4, h5, h6⟩ := h
  refine ⟨?_, by rw [e.I (by unfold ctP; omega)]; exact h2, h3, fun i hi => by rw [e.I (by unfold ctP; omega)]; exact h4 i hi, h5, fun i hi => by rw [e.J (by unfold ctJ; omega)]; exact h6 i hi⟩
  have eF : xF M' = xF M := by
    funext a k
    exact e.FF fun z => z
  unfold RSh
  rw [e.S, eF]
  exact h1
