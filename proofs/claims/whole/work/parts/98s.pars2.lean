/-! the parser's state and step -/
abbrev YC : Type := Nat × Nat × Nat × Nat × Nat × Nat
abbrev YX : Type := (Nat × Int32) × Nat × Nat × (Nat → Nat) × (Nat → Nat → Int32) × (Nat → Nat → Int32) × (Nat → Int32)
abbrev YW : Type := (Nat → YL) × Nat × YL × (Nat × (Nat → Nat)) × Nat
abbrev YS : Type := YC × YX × YW
def ylim (tk fd : Nat) : Nat := if tk = 13 then (if fd = 3 then 99 else 9) else if tk = 14 then 9 else if fd = 0 then 99 else if fd = 1 then 100 else 9999
def ylast (tk : Nat) : Nat := if tk = 13 then 3 else if tk = 14 then 2 else tk - 19
def ynote (f j : Nat) (b : Bool) (m : Nat × Int32) : Nat × Int32 := if b = true then (if m.1 = 0 then (f, nI j) else m) else m
def yhas (sm : Nat → Nat → Bool) (nm : Nat → Nat) (q j : Nat) : Bool := decide (fstN (fun i => sm (nm i) j) q 0 < q)
def yset (L : Nat → Nat → Int32) (l k v : Nat) : Nat → Nat → Int32 := fun i => if i = l then xone (L i) k (nI v) else L i
/-- a unit of a law is wanted -/
def yunit (k v : Nat) : YS → Nat × YS
  | ((st, tk, fd, ifs, ne, pe), X, (W, lw, l, z, sk)) =>
    if k = 11 then (if 6 ≤ ne then 2 else 1, ((6, tk, fd, ifs, ne + 1, pe), X, (W, lw, l, yoff z 11, sk)))
    else if k = 3 then (1, ((7, tk, fd, ifs, ne, pe), X, (W, lw, yadd l (nI v), z, sk)))
    else if 25 ≤ k ∧ k ≤ 33 then (1, ((7, tk, fd, ifs, ne, pe), X, (W, lw, yadd l (-1 - nI (k - 25)), z, sk)))
    else (0, ((st, tk, fd, ifs, ne, pe), X, (W, lw, l, z, sk)))
/-- behind a unit -/
def ybeh (k : Nat) : YS → Nat × YS
  | ((st, tk, fd, ifs, ne, pe), X, (W, lw, l, z, sk)) =>
    if 6 ≤ k ∧ k ≤ 9 then (1, ((6, tk, fd, ifs, ne, pe), X, (W, lw, (yop k l z).1, (yop k l z).2, sk)))
    else if k = 12 ∧ 0 < ne then (1, ((7, tk, fd, ifs, ne - 1, pe), X, (W, lw, (yrel 1 z.2 z.1 l).2, ((yrel 1 z.2 z.1 l).1 - 1, z.2), sk)))
    else if k = pe ∧ ne = 0 then
      (if k = 10 then (1, ((6, tk, fd, ifs, 0, 23), X, (W, lw, (yrel 1 z.2 z.1 l).2, ((yrel 1 z.2 z.1 l).1, z.2), sk)))
      else if k = 23 then (1, ((6, tk, fd, ifs, 0, 24), X, (W, lw, yadd (yrel 1 z.2 z.1 l).2 (-100), ((yrel 1 z.2 z.1 l).1, z.2), (yrel 1 z.2 z.1 l).2.1)))
      else if k = 24 then (1, ((5, tk, fd, ifs, 0, 4), X, (W, lw, yskip (yadd (yrel 1 z.2 z.1 l).2 (-14)) sk, ((yrel 1 z.2 z.1 l).1, z.2), sk)))
      else (1, ((0, tk, fd, ifs, 0, pe), X, (fun i => if i = lw then (yrel 1 z.2 z.1 l).2 else W i, 4, (yrel 1 z.2 z.1 l).2, ((yrel 1 z.2 z.1 l).1, z.2), sk))))
    else (0, ((st, tk, fd, ifs, ne, pe), X, (W, lw, l, z, sk)))
/-- a tell begins -/
def ytell (k : Nat) : YS → Nat × YS
  | ((st, tk, fd, ifs, ne, pe), (m, a, r, nm, L, R, S), (W, lw, l, z, sk)) =>
    if k = 0 then (1, ((st, tk, fd, ifs, ne, pe), (m, a, r, nm, L, R, S), (W, lw, l, z, sk)))
    else if k = 13 then (if 7 ≤ a then 2 else 1, ((1, 13, fd, ifs, ne, pe), (m, a, r, nm, L, R, S), (W, lw, l, z, sk)))
    else if k = 14 then (if 6 ≤ r then 2 else 1, ((1, 14, fd, ifs, ne, pe), (m, a, r, nm, L, R, S), (W, lw, l, z, sk)))
    else if 15 ≤ k ∧ k ≤ 18 then (1, ((4, k, fd, 0, 0, 4), (m, a, r, nm, L, R, S), (W, k - 15, (0, (W (k - 15)).2), (0, z.2), 0)))
    else if 19 ≤ k ∧ k ≤ 21 then (1, ((2, k, k - 19, ifs, ne, pe), (m, a, r, nm, L, R, S), (W, lw, l, z, sk)))
    else (0, ((st, tk, fd, ifs, ne, pe), (m, a, r, nm, L, R, S), (W, lw, l, z, sk)))
def yname (sm : Nat → Nat → Bool) (j : Nat) : YS → Nat × YS
  | ((_, tk, _, ifs, ne, pe), (m, a, r, nm, L, R, S), w) => (1, ((2, tk, 0, ifs, ne, pe), (ynote 3 j (yhas sm nm (a + r) j) m, if tk = 13 then a + 1 else a, if tk = 13 then r else r + 1, xone nm (a + r) j, L, R, S), w))
def yint (v j : Nat) : YS → Nat × YS
  | ((_, tk, fd, ifs, ne, pe), (m, a, r, nm, L, R, S), w) => (1, ((if fd = ylast tk then 3 else 2, tk, fd + 1, ifs, ne, pe), (ynote 5 j (decide (ylim tk fd < v)) m, a, r, nm, if tk = 13 then yset L (a - 1) fd v else L, if tk = 14 then yset R (r - 1) fd v else R, if 19 ≤ tk then xone S fd (nI v) else S), w))
def ystep (sm : Nat → Nat → Bool) (k v j : Nat) : YS → Nat × YS
  | ((st, tk, fd, ifs, ne, pe), X, w) =>
    if st = 0 then ytell k ((st, tk, fd, ifs, ne, pe), X, w)
    else if st = 1 then (if k = 2 then yname sm j ((st, tk, fd, ifs, ne, pe), X, w) else (0, ((st, tk, fd, ifs, ne, pe), X, w)))
    else if st = 2 then (if k = 3 then yint v j ((st, tk, fd, ifs, ne, pe), X, w) else (0, ((st, tk, fd, ifs, ne, pe), X, w)))
    else if st = 3 then (if k = 4 then 1 else 0, ((0, tk, fd, ifs, ne, pe), X, w))
    else if st = 4 then (if k = 5 then 1 else 0, ((5, tk, fd, ifs, ne, pe), X, w))
    else if st = 5 ∧ k = 22 then (if 4 ≤ ifs then 2 else 1, ((6, tk, fd, ifs + 1, ne, 10), X, w))
    else if st = 5 ∨ st = 6 then yunit k v ((st, tk, fd, ifs, ne, pe), X, w)
    else ybeh k ((st, tk, fd, ifs, ne, pe), X, w)
/-- how reading ends: fault, its place, and what was read -/
def yrun (sm : Nat → Nat → Bool) (K V P : Nat → Nat) : Nat → Nat → YS → Nat × Int32 × YS
  | 0, i, p => (2, nI (P i), p)
  | f + 1, i, p =>
    if (ystep sm (K i) (V i) (P i) p).1 = 0 then (1, nI (P i), p)
    else if K i = 0 then ((ystep sm (K i) (V i) (P i) p).2.2.1.1.1, (ystep sm (K i) (V i) (P i) p).2.2.1.1.2, (ystep sm (K i) (V i) (P i) p).2)
    else if (ystep sm (K i) (V i) (P i) p).1 = 2 ∨ 400 ≤ i then (2, nI (P i), p)
    else yrun sm K V P f (i + 1) (ystep sm (K i) (V i) (P i) p).2
theorem yrun_s (sm : Nat → Nat → Bool) (K V P : Nat → Nat) (f i : Nat) (p : YS) : yrun sm K V P (f + 1) i p =
    if (ystep sm (K i) (V i) (P i) p).1 = 0 then (1, nI (P i), p)
    else if K i = 0 then ((ystep sm (K i) (V i) (P i) p).2.2.1.1.1, (ystep sm (K i) (V i) (P i) p).2.2.1.1.2, (ystep sm (K i) (V i) (P i) p).2)
    else if (ystep sm (K i) (V i) (P i) p).1 = 2 ∨ 400 ≤ i then (2, nI (P i), p)
    else yrun sm K V P f (i + 1) (ystep sm (K i) (V i) (P i) p).2 := rfl
/-- what never changes of the parser, its maker and the draft d -/
def CP (M : XM) (d : Nat) : Prop := (d = 26 ∨ d = 55) ∧ (xS M 19 = (6, 0) ∧ xF M 19 0 = 20 ∧ xF M 19 1 = 22 ∧ xF M 19 2 = d ∧ xS M 20 = (9, 0) ∧ xS M 22 = (4, 0) ∧ xF M 22 0 = 23 ∧ xS M 23 = (40, 20)) ∧ TxtSh M d ∧
  (xS M 2 = (40, 3) ∧ xS M 3 = (40, 4) ∧ xS M 4 = (40, 3)) ∧ ∀ k, k < 4 → (k < 3 → xI M 2 k = nI (ylim (k + 19) k)) ∧ xI M 3 k = nI (ylim 13 k) ∧ (k < 3 → xI M 4 k = nI (ylim 14 k))
/-- the text so far -/
def CX (M : XM) (d : Nat) (N : Nat → Int64) : YX → Prop
  | (m, a, r, nm, L, R, S) => (xI M 19 13 = nI m.1 ∧ m.1 ≤ 5 ∧ xI M 19 14 = m.2) ∧ (xI M d 0 = nI a ∧ xI M d 1 = nI r ∧ xI M d 7 = nI (a + r) ∧ a ≤ 7 ∧ r ≤ 6) ∧ (∀ i, i < a + r → xJ M (d + 18) i = N (nm i)) ∧ (∀ l, l < 7 → xI M (d + 2 + l) = L l) ∧ (∀ l, l < 6 → xI M (d + 10 + l) = R l) ∧ xI M (d + 16) = S
/-- the laws so far; the law lw is at work -/
def CL (M : XM) (d : Nat) (W : Nat → YL) (lw : Nat) (l : YL) : Prop := ∀ k, k < 4 → LwI M (d + 21 + 2 * k) (if k = lw then l else W k)
/-- a law at work -/
def LF (M : XM) (d ifs ne pe lw : Nat) (l : YL) (z : Nat × (Nat → Nat)) (sk : Nat) : Prop := lw < 4 ∧ MK M (d + 21 + 2 * lw) l z ∧ (xI M 22 3 = nI sk ∧ sk ≤ 400) ∧ (xI M 19 10 = nI ifs ∧ ifs ≤ 4) ∧ (xI M 19 11 = nI ne ∧ ne ≤ 6) ∧ xI M 19 12 = nI pe ∧ (pe = 4 ∨ pe = 10 ∨ pe = 23 ∨ pe = 24)
/-- what holds in the states -/
def CQ (M : XM) (d : Nat) : YS → Prop
  | ((st, tk, fd, ifs, ne, pe), (_, a, r, _), (_, lw, l, z, sk)) => (xI M 19 3 = nI st ∧ st ≤ 7 ∧ xI M 19 4 = 0) ∧
    (st = 1 → xI M 19 5 = nI tk ∧ ((tk = 13 ∧ a < 7) ∨ (tk = 14 ∧ r < 6))) ∧
    (st = 2 → xI M 19 8 = nI fd ∧ ((tk = 13 ∧ fd < 4 ∧ 1 ≤ a ∧ xF M 19 6 = d + 2 + (a - 1) ∧ xF M 19 7 = 3 ∧ xI M 19 9 = 3) ∨ (tk = 14 ∧ fd < 3 ∧ 1 ≤ r ∧ xF M 19 6 = d + 10 + (r - 1) ∧ xF M 19 7 = 4 ∧ xI M 19 9 = 2) ∨ (19 ≤ tk ∧ tk ≤ 21 ∧ fd = tk - 19 ∧ xF M 19 6 = d + 16 ∧ xF M 19 7 = 2 ∧ xI M 19 9 = nI (tk - 19)))) ∧
    (4 ≤ st → LF M d ifs ne pe lw l z sk) ∧
    (st < 4 → lw = 4)
def CD (M : XM) (d : Nat) (N : Nat → Int64) (X : YX) (W : Nat → YL) (lw : Nat) (l : YL) : Prop := CP M d ∧ CX M d N X ∧ CL M d W lw l
def CR (M : XM) (d : Nat) (N : Nat → Int64) : YS → Prop
  | (C, X, (W, lw, l, z, sk)) => CD M d N X W lw l ∧ CQ M d (C, X, (W, lw, l, z, sk))
/-- what a step may change -/
def yP (d : Nat) : Nat → Nat → Prop := fun a k => (a = 19 ∧ 3 ≤ k ∧ k ≤ 14) ∨ a = 22 ∨ a = 23 ∨ (d ≤ a ∧ a < d + 29)
def yJ (d : Nat) : Nat → Nat → Prop := fun a _ => a = d + 18
def yF : Nat → Nat → Prop := fun a k => (a = 19 ∧ (k = 6 ∨ k = 7)) ∨ (a = 22 ∧ k = 2)
theorem TxtSh.e3 {M M' : XM} {t : Nat} {P R F : Nat → Nat → Prop} (h : TxtSh M t) (e : E3 P R F M M') (hf : ∀ a k, F a k → a < t ∨ t + 29 ≤ a) : TxtSh M' t := by
  have f : ∀ a k, t ≤ a → a < t + 29 → xF M' a k = xF M a k := fun a k h1 h2 => e.FF fun q => by have := hf a k q; omega
  obtain ⟨h1, h2, h3, h4⟩ := h
  refine ⟨?_, fun l hl => ?_, fun l hl => ?_, fun k hk => ?_⟩
  · rw [e.S, f t 2 (by omega) (by omega), f t 3 (by omega) (by omega), f t 4 (by omega) (by omega), f t 5 (by omega) (by omega), f t 6 (by omega) (by omega), f t 8 (by omega) (by omega), f t 9 (by omega) (by omega)]
    exact h1
  · rw [e.S, f (t + 1) l (by omega) (by omega)]; exact h2 l hl
  · rw [e.S, f (t + 9) l (by omega) (by omega)]; exact h3 l hl
  · rw [f (t + 17) k (by omega) (by omega)]
    exact ⟨(h4 k hk).1, (h4 k hk).2.e3 e fun a j q => by have := hf a j q; omega⟩
theorem CP.e3 {M M' : XM} {d : Nat} {P R F : Nat → Nat → Prop} (h : CP M d) (e : E3 P R F M M') (hp : ∀ a k, P a k → 16 ≤ a) (hf : ∀ a k, F a k → yF a k) : CP M' d := by
  obtain ⟨h1, ⟨a1, a2, a3, a4, a5, a6, a7, a8⟩, h3, h4, h5⟩ := h
  have f : ∀ a k, ¬ yF a k → xF M' a k = xF M a k := fun a k q => e.FF fun z => q (hf a k z)
  refine ⟨h1, ⟨by rw [e.S]; exact a1, by rw [f _ _ (by unfold yF; omega)]; exact a2, by rw [f _ _ (by unfold yF; omega)]; exact a3, by rw [f _ _ (by unfold yF; omega)]; exact a4, by rw [e.S]; exact a5, by rw [e.S]; exact a6, by rw [f _ _ (by unfold yF; omega)]; exact a7, by rw [e.S]; exact a8⟩, h3.e3 e (fun a k q => by have := hf a k q; unfold yF at this; omega), by rw [e.S]; exact h4, fun k hk => ?_⟩
  rw [e.I (fun q => by have := hp _ _ q; omega), e.I (fun q => by have := hp _ _ q; omega), e.I (fun q => by have := hp _ _ q; omega)]
  exact h5 k hk
theorem CP.m {M M' : XM} {d : Nat} (h : CP M d) (e : E3 (yP d) (yJ d) yF M M') : CP M' d := h.e3 e (fun a k q => by have := h.1; unfold yP at q; omega) (fun _ _ q => q)
theorem CX.e3 {M M' : XM} {d : Nat} {N : Nat → Int64} {X : YX} {P R F : Nat → Nat → Prop} (h : CX M d N X) (e : E3 P R F M M') (hp : ∀ a k, P a k → ¬ (a = 19 ∧ (k = 13 ∨ k = 14)) ∧ (a < d ∨ d + 17 ≤ a)) (hr : ∀ a k, R a k → a ≠ d + 18) : CX M' d N X := by
  obtain ⟨m, a, r, nm, L, R', S⟩ := X
  obtain ⟨⟨h1, h2, h3⟩, ⟨h4, h5, h6, h7, h8⟩, h9, h10, h11, h12⟩ := h
  have I : ∀ a k, (a = 19 ∧ (k = 13 ∨ k = 14)) ∨ (d ≤ a ∧ a < d + 17) → xI M' a k = xI M a k := fun a k q => e.I fun z => by have := hp a k z; omega
  have W : ∀ a, d ≤ a → a < d + 17 → xI M' a = xI M a := fun a h1 h2 => e.rowI fun k z => by have := hp a k z; omega
  exact ⟨⟨by rw [I _ _ (by omega)]; exact h1, h2, by rw [I _ _ (by omega)]; exact h3⟩, ⟨by rw [I _ _ (by omega)]; exact h4, by rw [I _ _ (by omega)]; exact h5, by rw [I _ _ (by omega)]; exact h6, h7, h8⟩, fun i hi => by rw [e.J fun q => hr _ _ q rfl]; exact h9 i hi, fun l hl => by rw [W _ (by omega) (by omega)]; exact h10 l hl, fun l hl => by rw [W _ (by omega) (by omega)]; exact h11 l hl, by rw [W _ (by omega) (by omega)]; exact h12⟩
theorem CL.e3 {M M' : XM} {d lw : Nat} {W : Nat → YL} {l : YL} {P R F : Nat → Nat → Prop} (h : CL M d W lw l) (e : E3 P R F M M') (hp : ∀ a k, P a k → a < d + 21 ∨ d + 29 ≤ a) : CL M' d W lw l := fun k hk => (h k hk).e3 e fun a j q => by have := hp a j q; omega
