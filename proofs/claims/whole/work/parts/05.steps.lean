/-! one instruction of the small machine, where it asks for something -/
theorem and_eq {c a b : Prop} (h : a = b) : (c ∧ a) = (c ∧ b) := by rw [h]
theorem if_eq {c : Prop} [Decidable c] {a b a' b' : Prop} (h : a = a') (h' : b = b') : (if c then a else b) = (if c then a' else b') := by rw [h, h']
theorem lam_eq {Q Q' : Option Value → XM → Prop} (h : ∀ v M, Q v M = Q' v M) : Q = Q' := funext fun v => funext fun M => h v M
section XST
variable {G : Nat → XMe} {μ pc npc a b : Nat} {ls : XL} {st : List Value} {M : XM} {Q : Option Value → XM → Prop}
theorem RS_iconst {i : Int} {v : Int32} (he : (G μ).2.2.2.2.2.2 pc = some (.iconst i, npc, a, b)) (hv : Int32.ofInt i = v) : RG G μ pc ls st M Q = RG G μ npc ls (.int v :: st) M Q := by subst hv; exact RG_go he rfl
theorem RS_bipush {i : Int} {v : Int32} (he : (G μ).2.2.2.2.2.2 pc = some (.bipush i, npc, a, b)) (hv : (Int8.ofInt i).toInt32 = v) : RG G μ pc ls st M Q = RG G μ npc ls (.int v :: st) M Q := by subst hv; exact RG_go he rfl
theorem RS_sipush {i : Int} {v : Int32} (he : (G μ).2.2.2.2.2.2 pc = some (.sipush i, npc, a, b)) (hv : (Int16.ofInt i).toInt32 = v) : RG G μ pc ls st M Q = RG G μ npc ls (.int v :: st) M Q := by subst hv; exact RG_go he rfl
theorem RS_ldc {i : Nat} {v : Int32} (he : (G μ).2.2.2.2.2.2 pc = some (.ldc i, npc, 0, b)) (hv : Int32.ofNat b = v) : RG G μ pc ls st M Q = RG G μ npc ls (.int v :: st) M Q := by subst hv; exact RG_go he rfl
theorem RS_ldcw {i : Nat} {v : Int32} (he : (G μ).2.2.2.2.2.2 pc = some (.ldc_w i, npc, a, b)) (hv : Int32.ofNat b = v) : RG G μ pc ls st M Q = RG G μ npc ls (.int v :: st) M Q := by subst hv; exact RG_go he rfl
theorem RS_ldc2 {i : Nat} {v : Int64} (he : (G μ).2.2.2.2.2.2 pc = some (.ldc2_w i, npc, a, b)) (hv : Int64.ofNat b = v) : RG G μ pc ls st M Q = RG G μ npc ls (.long v :: st) M Q := by subst hv; exact RG_go he rfl
theorem RS_lconst {i : Fin 2} {v : Int64} (he : (G μ).2.2.2.2.2.2 pc = some (.lconst i, npc, a, b)) (hv : Int64.ofNat (i : Nat) = v) : RG G μ pc ls st M Q = RG G μ npc ls (.long v :: st) M Q := by subst hv; exact RG_go he rfl
theorem RS_gets {i : Nat} {v : Int32} (he : (G μ).2.2.2.2.2.2 pc = some (.getstatic i, npc, 0, b)) (hv : Int32.ofNat b = v) : RG G μ pc ls st M Q = RG G μ npc ls (.int v :: st) M Q := by subst hv; exact RG_go he rfl
theorem RS_iinc {i : Nat} {k : Int} {v x : Int32} {ls' : XL} (he : (G μ).2.2.2.2.2.2 pc = some (.iinc i k, npc, a, b)) (hv : Int32.ofInt k = v) (hl : xnth ls i = some (some (.int x))) (hs : xset ls i (some (.int (x + v))) = ls') : RG G μ pc ls st M Q = RG G μ npc ls' st M Q := by subst hv; subst hs; exact RG_go he (by simp only [xins, hl, xgo])
theorem RS_if {q : Prop} [Decidable q] {e : XI} {t f : Nat} {st' : List Value} (he : (G μ).2.2.2.2.2.2 pc = some e) (hs : xins G μ pc e ls st M = xif q t f ls st' M) : RG G μ pc ls st M Q = if q then RG G μ t ls st' M Q else RG G μ f ls st' M Q := by
  by_cases h : q
  · rw [if_pos h]; exact RG_go he (by rw [hs, xif, if_pos h]; rfl)
  · rw [if_neg h]; exact RG_go he (by rw [hs, xif, if_neg h]; rfl)
/-- goes on if q holds, and is stuck else -/
theorem RS_ask {q : Prop} [Decidable q] {e : XI} {pc' : Nat} {ls' : XL} {st' : List Value} {M' : XM} (he : (G μ).2.2.2.2.2.2 pc = some e) (hs : xins G μ pc e ls st M = if q then xgo pc' ls' st' M' else none) : RG G μ pc ls st M Q = (q ∧ RG G μ pc' ls' st' M' Q) := by
  by_cases h : q
  · rw [RG_go he (by rw [hs, if_pos h]; rfl)]; exact propext ⟨fun z => ⟨h, z⟩, fun z => z.2⟩
  · rw [RG_no he (by rw [hs, if_neg h])]; exact propext ⟨False.elim, fun z => h z.1⟩
theorem RS_asn {q : Prop} [Decidable q] {e : XI} {pc' : Nat} {ls' : XL} {st' : List Value} {M' : XM} (he : (G μ).2.2.2.2.2.2 pc = some e) (hs : xins G μ pc e ls st M = if q then none else xgo pc' ls' st' M') : RG G μ pc ls st M Q = (¬ q ∧ RG G μ pc' ls' st' M' Q) := by
  by_cases h : q
  · rw [RG_no he (by rw [hs, if_pos h])]; exact propext ⟨False.elim, fun z => z.1 h⟩
  · rw [RG_go he (by rw [hs, if_neg h]; rfl)]; exact propext ⟨fun z => ⟨h, z⟩, fun z => z.2⟩
theorem RS_ask2 {q q' : Prop} [Decidable q] [Decidable q'] {e : XI} {pc' : Nat} {ls' : XL} {st' : List Value} {M' : XM} (he : (G μ).2.2.2.2.2.2 pc = some e) (hs : xins G μ pc e ls st M = if q then (if q' then xgo pc' ls' st' M' else none) else none) : RG G μ pc ls st M Q = (q ∧ q' ∧ RG G μ pc' ls' st' M' Q) := by
  by_cases h : q
  · rw [RS_ask (q := q') he (by rw [hs, if_pos h])]; exact propext ⟨fun z => ⟨h, z⟩, fun z => z.2⟩
  · rw [RG_no he (by rw [hs, if_neg h])]; exact propext ⟨False.elim, fun z => h z.1⟩
theorem RS_bast {e : XI} {q q' : Prop} [Decidable q] [Decidable q'] {pc' : Nat} {ls' : XL} {st' : List Value} {M' M'' : XM} (he : (G μ).2.2.2.2.2.2 pc = some e) (hs : xins G μ pc e ls st M = if q then xgo pc' ls' st' M' else if q' then xgo pc' ls' st' M'' else none) : RG G μ pc ls st M Q = if q then RG G μ pc' ls' st' M' Q else (q' ∧ RG G μ pc' ls' st' M'' Q) := by
  by_cases h : q
  · rw [if_pos h]; exact RG_go he (by rw [hs, if_pos h]; rfl)
  · rw [if_neg h]; exact RS_ask he (by rw [hs, if_neg h])
theorem RS_retz {e : XI} {q : Prop} [Decidable q] {v : Option Value} (he : (G μ).2.2.2.2.2.2 pc = some e) (hs : xins G μ pc e ls st M = if q then some (.inr (.inr v)) else none) : RG G μ pc ls st M Q = (q ∧ Q v M) := by
  by_cases h : q
  · rw [RG_ret he (by rw [hs, if_pos h])]; exact propext ⟨fun z => ⟨h, z⟩, fun z => z.2⟩
  · rw [RG_no he (by rw [hs, if_neg h])]; exact propext ⟨False.elim, fun z => h z.1⟩
theorem RS_call {e : XI} {ν : Nat} {as rest : List Value} {ls' : XL} {npc' : Nat} (he : (G μ).2.2.2.2.2.2 pc = some e) (hs : xins G μ pc e ls st M = some (.inr (.inl (ν, as, rest)))) (hn : e.2.1 = npc') (hl : xent (G ν).2.2.1 as = ls') : RG G μ pc ls st M Q = RG G ν 0 ls' [] M (fun v M' => RG G μ npc' ls (v.toList ++ rest) M' Q) := by subst hn; subst hl; exact RG_call he hs
theorem RS_callq {q : Prop} [Decidable q] {e : XI} {ν : Nat} {as rest : List Value} {ls' : XL} {npc' : Nat} (he : (G μ).2.2.2.2.2.2 pc = some e) (hs : xins G μ pc e ls st M = if q then some (.inr (.inl (ν, as, rest))) else none) (hn : e.2.1 = npc') (hl : xent (G ν).2.2.1 as = ls') : RG G μ pc ls st M Q = (q ∧ RG G ν 0 ls' [] M (fun v M' => RG G μ npc' ls (v.toList ++ rest) M' Q)) := by
  by_cases h : q
  · rw [RS_call he (by rw [hs, if_pos h]) hn hl]; exact propext ⟨fun z => ⟨h, z⟩, fun z => z.2⟩
  · rw [RG_no he (by rw [hs, if_neg h])]; exact propext ⟨False.elim, fun z => h z.1⟩
theorem RS_ifn {q q' : Prop} [Decidable q] [Decidable q'] {e : XI} {t f : Nat} {st' : List Value} (he : (G μ).2.2.2.2.2.2 pc = some e) (hs : xins G μ pc e ls st M = if q' then none else xif q t f ls st' M) : RG G μ pc ls st M Q = (¬ q' ∧ if q then RG G μ t ls st' M Q else RG G μ f ls st' M Q) := by
  by_cases h : q'
  · rw [RG_no he (by rw [hs, if_pos h])]; exact propext ⟨False.elim, fun z => z.1 h⟩
  · rw [RS_if (q := q) he (by rw [hs, if_neg h])]; exact propext ⟨fun z => ⟨h, z⟩, fun z => z.2⟩
/-- a switch: by the list of its values and targets -/
def xsw (x : Int32) (d : Nat) (f : Nat → Prop) : List (Int32 × Nat) → Prop
  | [] => f d
  | (v, t) :: r => if x = v then f t else xsw x d f r
def xswn (x : Int32) (d : Nat) : List (Int32 × Nat) → Nat
  | [] => d
  | (v, t) :: r => if x = v then t else xswn x d r
theorem xsw_n (x : Int32) (d : Nat) (f : Nat → Prop) : ∀ l : List (Int32 × Nat), xsw x d f l = f (xswn x d l)
  | [] => rfl
  | (v, t) :: r => by
    unfold xsw xswn
    by_cases h : x = v
    · rw [if_pos h, if_pos h]
    · rw [if_neg h, if_neg h]; exact xsw_n x d f r
/-- the list tells the offsets, one behind another -/
def xswok (pc : Nat) : Int → List Int → List (Int32 × Nat) → Bool
  | _, [], [] => true
  | k, o :: os, (v, t) :: r => decide (v.toInt = k) && decide ((pc : Int) + o = (t : Int)) && xswok pc (k + 1) os r
  | _, _, _ => false
theorem xsw_in (pc d : Nat) (x : Int32) : ∀ (os : List Int) (k : Int) (l : List (Int32 × Nat)), xswok pc k os l = true → k ≤ x.toInt → x.toInt < k + os.length → ∃ o, os[(x.toInt - k).toNat]? = some o ∧ (pc : Int) + o = (xswn x d l : Int)
  | [], k, l, h, h1, h2 => by simp at h2; omega
  | o :: os, k, [], h, h1, h2 => by simp [xswok] at h
  | o :: os, k, (v, t) :: r, h, h1, h2 => by
    simp only [xswok, Bool.and_eq_true, decide_eq_true_eq] at h
    obtain ⟨⟨hv, ho⟩, hr⟩ := h
    by_cases hx : x = v
    · subst hx
      refine ⟨o, ?_, ?_⟩
      · rw [show (x.toInt - k).toNat = 0 by omega]; rfl
      · unfold xswn; rw [if_pos rfl]; exact ho
    · have hne : x.toInt ≠ k := fun q => hx (Int32.toInt_inj.mp (q.trans hv.symm))
      simp only [List.length_cons] at h2
      obtain ⟨o', h3, h4⟩ := xsw_in pc d x os (k + 1) r hr (by omega) (by omega)
      refine ⟨o', ?_, ?_⟩
      · rw [show (x.toInt - k).toNat = (x.toInt - (k + 1)).toNat + 1 by omega]; exact h3
      · unfold xswn; rw [if_neg hx]; exact h4
theorem xsw_out (pc d : Nat) (x : Int32) : ∀ (os : List Int) (k : Int) (l : List (Int32 × Nat)), xswok pc k os l = true → (x.toInt < k ∨ k + os.length ≤ x.toInt) → xswn x d l = d
  | [], k, [], h, h1 => rfl
  | [], k, (v, t) :: r, h, h1 => by simp [xswok] at h
  | o :: os, k, [], h, h1 => by simp [xswok] at h
  | o :: os, k, (v, t) :: r, h, h1 => by
    simp only [xswok, Bool.and_eq_true, decide_eq_true_eq] at h
    obtain ⟨⟨hv, ho⟩, hr⟩ := h
    simp only [List.length_cons] at h1
    unfold xswn
    rw [if_neg (fun q => by subst q; omega)]
    exact xsw_out pc d x os (k + 1) r hr (by omega)
theorem RS_tab {d lo hi : Int} {offs : Array Int} {x : Int32} (D : Nat) (l : List (Int32 × Nat)) (he : (G μ).2.2.2.2.2.2 pc = some (.tableswitch d lo hi offs, npc, a, b)) (hd : (pc : Int) + d = (D : Int)) (hh : hi = lo + offs.toList.length - 1) (hl : xswok pc lo offs.toList l = true) : RG G μ pc ls (.int x :: st) M Q = xsw x D (fun t => RG G μ t ls st M Q) l := by
  rw [xsw_n]
  refine RG_go he ?_
  have key : xtab pc d lo hi offs x = some (xswn x D l) := by
    unfold xtab
    by_cases hx : x.toInt < lo ∨ hi < x.toInt
    · rw [if_pos hx, hd, if_pos (by omega), xsw_out pc D x _ _ _ hl (by omega)]; rfl
    · rw [if_neg hx]
      obtain ⟨o, h3, h4⟩ := xsw_in pc D x _ _ _ hl (by omega) (by omega)
      rw [← Array.getElem?_toList, h3]
      dsimp only
      rw [h4, if_pos (by omega)]; rfl
  simp only [xins, key]
  rfl
end XST
def xZ (M : XM) : Nat := M.1.1
def xS (M : XM) : Nat → Nat × Nat := M.2.1
def xI (M : XM) : Nat → Nat → Int32 := M.2.2.1
def xJ (M : XM) : Nat → Nat → Int64 := M.2.2.2.1
def xF (M : XM) : Nat → Nat → Nat := M.2.2.2.2
