/-! THE START: what stands there before the law begins, as the small machine's memory; and the claim out of a run of it -/
def xb19 : List Int32 := [108, 101, 116, 116, 101, 114, 32, 32, 114, 101, 97, 100, 101, 114, 32, 32, 108, 105, 107, 101, 115, 32, 32, 32, 114, 97, 116, 104, 101, 114, 115, 32, 114, 101, 116, 117, 114, 110, 115, 32, 97, 110, 115, 119, 101, 114, 115, 32, 116, 117, 114, 110, 115, 32, 32, 32, 119, 101, 116, 32, 32, 32, 32, 32, 115, 101, 101, 100, 32, 32, 32, 32, 105, 102, 32, 32, 32, 32, 32, 32, 116, 104, 101, 110, 32, 32, 32, 32, 101, 108, 115, 101, 32, 32, 32, 32, 97, 112, 97, 114, 116, 32, 32, 32, 104, 97, 110, 100, 32, 32, 32, 32, 103, 114, 105, 101, 102, 32, 32, 32, 116, 97, 115, 116, 101, 32, 32, 32, 112, 97, 116, 105, 101, 110, 99, 101, 97, 103, 101, 32, 32, 32, 32, 32, 100, 97, 121, 32, 32, 32, 32, 32, 119, 104, 105, 99, 104, 32, 32, 32, 104, 97, 100, 32, 32, 32, 32, 32]
def xb70 : List Int32 := [59, 61, 43, 45, 42, 47, 60, 40, 41]
def xsh0 (L a : Nat) : Nat × Nat := if a = 1 then (40, L) else if a = 2 then (40, 3) else if a = 3 then (40, 4) else if a = 4 then (40, 3) else if a = 5 then (31, 0) else if a = 6 then (41, 168) else if a = 7 then (31, 0) else if a = 8 then (41, 9) else (999, 0)
def xmi0 (xs : Nat → Int32) (a k : Nat) : Int32 := if a = 1 then xs k else if a = 2 then [99, 100, 9999].getD k 0 else if a = 3 then [9, 9, 9, 99].getD k 0 else if a = 4 then [9, 9, 9].getD k 0 else if a = 6 then xb19.getD k 0 else if a = 8 then xb70.getD k 0 else 0
def xmr0 (a k : Nat) : Nat := if a = 5 ∧ k = 0 then 6 else if a = 7 ∧ k = 0 then 8 else 0
/-- the memory at the start: the script, three rows of limits, two texts -/
def xM0 (L : Nat) (xs : Nat → Int32) : XM := ((16, 0), xsh0 L, xmi0 xs, fun _ _ => 0, xmr0)
def xflat : List Cond := flatC (Jvm.Cond.and given_1 narrow_1)
theorem xfl_at {args : Array Value} {s : State} (h : (Jvm.Cond.and given_1 narrow_1).before args s = true) (k : Nat) {w : Cond} (hk : xflat[k]? = some w) : w.before args s = true := flat_of_before _ h w (List.mem_of_getElem? hk)
theorem xel19 : ∀ j, j < 168 → xflat[58 + j]? = some (.eq (.elem (.field (.string "HopeDrawer$Tokens" 19) "java/lang/String" "value" "[B") (.int (Int32.ofNat j))) (.int (xb19.getD j 0))) := by decide +kernel
theorem xel70 : ∀ j, j < 9 → xflat[230 + j]? = some (.eq (.elem (.field (.string "HopeDrawer$Tokens" 70) "java/lang/String" "value" "[B") (.int (Int32.ofNat j))) (.int (xb70.getD j 0))) := by decide +kernel
theorem xinst : ∀ t, t < 13 → xCNs.any (fun z => z.2.2.1 == t) = true := by decide +kernel
section XSTART
variable {s : State} {b L : Nat} {xs : Nat → Int32}
theorem xlim {ty : FieldType} {N : Nat} {C n d : String} {f : Nat → Int32} {args : Array Value} (B : Nat) (hB : B = s.heap.size) (hN : N < 2 ^ 31) (harr : (Cond.arrayOf (.static C n d) ty).before args s = true) (hlen : (Cond.eq (.length (.static C n d)) (.int (Int32.ofNat N))).before args s = true) (hel : ∀ j : Nat, j < N → (Cond.eq (.elem (.static C n d) (.int (Int32.ofNat j))) (.int (f j))).before args s = true) (hl : (Cond.laysStatic C n d).before args s = true) (hini : (Cond.initialized C).before args s = true) : ∃ t : Nat, va_Z C n d (.ref t) (xA B) s s.heap ∧ va_T ty t N (fun j => .int (f j)) (xA B) s s.heap := by
  subst hB
  have hA : ∀ a : Nat, a < s.heap.size → ¬ xA s.heap.size a := fun a h q => by have : s.heap.size ≤ a := q; omega
  obtain ⟨t, h1, h2⟩ := va_Tof (f := fun j => .int (f j)) (A := xA s.heap.size) hN harr (va_eqt hlen) (fun j hj => va_eqt (hel j hj)) hA
  exact ⟨t, va_Zof hl hini h1 hA, h2⟩
theorem xArr_ext {ext : Nat → Value} {B : Nat} {M : XM} {a t N : Nat} {ty : FieldType} {f : Nat → Int32} (hB : B = s.heap.size) (ha : a < 16) (he : ext a = .ref t) (hT : va_T ty t N (fun j => .int (f j)) (xA B) s s.heap) (hsh : M.2.1 a = (if ty = .int then 40 else 41, N)) (hty : ty = .int ∨ ty = .byte) (hf : ∀ j, j < N → M.2.2.1 a j = f j) : xArr ext B s s.heap M a := by
  obtain ⟨cell, h1, h2, h3, h4, h5, h6, h7⟩ := hT
  have hlt : t < s.heap.size := (Array.getElem?_eq_some_iff.mp h1).1
  refine ⟨t, cell, by rw [xv_lo ha]; exact he, fun _ => by rw [hB]; exact hlt, h1, ?_, h3, ?_, ?_, ?_⟩
  · rw [hsh]; rcases hty with e | e <;> subst e <;> exact h2
  · rw [hsh]; exact ⟨h4, h5, fun z => by omega⟩
  · rw [hsh]
    intro k hk
    have hk' : k < N := hk
    rw [h6 k hk']
    rcases hty with e | e <;> subst e
    · show _ = some (Value.int (M.2.2.1 a k)); rw [hf k hk']
    · show _ = some (Value.int (M.2.2.1 a k)); rw [hf k hk']
  · rw [hsh]; intro z; rcases hty with e | e <;> subst e <;> simp at z
theorem x_world (hts : ∀ w ∈ lw_tbl, w.before #[Value.ref b] s = true) (hX : va_X b L xs s s.heap) (hbl : b < s.heap.size) (hL : L ≤ 3072) (hgv : (Jvm.Cond.and given_1 narrow_1).before #[Value.ref b] s = true) : ∃ (ext : Nat → Value) (D : va_G), xExt ext ∧ ext 1 = .ref b ∧ xSta ext s.heap.size D xcl xSL xTL xNW s s.heap ∧ xAbs ext s.heap.size D xcl xfty s s.heap (xM0 L xs) := by
  have hw : ∀ (k : Nat) {w : Cond}, lw_tbl[k]? = some w → w.before #[Value.ref b] s = true := fun k w h => hts w (List.mem_of_getElem? h)
  have hA : ∀ a : Nat, a < s.heap.size → ¬ xA s.heap.size a := fun a h q => by have : s.heap.size ≤ a := q; omega
  obtain ⟨t2, z2, T2⟩ := xlim (s := s) (args := #[Value.ref b]) (ty := .int) (N := 3) (C := "HopeDrawer$Parser") (n := "SETTING_LIMITS") (d := "[I") (f := fun j => [99, 100, 9999].getD j 0) s.heap.size rfl (by decide) (xfl_at hgv 10 (by decide +kernel)) (xfl_at hgv (10 + 1) (by decide +kernel)) (fun j hj => xfl_at hgv (10 + 2 + j) (by revert j; decide +kernel)) (hw 624 (by decide +kernel)) (hw 118 (by decide +kernel))
  obtain ⟨t3, z3, T3⟩ := xlim (s := s) (args := #[Value.ref b]) (ty := .int) (N := 4) (C := "HopeDrawer$Parser") (n := "LETTER_LIMITS") (d := "[I") (f := fun j => [9, 9, 9, 99].getD j 0) s.heap.size rfl (by decide) (xfl_at hgv 16 (by decide +kernel)) (xfl_at hgv (16 + 1) (by decide +kernel)) (fun j hj => xfl_at hgv (16 + 2 + j) (by revert j; decide +kernel)) (hw 759 (by decide +kernel)) (hw 118 (by decide +kernel))
  obtain ⟨t4, z4, T4⟩ := xlim (s := s) (args := #[Value.ref b]) (ty := .int) (N := 3) (C := "HopeDrawer$Parser") (n := "READER_LIMITS") (d := "[I") (f := fun j => [9, 9, 9].getD j 0) s.heap.size rfl (by decide) (xfl_at hgv 23 (by decide +kernel)) (xfl_at hgv (23 + 1) (by decide +kernel)) (fun j hj => xfl_at hgv (23 + 2 + j) (by revert j; decide +kernel)) (hw 761 (by decide +kernel)) (hw 118 (by decide +kernel))
  have zC : va_Z "java/lang/String" "COMPACT_STRINGS" "Z" (.int 1) (xA s.heap.size) s s.heap := va_Zof (hw 186 (by decide +kernel)) (hw 120 (by decide +kernel)) (va_eqt (xfl_at hgv 4 (by decide +kernel))) hA
  have zS := va_Zqof (A := xA s.heap.size) (hw 202 (by decide +kernel) : (Cond.laysStatic "jdk/internal/util/Preconditions" "SIOOBE_FORMATTER" "Ljava/util/function/BiFunction;").before #[Value.ref b] s = true) (hw 122 (by decide +kernel)) (xfl_at hgv 5 (by decide +kernel)) hA
  obtain ⟨v9, h9, z9⟩ : ∃ v9 : Value, (v9 = .null ∨ ∃ q, v9 = .ref q) ∧ va_Z "jdk/internal/util/Preconditions" "SIOOBE_FORMATTER" "Ljava/util/function/BiFunction;" v9 (xA s.heap.size) s s.heap := by
    rcases zS with h | ⟨t, h⟩
    · exact ⟨_, Or.inl rfl, h⟩
    · exact ⟨_, Or.inr ⟨_, rfl⟩, h⟩
  obtain ⟨adK, adV, hS, hev⟩ := vk_Sof (args := #[Value.ref b]) (s := s) (N := 2) (tm := fun i => .string "HopeDrawer$Tokens" (if i = 0 then 19 else 70)) (len := [168, 9]) (byt := [xb19, xb70]) (A := xA s.heap.size)
    (fun i hi => by rcases (show i = 0 ∨ i = 1 by omega) with e | e <;> subst e <;> decide)
    (fun i hi => by rcases (show i = 0 ∨ i = 1 by omega) with e | e <;> subst e; exact xfl_at hgv 54 (by decide +kernel); exact xfl_at hgv 226 (by decide +kernel))
    (fun i hi => by rcases (show i = 0 ∨ i = 1 by omega) with e | e <;> subst e; exact xfl_at hgv (54 + 1) (by decide +kernel); exact xfl_at hgv (226 + 1) (by decide +kernel))
    (fun i hi => by rcases (show i = 0 ∨ i = 1 by omega) with e | e <;> subst e; exact xfl_at hgv (54 + 2) (by decide +kernel); exact xfl_at hgv (226 + 2) (by decide +kernel))
    (fun i hi => by rcases (show i = 0 ∨ i = 1 by omega) with e | e <;> subst e; exact xfl_at hgv (54 + 3) (by decide +kernel); exact xfl_at hgv (226 + 3) (by decide +kernel))
    (fun i hi j hj => by rcases (show i = 0 ∨ i = 1 by omega) with e | e <;> subst e; exact xfl_at hgv (58 + j) (xel19 j hj); exact xfl_at hgv (230 + j) (xel70 j hj))
    (fun i j hi hj hne => by
      rcases (show i = 0 ∨ i = 1 by omega) with e | e <;> rcases (show j = 0 ∨ j = 1 by omega) with e' | e' <;> subst e <;> subst e'
      · exact absurd rfl hne
      · exact Or.inl (xfl_at hgv 239 (by decide +kernel))
      · exact Or.inr (xfl_at hgv 239 (by decide +kernel))
      · exact absurd rfl hne) hA
  obtain ⟨o5, c5, f5, T6⟩ := hS.1 0 (by omega)
  obtain ⟨o7, c7, f7, T8⟩ := hS.1 1 (by omega)
  have e5 := hev 0 (by omega)
  have e7 := hev 1 (by omega)
  obtain ⟨D, hD⟩ : ∃ D : va_G, ∀ (c : Nat) (q : vw_C), xcl[c]? = some q → u_Kn s q.1 q.2.1 q.2.2 (D.1 c) (D.2 c) := by
    have h0 : ∀ c : Nat, ∃ x : ClassId × (Nat → Nat), ∀ q : vw_C, xcl[c]? = some q → u_Kn s q.1 q.2.1 q.2.2 x.1 x.2 := by
      intro c
      by_cases hc : c < 13
      · obtain ⟨z, hz, e⟩ := List.any_eq_true.mp (xinst c hc)
        have h3 := xall xCNs_ok hz
        unfold xcnB at h3
        rw [Bool.and_eq_true] at h3
        have h4 := h3.2
        rw [beq_iff_eq] at e
        rw [e] at h4
        split at h4
        · rename_i r hr
          simp only [Bool.and_eq_true] at h4
          obtain ⟨cC, iS, hk⟩ := u_known (C := r.1) (T := r.2.1) (N := r.2.2) (n := z.2.2.2.1) (ws := xTs) (fun w hw => hts w (List.mem_filter.mp hw).1) (xCls_ok c r hr).1 (hts _ (List.mem_filter.mp (xat_in h4.1.2)).1)
          exact ⟨(cC, iS), fun q hq => by cases hr.symm.trans hq; exact hk⟩
        · cases h4
      · exact ⟨(0, fun _ => 0), fun q hq => absurd (List.getElem?_eq_some_iff.mp hq).1 hc⟩
    obtain ⟨g, hg⟩ := Classical.axiomOfChoice h0
    exact ⟨(fun c => (g c).1, fun c => (g c).2), fun c q hq => hg c q hq⟩
  refine ⟨fun a => if a = 1 then .ref b else if a = 2 then .ref t2 else if a = 3 then .ref t3 else if a = 4 then .ref t4 else if a = 5 then .ref (adK 0) else if a = 6 then .ref (adV 0) else if a = 7 then .ref (adK 1) else if a = 8 then .ref (adV 1) else if a = 9 then v9 else .null, D, ⟨rfl, ?_, ?_⟩, rfl, ?_, ?_⟩
  · intro a ha
    rcases (show a = 0 ∨ a = 1 ∨ a = 2 ∨ a = 3 ∨ a = 4 ∨ a = 5 ∨ a = 6 ∨ a = 7 ∨ a = 8 ∨ a = 9 ∨ 10 ≤ a by omega) with e | e | e | e | e | e | e | e | e | e | e
    · subst e; exact Or.inl rfl
    · subst e; exact Or.inr ⟨_, rfl⟩
    · subst e; exact Or.inr ⟨_, rfl⟩
    · subst e; exact Or.inr ⟨_, rfl⟩
    · subst e; exact Or.inr ⟨_, rfl⟩
    · subst e; exact Or.inr ⟨_, rfl⟩
    · subst e; exact Or.inr ⟨_, rfl⟩
    · subst e; exact Or.inr ⟨_, rfl⟩
    · subst e; exact Or.inr ⟨_, rfl⟩
    · subst e; exact h9
    · left
      simp only [show ¬ a = 1 by omega, show ¬ a = 2 by omega, show ¬ a = 3 by omega, show ¬ a = 4 by omega, show ¬ a = 5 by omega, show ¬ a = 6 by omega, show ¬ a = 7 by omega, show ¬ a = 8 by omega, show ¬ a = 9 by omega, if_false]
  · intro a h0 ha
    rcases (show a = 1 ∨ a = 2 ∨ a = 3 ∨ a = 4 ∨ a = 5 ∨ a = 6 ∨ a = 7 ∨ a = 8 by omega) with e | e | e | e | e | e | e | e <;> subst e <;> exact ⟨_, rfl⟩
  · refine ⟨hD, ?_, ?_, ?_, va_AO.of (hw 445 (by decide +kernel)), va_AO.of (hw 350 (by decide +kernel)), ?_⟩
    · intro q hq
      simp only [xSL, List.mem_cons, List.not_mem_nil, or_false] at hq
      rcases hq with rfl | rfl | rfl | rfl | rfl
      · exact zC
      · exact z2
      · exact z3
      · exact z4
      · exact z9
    · intro q hq
      simp only [xTL, List.mem_cons, List.not_mem_nil, or_false] at hq
      rcases hq with rfl | rfl
      · exact ⟨adK 0, rfl, vk_R.of (hw 176 (by decide +kernel)) e5⟩
      · exact ⟨adK 1, rfl, vk_R.of (hw 662 (by decide +kernel)) e7⟩
    · intro q hq
      obtain ⟨k, hk⟩ := List.getElem?_of_mem hq
      have h10 : k < xNW.length := (List.getElem?_eq_some_iff.mp hk).1
      have key : ∀ k, k < xNW.length → ∃ z, xNW[k]? = some z ∧ lw_tbl[xNWp.getD k 0]? = some (.methodLinkNest z.1 z.2.1 z.2.2.1 z.2.2.2) := by
        have : ∀ k, k < xNW.length → (match xNW[k]? with
          | some z => decide (lw_tbl[xNWp.getD k 0]? = some (.methodLinkNest z.1 z.2.1 z.2.2.1 z.2.2.2))
          | none => false) = true := by decide +kernel
        intro k hk
        have h := this k hk
        split at h
        · rename_i z hz; exact ⟨z, hz, of_decide_eq_true h⟩
        · cases h
      obtain ⟨z, hz, hl⟩ := key k h10
      cases hk.symm.trans hz
      exact va_Nw.of rfl (hw _ hl)
    · exact (hw 348 (by decide +kernel) : (Cond.arrayOver (.array .int)).before #[Value.ref b] s = true)
  · have hsz : (xM0 L xs).1.1 = 16 := rfl
    refine ⟨fun a ha => ?_, fun a ha => ?_, fun a ha ha' => ?_, fun a ha => ?_, Nat.le_refl _, rfl⟩
    · exfalso
      have ha : (xsh0 L a).1 < 31 := ha
      unfold xsh0 at ha
      repeat' split at ha
      all_goals simp at ha
    · have ha : (xsh0 L a).1 = 31 := ha
      by_cases e : a = 5
      · subst e
        exact ⟨by omega, adK 0, rfl, o5, f5, c5⟩
      · by_cases e' : a = 7
        · subst e'
          exact ⟨by omega, adK 1, rfl, o7, f7, c7⟩
        · exfalso
          unfold xsh0 at ha
          rw [if_neg e, if_neg e'] at ha
          repeat' split at ha
          all_goals simp at ha
    · have ha' : (xsh0 L a).1 ≤ 46 := ha'
      have ha : 40 ≤ (xsh0 L a).1 := ha
      have hcase : a = 1 ∨ a = 2 ∨ a = 3 ∨ a = 4 ∨ a = 6 ∨ a = 8 := by
        by_cases e1 : a = 1; · omega
        by_cases e2 : a = 2; · omega
        by_cases e3 : a = 3; · omega
        by_cases e4 : a = 4; · omega
        by_cases e6 : a = 6; · omega
        by_cases e8 : a = 8; · omega
        exfalso
        unfold xsh0 at ha ha'
        rw [if_neg e1, if_neg e2, if_neg e3, if_neg e4] at ha ha'
        by_cases e5 : a = 5
        · rw [if_pos e5] at ha; simp at ha
        · rw [if_neg e5, if_neg e6] at ha ha'
          by_cases e7 : a = 7
          · rw [if_pos e7] at ha; simp at ha
          · rw [if_neg e7, if_neg e8] at ha'; simp at ha'
      rcases hcase with e | e | e | e | e | e <;> subst e
      · obtain ⟨scr, q1, q2, q3, q4, q5⟩ := hX
        refine ⟨b, scr, rfl, fun _ => hbl, q1, q2, q3, ⟨?_, ?_, fun z => by omega⟩, fun k hk => ?_, fun z => by simp [xM0, xsh0] at z⟩
        · show L ≤ _; rw [q4]; exact Nat.le_refl _
        · show _ = nI L; rw [q4]; rfl
        · exact q5 k hk
      · exact xArr_ext (ty := .int) rfl (by omega) rfl T2 rfl (Or.inl rfl) (fun j _ => rfl)
      · exact xArr_ext (ty := .int) rfl (by omega) rfl T3 rfl (Or.inl rfl) (fun j _ => rfl)
      · exact xArr_ext (ty := .int) rfl (by omega) rfl T4 rfl (Or.inl rfl) (fun j _ => rfl)
      · exact xArr_ext (ty := .byte) rfl (by omega) rfl T6 rfl (Or.inr rfl) (fun j _ => rfl)
      · exact xArr_ext (ty := .byte) rfl (by omega) rfl T8 rfl (Or.inr rfl) (fun j _ => rfl)
    · have ha : 16 ≤ a := ha
      show 46 < (xsh0 L a).1
      unfold xsh0
      rw [if_neg (by omega), if_neg (by omega), if_neg (by omega), if_neg (by omega), if_neg (by omega), if_neg (by omega), if_neg (by omega), if_neg (by omega)]
      decide
end XSTART
/-- what is left to show of the small machine: on every script the law answers 1, within its room -/
def xOwed (L : Nat) (xs : Nat → Int32) : Prop := RG xprog 293 0 [some (.ref 1), none, none, none] [] (xM0 L xs) (fun v M => v = some (.int 1) ∧ M.1.1 ≤ 600000 ∧ M.1.2 ≤ 7302250)
