/-! what holds of all offices is kept by all that is done -/
theorem xo_at {α : Type} (f : Nat → α) (i : Nat) (x : α) (j : Nat) : xone f i x j = if j = i then x else f j := rfl
theorem bring_p (T : XT) (F : XO) : oD (bringF T F) = oD F ∧ oH (bringF T F) = oH F ∧ oB (bringF T F) = oB F ∧ oA (bringF T F) = oA F ∧ oS (bringF T F) = oS F ∧ oU (bringF T F) = oU F ∧ ∀ l, oW (bringF T F) l = if l < tN T ∧ oW F l = 0 ∧ ¬ oD F < tL T l 3 then 1 else oW F l := by
  unfold bringF
  refine iter_inv (fun i G => oD G = oD F ∧ oH G = oH F ∧ oB G = oB F ∧ oA G = oA F ∧ oS G = oS F ∧ oU G = oU F ∧ ∀ l, oW G l = if l < i ∧ oW F l = 0 ∧ ¬ oD F < tL T l 3 then 1 else oW F l) _ F (tN T) ⟨rfl, rfl, rfl, rfl, rfl, rfl, fun l => by rw [if_neg (fun q => absurd q.1 (by omega))]⟩ ?_
  intro i G hi ⟨h1, h2, h3, h4, h5, h6, h7⟩
  have hi' : oW G i = oW F i := by rw [h7 i, if_neg (fun q => absurd q.1 (by omega))]
  show oD (if oW G i = 0 ∧ ¬ oD G < tL T i 3 then sW G i 1 else G) = _ ∧ _
  rw [hi', h1]
  by_cases hc : oW F i = 0 ∧ ¬ oD F < tL T i 3
  · rw [if_pos hc]
    refine ⟨h1, h2, h3, h4, h5, h6, fun l => ?_⟩
    show xone (oW G) i 1 l = _
    rw [xo_at]
    by_cases hl : l = i
    · subst hl
      rw [if_pos rfl, if_pos ⟨by omega, hc⟩]
    · rw [if_neg hl, h7 l]
      by_cases h8 : l < i ∧ oW F l = 0 ∧ ¬ oD F < tL T l 3
      · rw [if_pos h8, if_pos ⟨by omega, h8.2⟩]
      · rw [if_neg h8, if_neg (fun q => h8 ⟨by omega, q.2⟩)]
  · rw [if_neg hc]
    refine ⟨h1, h2, h3, h4, h5, h6, fun l => ?_⟩
    rw [h7 l]
    by_cases hl : l = i
    · subst hl
      rw [if_neg (fun q => hc q.2), if_neg (fun q => hc q.2)]
    · by_cases h8 : l < i ∧ oW F l = 0 ∧ ¬ oD F < tL T l 3
      · rw [if_pos h8, if_pos ⟨by omega, h8.2⟩]
      · rw [if_neg h8, if_neg (fun q => h8 ⟨by omega, q.2⟩)]
theorem OInv.bring {T : XT} {F : XO} (h : OInv T F) (n7 : tN T ≤ 7) : OInv T (bringF T F) := by
  obtain ⟨e1, e2, e3, e4, e5, e6, e7⟩ := bring_p T F
  obtain ⟨h1, h2, h3, h4, h5, h6, h7⟩ := h
  have k0 : ∀ l, ¬ oW F l = 0 → oW (bringF T F) l = oW F l := fun l q => by rw [e7, if_neg (fun z => q z.2.1)]
  have k1 : ∀ l, oW (bringF T F) l = oW F l ∨ (oW (bringF T F) l = 1 ∧ oW F l = 0 ∧ l < tN T) := fun l => by
    rw [e7]
    split
    · rename_i q; exact Or.inr ⟨rfl, q.2.1, q.1⟩
    · exact Or.inl rfl
  refine ⟨?_, ?_, ?_, ?_, ?_, ?_, ?_⟩
  · intro l hl
    rw [e2, e5]
    rcases h1 l hl with q | ⟨q1, q2, q3⟩
    · left
      refine ⟨q.1, ?_⟩
      rcases k1 l with k | k
      · rw [k]; exact q.2
      · rw [k.1]; decide
    · right
      refine ⟨q1, ?_, q3⟩
      rw [k0 l (by rw [q2]; decide)]; exact q2
  · intro a ha
    rw [e5, e2]
    rcases h2 a ha with q | ⟨q1, l, q2, q3, q4, q5⟩
    · exact Or.inl q
    · right
      refine ⟨q1, l, q2, q3, q4, ?_⟩
      rw [k0 l (by rw [q5]; decide)]; exact q5
  · intro l hl
    rw [e3]
    obtain ⟨q1, q2⟩ := h3 l hl
    rcases k1 l with k | k
    · rw [k]; exact ⟨q1, q2⟩
    · refine ⟨Or.inr (Or.inl k.1), ?_⟩
      rcases q2 with q | q | q
      · exact Or.inl q
      · exact Or.inr (Or.inl q)
      · rw [k.2.1] at q; exact absurd q.2 (by decide)
  · intro l hl hl7
    rw [e3]
    obtain ⟨q1, q2⟩ := h4 l hl hl7
    rcases k1 l with k | k
    · rw [k]; exact ⟨q1, q2⟩
    · omega
  · rw [e4]; exact h5
  · intro k hk
    rw [e2, e3]
    refine ⟨?_, (h6 k hk).2⟩
    rcases k1 k with q | q
    · rw [q]; exact (h6 k hk).1
    · omega
  · rw [e4, e5, e6]; exact h7
/-- what RETURNS does, place by place -/
theorem ret_p {T : XT} {F : XO} (h : OInv T F) (r6 : tR T ≤ 6) (n7 : tN T ≤ 7) : oD (retF T F) = oD F ∧ oA (retF T F) = oA F ∧ oU (retF T F) = oU F ∧
    (∀ l, oW (retF T F) l = if l < tN T ∧ rtb T F l = true then (if oB F l + 1 < 2 then 1 else 3) else oW F l) ∧
    (∀ l, oH (retF T F) l = if l < tN T ∧ rtb T F l = true then -2 else oH F l) ∧
    (∀ l, oB (retF T F) l = if l < tN T ∧ rtb T F l = true then oB F l + 1 else oB F l) ∧
    (∀ a, (∃ l, l < tN T ∧ rtb T F l = true ∧ oH F l = nI a) → a < 6 → oS (retF T F) a = -2) ∧
    ∀ a, ¬ (∃ l, l < tN T ∧ rtb T F l = true ∧ oH F l = nI a ∧ a < 6) → oS (retF T F) a = oS F a := by
  unfold retF
  refine iter_inv (fun i G => oD G = oD F ∧ oA G = oA F ∧ oU G = oU F ∧
    (∀ l, oW G l = if l < i ∧ rtb T F l = true then (if oB F l + 1 < 2 then 1 else 3) else oW F l) ∧
    (∀ l, oH G l = if l < i ∧ rtb T F l = true then -2 else oH F l) ∧
    (∀ l, oB G l = if l < i ∧ rtb T F l = true then oB F l + 1 else oB F l) ∧
    (∀ a, (∃ l, l < i ∧ rtb T F l = true ∧ oH F l = nI a) → a < 6 → oS G a = -2) ∧
    ∀ a, ¬ (∃ l, l < i ∧ rtb T F l = true ∧ oH F l = nI a ∧ a < 6) → oS G a = oS F a) _ F (tN T)
    ⟨rfl, rfl, rfl, fun l => by rw [if_neg (fun q => absurd q.1 (by omega))], fun l => by rw [if_neg (fun q => absurd q.1 (by omega))], fun l => by rw [if_neg (fun q => absurd q.1 (by omega))], fun a ⟨l, q, _⟩ => absurd q (by omega), fun a _ => rfl⟩ ?_
  intro i G hi ⟨g1, g2, g3, g4, g5, g6, g7, g8⟩
  unfold ret1
  by_cases hb : rtb T F i = true
  · rw [if_pos hb]
    have hw : oW F i = 2 := by
      unfold rtb at hb
      simp only [Bool.and_eq_true, decide_eq_true_eq] at hb
      exact hb.1
    obtain ⟨a0, ha0, hH, hS⟩ : ∃ a, a < tR T ∧ oH F i = nI a ∧ oS F a = nI i := by
      rcases h.1 i (by omega) with q | ⟨_, _, q⟩
      · exact absurd hw q.2
      · exact q
    have Hi : oH G i = nI a0 := by rw [g5, if_neg (fun q => absurd q.1 (by omega)), hH]
    have Bi : oB G i = oB F i := by rw [g6, if_neg (fun q => absurd q.1 (by omega))]
    have E : takeF (sB G i (oB G i + 1)) i (if oB G i + 1 < 2 then 1 else 3) = sW (sH (sS (sB G i (oB F i + 1)) a0 (-2)) i (-2)) i (if oB F i + 1 < 2 then 1 else 3) := by
      unfold takeF
      have e1 : oH (sB G i (oB G i + 1)) i = nI a0 := Hi
      rw [e1, if_neg (by rw [nM2 (by omega)]; exact fun q => q), nI_clamp (by omega), Bi]
    rw [E]
    refine ⟨g1, g2, g3, fun l => ?_, fun l => ?_, fun l => ?_, fun a => ?_, fun a => ?_⟩
    · show xone (oW G) i _ l = _
      rw [xo_at]
      by_cases hl : l = i
      · subst hl; rw [if_pos rfl, if_pos (c := l < l + 1 ∧ rtb T F l = true) ⟨by omega, hb⟩]
      · rw [if_neg hl, g4]
        by_cases h8 : l < i ∧ rtb T F l = true
        · rw [if_pos h8, if_pos (c := l < i + 1 ∧ rtb T F l = true) ⟨by omega, h8.2⟩]
        · rw [if_neg h8, if_neg (c := l < i + 1 ∧ rtb T F l = true) (fun q => h8 ⟨by omega, q.2⟩)]
    · show xone (oH G) i _ l = _
      rw [xo_at]
      by_cases hl : l = i
      · subst hl; rw [if_pos rfl, if_pos (c := l < l + 1 ∧ rtb T F l = true) ⟨by omega, hb⟩]
      · rw [if_neg hl, g5]
        by_cases h8 : l < i ∧ rtb T F l = true
        · rw [if_pos h8, if_pos (c := l < i + 1 ∧ rtb T F l = true) ⟨by omega, h8.2⟩]
        · rw [if_neg h8, if_neg (c := l < i + 1 ∧ rtb T F l = true) (fun q => h8 ⟨by omega, q.2⟩)]
    · show xone (oB G) i _ l = _
      rw [xo_at]
      by_cases hl : l = i
      · subst hl; rw [if_pos rfl, if_pos (c := l < l + 1 ∧ rtb T F l = true) ⟨by omega, hb⟩]
      · rw [if_neg hl, g6]
        by_cases h8 : l < i ∧ rtb T F l = true
        · rw [if_pos h8, if_pos (c := l < i + 1 ∧ rtb T F l = true) ⟨by omega, h8.2⟩]
        · rw [if_neg h8, if_neg (c := l < i + 1 ∧ rtb T F l = true) (fun q => h8 ⟨by omega, q.2⟩)]
    · rintro ⟨l, h1, h2, h3⟩ ha
      show xone (oS G) a0 (-2) a = -2
      rw [xo_at]
      by_cases hl : a = a0
      · rw [if_pos hl]
      · rw [if_neg hl]
        refine g7 a ⟨l, ?_, h2, h3⟩ ha
        rcases Nat.lt_or_ge l i with q | q
        · exact q
        · have : l = i := by omega
          subst this
          rw [hH, nI_eq (by omega) (by omega)] at h3
          exact absurd h3.symm hl
    · intro hn
      show xone (oS G) a0 (-2) a = oS F a
      rw [xo_at]
      by_cases hl : a = a0
      · exact absurd ⟨i, by omega, hb, by rw [hl]; exact hH, by omega⟩ hn
      · rw [if_neg hl]
        exact g8 a fun ⟨l, q1, q2⟩ => hn ⟨l, by omega, q2⟩
  · rw [if_neg hb]
    have ne : ∀ l, l < i + 1 → rtb T F l = true → l < i := fun l h1 h2 => by
      rcases Nat.lt_or_ge l i with q | q
      · exact q
      · have : l = i := by omega
        subst this
        exact absurd h2 hb
    refine ⟨g1, g2, g3, fun l => ?_, fun l => ?_, fun l => ?_, fun a => ?_, fun a => ?_⟩
    · rw [g4]
      by_cases h8 : l < i ∧ rtb T F l = true
      · rw [if_pos h8, if_pos (c := l < i + 1 ∧ rtb T F l = true) ⟨by omega, h8.2⟩]
      · rw [if_neg h8, if_neg (c := l < i + 1 ∧ rtb T F l = true) (fun q => h8 ⟨ne l q.1 q.2, q.2⟩)]
    · rw [g5]
      by_cases h8 : l < i ∧ rtb T F l = true
      · rw [if_pos h8, if_pos (c := l < i + 1 ∧ rtb T F l = true) ⟨by omega, h8.2⟩]
      · rw [if_neg h8, if_neg (c := l < i + 1 ∧ rtb T F l = true) (fun q => h8 ⟨ne l q.1 q.2, q.2⟩)]
    · rw [g6]
      by_cases h8 : l < i ∧ rtb T F l = true
      · rw [if_pos h8, if_pos (c := l < i + 1 ∧ rtb T F l = true) ⟨by omega, h8.2⟩]
      · rw [if_neg h8, if_neg (c := l < i + 1 ∧ rtb T F l = true) (fun q => h8 ⟨ne l q.1 q.2, q.2⟩)]
    · rintro ⟨l, h1, h2, h3⟩ ha
      exact g7 a ⟨l, ne l h1 h2, h2, h3⟩ ha
    · intro hn
      exact g8 a fun ⟨l, q1, q2⟩ => hn ⟨l, by omega, q2⟩
theorem rtb_w {T : XT} {F : XO} {l : Nat} (h : rtb T F l = true) : oW F l = 2 := by
  unfold rtb at h
  simp only [Bool.and_eq_true, decide_eq_true_eq] at h
  exact h.1
theorem OInv.ret {T : XT} {F : XO} (h : OInv T F) (r6 : tR T ≤ 6) (n7 : tN T ≤ 7) : OInv T (retF T F) := by
  obtain ⟨e1, e2, e3, e4, e5, e6, e7, e8⟩ := ret_p h r6 n7
  obtain ⟨h1, h2, h3, h4, h5, h6, h7⟩ := h
  have u : ∀ l l' a, l < 7 → l' < 7 → oH F l = nI a → a < 6 → oH F l' = nI a → oW F l = 2 → oW F l' = 2 → l = l' := by
    intro l l' a hl hl' q ha q' w w'
    rcases h1 l hl with z | ⟨_, _, a1, z1, z2, z3⟩
    · exact absurd w z.2
    rcases h1 l' hl' with y | ⟨_, _, a2, y1, y2, y3⟩
    · exact absurd w' y.2
    rw [q, nI_eq (by omega) (by omega)] at z2
    rw [q', nI_eq (by omega) (by omega)] at y2
    subst z2
    subst y2
    rw [z3, nI_eq (by omega) (by omega)] at y3
    exact y3
  refine ⟨?_, ?_, ?_, ?_, ?_, ?_, ?_⟩
  · intro l hl
    rw [e5, e4]
    by_cases hb : l < tN T ∧ rtb T F l = true
    · rw [if_pos hb, if_pos hb]
      left
      refine ⟨rfl, ?_⟩
      split <;> decide
    · rw [if_neg hb, if_neg hb]
      rcases h1 l hl with q | ⟨q1, q2, a, q3, q4, q5⟩
      · exact Or.inl q
      · right
        refine ⟨q1, q2, a, q3, q4, ?_⟩
        rw [e8 a ?_]
        · exact q5
        · rintro ⟨l', z1, z2, z3, z4⟩
          have := u l l' a hl (by omega) q4 (by omega) z3 q2 (rtb_w z2)
          subst this
          exact hb ⟨z1, z2⟩
  · intro a ha
    by_cases hx : ∃ l, l < tN T ∧ rtb T F l = true ∧ oH F l = nI a
    · exact Or.inl (e7 a hx ha)
    · rw [e8 a (fun ⟨l, z1, z2, z3, _⟩ => hx ⟨l, z1, z2, z3⟩)]
      rcases h2 a ha with q | ⟨q1, l, q2, q3, q4, q5⟩
      · exact Or.inl q
      · right
        refine ⟨q1, l, q2, q3, ?_, ?_⟩
        · rw [e5, if_neg (fun z => hx ⟨l, z.1, z.2, q4⟩)]; exact q4
        · rw [e4, if_neg (fun z => hx ⟨l, z.1, z.2, q4⟩)]; exact q5
  · intro l hl
    rw [e4, e6]
    obtain ⟨q1, q2⟩ := h3 l hl
    by_cases hb : l < tN T ∧ rtb T F l = true
    · rw [if_pos hb, if_pos hb]
      rcases q2 with q | q | q
      · rw [q, if_pos (by decide)]; decide
      · rw [q, if_neg (by decide)]; decide
      · rw [rtb_w hb.2] at q; exact absurd q.2 (by decide)
    · rw [if_neg hb, if_neg hb]; exact ⟨q1, q2⟩
  · intro l hl hl7
    rw [e4, e6, if_neg (fun q => absurd q.1 (by omega)), if_neg (fun q => absurd q.1 (by omega))]
    exact h4 l hl hl7
  · rw [e2]; exact h5
  · intro k hk
    rw [e4, e5, e6, if_neg (fun q => absurd q.1 (by omega)), if_neg (fun q => absurd q.1 (by omega)), if_neg (fun q => absurd q.1 (by omega))]
    exact h6 k hk
  · intro k hk
    rw [e2, e3, e8 k (fun ⟨_, _, _, _, q⟩ => by omega)]
    exact h7 k hk
theorem OInv.give {T : XT} {F : XO} (h : OInv T F) (r6 : tR T ≤ 6) (n7 : tN T ≤ 7) {l a : Nat} (hl : l < tN T) (ha : a < tR T) (hw : oW F l = 1) (hs : oS F a = -2) : OInv T (giveF F l a) := by
  obtain ⟨h1, h2, h3, h4, h5, h6, h7⟩ := h
  have eW : oW (giveF F l a) = xone (oW F) l 2 := rfl
  have eH : oH (giveF F l a) = xone (oH F) l (nI a) := rfl
  have eB : oB (giveF F l a) = oB F := rfl
  have eA : oA (giveF F l a) = oA F := rfl
  have eS : oS (giveF F l a) = xone (oS F) a (nI l) := rfl
  have eU : oU (giveF F l a) = xone (oU F) a (oU F a + 1) := rfl
  refine ⟨?_, ?_, ?_, ?_, ?_, ?_, ?_⟩
  · intro j hj
    rw [eW, eH, eS]
    simp only [xo_at]
    by_cases hjl : j = l
    · subst hjl
      right
      rw [if_pos rfl, if_pos rfl]
      exact ⟨hl, rfl, a, ha, rfl, by rw [if_pos rfl]⟩
    · rw [if_neg hjl, if_neg hjl]
      rcases h1 j hj with q | ⟨q1, q2, b, q3, q4, q5⟩
      · exact Or.inl q
      · right
        refine ⟨q1, q2, b, q3, q4, ?_⟩
        by_cases hb : b = a
        · subst hb
          rw [hs] at q5
          exact absurd q5.symm (by rw [nM2 (by omega)]; exact fun z => z)
        · rw [if_neg hb]; exact q5
  · intro b hb
    rw [eW, eH, eS]
    simp only [xo_at]
    by_cases hba : b = a
    · subst hba
      right
      rw [if_pos rfl]
      refine ⟨ha, l, hl, rfl, by rw [if_pos rfl], by rw [if_pos rfl]⟩
    · rw [if_neg hba]
      rcases h2 b hb with q | ⟨q1, j, q2, q3, q4, q5⟩
      · exact Or.inl q
      · right
        refine ⟨q1, j, q2, q3, ?_, ?_⟩
        · rw [if_neg (fun z => by rw [z, hw] at q5; exact absurd q5 (by decide))]; exact q4
        · rw [if_neg (fun z => by rw [z, hw] at q5; exact absurd q5 (by decide))]; exact q5
  · intro j hj
    rw [eW, eB]
    simp only [xo_at]
    obtain ⟨q1, q2⟩ := h3 j hj
    by_cases hjl : j = l
    · subst hjl
      rw [if_pos rfl]
      refine ⟨Or.inr (Or.inr (Or.inl rfl)), ?_⟩
      rcases q2 with q | q | q
      · exact Or.inl q
      · exact Or.inr (Or.inl q)
      · rw [hw] at q; exact absurd q.2 (by decide)
    · rw [if_neg hjl]; exact ⟨q1, q2⟩
  · intro j hj hj7
    rw [eW, eB, xo_at, if_neg (by omega)]
    exact h4 j hj hj7
  · rw [eA]; exact h5
  · intro k hk
    rw [eW, eH, eB, xo_at, xo_at, if_neg (by omega), if_neg (by omega)]
    exact h6 k hk
  · intro k hk
    rw [eA, eS, eU, xo_at, xo_at, if_neg (by omega), if_neg (by omega)]
    exact h7 k hk
theorem OInv.snd1 {T : XT} {F : XO} (h : OInv T F) (r6 : tR T ≤ 6) (n7 : tN T ≤ 7) {l : Nat} (hl : l < tN T) : OInv T (send1 T l F) := by
  unfold send1
  split
  · rename_i hc
    rcases best_or T F l with q | ⟨a, q1, q2, q3⟩
    · exact absurd q hc.2
    · unfold cN
      rw [q2, nI_clamp (by omega)]
      exact h.give r6 n7 hl q1 hc.1 q3
  · exact h
theorem OInv.sends {T : XT} {F : XO} (h : OInv T F) (r6 : tR T ≤ 6) (n7 : tN T ≤ 7) : OInv T (sendF T F) := iter_inv (fun _ G => OInv T G) _ _ _ h fun _ _ hi q => q.snd1 r6 n7 hi
theorem rem10 : ∀ w : Fin 10, rem32 (nI w.val + 1) 10 = nI ((w.val + 1) % 10) := by decide
theorem OInv.turn {T : XT} {F : XO} (h : OInv T F) {a : Nat} (ha : a < 6) (hr : a < tR T) : OInv T (turn1 a F) := by
  obtain ⟨h1, h2, h3, h4, h5, h6, h7⟩ := h
  have eA : oA (turn1 a F) = xone (oA F) a (rem32 (oA F a + 1) 10) := rfl
  refine ⟨h1, h2, h3, h4, ?_, h6, ?_⟩
  · intro b hb
    rw [eA, xo_at]
    by_cases hba : b = a
    · rw [if_pos hba]
      obtain ⟨w, q1, q2⟩ := h5 a hr
      rw [q2]
      exact ⟨(w + 1) % 10, by omega, rem10 ⟨w, q1⟩⟩
    · rw [if_neg hba]; exact h5 b hb
  · intro k hk
    rw [eA, xo_at, if_neg (by omega)]
    exact h7 k hk
theorem OInv.turns {T : XT} {F : XO} (h : OInv T F) (r6 : tR T ≤ 6) : OInv T (iter turn1 (tR T) F) := iter_inv (fun _ G => OInv T G) _ _ _ h fun _ _ hi q => q.turn (by omega) hi
theorem OInv.sD {T : XT} {F : XO} (h : OInv T F) (x : Int32) : OInv T (sD F x) := h
theorem OInv.day {T : XT} {F : XO} (h : OInv T F) (r6 : tR T ≤ 6) (n7 : tN T ≤ 7) (seed wet : Int32) : OInv T (dayF T seed wet F) := by
  have h1 : OInv T (if wet ≤ lotv seed (oD F) then bringF T F else F) := by
    split
    · exact h.bring n7
    · exact h
  unfold dayF
  refine OInv.sD ?_ _
  generalize (if wet ≤ lotv seed (oD F) then bringF T F else F) = F1 at *
  split
  · exact (h1.ret r6 n7).sends r6 n7
  · exact ((h1.ret r6 n7).sends r6 n7).turns r6
/-- days go by one by one -/
theorem send_D (T : XT) (F : XO) : oD (sendF T F) = oD F := iter_inv (fun _ G => oD G = oD F) _ _ _ rfl fun i G _ q => by
  unfold send1
  split
  · exact q
  · exact q
theorem turn_D (n : Nat) (F : XO) : oD (iter turn1 n F) = oD F := iter_inv (fun _ G => oD G = oD F) _ _ _ rfl fun i G _ q => q
theorem day_D {T : XT} {F : XO} (h : OInv T F) (r6 : tR T ≤ 6) (n7 : tN T ≤ 7) (seed wet : Int32) : oD (dayF T seed wet F) = oD F + 1 := by
  have h1 : OInv T (if wet ≤ lotv seed (oD F) then bringF T F else F) := by
    split
    · exact h.bring n7
    · exact h
  have d1 : oD (if wet ≤ lotv seed (oD F) then bringF T F else F) = oD F := by
    split
    · exact (bring_p T F).1
    · rfl
  have d2 : oD (sendF T (retF T (if wet ≤ lotv seed (oD F) then bringF T F else F))) = oD F := by rw [send_D, (ret_p h1 r6 n7).1, d1]
  unfold dayF
  dsimp only
  show oD _ + 1 = _
  generalize (if wet ≤ lotv seed (oD F) then bringF T F else F) = F1 at *
  split
  · rw [d2]
  · rw [turn_D, d2]
theorem c_passDay {M : XM} {t o : Nat} {T : XT} {F : XO} {seed wet : Int32} {Q : Option Value → XM → Prop} (hT : TxtAt M t T) (hF : OffIs M o F) (hI : OInv T F) (sep : o + 7 ≤ t ∨ t + 29 ≤ o)
    (hQ : ∀ M' : XM, Ex (oX o t) M M' → OffIs M' o (dayF T seed wet F) → Q none M') :
    RG xprog 173 0 [some (.ref o), some (.ref t), some (.int seed), some (.int wet)] [] M Q := by
  have n7 := hT.n7
  have r6 := hT.r6
  have h16 := hF.f.1
  have h1 : OInv T (if wet ≤ lotv seed (oD F) then bringF T F else F) := by
    split
    · exact hI.bring n7
    · exact hI
  rw [B_173_0]
  simp (disch := omega) only [hF.f, hF.v, c_isWet, lAdd, addL, lMul, mulL, nMul, nI_add, subL, lSub, nSub, nDec, nCl, lCl, nVp, lVp, nLe, nLt, nEq, lLe, leL, lLt, ltL, eqL, lEq, nM1, nM2, litLt0, one01, zero01, oneNe0, xupE, xupA, xupK, xI_I, xS_I, xF_I, xJ_I, xI_R, xS_R, xF_R, xJ_R, xI_L, xS_L, xF_L, xJ_L, xcat_s, le46, ge16, Option.toList_some, Option.toList_none, List.cons_append, List.nil_append, true_and, and_true, not_false_eq_true, not_true_eq_false, if_true, if_false, B_173_9]
  have fin : ∀ M1 : XM, Ex (oX o t) M M1 → OffIs M1 o (if wet ≤ lotv seed (oD F) then bringF T F else F) → RG xprog 173 17 [some (.ref o), some (.ref t), some (.int seed), some (.int wet)] [] M1 Q := by
    intro M1 e1 f1
    have t1 := hT.ex e1 (by intro a k q; unfold oX at q; omega)
    rw [B_173_17]
    simp (disch := omega) only [f1.f, lAdd, addL, lMul, mulL, nMul, nI_add, subL, lSub, nSub, nDec, nCl, lCl, nVp, lVp, nLe, nLt, nEq, lLe, leL, lLt, ltL, eqL, lEq, nM1, nM2, litLt0, one01, zero01, oneNe0, xupE, xupA, xupK, xI_I, xS_I, xF_I, xJ_I, xI_R, xS_R, xF_R, xJ_R, xI_L, xS_L, xF_L, xJ_L, xcat_s, le46, ge16, Option.toList_some, Option.toList_none, List.cons_append, List.nil_append, true_and, and_true, not_false_eq_true, not_true_eq_false, if_true, if_false]
    refine c_returns t1 f1 h1 sep ?_
    intro M2 e2 f2
    have e2' := e1.trans e2
    have t2 := hT.ex e2' (by intro a k q; unfold oX at q; omega)
    simp (disch := omega) only [lAdd, addL, lMul, mulL, nMul, nI_add, subL, lSub, nSub, nDec, nCl, lCl, nVp, lVp, nLe, nLt, nEq, lLe, leL, lLt, ltL, eqL, lEq, nM1, nM2, litLt0, one01, zero01, oneNe0, xupE, xupA, xupK, xI_I, xS_I, xF_I, xJ_I, xI_R, xS_R, xF_R, xJ_R, xI_L, xS_L, xF_L, xJ_L, xcat_s, le46, ge16, Option.toList_some, Option.toList_none, List.cons_append, List.nil_append, true_and, and_true, not_false_eq_true, not_true_eq_false, if_true, if_false, B_173_22, f2.f]
    refine c_sendLetters t2 f2 sep ?_
    intro M3 e3 f3
    have e3' := e2'.trans e3
    have t3 := hT.ex e3' (by intro a k q; unfold oX at q; omega)
    simp (disch := omega) only [lAdd, addL, lMul, mulL, nMul, nI_add, subL, lSub, nSub, nDec, nCl, lCl, nVp, lVp, nLe, nLt, nEq, lLe, leL, lLt, ltL, eqL, lEq, nM1, nM2, litLt0, one01, zero01, oneNe0, xupE, xupA, xupK, xI_I, xS_I, xF_I, xJ_I, xI_R, xS_R, xF_R, xJ_R, xI_L, xS_L, xF_L, xJ_L, xcat_s, le46, ge16, Option.toList_some, Option.toList_none, List.cons_append, List.nil_append, true_and, and_true, not_false_eq_true, not_true_eq_false, if_true, if_false, B_173_27, t3.f, c_turns t3, B_173_31, f3.f, f3.v, B_173_44]
    have last : ∀ (M4 : XM) (F3 : XO), Ex (oX o t) M M4 → OffIs M4 o F3 → dayF T seed wet F = sD F3 (oD F3 + 1) → RG xprog 173 56 [some (.ref o), some (.ref t), some (.int seed), some (.int wet)] [] M4 Q := by
      intro M4 F3 e4 f4 hd
      rw [B_173_56]
      simp (disch := omega) only [lAdd, addL, lMul, mulL, nMul, nI_add, subL, lSub, nSub, nDec, nCl, lCl, nVp, lVp, nLe, nLt, nEq, lLe, leL, lLt, ltL, eqL, lEq, nM1, nM2, litLt0, one01, zero01, oneNe0, xupE, xupA, xupK, xI_I, xS_I, xF_I, xJ_I, xI_R, xS_R, xF_R, xJ_R, xI_L, xS_L, xF_L, xJ_L, xcat_s, le46, ge16, Option.toList_some, Option.toList_none, List.cons_append, List.nil_append, true_and, and_true, not_false_eq_true, not_true_eq_false, if_true, if_false, f4.f, f4.v]
      refine hQ _ (e4.wr _ (by unfold oX; omega)) ?_
      rw [hd]
      exact f4.w0 _
    by_cases hc : tS T 0 ≤ 0
    · rw [if_pos hc]
      refine last M3 _ e3' f3 ?_
      unfold dayF
      dsimp only
      rw [if_pos (Or.inl hc)]
    · rw [if_neg hc]
      refine ⟨fun q => hc (by rw [q]; decide), ?_⟩
      by_cases hr : rem32 (oD (sendF T (retF T (if wet ≤ lotv seed (oD F) then bringF T F else F))) + 1) (tS T 0) = 0
      · refine (if_neg (c := ¬ rem32 _ _ = 0) (fun q => q hr)).mpr ?_
        rw [t3.r]
        refine c_turnWants f3 r6 ?_
        intro M4 e4 f4
        simp (disch := omega) only [lAdd, addL, lMul, mulL, nMul, nI_add, subL, lSub, nSub, nDec, nCl, lCl, nVp, lVp, nLe, nLt, nEq, lLe, leL, lLt, ltL, eqL, lEq, nM1, nM2, litLt0, one01, zero01, oneNe0, xupE, xupA, xupK, xI_I, xS_I, xF_I, xJ_I, xI_R, xS_R, xF_R, xJ_R, xI_L, xS_L, xF_L, xJ_L, xcat_s, le46, ge16, Option.toList_some, Option.toList_none, List.cons_append, List.nil_append, true_and, and_true, not_false_eq_true, not_true_eq_false, if_true, if_false]
        refine last M4 _ (e3'.trans (e4.mono (by intro a k q; exact Or.inl q))) f4 ?_
        unfold dayF
        dsimp only
        rw [if_neg (fun q => q.elim hc (fun z => z hr))]
      · refine (if_pos (c := ¬ rem32 _ _ = 0) hr).mpr ?_
        refine last M3 _ e3' f3 ?_
        unfold dayF
        dsimp only
        rw [if_pos (Or.inr hr)]
  by_cases hw : wet ≤ lotv seed (oD F)
  · rw [if_pos hw, if_neg (fun q => q rfl)]
    rw [if_pos hw] at fin
    refine c_bring hT hF sep ?_
    intro M1 e1 f1
    simp (disch := omega) only [lAdd, addL, lMul, mulL, nMul, nI_add, subL, lSub, nSub, nDec, nCl, lCl, nVp, lVp, nLe, nLt, nEq, lLe, leL, lLt, ltL, eqL, lEq, nM1, nM2, litLt0, one01, zero01, oneNe0, xupE, xupA, xupK, xI_I, xS_I, xF_I, xJ_I, xI_R, xS_R, xF_R, xJ_R, xI_L, xS_L, xF_L, xJ_L, xcat_s, le46, ge16, Option.toList_some, Option.toList_none, List.cons_append, List.nil_append, true_and, and_true, not_false_eq_true, not_true_eq_false, if_true, if_false]
    exact fin M1 (e1.mono (by intro a k q; exact Or.inl q)) f1
  · rw [if_neg hw, if_pos (by decide)]
    rw [if_neg hw] at fin
    exact fin M (Ex.refl _ _) hF
