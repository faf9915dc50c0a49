/-! the reference's words -/
def kL : List Int64 := [wdK [108, 101, 116, 116, 101, 114, 0], wdK [114, 101, 97, 100, 101, 114, 0], wdK [108, 105, 107, 101, 115, 0, 0], wdK [114, 97, 116, 104, 101, 114, 115], wdK [114, 101, 116, 117, 114, 110, 115], wdK [97, 110, 115, 119, 101, 114, 115], wdK [116, 117, 114, 110, 115, 0, 0], wdK [119, 101, 116, 0, 0, 0, 0], wdK [115, 101, 101, 100, 0, 0, 0], wdK [105, 102, 0, 0, 0, 0, 0], wdK [116, 104, 101, 110, 0, 0, 0], wdK [101, 108, 115, 101, 0, 0, 0], wdK [97, 112, 97, 114, 116, 0, 0], wdK [104, 97, 110, 100, 0, 0, 0], wdK [103, 114, 105, 101, 102, 0, 0], wdK [116, 97, 115, 116, 101, 0, 0], apd (wdK [112, 97, 116, 105, 101, 110, 99]) 101, wdK [97, 103, 101, 0, 0, 0, 0], wdK [100, 97, 121, 0, 0, 0, 0], wdK [119, 104, 105, 99, 104, 0, 0], wdK [104, 97, 100, 0, 0, 0, 0]]
def kC (i : Nat) : Nat → Int64 := fun j => if j < i then kL.getD j 0 else 0
theorem wd_put {M N : XM} {jj : Nat → Nat → Int64} {i : Nat} (h : NI 439 M 486 20270 rSh rFf gR (jW 446 jj (kC i)) N) : NI 439 M 486 20270 rSh rFf gR (jW 446 jj (kC (i + 1))) (xmL N 446 i (kL.getD i 0)) := by
  have h4 := h.long (a := 446) i (kL.getD i 0) (by decide) (by decide)
  have ej : jW 446 (jW 446 jj (kC i)) (fun j => if j = i then kL.getD i 0 else jW 446 jj (kC i) 446 j) = jW 446 jj (kC (i + 1)) := by
    funext a
    unfold jW
    by_cases q : a = 446
    · rw [if_pos q, if_pos q]
      funext k
      rw [if_pos rfl]
      unfold kC
      by_cases w : k = i
      · rw [if_pos w, w, if_pos (by omega)]
      · rw [if_neg w]
        by_cases y : k < i
        · rw [if_pos y, if_pos (by omega)]
        · rw [if_neg y, if_neg (by omega)]
    · rw [if_neg q, if_neg q, if_neg q]
  rw [ej] at h4
  exact h4
theorem n_words {M N0 : XM} {jj : Nat → Nat → Int64} {Q : Option Value → XM → Prop} (h0 : NI 439 M 486 20270 rSh rFf gR (jW 446 jj (kC 0)) N0)
    (hQ : ∀ M' : XM, NI 439 M 486 20270 rSh rFf gR (jW 446 jj (kC 21)) M' → RG xprog 28 0 [some (.ref 439), none] [] M' (fun v M'' => RG xprog 30 857 [some (.ref 439)] (v.toList ++ []) M'' Q)) :
    RG xprog 30 397 [some (.ref 439)] [] N0 Q := by
  rw [B_30_397, h0.S 439 (12, 0) (by decide +kernel), h0.F 439 9 446 (by decide +kernel)]
  refine ⟨rfl, ?_⟩
  rw [r_word]
  simp (disch := omega) only [Option.toList_some, List.cons_append, List.nil_append]
  rw [B_30_418, h0.S 446 (43, 21) (by decide +kernel), h0.S 439 (12, 0) (by decide +kernel), h0.F 439 9 446 (by decide +kernel)]
  refine ⟨⟨⟨rfl, by decide⟩, vp_in_nI (n := 0) (N := 21) (by decide) (by decide)⟩, rfl, ?_⟩
  rw [show Int32.toNatClampNeg (0 : Int32) = 0 by decide]
  have h1 : NI 439 M 486 20270 rSh rFf gR (jW 446 jj (kC 1)) (xmL N0 446 0 (wdK [108, 101, 116, 116, 101, 114, 0])) := wd_put h0
  generalize xmL N0 446 0 (wdK [108, 101, 116, 116, 101, 114, 0]) = N1 at h1 ⊢
  rw [r_word]
  simp (disch := omega) only [Option.toList_some, List.cons_append, List.nil_append]
  rw [B_30_440, h1.S 446 (43, 21) (by decide +kernel), h1.S 439 (12, 0) (by decide +kernel), h1.F 439 9 446 (by decide +kernel)]
  refine ⟨⟨⟨rfl, by decide⟩, vp_in_nI (n := 1) (N := 21) (by decide) (by decide)⟩, rfl, ?_⟩
  rw [show Int32.toNatClampNeg (1 : Int32) = 1 by decide]
  have h2 : NI 439 M 486 20270 rSh rFf gR (jW 446 jj (kC 2)) (xmL N1 446 1 (wdK [114, 101, 97, 100, 101, 114, 0])) := wd_put h1
  generalize xmL N1 446 1 (wdK [114, 101, 97, 100, 101, 114, 0]) = N2 at h2 ⊢
  rw [r_word]
  simp (disch := omega) only [Option.toList_some, List.cons_append, List.nil_append]
  rw [B_30_461, h2.S 446 (43, 21) (by decide +kernel), h2.S 439 (12, 0) (by decide +kernel), h2.F 439 9 446 (by decide +kernel)]
  refine ⟨⟨⟨rfl, by decide⟩, vp_in_nI (n := 2) (N := 21) (by decide) (by decide)⟩, rfl, ?_⟩
  rw [show Int32.toNatClampNeg (2 : Int32) = 2 by decide]
  have h3 : NI 439 M 486 20270 rSh rFf gR (jW 446 jj (kC 3)) (xmL N2 446 2 (wdK [108, 105, 107, 101, 115, 0, 0])) := wd_put h2
  generalize xmL N2 446 2 (wdK [108, 105, 107, 101, 115, 0, 0]) = N3 at h3 ⊢
  rw [r_word]
  simp (disch := omega) only [Option.toList_some, List.cons_append, List.nil_append]
  rw [B_30_484, h3.S 446 (43, 21) (by decide +kernel), h3.S 439 (12, 0) (by decide +kernel), h3.F 439 9 446 (by decide +kernel)]
  refine ⟨⟨⟨rfl, by decide⟩, vp_in_nI (n := 3) (N := 21) (by decide) (by decide)⟩, rfl, ?_⟩
  rw [show Int32.toNatClampNeg (3 : Int32) = 3 by decide]
  have h4 : NI 439 M 486 20270 rSh rFf gR (jW 446 jj (kC 4)) (xmL N3 446 3 (wdK [114, 97, 116, 104, 101, 114, 115])) := wd_put h3
  generalize xmL N3 446 3 (wdK [114, 97, 116, 104, 101, 114, 115]) = N4 at h4 ⊢
  rw [r_word]
  simp (disch := omega) only [Option.toList_some, List.cons_append, List.nil_append]
  rw [B_30_507, h4.S 446 (43, 21) (by decide +kernel), h4.S 439 (12, 0) (by decide +kernel), h4.F 439 9 446 (by decide +kernel)]
  refine ⟨⟨⟨rfl, by decide⟩, vp_in_nI (n := 4) (N := 21) (by decide) (by decide)⟩, rfl, ?_⟩
  rw [show Int32.toNatClampNeg (4 : Int32) = 4 by decide]
  have h5 : NI 439 M 486 20270 rSh rFf gR (jW 446 jj (kC 5)) (xmL N4 446 4 (wdK [114, 101, 116, 117, 114, 110, 115])) := wd_put h4
  generalize xmL N4 446 4 (wdK [114, 101, 116, 117, 114, 110, 115]) = N5 at h5 ⊢
  rw [r_word]
  simp (disch := omega) only [Option.toList_some, List.cons_append, List.nil_append]
  rw [B_30_530, h5.S 446 (43, 21) (by decide +kernel), h5.S 439 (12, 0) (by decide +kernel), h5.F 439 9 446 (by decide +kernel)]
  refine ⟨⟨⟨rfl, by decide⟩, vp_in_nI (n := 5) (N := 21) (by decide) (by decide)⟩, rfl, ?_⟩
  rw [show Int32.toNatClampNeg (5 : Int32) = 5 by decide]
  have h6 : NI 439 M 486 20270 rSh rFf gR (jW 446 jj (kC 6)) (xmL N5 446 5 (wdK [97, 110, 115, 119, 101, 114, 115])) := wd_put h5
  generalize xmL N5 446 5 (wdK [97, 110, 115, 119, 101, 114, 115]) = N6 at h6 ⊢
  rw [r_word]
  simp (disch := omega) only [Option.toList_some, List.cons_append, List.nil_append]
  rw [B_30_552, h6.S 446 (43, 21) (by decide +kernel), h6.S 439 (12, 0) (by decide +kernel), h6.F 439 9 446 (by decide +kernel)]
  refine ⟨⟨⟨rfl, by decide⟩, vp_in_nI (n := 6) (N := 21) (by decide) (by decide)⟩, rfl, ?_⟩
  rw [show Int32.toNatClampNeg (6 : Int32) = 6 by decide]
  have h7 : NI 439 M 486 20270 rSh rFf gR (jW 446 jj (kC 7)) (xmL N6 446 6 (wdK [116, 117, 114, 110, 115, 0, 0])) := wd_put h6
  generalize xmL N6 446 6 (wdK [116, 117, 114, 110, 115, 0, 0]) = N7 at h7 ⊢
  rw [r_word]
  simp (disch := omega) only [Option.toList_some, List.cons_append, List.nil_append]
  rw [B_30_572, h7.S 446 (43, 21) (by decide +kernel), h7.S 439 (12, 0) (by decide +kernel), h7.F 439 9 446 (by decide +kernel)]
  refine ⟨⟨⟨rfl, by decide⟩, vp_in_nI (n := 7) (N := 21) (by decide) (by decide)⟩, rfl, ?_⟩
  rw [show Int32.toNatClampNeg (7 : Int32) = 7 by decide]
  have h8 : NI 439 M 486 20270 rSh rFf gR (jW 446 jj (kC 8)) (xmL N7 446 7 (wdK [119, 101, 116, 0, 0, 0, 0])) := wd_put h7
  generalize xmL N7 446 7 (wdK [119, 101, 116, 0, 0, 0, 0]) = N8 at h8 ⊢
  rw [r_word]
  simp (disch := omega) only [Option.toList_some, List.cons_append, List.nil_append]
  rw [B_30_593, h8.S 446 (43, 21) (by decide +kernel), h8.S 439 (12, 0) (by decide +kernel), h8.F 439 9 446 (by decide +kernel)]
  refine ⟨⟨⟨rfl, by decide⟩, vp_in_nI (n := 8) (N := 21) (by decide) (by decide)⟩, rfl, ?_⟩
  rw [show Int32.toNatClampNeg (8 : Int32) = 8 by decide]
  have h9 : NI 439 M 486 20270 rSh rFf gR (jW 446 jj (kC 9)) (xmL N8 446 8 (wdK [115, 101, 101, 100, 0, 0, 0])) := wd_put h8
  generalize xmL N8 446 8 (wdK [115, 101, 101, 100, 0, 0, 0]) = N9 at h9 ⊢
  rw [r_word]
  simp (disch := omega) only [Option.toList_some, List.cons_append, List.nil_append]
  rw [B_30_612, h9.S 446 (43, 21) (by decide +kernel), h9.S 439 (12, 0) (by decide +kernel), h9.F 439 9 446 (by decide +kernel)]
  refine ⟨⟨⟨rfl, by decide⟩, vp_in_nI (n := 9) (N := 21) (by decide) (by decide)⟩, rfl, ?_⟩
  rw [show Int32.toNatClampNeg (9 : Int32) = 9 by decide]
  have h10 : NI 439 M 486 20270 rSh rFf gR (jW 446 jj (kC 10)) (xmL N9 446 9 (wdK [105, 102, 0, 0, 0, 0, 0])) := wd_put h9
  generalize xmL N9 446 9 (wdK [105, 102, 0, 0, 0, 0, 0]) = N10 at h10 ⊢
  rw [r_word]
  simp (disch := omega) only [Option.toList_some, List.cons_append, List.nil_append]
  rw [B_30_633, h10.S 446 (43, 21) (by decide +kernel), h10.S 439 (12, 0) (by decide +kernel), h10.F 439 9 446 (by decide +kernel)]
  refine ⟨⟨⟨rfl, by decide⟩, vp_in_nI (n := 10) (N := 21) (by decide) (by decide)⟩, rfl, ?_⟩
  rw [show Int32.toNatClampNeg (10 : Int32) = 10 by decide]
  have h11 : NI 439 M 486 20270 rSh rFf gR (jW 446 jj (kC 11)) (xmL N10 446 10 (wdK [116, 104, 101, 110, 0, 0, 0])) := wd_put h10
  generalize xmL N10 446 10 (wdK [116, 104, 101, 110, 0, 0, 0]) = N11 at h11 ⊢
  rw [r_word]
  simp (disch := omega) only [Option.toList_some, List.cons_append, List.nil_append]
  rw [B_30_654, h11.S 446 (43, 21) (by decide +kernel), h11.S 439 (12, 0) (by decide +kernel), h11.F 439 9 446 (by decide +kernel)]
  refine ⟨⟨⟨rfl, by decide⟩, vp_in_nI (n := 11) (N := 21) (by decide) (by decide)⟩, rfl, ?_⟩
  rw [show Int32.toNatClampNeg (11 : Int32) = 11 by decide]
  have h12 : NI 439 M 486 20270 rSh rFf gR (jW 446 jj (kC 12)) (xmL N11 446 11 (wdK [101, 108, 115, 101, 0, 0, 0])) := wd_put h11
  generalize xmL N11 446 11 (wdK [101, 108, 115, 101, 0, 0, 0]) = N12 at h12 ⊢
  rw [r_word]
  simp (disch := omega) only [Option.toList_some, List.cons_append, List.nil_append]
  rw [B_30_676, h12.S 446 (43, 21) (by decide +kernel), h12.S 439 (12, 0) (by decide +kernel), h12.F 439 9 446 (by decide +kernel)]
  refine ⟨⟨⟨rfl, by decide⟩, vp_in_nI (n := 12) (N := 21) (by decide) (by decide)⟩, rfl, ?_⟩
  rw [show Int32.toNatClampNeg (12 : Int32) = 12 by decide]
  have h13 : NI 439 M 486 20270 rSh rFf gR (jW 446 jj (kC 13)) (xmL N12 446 12 (wdK [97, 112, 97, 114, 116, 0, 0])) := wd_put h12
  generalize xmL N12 446 12 (wdK [97, 112, 97, 114, 116, 0, 0]) = N13 at h13 ⊢
  rw [r_word]
  simp (disch := omega) only [Option.toList_some, List.cons_append, List.nil_append]
  rw [B_30_697, h13.S 446 (43, 21) (by decide +kernel), h13.S 439 (12, 0) (by decide +kernel), h13.F 439 9 446 (by decide +kernel)]
  refine ⟨⟨⟨rfl, by decide⟩, vp_in_nI (n := 13) (N := 21) (by decide) (by decide)⟩, rfl, ?_⟩
  rw [show Int32.toNatClampNeg (13 : Int32) = 13 by decide]
  have h14 : NI 439 M 486 20270 rSh rFf gR (jW 446 jj (kC 14)) (xmL N13 446 13 (wdK [104, 97, 110, 100, 0, 0, 0])) := wd_put h13
  generalize xmL N13 446 13 (wdK [104, 97, 110, 100, 0, 0, 0]) = N14 at h14 ⊢
  rw [r_word]
  simp (disch := omega) only [Option.toList_some, List.cons_append, List.nil_append]
  rw [B_30_719, h14.S 446 (43, 21) (by decide +kernel), h14.S 439 (12, 0) (by decide +kernel), h14.F 439 9 446 (by decide +kernel)]
  refine ⟨⟨⟨rfl, by decide⟩, vp_in_nI (n := 14) (N := 21) (by decide) (by decide)⟩, rfl, ?_⟩
  rw [show Int32.toNatClampNeg (14 : Int32) = 14 by decide]
  have h15 : NI 439 M 486 20270 rSh rFf gR (jW 446 jj (kC 15)) (xmL N14 446 14 (wdK [103, 114, 105, 101, 102, 0, 0])) := wd_put h14
  generalize xmL N14 446 14 (wdK [103, 114, 105, 101, 102, 0, 0]) = N15 at h15 ⊢
  rw [r_word]
  simp (disch := omega) only [Option.toList_some, List.cons_append, List.nil_append]
  rw [B_30_741, h15.S 446 (43, 21) (by decide +kernel), h15.S 439 (12, 0) (by decide +kernel), h15.F 439 9 446 (by decide +kernel)]
  refine ⟨⟨⟨rfl, by decide⟩, vp_in_nI (n := 15) (N := 21) (by decide) (by decide)⟩, rfl, ?_⟩
  rw [show Int32.toNatClampNeg (15 : Int32) = 15 by decide]
  have h16 : NI 439 M 486 20270 rSh rFf gR (jW 446 jj (kC 16)) (xmL N15 446 15 (wdK [116, 97, 115, 116, 101, 0, 0])) := wd_put h15
  generalize xmL N15 446 15 (wdK [116, 97, 115, 116, 101, 0, 0]) = N16 at h16 ⊢
  rw [r_word]
  simp (disch := omega) only [Option.toList_some, List.cons_append, List.nil_append]
  rw [B_30_765, r_appends]
  simp (disch := omega) only [Option.toList_some, List.cons_append, List.nil_append]
  rw [B_30_770, h16.S 446 (43, 21) (by decide +kernel), h16.S 439 (12, 0) (by decide +kernel), h16.F 439 9 446 (by decide +kernel)]
  refine ⟨⟨⟨rfl, by decide⟩, vp_in_nI (n := 16) (N := 21) (by decide) (by decide)⟩, rfl, ?_⟩
  rw [show Int32.toNatClampNeg (16 : Int32) = 16 by decide]
  have h17 : NI 439 M 486 20270 rSh rFf gR (jW 446 jj (kC 17)) (xmL N16 446 16 (apd (wdK [112, 97, 116, 105, 101, 110, 99]) 101)) := wd_put h16
  generalize xmL N16 446 16 (apd (wdK [112, 97, 116, 105, 101, 110, 99]) 101) = N17 at h17 ⊢
  rw [r_word]
  simp (disch := omega) only [Option.toList_some, List.cons_append, List.nil_append]
  rw [B_30_790, h17.S 446 (43, 21) (by decide +kernel), h17.S 439 (12, 0) (by decide +kernel), h17.F 439 9 446 (by decide +kernel)]
  refine ⟨⟨⟨rfl, by decide⟩, vp_in_nI (n := 17) (N := 21) (by decide) (by decide)⟩, rfl, ?_⟩
  rw [show Int32.toNatClampNeg (17 : Int32) = 17 by decide]
  have h18 : NI 439 M 486 20270 rSh rFf gR (jW 446 jj (kC 18)) (xmL N17 446 17 (wdK [97, 103, 101, 0, 0, 0, 0])) := wd_put h17
  generalize xmL N17 446 17 (wdK [97, 103, 101, 0, 0, 0, 0]) = N18 at h18 ⊢
  rw [r_word]
  simp (disch := omega) only [Option.toList_some, List.cons_append, List.nil_append]
  rw [B_30_810, h18.S 446 (43, 21) (by decide +kernel), h18.S 439 (12, 0) (by decide +kernel), h18.F 439 9 446 (by decide +kernel)]
  refine ⟨⟨⟨rfl, by decide⟩, vp_in_nI (n := 18) (N := 21) (by decide) (by decide)⟩, rfl, ?_⟩
  rw [show Int32.toNatClampNeg (18 : Int32) = 18 by decide]
  have h19 : NI 439 M 486 20270 rSh rFf gR (jW 446 jj (kC 19)) (xmL N18 446 18 (wdK [100, 97, 121, 0, 0, 0, 0])) := wd_put h18
  generalize xmL N18 446 18 (wdK [100, 97, 121, 0, 0, 0, 0]) = N19 at h19 ⊢
  rw [r_word]
  simp (disch := omega) only [Option.toList_some, List.cons_append, List.nil_append]
  rw [B_30_832, h19.S 446 (43, 21) (by decide +kernel), h19.S 439 (12, 0) (by decide +kernel), h19.F 439 9 446 (by decide +kernel)]
  refine ⟨⟨⟨rfl, by decide⟩, vp_in_nI (n := 19) (N := 21) (by decide) (by decide)⟩, rfl, ?_⟩
  rw [show Int32.toNatClampNeg (19 : Int32) = 19 by decide]
  have h20 : NI 439 M 486 20270 rSh rFf gR (jW 446 jj (kC 20)) (xmL N19 446 19 (wdK [119, 104, 105, 99, 104, 0, 0])) := wd_put h19
  generalize xmL N19 446 19 (wdK [119, 104, 105, 99, 104, 0, 0]) = N20 at h20 ⊢
  rw [r_word]
  simp (disch := omega) only [Option.toList_some, List.cons_append, List.nil_append]
  rw [B_30_852, h20.S 446 (43, 21) (by decide +kernel), h20.S 439 (12, 0) (by decide +kernel)]
  refine ⟨⟨⟨rfl, by decide⟩, vp_in_nI (n := 20) (N := 21) (by decide) (by decide)⟩, rfl, ?_⟩
  rw [show Int32.toNatClampNeg (20 : Int32) = 20 by decide]
  have h21 : NI 439 M 486 20270 rSh rFf gR (jW 446 jj (kC 21)) (xmL N20 446 20 (wdK [104, 97, 100, 0, 0, 0, 0])) := wd_put h20
  generalize xmL N20 446 20 (wdK [104, 97, 100, 0, 0, 0, 0]) = N21 at h21 ⊢
  exact hQ N21 h21
