/-! the reference's constructor -/
def rSh : List (Nat × Nat × Nat) := [(485, 40, 102), (484, 42, 3), (483, 42, 20), (482, 40, 20), (481, 40, 20), (480, 40, 7), (479, 40, 7), (478, 40, 6), (477, 40, 42), (476, 40, 512), (475, 40, 1360), (474, 42, 7), (473, 40, 34), (472, 40, 34), (471, 40, 400), (470, 40, 9), (469, 40, 64), (468, 40, 840), (467, 40, 840), (466, 40, 260), (465, 40, 260), (464, 40, 260), (463, 40, 260), (462, 42, 260), (461, 40, 8), (460, 40, 8), (459, 40, 2), (458, 40, 2), (457, 40, 2), (456, 40, 12), (455, 40, 12), (454, 40, 12), (453, 40, 2), (452, 40, 14), (451, 40, 14), (450, 40, 14), (449, 40, 14), (448, 40, 2), (447, 43, 13), (446, 43, 21), (445, 43, 403), (444, 40, 403), (443, 40, 403), (442, 40, 403), (441, 41, 2000), (440, 41, 2000), (439, 12, 0)]
def rFf : List (Nat × Nat × Nat) := [(439, 67, 485), (439, 66, 484), (439, 65, 483), (439, 64, 482), (439, 63, 481), (439, 61, 480), (439, 60, 479), (439, 59, 478), (439, 58, 477), (439, 57, 476), (439, 56, 475), (439, 54, 474), (439, 51, 473), (439, 50, 472), (439, 48, 471), (439, 47, 470), (439, 45, 469), (439, 44, 468), (439, 43, 467), (439, 41, 466), (439, 40, 465), (439, 39, 464), (439, 38, 463), (439, 37, 462), (439, 35, 461), (439, 34, 460), (439, 33, 459), (439, 32, 458), (439, 31, 457), (439, 30, 456), (439, 29, 455), (439, 28, 454), (439, 27, 453), (439, 26, 452), (439, 25, 451), (439, 24, 450), (439, 23, 449), (439, 22, 448), (439, 21, 447), (439, 9, 446), (439, 8, 445), (439, 7, 444), (439, 6, 443), (439, 5, 442), (439, 3, 441), (439, 1, 440)]
def gR : Nat → Int32 := fun j => if j = 17 then -1 else 0
theorem n_Model0 {M N : XM} {jj : Nat → Nat → Int64} {Q : Option Value → XM → Prop} (h0 : NI 439 M 440 8879 [(439, 12, 0)] [] (fun _ => 0) jj N) (hj : ∀ b, 440 ≤ b → jj b = fun _ => 0)
    (hQ : ∀ M' : XM, NI 439 M 486 20270 rSh rFf gR jj M' → RG xprog 25 0 [some (.ref 439), some (.int 0), none] [] M' (fun v M'' => RG xprog 30 392 [some (.ref 439)] (v.toList ++ []) M'' Q)) :
    RG xprog 30 0 [some (.ref 439)] [] N Q := by
  rw [B_30_0, h0.S 439 (12, 0) (by decide), h0.hz]
  refine ⟨⟨by decide, by decide⟩, ?_⟩
  refine ⟨⟨by decide, by decide⟩, ?_⟩
  rw [show Int32.toNatClampNeg (2000 : Int32) = 2000 by decide]
  have h1 := h0.new 41 2000 2000 (hj _ (by decide))
  generalize xnew N 41 2000 2000 = N1 at h1 ⊢
  rw [B_30_10, h1.S 439 (12, 0) (by decide +kernel)]
  refine ⟨⟨rfl, by decide⟩, ?_⟩
  have h2 := h1.put (a := 439) 1 440 (by decide) (by decide)
  generalize xmR N1 439 1 440 = N2 at h2 ⊢
  rw [h2.hz]
  refine ⟨⟨by decide, by decide⟩, ?_⟩
  rw [show Int32.toNatClampNeg (2000 : Int32) = 2000 by decide]
  have h3 := h2.new 41 2000 2000 (hj _ (by decide))
  generalize xnew N2 41 2000 2000 = N3 at h3 ⊢
  rw [B_30_19, h3.S 439 (12, 0) (by decide +kernel)]
  refine ⟨⟨rfl, by decide⟩, ?_⟩
  have h4 := h3.put (a := 439) 3 441 (by decide) (by decide)
  generalize xmR N3 439 3 441 = N4 at h4 ⊢
  rw [h4.hz]
  refine ⟨⟨by decide, by decide⟩, ?_⟩
  rw [show Int32.toNatClampNeg (403 : Int32) = 403 by decide]
  have h5 := h4.new 40 403 403 (hj _ (by decide))
  generalize xnew N4 40 403 403 = N5 at h5 ⊢
  rw [B_30_28, h5.S 439 (12, 0) (by decide +kernel)]
  refine ⟨⟨rfl, by decide⟩, ?_⟩
  have h6 := h5.put (a := 439) 5 442 (by decide) (by decide)
  generalize xmR N5 439 5 442 = N6 at h6 ⊢
  rw [h6.hz]
  refine ⟨⟨by decide, by decide⟩, ?_⟩
  rw [show Int32.toNatClampNeg (403 : Int32) = 403 by decide]
  have h7 := h6.new 40 403 403 (hj _ (by decide))
  generalize xnew N6 40 403 403 = N7 at h7 ⊢
  rw [B_30_37, h7.S 439 (12, 0) (by decide +kernel)]
  refine ⟨⟨rfl, by decide⟩, ?_⟩
  have h8 := h7.put (a := 439) 6 443 (by decide) (by decide)
  generalize xmR N7 439 6 443 = N8 at h8 ⊢
  rw [h8.hz]
  refine ⟨⟨by decide, by decide⟩, ?_⟩
  rw [show Int32.toNatClampNeg (403 : Int32) = 403 by decide]
  have h9 := h8.new 40 403 403 (hj _ (by decide))
  generalize xnew N8 40 403 403 = N9 at h9 ⊢
  rw [B_30_46, h9.S 439 (12, 0) (by decide +kernel)]
  refine ⟨⟨rfl, by decide⟩, ?_⟩
  have h10 := h9.put (a := 439) 7 444 (by decide) (by decide)
  generalize xmR N9 439 7 444 = N10 at h10 ⊢
  rw [h10.hz]
  refine ⟨⟨by decide, by decide⟩, ?_⟩
  rw [show Int32.toNatClampNeg (403 : Int32) = 403 by decide]
  have h11 := h10.new 43 403 403 (hj _ (by decide))
  generalize xnew N10 43 403 403 = N11 at h11 ⊢
  rw [B_30_55, h11.S 439 (12, 0) (by decide +kernel)]
  refine ⟨⟨rfl, by decide⟩, ?_⟩
  have h12 := h11.put (a := 439) 8 445 (by decide) (by decide)
  generalize xmR N11 439 8 445 = N12 at h12 ⊢
  rw [h12.hz]
  refine ⟨⟨by decide, by decide⟩, ?_⟩
  rw [show Int32.toNatClampNeg (21 : Int32) = 21 by decide]
  have h13 := h12.new 43 21 21 (hj _ (by decide))
  generalize xnew N12 43 21 21 = N13 at h13 ⊢
  rw [B_30_63, h13.S 439 (12, 0) (by decide +kernel)]
  refine ⟨⟨rfl, by decide⟩, ?_⟩
  have h14 := h13.put (a := 439) 9 446 (by decide) (by decide)
  generalize xmR N13 439 9 446 = N14 at h14 ⊢
  refine ⟨⟨rfl, by decide⟩, ?_⟩
  have h15 := h14.int 17 (-1)
  generalize xmI N14 439 17 (-1) = N15 at h15 ⊢
  rw [h15.hz]
  refine ⟨⟨by decide, by decide⟩, ?_⟩
  rw [show Int32.toNatClampNeg (13 : Int32) = 13 by decide]
  have h16 := h15.new 43 13 13 (hj _ (by decide))
  generalize xnew N15 43 13 13 = N16 at h16 ⊢
  rw [B_30_76, h16.S 439 (12, 0) (by decide +kernel)]
  refine ⟨⟨rfl, by decide⟩, ?_⟩
  have h17 := h16.put (a := 439) 21 447 (by decide) (by decide)
  generalize xmR N16 439 21 447 = N17 at h17 ⊢
  rw [h17.hz]
  refine ⟨⟨by decide, by decide⟩, ?_⟩
  rw [show Int32.toNatClampNeg (2 : Int32) = 2 by decide]
  have h18 := h17.new 40 2 2 (hj _ (by decide))
  generalize xnew N17 40 2 2 = N18 at h18 ⊢
  rw [B_30_83, h18.S 439 (12, 0) (by decide +kernel)]
  refine ⟨⟨rfl, by decide⟩, ?_⟩
  have h19 := h18.put (a := 439) 22 448 (by decide) (by decide)
  generalize xmR N18 439 22 448 = N19 at h19 ⊢
  rw [h19.hz]
  refine ⟨⟨by decide, by decide⟩, ?_⟩
  rw [show Int32.toNatClampNeg (14 : Int32) = 14 by decide]
  have h20 := h19.new 40 14 14 (hj _ (by decide))
  generalize xnew N19 40 14 14 = N20 at h20 ⊢
  rw [B_30_91, h20.S 439 (12, 0) (by decide +kernel)]
  refine ⟨⟨rfl, by decide⟩, ?_⟩
  have h21 := h20.put (a := 439) 23 449 (by decide) (by decide)
  generalize xmR N20 439 23 449 = N21 at h21 ⊢
  rw [h21.hz]
  refine ⟨⟨by decide, by decide⟩, ?_⟩
  rw [show Int32.toNatClampNeg (14 : Int32) = 14 by decide]
  have h22 := h21.new 40 14 14 (hj _ (by decide))
  generalize xnew N21 40 14 14 = N22 at h22 ⊢
  rw [B_30_99, h22.S 439 (12, 0) (by decide +kernel)]
  refine ⟨⟨rfl, by decide⟩, ?_⟩
  have h23 := h22.put (a := 439) 24 450 (by decide) (by decide)
  generalize xmR N22 439 24 450 = N23 at h23 ⊢
  rw [h23.hz]
  refine ⟨⟨by decide, by decide⟩, ?_⟩
  rw [show Int32.toNatClampNeg (14 : Int32) = 14 by decide]
  have h24 := h23.new 40 14 14 (hj _ (by decide))
  generalize xnew N23 40 14 14 = N24 at h24 ⊢
  rw [B_30_107, h24.S 439 (12, 0) (by decide +kernel)]
  refine ⟨⟨rfl, by decide⟩, ?_⟩
  have h25 := h24.put (a := 439) 25 451 (by decide) (by decide)
  generalize xmR N24 439 25 451 = N25 at h25 ⊢
  rw [h25.hz]
  refine ⟨⟨by decide, by decide⟩, ?_⟩
  rw [show Int32.toNatClampNeg (14 : Int32) = 14 by decide]
  have h26 := h25.new 40 14 14 (hj _ (by decide))
  generalize xnew N25 40 14 14 = N26 at h26 ⊢
  rw [B_30_115, h26.S 439 (12, 0) (by decide +kernel)]
  refine ⟨⟨rfl, by decide⟩, ?_⟩
  have h27 := h26.put (a := 439) 26 452 (by decide) (by decide)
  generalize xmR N26 439 26 452 = N27 at h27 ⊢
  rw [h27.hz]
  refine ⟨⟨by decide, by decide⟩, ?_⟩
  rw [show Int32.toNatClampNeg (2 : Int32) = 2 by decide]
  have h28 := h27.new 40 2 2 (hj _ (by decide))
  generalize xnew N27 40 2 2 = N28 at h28 ⊢
  rw [B_30_122, h28.S 439 (12, 0) (by decide +kernel)]
  refine ⟨⟨rfl, by decide⟩, ?_⟩
  have h29 := h28.put (a := 439) 27 453 (by decide) (by decide)
  generalize xmR N28 439 27 453 = N29 at h29 ⊢
  rw [h29.hz]
  refine ⟨⟨by decide, by decide⟩, ?_⟩
  rw [show Int32.toNatClampNeg (12 : Int32) = 12 by decide]
  have h30 := h29.new 40 12 12 (hj _ (by decide))
  generalize xnew N29 40 12 12 = N30 at h30 ⊢
  rw [B_30_130, h30.S 439 (12, 0) (by decide +kernel)]
  refine ⟨⟨rfl, by decide⟩, ?_⟩
  have h31 := h30.put (a := 439) 28 454 (by decide) (by decide)
  generalize xmR N30 439 28 454 = N31 at h31 ⊢
  rw [h31.hz]
  refine ⟨⟨by decide, by decide⟩, ?_⟩
  rw [show Int32.toNatClampNeg (12 : Int32) = 12 by decide]
  have h32 := h31.new 40 12 12 (hj _ (by decide))
  generalize xnew N31 40 12 12 = N32 at h32 ⊢
  rw [B_30_138, h32.S 439 (12, 0) (by decide +kernel)]
  refine ⟨⟨rfl, by decide⟩, ?_⟩
  have h33 := h32.put (a := 439) 29 455 (by decide) (by decide)
  generalize xmR N32 439 29 455 = N33 at h33 ⊢
  rw [h33.hz]
  refine ⟨⟨by decide, by decide⟩, ?_⟩
  rw [show Int32.toNatClampNeg (12 : Int32) = 12 by decide]
  have h34 := h33.new 40 12 12 (hj _ (by decide))
  generalize xnew N33 40 12 12 = N34 at h34 ⊢
  rw [B_30_146, h34.S 439 (12, 0) (by decide +kernel)]
  refine ⟨⟨rfl, by decide⟩, ?_⟩
  have h35 := h34.put (a := 439) 30 456 (by decide) (by decide)
  generalize xmR N34 439 30 456 = N35 at h35 ⊢
  rw [h35.hz]
  refine ⟨⟨by decide, by decide⟩, ?_⟩
  rw [show Int32.toNatClampNeg (2 : Int32) = 2 by decide]
  have h36 := h35.new 40 2 2 (hj _ (by decide))
  generalize xnew N35 40 2 2 = N36 at h36 ⊢
  rw [B_30_153, h36.S 439 (12, 0) (by decide +kernel)]
  refine ⟨⟨rfl, by decide⟩, ?_⟩
  have h37 := h36.put (a := 439) 31 457 (by decide) (by decide)
  generalize xmR N36 439 31 457 = N37 at h37 ⊢
  rw [h37.hz]
  refine ⟨⟨by decide, by decide⟩, ?_⟩
  rw [show Int32.toNatClampNeg (2 : Int32) = 2 by decide]
  have h38 := h37.new 40 2 2 (hj _ (by decide))
  generalize xnew N37 40 2 2 = N38 at h38 ⊢
  rw [B_30_160, h38.S 439 (12, 0) (by decide +kernel)]
  refine ⟨⟨rfl, by decide⟩, ?_⟩
  have h39 := h38.put (a := 439) 32 458 (by decide) (by decide)
  generalize xmR N38 439 32 458 = N39 at h39 ⊢
  rw [h39.hz]
  refine ⟨⟨by decide, by decide⟩, ?_⟩
  rw [show Int32.toNatClampNeg (2 : Int32) = 2 by decide]
  have h40 := h39.new 40 2 2 (hj _ (by decide))
  generalize xnew N39 40 2 2 = N40 at h40 ⊢
  rw [B_30_167, h40.S 439 (12, 0) (by decide +kernel)]
  refine ⟨⟨rfl, by decide⟩, ?_⟩
  have h41 := h40.put (a := 439) 33 459 (by decide) (by decide)
  generalize xmR N40 439 33 459 = N41 at h41 ⊢
  rw [h41.hz]
  refine ⟨⟨by decide, by decide⟩, ?_⟩
  rw [show Int32.toNatClampNeg (8 : Int32) = 8 by decide]
  have h42 := h41.new 40 8 8 (hj _ (by decide))
  generalize xnew N41 40 8 8 = N42 at h42 ⊢
  rw [B_30_175, h42.S 439 (12, 0) (by decide +kernel)]
  refine ⟨⟨rfl, by decide⟩, ?_⟩
  have h43 := h42.put (a := 439) 34 460 (by decide) (by decide)
  generalize xmR N42 439 34 460 = N43 at h43 ⊢
  rw [h43.hz]
  refine ⟨⟨by decide, by decide⟩, ?_⟩
  rw [show Int32.toNatClampNeg (8 : Int32) = 8 by decide]
  have h44 := h43.new 40 8 8 (hj _ (by decide))
  generalize xnew N43 40 8 8 = N44 at h44 ⊢
  rw [B_30_183, h44.S 439 (12, 0) (by decide +kernel)]
  refine ⟨⟨rfl, by decide⟩, ?_⟩
  have h45 := h44.put (a := 439) 35 461 (by decide) (by decide)
  generalize xmR N44 439 35 461 = N45 at h45 ⊢
  rw [h45.hz]
  refine ⟨⟨by decide, by decide⟩, ?_⟩
  rw [show Int32.toNatClampNeg (260 : Int32) = 260 by decide]
  have h46 := h45.new 42 260 260 (hj _ (by decide))
  generalize xnew N45 42 260 260 = N46 at h46 ⊢
  rw [B_30_192, h46.S 439 (12, 0) (by decide +kernel)]
  refine ⟨⟨rfl, by decide⟩, ?_⟩
  have h47 := h46.put (a := 439) 37 462 (by decide) (by decide)
  generalize xmR N46 439 37 462 = N47 at h47 ⊢
  rw [h47.hz]
  refine ⟨⟨by decide, by decide⟩, ?_⟩
  rw [show Int32.toNatClampNeg (260 : Int32) = 260 by decide]
  have h48 := h47.new 40 260 260 (hj _ (by decide))
  generalize xnew N47 40 260 260 = N48 at h48 ⊢
  rw [B_30_201, h48.S 439 (12, 0) (by decide +kernel)]
  refine ⟨⟨rfl, by decide⟩, ?_⟩
  have h49 := h48.put (a := 439) 38 463 (by decide) (by decide)
  generalize xmR N48 439 38 463 = N49 at h49 ⊢
  rw [h49.hz]
  refine ⟨⟨by decide, by decide⟩, ?_⟩
  rw [show Int32.toNatClampNeg (260 : Int32) = 260 by decide]
  have h50 := h49.new 40 260 260 (hj _ (by decide))
  generalize xnew N49 40 260 260 = N50 at h50 ⊢
  rw [B_30_210, h50.S 439 (12, 0) (by decide +kernel)]
  refine ⟨⟨rfl, by decide⟩, ?_⟩
  have h51 := h50.put (a := 439) 39 464 (by decide) (by decide)
  generalize xmR N50 439 39 464 = N51 at h51 ⊢
  rw [h51.hz]
  refine ⟨⟨by decide, by decide⟩, ?_⟩
  rw [show Int32.toNatClampNeg (260 : Int32) = 260 by decide]
  have h52 := h51.new 40 260 260 (hj _ (by decide))
  generalize xnew N51 40 260 260 = N52 at h52 ⊢
  rw [B_30_219, h52.S 439 (12, 0) (by decide +kernel)]
  refine ⟨⟨rfl, by decide⟩, ?_⟩
  have h53 := h52.put (a := 439) 40 465 (by decide) (by decide)
  generalize xmR N52 439 40 465 = N53 at h53 ⊢
  rw [h53.hz]
  refine ⟨⟨by decide, by decide⟩, ?_⟩
  rw [show Int32.toNatClampNeg (260 : Int32) = 260 by decide]
  have h54 := h53.new 40 260 260 (hj _ (by decide))
  generalize xnew N53 40 260 260 = N54 at h54 ⊢
  rw [B_30_228, h54.S 439 (12, 0) (by decide +kernel)]
  refine ⟨⟨rfl, by decide⟩, ?_⟩
  have h55 := h54.put (a := 439) 41 466 (by decide) (by decide)
  generalize xmR N54 439 41 466 = N55 at h55 ⊢
  rw [h55.hz]
  refine ⟨⟨by decide, by decide⟩, ?_⟩
  rw [show Int32.toNatClampNeg (840 : Int32) = 840 by decide]
  have h56 := h55.new 40 840 840 (hj _ (by decide))
  generalize xnew N55 40 840 840 = N56 at h56 ⊢
  rw [B_30_237, h56.S 439 (12, 0) (by decide +kernel)]
  refine ⟨⟨rfl, by decide⟩, ?_⟩
  have h57 := h56.put (a := 439) 43 467 (by decide) (by decide)
  generalize xmR N56 439 43 467 = N57 at h57 ⊢
  rw [h57.hz]
  refine ⟨⟨by decide, by decide⟩, ?_⟩
  rw [show Int32.toNatClampNeg (840 : Int32) = 840 by decide]
  have h58 := h57.new 40 840 840 (hj _ (by decide))
  generalize xnew N57 40 840 840 = N58 at h58 ⊢
  rw [B_30_246, h58.S 439 (12, 0) (by decide +kernel)]
  refine ⟨⟨rfl, by decide⟩, ?_⟩
  have h59 := h58.put (a := 439) 44 468 (by decide) (by decide)
  generalize xmR N58 439 44 468 = N59 at h59 ⊢
  rw [h59.hz]
  refine ⟨⟨by decide, by decide⟩, ?_⟩
  rw [show Int32.toNatClampNeg (64 : Int32) = 64 by decide]
  have h60 := h59.new 40 64 64 (hj _ (by decide))
  generalize xnew N59 40 64 64 = N60 at h60 ⊢
  rw [B_30_254, h60.S 439 (12, 0) (by decide +kernel)]
  refine ⟨⟨rfl, by decide⟩, ?_⟩
  have h61 := h60.put (a := 439) 45 469 (by decide) (by decide)
  generalize xmR N60 439 45 469 = N61 at h61 ⊢
  rw [h61.hz]
  refine ⟨⟨by decide, by decide⟩, ?_⟩
  rw [show Int32.toNatClampNeg (9 : Int32) = 9 by decide]
  have h62 := h61.new 40 9 9 (hj _ (by decide))
  generalize xnew N61 40 9 9 = N62 at h62 ⊢
  rw [B_30_262, h62.S 439 (12, 0) (by decide +kernel)]
  refine ⟨⟨rfl, by decide⟩, ?_⟩
  have h63 := h62.put (a := 439) 47 470 (by decide) (by decide)
  generalize xmR N62 439 47 470 = N63 at h63 ⊢
  rw [h63.hz]
  refine ⟨⟨by decide, by decide⟩, ?_⟩
  rw [show Int32.toNatClampNeg (400 : Int32) = 400 by decide]
  have h64 := h63.new 40 400 400 (hj _ (by decide))
  generalize xnew N63 40 400 400 = N64 at h64 ⊢
  rw [B_30_271, h64.S 439 (12, 0) (by decide +kernel)]
  refine ⟨⟨rfl, by decide⟩, ?_⟩
  have h65 := h64.put (a := 439) 48 471 (by decide) (by decide)
  generalize xmR N64 439 48 471 = N65 at h65 ⊢
  rw [h65.hz]
  refine ⟨⟨by decide, by decide⟩, ?_⟩
  rw [show Int32.toNatClampNeg (34 : Int32) = 34 by decide]
  have h66 := h65.new 40 34 34 (hj _ (by decide))
  generalize xnew N65 40 34 34 = N66 at h66 ⊢
  rw [B_30_279, h66.S 439 (12, 0) (by decide +kernel)]
  refine ⟨⟨rfl, by decide⟩, ?_⟩
  have h67 := h66.put (a := 439) 50 472 (by decide) (by decide)
  generalize xmR N66 439 50 472 = N67 at h67 ⊢
  rw [h67.hz]
  refine ⟨⟨by decide, by decide⟩, ?_⟩
  rw [show Int32.toNatClampNeg (34 : Int32) = 34 by decide]
  have h68 := h67.new 40 34 34 (hj _ (by decide))
  generalize xnew N67 40 34 34 = N68 at h68 ⊢
  rw [B_30_287, h68.S 439 (12, 0) (by decide +kernel)]
  refine ⟨⟨rfl, by decide⟩, ?_⟩
  have h69 := h68.put (a := 439) 51 473 (by decide) (by decide)
  generalize xmR N68 439 51 473 = N69 at h69 ⊢
  rw [h69.hz]
  refine ⟨⟨by decide, by decide⟩, ?_⟩
  rw [show Int32.toNatClampNeg (7 : Int32) = 7 by decide]
  have h70 := h69.new 42 7 7 (hj _ (by decide))
  generalize xnew N69 42 7 7 = N70 at h70 ⊢
  rw [B_30_295, h70.S 439 (12, 0) (by decide +kernel)]
  refine ⟨⟨rfl, by decide⟩, ?_⟩
  have h71 := h70.put (a := 439) 54 474 (by decide) (by decide)
  generalize xmR N70 439 54 474 = N71 at h71 ⊢
  rw [h71.hz]
  refine ⟨⟨by decide, by decide⟩, ?_⟩
  rw [show Int32.toNatClampNeg (1360 : Int32) = 1360 by decide]
  have h72 := h71.new 40 1360 1360 (hj _ (by decide))
  generalize xnew N71 40 1360 1360 = N72 at h72 ⊢
  rw [B_30_304, h72.S 439 (12, 0) (by decide +kernel)]
  refine ⟨⟨rfl, by decide⟩, ?_⟩
  have h73 := h72.put (a := 439) 56 475 (by decide) (by decide)
  generalize xmR N72 439 56 475 = N73 at h73 ⊢
  rw [h73.hz]
  refine ⟨⟨by decide, by decide⟩, ?_⟩
  rw [show Int32.toNatClampNeg (512 : Int32) = 512 by decide]
  have h74 := h73.new 40 512 512 (hj _ (by decide))
  generalize xnew N73 40 512 512 = N74 at h74 ⊢
  rw [B_30_313, h74.S 439 (12, 0) (by decide +kernel)]
  refine ⟨⟨rfl, by decide⟩, ?_⟩
  have h75 := h74.put (a := 439) 57 476 (by decide) (by decide)
  generalize xmR N74 439 57 476 = N75 at h75 ⊢
  rw [h75.hz]
  refine ⟨⟨by decide, by decide⟩, ?_⟩
  rw [show Int32.toNatClampNeg (42 : Int32) = 42 by decide]
  have h76 := h75.new 40 42 42 (hj _ (by decide))
  generalize xnew N75 40 42 42 = N76 at h76 ⊢
  rw [B_30_321, h76.S 439 (12, 0) (by decide +kernel)]
  refine ⟨⟨rfl, by decide⟩, ?_⟩
  have h77 := h76.put (a := 439) 58 477 (by decide) (by decide)
  generalize xmR N76 439 58 477 = N77 at h77 ⊢
  rw [h77.hz]
  refine ⟨⟨by decide, by decide⟩, ?_⟩
  rw [show Int32.toNatClampNeg (6 : Int32) = 6 by decide]
  have h78 := h77.new 40 6 6 (hj _ (by decide))
  generalize xnew N77 40 6 6 = N78 at h78 ⊢
  rw [B_30_329, h78.S 439 (12, 0) (by decide +kernel)]
  refine ⟨⟨rfl, by decide⟩, ?_⟩
  have h79 := h78.put (a := 439) 59 478 (by decide) (by decide)
  generalize xmR N78 439 59 478 = N79 at h79 ⊢
  rw [h79.hz]
  refine ⟨⟨by decide, by decide⟩, ?_⟩
  rw [show Int32.toNatClampNeg (7 : Int32) = 7 by decide]
  have h80 := h79.new 40 7 7 (hj _ (by decide))
  generalize xnew N79 40 7 7 = N80 at h80 ⊢
  rw [B_30_337, h80.S 439 (12, 0) (by decide +kernel)]
  refine ⟨⟨rfl, by decide⟩, ?_⟩
  have h81 := h80.put (a := 439) 60 479 (by decide) (by decide)
  generalize xmR N80 439 60 479 = N81 at h81 ⊢
  rw [h81.hz]
  refine ⟨⟨by decide, by decide⟩, ?_⟩
  rw [show Int32.toNatClampNeg (7 : Int32) = 7 by decide]
  have h82 := h81.new 40 7 7 (hj _ (by decide))
  generalize xnew N81 40 7 7 = N82 at h82 ⊢
  rw [B_30_345, h82.S 439 (12, 0) (by decide +kernel)]
  refine ⟨⟨rfl, by decide⟩, ?_⟩
  have h83 := h82.put (a := 439) 61 480 (by decide) (by decide)
  generalize xmR N82 439 61 480 = N83 at h83 ⊢
  rw [h83.hz]
  refine ⟨⟨by decide, by decide⟩, ?_⟩
  rw [show Int32.toNatClampNeg (20 : Int32) = 20 by decide]
  have h84 := h83.new 40 20 20 (hj _ (by decide))
  generalize xnew N83 40 20 20 = N84 at h84 ⊢
  rw [B_30_353, h84.S 439 (12, 0) (by decide +kernel)]
  refine ⟨⟨rfl, by decide⟩, ?_⟩
  have h85 := h84.put (a := 439) 63 481 (by decide) (by decide)
  generalize xmR N84 439 63 481 = N85 at h85 ⊢
  rw [h85.hz]
  refine ⟨⟨by decide, by decide⟩, ?_⟩
  rw [show Int32.toNatClampNeg (20 : Int32) = 20 by decide]
  have h86 := h85.new 40 20 20 (hj _ (by decide))
  generalize xnew N85 40 20 20 = N86 at h86 ⊢
  rw [B_30_361, h86.S 439 (12, 0) (by decide +kernel)]
  refine ⟨⟨rfl, by decide⟩, ?_⟩
  have h87 := h86.put (a := 439) 64 482 (by decide) (by decide)
  generalize xmR N86 439 64 482 = N87 at h87 ⊢
  rw [h87.hz]
  refine ⟨⟨by decide, by decide⟩, ?_⟩
  rw [show Int32.toNatClampNeg (20 : Int32) = 20 by decide]
  have h88 := h87.new 42 20 20 (hj _ (by decide))
  generalize xnew N87 42 20 20 = N88 at h88 ⊢
  rw [B_30_369, h88.S 439 (12, 0) (by decide +kernel)]
  refine ⟨⟨rfl, by decide⟩, ?_⟩
  have h89 := h88.put (a := 439) 65 483 (by decide) (by decide)
  generalize xmR N88 439 65 483 = N89 at h89 ⊢
  rw [h89.hz]
  refine ⟨⟨by decide, by decide⟩, ?_⟩
  rw [show Int32.toNatClampNeg (3 : Int32) = 3 by decide]
  have h90 := h89.new 42 3 3 (hj _ (by decide))
  generalize xnew N89 42 3 3 = N90 at h90 ⊢
  rw [B_30_376, h90.S 439 (12, 0) (by decide +kernel)]
  refine ⟨⟨rfl, by decide⟩, ?_⟩
  have h91 := h90.put (a := 439) 66 484 (by decide) (by decide)
  generalize xmR N90 439 66 484 = N91 at h91 ⊢
  rw [h91.hz]
  refine ⟨⟨by decide, by decide⟩, ?_⟩
  rw [show Int32.toNatClampNeg (102 : Int32) = 102 by decide]
  have h92 := h91.new 40 102 102 (hj _ (by decide))
  generalize xnew N91 40 102 102 = N92 at h92 ⊢
  rw [B_30_384, h92.S 439 (12, 0) (by decide +kernel)]
  refine ⟨⟨rfl, by decide⟩, ?_⟩
  have h93 := h92.put (a := 439) 67 485 (by decide) (by decide)
  generalize xmR N92 439 67 485 = N93 at h93 ⊢
  refine ⟨rfl, ?_⟩
  exact hQ _ h93
theorem rsh_of {M N : XM} {g : Nat → Int32} {jj : Nat → Nat → Int64} {z u : Nat} (h : NI 439 M z u rSh rFf g jj N) : RSh N :=
  ⟨⟨h.S _ _ (by decide +kernel), h.S _ _ (by decide +kernel), h.S _ _ (by decide +kernel), h.S _ _ (by decide +kernel), h.S _ _ (by decide +kernel), h.S _ _ (by decide +kernel), h.S _ _ (by decide +kernel), h.S _ _ (by decide +kernel), h.S _ _ (by decide +kernel), h.S _ _ (by decide +kernel), h.S _ _ (by decide +kernel), h.S _ _ (by decide +kernel), h.S _ _ (by decide +kernel), h.S _ _ (by decide +kernel), h.S _ _ (by decide +kernel), h.S _ _ (by decide +kernel), h.S _ _ (by decide +kernel), h.S _ _ (by decide +kernel), h.S _ _ (by decide +kernel), h.S _ _ (by decide +kernel), h.S _ _ (by decide +kernel), h.S _ _ (by decide +kernel), h.S _ _ (by decide +kernel), h.S _ _ (by decide +kernel), h.S _ _ (by decide +kernel), h.S _ _ (by decide +kernel), h.S _ _ (by decide +kernel), h.S _ _ (by decide +kernel), h.S _ _ (by decide +kernel), h.S _ _ (by decide +kernel), h.S _ _ (by decide +kernel), h.S _ _ (by decide +kernel), h.S _ _ (by decide +kernel), h.S _ _ (by decide +kernel), h.S _ _ (by decide +kernel), h.S _ _ (by decide +kernel), h.S _ _ (by decide +kernel), h.S _ _ (by decide +kernel), h.S _ _ (by decide +kernel), h.S _ _ (by decide +kernel), h.S _ _ (by decide +kernel), h.S _ _ (by decide +kernel), h.S _ _ (by decide +kernel), h.S _ _ (by decide +kernel), h.S _ _ (by decide +kernel), h.S _ _ (by decide +kernel), h.S _ _ (by decide +kernel)⟩, h.F _ _ _ (by decide +kernel), h.F _ _ _ (by decide +kernel), h.F _ _ _ (by decide +kernel), h.F _ _ _ (by decide +kernel), h.F _ _ _ (by decide +kernel), h.F _ _ _ (by decide +kernel), h.F _ _ _ (by decide +kernel), h.F _ _ _ (by decide +kernel), h.F _ _ _ (by decide +kernel), h.F _ _ _ (by decide +kernel), h.F _ _ _ (by decide +kernel), h.F _ _ _ (by decide +kernel), h.F _ _ _ (by decide +kernel), h.F _ _ _ (by decide +kernel), h.F _ _ _ (by decide +kernel), h.F _ _ _ (by decide +kernel), h.F _ _ _ (by decide +kernel), h.F _ _ _ (by decide +kernel), h.F _ _ _ (by decide +kernel), h.F _ _ _ (by decide +kernel), h.F _ _ _ (by decide +kernel), h.F _ _ _ (by decide +kernel), h.F _ _ _ (by decide +kernel), h.F _ _ _ (by decide +kernel), h.F _ _ _ (by decide +kernel), h.F _ _ _ (by decide +kernel), h.F _ _ _ (by decide +kernel), h.F _ _ _ (by decide +kernel), h.F _ _ _ (by decide +kernel), h.F _ _ _ (by decide +kernel), h.F _ _ _ (by decide +kernel), h.F _ _ _ (by decide +kernel), h.F _ _ _ (by decide +kernel), h.F _ _ _ (by decide +kernel), h.F _ _ _ (by decide +kernel), h.F _ _ _ (by decide +kernel), h.F _ _ _ (by decide +kernel), h.F _ _ _ (by decide +kernel), h.F _ _ _ (by decide +kernel), h.F _ _ _ (by decide +kernel), h.F _ _ _ (by decide +kernel), h.F _ _ _ (by decide +kernel), h.F _ _ _ (by decide +kernel), h.F _ _ _ (by decide +kernel), h.F _ _ _ (by decide +kernel), h.F _ _ _ (by decide +kernel)⟩
theorem NI.zero {o z u : Nat} {M N : XM} {sh ff : List (Nat × Nat × Nat)} {g : Nat → Int32} {jj : Nat → Nat → Int64} (h : NI o M z u sh ff g jj N) {a : Nat} (k : Nat) (ha : o < a) : NI o M z u sh ff g jj (xmI N a k 0) := by
  refine ⟨h.hz, h.hu, ?_, h.S, h.F, ?_, ?_, h.J, h.hs, h.hf, h.oz⟩
  · intro b hb
    obtain ⟨q1, q2, q3, q4⟩ := h.fr b hb
    refine ⟨q1, ?_, q3, q4⟩
    rw [← q2]
    show xI (xmI N a k 0) b = xI N b
    rw [xI_I]
    exact xup_n _ _ _ (by omega)
  · intro b j q1 q2
    rw [xI_I, xup_at]
    split
    · rfl
    · exact h.I b j q1 q2
  · rw [xI_I, xup_n _ _ _ (by omega)]
    exact h.hg
theorem n_plain {M N : XM} {jj : Nat → Nat → Int64} {s : Nat} {Q : Option Value → XM → Prop} (h : NI 439 M 486 20270 rSh rFf gR jj N) (hs : s < 2) (hQ : ∀ M' : XM, NI 439 M 486 20270 rSh rFf gR jj M' → Q none M') :
    RG xprog 25 0 [some (.ref 439), some (.int (nI s)), none] [] N Q := by
  have R := rsh_of h
  have RS := R.1
  have RF := R.2
  rw [B_25_0]
  simp (disch := omega) only [RS, RF, lAdd, addL, lMul, mulL, nMul, nI_add, subL, lSub, nSub, nDec, nCl, lCl, nVp, lVp, nLe, nLt, nEq, lLe, leL, lLt, ltL, eqL, lEq, nM1, nM2, litLt0, one01, zero01, oneNe0, xupE, xupA, xupK, xI_I, xS_I, xF_I, xJ_I, xI_R, xS_R, xF_R, xJ_R, xI_L, xS_L, xF_L, xJ_L, xcat_s, le46, ge16, or_true, true_or, false_or, or_false, eq_self, Option.toList_some, Option.toList_none, List.cons_append, List.nil_append, true_and, and_true, not_false_eq_true, not_true_eq_false, if_true, if_false]
  have h1 := ((h.zero (a := 448) s (by decide)).zero (a := 453) s (by decide)).zero (a := 457) s (by decide)
  generalize xmI (xmI (xmI N 448 s 0) 453 s 0) 457 s 0 = N1 at h1 ⊢
  have R1 := rsh_of h1
  rw [B_25_21]
  simp (disch := omega) only [R1.1, R1.2, lAdd, addL, lMul, mulL, nMul, nI_add, subL, lSub, nSub, nDec, nCl, lCl, nVp, lVp, nLe, nLt, nEq, lLe, leL, lLt, ltL, eqL, lEq, nM1, nM2, litLt0, one01, zero01, oneNe0, xupE, xupA, xupK, xI_I, xS_I, xF_I, xJ_I, xI_R, xS_R, xF_R, xJ_R, xI_L, xS_L, xF_L, xJ_L, xcat_s, le46, ge16, or_true, true_or, false_or, or_false, eq_self, Option.toList_some, Option.toList_none, List.cons_append, List.nil_append, true_and, and_true, not_false_eq_true, not_true_eq_false, if_true, if_false]
  have h2 := (h1.zero (a := 458) s (by decide)).zero (a := 459) s (by decide)
  generalize xmI (xmI N1 458 s 0) 459 s 0 = N2 at h2 ⊢
  refine x_for 4 (fun i (N3 : XM) => NI 439 M 486 20270 rSh rFf gR jj N3) (fun i N3 => RG xprog 25 37 [some (.ref 439), some (.int (nI s)), some (.int (nI i))] [] N3 Q) ?_ ?_ 0 N2 (by omega) h2
  · intro N3 h3
    rw [B_25_37]
    simp (disch := omega) only [lAdd, addL, lMul, mulL, nMul, nI_add, subL, lSub, nSub, nDec, nCl, lCl, nVp, lVp, nLe, nLt, nEq, lLe, leL, lLt, ltL, eqL, lEq, nM1, nM2, litLt0, one01, zero01, oneNe0, xupE, xupA, xupK, xI_I, xS_I, xF_I, xJ_I, xI_R, xS_R, xF_R, xJ_R, xI_L, xS_L, xF_L, xJ_L, xcat_s, le46, ge16, or_true, true_or, false_or, or_false, eq_self, Option.toList_some, Option.toList_none, List.cons_append, List.nil_append, true_and, and_true, not_false_eq_true, not_true_eq_false, if_true, if_false, if_pos]
    exact hQ N3 h3
  · intro i N3 hi h3 ih
    have R3 := rsh_of h3
    rw [B_25_37]
    simp (disch := omega) only [R3.1, R3.2, lAdd, addL, lMul, mulL, nMul, nI_add, subL, lSub, nSub, nDec, nCl, lCl, nVp, lVp, nLe, nLt, nEq, lLe, leL, lLt, ltL, eqL, lEq, nM1, nM2, litLt0, one01, zero01, oneNe0, xupE, xupA, xupK, xI_I, xS_I, xF_I, xJ_I, xI_R, xS_R, xF_R, xJ_R, xI_L, xS_L, xF_L, xJ_L, xcat_s, le46, ge16, or_true, true_or, false_or, or_false, eq_self, Option.toList_some, Option.toList_none, List.cons_append, List.nil_append, true_and, and_true, not_false_eq_true, not_true_eq_false, if_true, if_false, if_neg]
    exact ih _ ((h3.zero (a := 460) _ (by decide)).zero (a := 461) _ (by decide))
def apd (c : Int64) (x : Int32) : Int64 := if ¬ x = 0 then 27 * c + Int32.toInt64 (x - 97 + 1) else c
theorem r_appends {M : XM} {c : Int64} {x : Int32} {Q : Option Value → XM → Prop} : RG xprog 26 0 [some (.long c), none, some (.int x)] [] M Q = Q (some (.long (apd c x))) M := by
  rw [B_26_0]
  unfold apd
  split
  · rw [B_26_21]
  · rw [B_26_21]
def wdK (l : List Int32) : Int64 := l.foldl apd 0
theorem r_word {M : XM} {a b c d e f g : Int32} {Q : Option Value → XM → Prop} : RG xprog 27 0 [some (.int a), some (.int b), some (.int c), some (.int d), some (.int e), some (.int f), some (.int g)] [] M Q = Q (some (.long (wdK [a, b, c, d, e, f, g]))) M := by
  rw [B_27_0, r_appends]
  simp (disch := omega) only [lAdd, addL, lMul, mulL, nMul, nI_add, subL, lSub, nSub, nDec, nCl, lCl, nVp, lVp, nLe, nLt, nEq, lLe, leL, lLt, ltL, eqL, lEq, nM1, nM2, litLt0, one01, zero01, oneNe0, xupE, xupA, xupK, xI_I, xS_I, xF_I, xJ_I, xI_R, xS_R, xF_R, xJ_R, xI_L, xS_L, xF_L, xJ_L, xcat_s, le46, ge16, or_true, true_or, false_or, or_false, eq_self, Option.toList_some, Option.toList_none, List.cons_append, List.nil_append, true_and, and_true, not_false_eq_true, not_true_eq_false, if_true, if_false, B_27_5, r_appends, B_27_9, B_27_13, B_27_17, B_27_22, B_27_27, B_27_32]
  rfl
