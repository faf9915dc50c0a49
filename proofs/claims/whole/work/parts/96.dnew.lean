/-! HopeDrawer's constructor -/
theorem NI.int {o z u : Nat} {M N : XM} {sh ff : List (Nat × Nat × Nat)} {g : Nat → Int32} {jj : Nat → Nat → Int64} (h : NI o M z u sh ff g jj N) (k : Nat) (x : Int32) : NI o M z u sh ff (fun j => if j = k then x else g j) jj (xmI N o k x) := by
  have oz := h.oz
  refine ⟨h.hz, h.hu, ?_, h.S, h.F, ?_, ?_, h.J, h.hs, h.hf, h.oz⟩
  · intro b hb
    obtain ⟨q1, q2, q3, q4⟩ := h.fr b hb
    refine ⟨q1, ?_, q3, q4⟩
    rw [← q2]
    show xI (xmI N o k x) b = xI N b
    rw [xI_I]
    exact xup_n _ _ _ (by omega)
  · intro b j q1 q2
    rw [xI_I, xup_at, if_neg (by omega)]
    exact h.I b j q1 q2
  · rw [xI_I]
    funext j
    rw [xup_at]
    by_cases w : j = k
    · rw [if_pos ⟨rfl, w⟩, if_pos w]
    · rw [if_neg (fun y => w y.2), if_neg w, h.hg]
def offS (z : Nat) (sh : List (Nat × Nat × Nat)) : List (Nat × Nat × Nat) := (z + 6, 40, 6) :: (z + 5, 40, 6) :: (z + 4, 40, 6) :: (z + 3, 40, 7) :: (z + 2, 40, 7) :: (z + 1, 40, 7) :: (z, 5, 0) :: sh
def offF (z : Nat) (ff : List (Nat × Nat × Nat)) : List (Nat × Nat × Nat) := (z, 6, z + 6) :: (z, 5, z + 5) :: (z, 4, z + 4) :: (z, 3, z + 3) :: (z, 2, z + 2) :: (z, 1, z + 1) :: ff
def dS0 : List (Nat × Nat × Nat) := [(16, 11, 0)]
def dF0 : List (Nat × Nat × Nat) := []
def dS1 : List (Nat × Nat × Nat) := (17 + 1, 41, 2000) :: (17, 7, 0) :: dS0
def dF1 : List (Nat × Nat × Nat) := (16, 0, 17) :: (17, 0, 17 + 1) :: dF0
def dS2 : List (Nat × Nat × Nat) := (19 + 6, 40, 400) :: (19 + 5, 3, 0) :: (19 + 4, 40, 20) :: (19 + 3, 4, 0) :: (19 + 2, 43, 21) :: (19 + 1, 9, 0) :: (19, 6, 0) :: dS1
def dF2 : List (Nat × Nat × Nat) := (16, 1, 19) :: (19, 1, 19 + 3) :: (19 + 3, 2, 19 + 5) :: (19 + 5, 0, 19 + 6) :: (19 + 3, 0, 19 + 4) :: (19, 0, 19 + 1) :: (19 + 1, 0, 19 + 2) :: dF1
def dS3 : List (Nat × Nat × Nat) := tS1 26 dS2 4
def dF3 : List (Nat × Nat × Nat) := (16, 2, 26) :: tF1 26 (dF2) 4
def dS4 : List (Nat × Nat × Nat) := tS1 55 dS3 4
def dF4 : List (Nat × Nat × Nat) := (16, 3, 55) :: tF1 55 (dF3) 4
def dS5 : List (Nat × Nat × Nat) := offS 84 dS4
def dF5 : List (Nat × Nat × Nat) := (16, 4, 84) :: offF 84 (dF4)
def dS6 : List (Nat × Nat × Nat) := offS 91 dS5
def dF6 : List (Nat × Nat × Nat) := (16, 5, 91) :: offF 91 (dF5)
def dS7 : List (Nat × Nat × Nat) := (98, 45, 3) :: dS6
def dF7 : List (Nat × Nat × Nat) := (16, 6, 98) :: dF6
def dS8 : List (Nat × Nat × Nat) := offS 99 dS7
def dF8 : List (Nat × Nat × Nat) := (98, 0, 99) :: offF 99 (dF7)
def dS9 : List (Nat × Nat × Nat) := offS 106 dS8
def dF9 : List (Nat × Nat × Nat) := (98, 1, 106) :: offF 106 (dF8)
def dS10 : List (Nat × Nat × Nat) := offS 113 dS9
def dF10 : List (Nat × Nat × Nat) := (98, 2, 113) :: offF 113 (dF9)
def dS11 : List (Nat × Nat × Nat) := hS1 120 dS10 40
def dF11 : List (Nat × Nat × Nat) := (16, 8, 120) :: hF1 120 (dF10) 40
def dS12 : List (Nat × Nat × Nat) := (402 + 3, 42, 20) :: (402 + 2, 40, 20) :: (402 + 1, 40, 20) :: (402, 10, 0) :: dS11
def dF12 : List (Nat × Nat × Nat) := (16, 9, 402) :: (402, 2, 402 + 3) :: (402, 1, 402 + 2) :: (402, 0, 402 + 1) :: dF11
def dS13 : List (Nat × Nat × Nat) := (406 + 28, 40, 7) :: (406 + 27, 40, 6) :: (406 + 26, 40, 7) :: mS (406 + 18) 7 6 7 (mS (406 + 9) 8 64 8 (mS (406 + 1) 7 6 7 ((406, 1, 0) :: dS12)))
def dF13 : List (Nat × Nat × Nat) := (16, 10, 406) :: (406, 5, 406 + 28) :: (406, 4, 406 + 27) :: (406, 3, 406 + 26) :: (406, 2, 406 + 18) :: mF (406 + 18) 7 ((406, 1, 406 + 9) :: mF (406 + 9) 8 ((406, 0, 406 + 1) :: mF (406 + 1) 7 (dF12)))
def dS14 : List (Nat × Nat × Nat) := (435 + 3, 40, 7) :: (435 + 2, 40, 7) :: (435 + 1, 40, 7) :: (435, 0, 0) :: dS13
def dF14 : List (Nat × Nat × Nat) := (16, 11, 435) :: (435, 2, 435 + 3) :: (435, 1, 435 + 2) :: (435, 0, 435 + 1) :: dF13
def J0 : Nat → Nat → Int64 := fun _ _ => 0
def J1 : Nat → Nat → Int64 := jW 21 J0 (wC 21)
theorem J1_0 {b : Nat} (h : 26 ≤ b) : J1 b = fun _ => 0 := by
  unfold J1 jW
  rw [if_neg (by omega)]
  rfl
theorem n_Drawer {M N : XM} {Q : Option Value → XM → Prop} (h0 : NI 16 M 17 13 dS0 dF0 (fun _ => 0) J0 N) (hw : StrAt M 5 6 168 xb19)
    (hQ : ∀ M' : XM, NI 16 M 439 8811 dS14 dF14 (fun j => if j = 12 then -1 else 0) J1 M' → RG xprog 22 0 [some (.ref 26), none] [] M' (fun v M'' => RG xprog 24 160 [some (.ref 16), some (.int 3)] (v.toList ++ []) M'' Q)) :
    RG xprog 24 0 [some (.ref 16), none] [] N Q := by
  rw [B_24_0, h0.S 16 (11, 0) (by decide), h0.hz]
  refine ⟨⟨by decide, by decide⟩, ?_⟩
  -- Tape at 17
  have t0 : xS (xnew N 7 0 2) 17 = (7, 0) := (h0.new 7 0 2 rfl).Sz
  rw [B_24_8, t0]
  refine ⟨⟨rfl, by decide⟩, ?_⟩
  refine n_Tape h0 (by decide) (fun b q1 q2 => rfl) ?_
  intro K1 k1'
  have k1 : NI 16 M 19 2015 dS1 ((17, 0, 17 + 1) :: dF0) (fun _ => 0) J0 K1 := k1'
  simp (disch := omega) only [Option.toList_none, List.nil_append]
  rw [B_24_12, k1.S 16 (11, 0) (by decide +kernel)]
  refine ⟨⟨rfl, by decide⟩, ?_⟩
  have h1 : NI 16 M 19 2015 dS1 dF1 (fun _ => 0) J0 (xmR K1 16 0 17) := k1.put (a := 16) 0 17 (by decide) (by decide)
  generalize xmR K1 16 0 17 = N1 at h1 ⊢
  rw [h1.hz]
  -- Parser at 19
  have t1 : xS (xnew N1 6 0 16) 19 = (6, 0) := (h1.new 6 0 16 rfl).Sz
  rw [B_24_19, t1]
  refine ⟨⟨rfl, by decide⟩, ?_⟩
  refine n_Parser h1 (by decide) (by decide) (fun b q1 q2 => rfl) hw ?_
  intro K2 k2'
  have k2 : NI 16 M 26 2485 dS2 ((19, 1, 19 + 3) :: (19 + 3, 2, 19 + 5) :: (19 + 5, 0, 19 + 6) :: (19 + 3, 0, 19 + 4) :: (19, 0, 19 + 1) :: (19 + 1, 0, 19 + 2) :: dF1) (fun _ => 0) J1 K2 := k2'
  simp (disch := omega) only [Option.toList_none, List.nil_append]
  rw [B_24_23, k2.S 16 (11, 0) (by decide +kernel)]
  refine ⟨⟨rfl, by decide⟩, ?_⟩
  have h2 : NI 16 M 26 2485 dS2 dF2 (fun _ => 0) J1 (xmR K2 16 1 19) := k2.put (a := 16) 1 19 (by decide) (by decide)
  generalize xmR K2 16 1 19 = N2 at h2 ⊢
  rw [h2.hz]
  -- Text at 26
  have t2 : xS (xnew N2 8 0 10) 26 = (8, 0) := (h2.new 8 0 10 (J1_0 (by omega))).Sz
  rw [B_24_30, t2]
  refine ⟨⟨rfl, by decide⟩, ?_⟩
  refine n_Text h2 (by decide) (fun b q1 q2 => J1_0 (by omega)) ?_
  intro K3 k3'
  have k3 : NI 16 M 55 4223 dS3 (tF1 26 (dF2) 4) (fun _ => 0) J1 K3 := k3'
  simp (disch := omega) only [Option.toList_none, List.nil_append]
  rw [B_24_34, k3.S 16 (11, 0) (by decide +kernel)]
  refine ⟨⟨rfl, by decide⟩, ?_⟩
  have h3 : NI 16 M 55 4223 dS3 dF3 (fun _ => 0) J1 (xmR K3 16 2 26) := k3.put (a := 16) 2 26 (by decide) (by decide)
  generalize xmR K3 16 2 26 = N3 at h3 ⊢
  rw [h3.hz]
  -- Text at 55
  have t3 : xS (xnew N3 8 0 10) 55 = (8, 0) := (h3.new 8 0 10 (J1_0 (by omega))).Sz
  rw [B_24_41, t3]
  refine ⟨⟨rfl, by decide⟩, ?_⟩
  refine n_Text h3 (by decide) (fun b q1 q2 => J1_0 (by omega)) ?_
  intro K4 k4'
  have k4 : NI 16 M 84 5961 dS4 (tF1 55 (dF3) 4) (fun _ => 0) J1 K4 := k4'
  simp (disch := omega) only [Option.toList_none, List.nil_append]
  rw [B_24_45, k4.S 16 (11, 0) (by decide +kernel)]
  refine ⟨⟨rfl, by decide⟩, ?_⟩
  have h4 : NI 16 M 84 5961 dS4 dF4 (fun _ => 0) J1 (xmR K4 16 3 55) := k4.put (a := 16) 3 55 (by decide) (by decide)
  generalize xmR K4 16 3 55 = N4 at h4 ⊢
  rw [h4.hz]
  -- Office at 84
  have t4 : xS (xnew N4 5 0 7) 84 = (5, 0) := (h4.new 5 0 7 (J1_0 (by omega))).Sz
  rw [B_24_52, t4]
  refine ⟨⟨rfl, by decide⟩, ?_⟩
  refine n_Office h4 (by decide) (fun b q1 q2 => J1_0 (by omega)) ?_
  intro K5 k5'
  have k5 : NI 16 M 91 6007 dS5 (offF 84 (dF4)) (fun _ => 0) J1 K5 := k5'
  simp (disch := omega) only [Option.toList_none, List.nil_append]
  rw [B_24_56, k5.S 16 (11, 0) (by decide +kernel)]
  refine ⟨⟨rfl, by decide⟩, ?_⟩
  have h5 : NI 16 M 91 6007 dS5 dF5 (fun _ => 0) J1 (xmR K5 16 4 84) := k5.put (a := 16) 4 84 (by decide) (by decide)
  generalize xmR K5 16 4 84 = N5 at h5 ⊢
  rw [h5.hz]
  -- Office at 91
  have t5 : xS (xnew N5 5 0 7) 91 = (5, 0) := (h5.new 5 0 7 (J1_0 (by omega))).Sz
  rw [B_24_63, t5]
  refine ⟨⟨rfl, by decide⟩, ?_⟩
  refine n_Office h5 (by decide) (fun b q1 q2 => J1_0 (by omega)) ?_
  intro K6 k6'
  have k6 : NI 16 M 98 6053 dS6 (offF 91 (dF5)) (fun _ => 0) J1 K6 := k6'
  simp (disch := omega) only [Option.toList_none, List.nil_append]
  rw [B_24_67, k6.S 16 (11, 0) (by decide +kernel)]
  refine ⟨⟨rfl, by decide⟩, ?_⟩
  have h6 : NI 16 M 98 6053 dS6 dF6 (fun _ => 0) J1 (xmR K6 16 5 91) := k6.put (a := 16) 5 91 (by decide) (by decide)
  generalize xmR K6 16 5 91 = N6 at h6 ⊢
  rw [h6.hz]
  -- array at 98
  refine ⟨⟨by decide, by decide⟩, ?_⟩
  rw [show Int32.toNatClampNeg (3 : Int32) = 3 by decide]
  have k7 : NI 16 M 99 6056 dS7 dF6 (fun _ => 0) J1 (xnew N6 45 3 3) := h6.new 45 3 3 (J1_0 (by omega))
  generalize xnew N6 45 3 3 = K7 at k7 ⊢
  rw [B_24_75, k7.S 16 (11, 0) (by decide +kernel)]
  refine ⟨⟨rfl, by decide⟩, ?_⟩
  have h7 : NI 16 M 99 6056 dS7 dF7 (fun _ => 0) J1 (xmR K7 16 6 98) := k7.put (a := 16) 6 98 (by decide) (by decide)
  generalize xmR K7 16 6 98 = N7 at h7 ⊢
  -- slot at 99
  rw [B_24_80, if_neg (by decide), h7.S 16 (11, 0) (by decide +kernel), h7.F 16 6 98 (by decide +kernel), h7.hz]
  refine ⟨rfl, ?_⟩
  have t7 : xS (xnew N7 5 0 7) 99 = (5, 0) := (h7.new 5 0 7 (J1_0 (by omega))).Sz
  rw [B_24_93, t7]
  refine ⟨⟨rfl, by decide⟩, ?_⟩
  refine n_Office h7 (by decide) (fun b q1 q2 => J1_0 (by omega)) ?_
  intro K8 k8'
  have k8 : NI 16 M 106 6102 dS8 (offF 99 (dF7)) (fun _ => 0) J1 K8 := k8'
  simp (disch := omega) only [Option.toList_none, List.nil_append]
  rw [B_24_97, k8.S 98 (45, 3) (by decide +kernel), k8.S 99 (5, 0) (by decide +kernel)]
  refine ⟨⟨⟨Or.inl ⟨rfl, rfl⟩, by decide, by decide⟩, vp_in_nI (n := 0) (N := 3) (by decide) (by decide)⟩, ?_⟩
  rw [show Int32.toNatClampNeg (0 : Int32) = 0 by decide]
  have h8 : NI 16 M 106 6102 dS8 dF8 (fun _ => 0) J1 (xmR K8 98 0 99) := k8.put (a := 98) 0 99 (by decide) (by decide)
  generalize xmR K8 98 0 99 = N8 at h8 ⊢
  rw [show (0 : Int32) + 1 = 1 by decide]
  -- slot at 106
  rw [B_24_80, if_neg (by decide), h8.S 16 (11, 0) (by decide +kernel), h8.F 16 6 98 (by decide +kernel), h8.hz]
  refine ⟨rfl, ?_⟩
  have t8 : xS (xnew N8 5 0 7) 106 = (5, 0) := (h8.new 5 0 7 (J1_0 (by omega))).Sz
  rw [B_24_93, t8]
  refine ⟨⟨rfl, by decide⟩, ?_⟩
  refine n_Office h8 (by decide) (fun b q1 q2 => J1_0 (by omega)) ?_
  intro K9 k9'
  have k9 : NI 16 M 113 6148 dS9 (offF 106 (dF8)) (fun _ => 0) J1 K9 := k9'
  simp (disch := omega) only [Option.toList_none, List.nil_append]
  rw [B_24_97, k9.S 98 (45, 3) (by decide +kernel), k9.S 106 (5, 0) (by decide +kernel)]
  refine ⟨⟨⟨Or.inl ⟨rfl, rfl⟩, by decide, by decide⟩, vp_in_nI (n := 1) (N := 3) (by decide) (by decide)⟩, ?_⟩
  rw [show Int32.toNatClampNeg (1 : Int32) = 1 by decide]
  have h9 : NI 16 M 113 6148 dS9 dF9 (fun _ => 0) J1 (xmR K9 98 1 106) := k9.put (a := 98) 1 106 (by decide) (by decide)
  generalize xmR K9 98 1 106 = N9 at h9 ⊢
  rw [show (1 : Int32) + 1 = 2 by decide]
  -- slot at 113
  rw [B_24_80, if_neg (by decide), h9.S 16 (11, 0) (by decide +kernel), h9.F 16 6 98 (by decide +kernel), h9.hz]
  refine ⟨rfl, ?_⟩
  have t9 : xS (xnew N9 5 0 7) 113 = (5, 0) := (h9.new 5 0 7 (J1_0 (by omega))).Sz
  rw [B_24_93, t9]
  refine ⟨⟨rfl, by decide⟩, ?_⟩
  refine n_Office h9 (by decide) (fun b q1 q2 => J1_0 (by omega)) ?_
  intro K10 k10'
  have k10 : NI 16 M 120 6194 dS10 (offF 113 (dF9)) (fun _ => 0) J1 K10 := k10'
  simp (disch := omega) only [Option.toList_none, List.nil_append]
  rw [B_24_97, k10.S 98 (45, 3) (by decide +kernel), k10.S 113 (5, 0) (by decide +kernel)]
  refine ⟨⟨⟨Or.inl ⟨rfl, rfl⟩, by decide, by decide⟩, vp_in_nI (n := 2) (N := 3) (by decide) (by decide)⟩, ?_⟩
  rw [show Int32.toNatClampNeg (2 : Int32) = 2 by decide]
  have h10 : NI 16 M 120 6194 dS10 dF10 (fun _ => 0) J1 (xmR K10 98 2 113) := k10.put (a := 98) 2 113 (by decide) (by decide)
  generalize xmR K10 98 2 113 = N10 at h10 ⊢
  rw [show (2 : Int32) + 1 = 3 by decide]
  -- History at 120
  rw [B_24_80, if_pos (by decide), h10.hz]
  have t10 : xS (xnew N10 2 0 3) 120 = (2, 0) := (h10.new 2 0 3 (J1_0 (by omega))).Sz
  rw [B_24_108, t10]
  refine ⟨⟨rfl, by decide⟩, ?_⟩
  refine n_History h10 (by decide) (fun b q1 q2 => J1_0 (by omega)) ?_
  intro K11 k11'
  have k11 : NI 16 M 402 8077 dS11 (hF1 120 (dF10) 40) (fun _ => 0) J1 K11 := k11'
  simp (disch := omega) only [Option.toList_none, List.nil_append]
  rw [B_24_112, k11.S 16 (11, 0) (by decide +kernel)]
  refine ⟨⟨rfl, by decide⟩, ?_⟩
  have h11 : NI 16 M 402 8077 dS11 dF11 (fun _ => 0) J1 (xmR K11 16 8 120) := k11.put (a := 16) 8 120 (by decide) (by decide)
  generalize xmR K11 16 8 120 = N11 at h11 ⊢
  rw [h11.hz]
  -- Told at 402
  have t11 : xS (xnew N11 10 0 4) 402 = (10, 0) := (h11.new 10 0 4 (J1_0 (by omega))).Sz
  rw [B_24_119, t11]
  refine ⟨⟨rfl, by decide⟩, ?_⟩
  refine n_Told h11 (by decide) (fun b q1 q2 => J1_0 (by omega)) ?_
  intro K12 k12'
  have k12 : NI 16 M 406 8141 dS12 ((402, 2, 402 + 3) :: (402, 1, 402 + 2) :: (402, 0, 402 + 1) :: dF11) (fun _ => 0) J1 K12 := k12'
  simp (disch := omega) only [Option.toList_none, List.nil_append]
  rw [B_24_123, k12.S 16 (11, 0) (by decide +kernel)]
  refine ⟨⟨rfl, by decide⟩, ?_⟩
  have h12 : NI 16 M 406 8141 dS12 dF12 (fun _ => 0) J1 (xmR K12 16 9 402) := k12.put (a := 16) 9 402 (by decide) (by decide)
  generalize xmR K12 16 9 402 = N12 at h12 ⊢
  rw [h12.hz]
  -- Dealing at 406
  have t12 : xS (xnew N12 1 0 7) 406 = (1, 0) := (h12.new 1 0 7 (J1_0 (by omega))).Sz
  rw [B_24_130, t12]
  refine ⟨⟨rfl, by decide⟩, ?_⟩
  refine n_Dealing h12 (by decide) (fun b q1 q2 => J1_0 (by omega)) ?_
  intro K13 k13'
  have k13 : NI 16 M 435 8786 dS13 ((406, 5, 406 + 28) :: (406, 4, 406 + 27) :: (406, 3, 406 + 26) :: (406, 2, 406 + 18) :: mF (406 + 18) 7 ((406, 1, 406 + 9) :: mF (406 + 9) 8 ((406, 0, 406 + 1) :: mF (406 + 1) 7 (dF12)))) (fun _ => 0) J1 K13 := k13'
  simp (disch := omega) only [Option.toList_none, List.nil_append]
  rw [B_24_134, k13.S 16 (11, 0) (by decide +kernel)]
  refine ⟨⟨rfl, by decide⟩, ?_⟩
  have h13 : NI 16 M 435 8786 dS13 dF13 (fun _ => 0) J1 (xmR K13 16 10 406) := k13.put (a := 16) 10 406 (by decide) (by decide)
  generalize xmR K13 16 10 406 = N13 at h13 ⊢
  rw [h13.hz]
  -- Answering at 435
  have t13 : xS (xnew N13 0 0 4) 435 = (0, 0) := (h13.new 0 0 4 (J1_0 (by omega))).Sz
  rw [B_24_141, t13]
  refine ⟨⟨rfl, by decide⟩, ?_⟩
  refine n_Answering h13 (by decide) (fun b q1 q2 => J1_0 (by omega)) ?_
  intro K14 k14'
  have k14 : NI 16 M 439 8811 dS14 ((435, 2, 435 + 3) :: (435, 1, 435 + 2) :: (435, 0, 435 + 1) :: dF13) (fun _ => 0) J1 K14 := k14'
  simp (disch := omega) only [Option.toList_none, List.nil_append]
  rw [B_24_145, k14.S 16 (11, 0) (by decide +kernel)]
  have h14 : NI 16 M 439 8811 dS14 dF14 (fun _ => 0) J1 (xmR K14 16 11 435) := k14.put (a := 16) 11 435 (by decide) (by decide)
  have e2 : xup (xF K14) 16 11 435 16 2 = 26 := h14.F 16 2 26 (by decide +kernel)
  have e3 : xS K14 26 = (8, 0) := k14.S 26 (8, 0) (by decide +kernel)
  rw [e2, e3]
  exact ⟨⟨rfl, by decide⟩, ⟨rfl, by decide⟩, rfl, rfl, hQ _ (h14.int 12 (-1))⟩
