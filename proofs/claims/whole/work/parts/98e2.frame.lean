/-! the class's cells as they were: it holds what it held -/
section XFRAME
variable {M M' : XM}
theorem OffAt.fr {o : Nat} (h : OffAt M o) (f : Fr 439 M M') (ho : o + 7 ≤ 439) : OffAt M' o := by
  obtain ⟨h1, h2, h3, h4, h5⟩ := h
  refine ⟨by rw [f.S (by omega)]; exact h1, h2, fun k q1 q2 => by rw [f.F (by omega)]; exact h3 k q1 q2, fun k q1 q2 => by rw [f.S (by omega)]; exact h4 k q1 q2, fun k q1 q2 => by rw [f.S (by omega)]; exact h5 k q1 q2⟩
theorem offOf_fr {o : Nat} (f : Fr 439 M M') (ho : o + 7 ≤ 439) : offOf M' o = offOf M o := by
  unfold offOf
  rw [f.I (show o < 439 by omega), f.I (show o + 1 < 439 by omega), f.I (show o + 2 < 439 by omega), f.I (show o + 3 < 439 by omega), f.I (show o + 4 < 439 by omega), f.I (show o + 5 < 439 by omega), f.I (show o + 6 < 439 by omega)]
theorem OffIs.fr {o : Nat} {F : XO} (h : OffIs M o F) (f : Fr 439 M M') (ho : o + 7 ≤ 439) : OffIs M' o F := ⟨h.1.fr f ho, by rw [offOf_fr f ho]; exact h.2⟩
theorem OffC.fr {o : Nat} (h : OffC M o) (f : Fr 439 M M') (ho : o + 7 ≤ 439) : OffC M' o := ⟨h.1.fr f ho, by rw [offOf_fr f ho]; exact h.2⟩
theorem LawSh.fr {w : Nat} (h : LawSh M w) (f : Fr 439 M M') (hw : w + 2 ≤ 439) : LawSh M' w := by
  obtain ⟨h1, h2, h3, h4⟩ := h
  exact ⟨by rw [f.S (by omega)]; exact h1, by rw [f.F (by omega)]; exact h2, by rw [f.S (by omega)]; exact h3, h4⟩
theorem TxtSh.fr {t : Nat} (h : TxtSh M t) (f : Fr 439 M M') (ht : t + 29 ≤ 439) : TxtSh M' t := by
  obtain ⟨⟨a1, a2, a3, a4, a5, a6, a7, a8, a9, a10, a11, a12, a13, a14, a15, a16⟩, h2, h3, h4⟩ := h
  have F := f.F (show t < 439 by omega)
  refine ⟨⟨a1, by rw [f.S (by omega)]; exact a2, by rw [F]; exact a3, by rw [F]; exact a4, by rw [F]; exact a5, by rw [F]; exact a6, by rw [F]; exact a7, by rw [F]; exact a8, by rw [F]; exact a9, by rw [f.S (by omega)]; exact a10, by rw [f.S (by omega)]; exact a11, by rw [f.S (by omega)]; exact a12, by rw [f.S (by omega)]; exact a13, by rw [f.S (by omega)]; exact a14, by rw [f.S (by omega)]; exact a15, by rw [f.S (by omega)]; exact a16⟩, fun l hl => ?_, fun l hl => ?_, fun k hk => ?_⟩
  · rw [f.F (by omega), f.S (by omega)]; exact h2 l hl
  · rw [f.F (by omega), f.S (by omega)]; exact h3 l hl
  · rw [f.F (by omega)]; exact ⟨(h4 k hk).1, (h4 k hk).2.fr f (by omega)⟩
theorem txtOf_fr {t : Nat} (f : Fr 439 M M') (ht : t + 29 ≤ 439) : txtOf M' t = txtOf M t := by
  unfold txtOf
  rw [f.I (show t < 439 by omega), f.I (show t + 16 < 439 by omega)]
  have e1 : (fun l => if l < 7 then xI M' (t + 2 + l) else fun _ => 0) = (fun l => if l < 7 then xI M (t + 2 + l) else fun _ => 0) := by
    funext l
    by_cases q : l < 7
    · rw [if_pos q, if_pos q, f.I (by omega)]
    · rw [if_neg q, if_neg q]
  have e2 : (fun a => if a < 6 then xI M' (t + 10 + a) else fun _ => 0) = (fun a => if a < 6 then xI M (t + 10 + a) else fun _ => 0) := by
    funext l
    by_cases q : l < 6
    · rw [if_pos q, if_pos q, f.I (by omega)]
    · rw [if_neg q, if_neg q]
  have e3 : (fun k => if k < 4 then lawv (Int32.toNatClampNeg (xI M' (t + 21 + 2 * k) 1)) (xI M' (t + 21 + 2 * k + 1)) else fun _ => 0) = (fun k => if k < 4 then lawv (Int32.toNatClampNeg (xI M (t + 21 + 2 * k) 1)) (xI M (t + 21 + 2 * k + 1)) else fun _ => 0) := by
    funext k
    by_cases q : k < 4
    · rw [if_pos q, if_pos q, f.I (show t + 21 + 2 * k < 439 by omega), f.I (show t + 21 + 2 * k + 1 < 439 by omega)]
    · rw [if_neg q, if_neg q]
  rw [e1, e2, e3]
theorem TxtAt.fr {t : Nat} {T : XT} (h : TxtAt M t T) (f : Fr 439 M M') (ht : t + 29 ≤ 439) : TxtAt M' t T := by
  obtain ⟨⟨h1, h2, h3, h4, h5, h6⟩, h7⟩ := h
  refine ⟨⟨h1.fr f ht, ?_, ?_, ?_, ?_, fun k hk => ?_⟩, by rw [txtOf_fr f ht]; exact h7⟩
  · rw [f.I (by omega)]; exact h2
  · rw [f.I (by omega)]; exact h3
  · rw [f.I (by omega)]; exact h4
  · rw [f.I (by omega)]; exact h5
  · obtain ⟨q1, q2, q3, q4, q5⟩ := h6 k hk
    rw [f.I (show t + 21 + 2 * k < 439 by omega), f.I (show t + 21 + 2 * k + 1 < 439 by omega)]
    exact ⟨q1.fr f (by omega), q2, by rw [f.I (by omega)]; exact q3, fun i hi => by rw [f.I (by omega)], q5⟩
theorem CSh.fr {t : Nat} (h : CSh M t) (f : Fr 439 M M') : CSh M' t := by
  obtain ⟨h1, h2, h3, h4, h5, h6, ⟨h7, h8, h9, h10⟩, h11⟩ := h
  refine ⟨?_, ?_, ?_, ⟨?_, fun i hi => ?_⟩, ⟨?_, ?_, ?_, fun i hi => ?_⟩, ?_, ⟨?_, fun i hi => ?_, fun i hi => ?_, fun i hi => ?_⟩, ?_⟩
  · simp (disch := omega) only [f.S, f.F]; exact h1
  · simp (disch := omega) only [f.S, f.F]; exact h2
  · simp (disch := omega) only [f.S, f.F]; exact h3
  · simp (disch := omega) only [f.S, f.F]; exact h4.1
  · simp (disch := omega) only [f.S, f.F]; exact h4.2 i hi
  · simp (disch := omega) only [f.S, f.F]; exact h5.1
  · simp (disch := omega) only [f.S, f.F]; exact h5.2.1
  · simp (disch := omega) only [f.S, f.F]; exact h5.2.2.1
  · simp (disch := omega) only [f.S, f.F]; exact h5.2.2.2 i hi
  · simp (disch := omega) only [f.S, f.F]; exact h6
  · simp (disch := omega) only [f.S, f.F]; exact h7
  · simp (disch := omega) only [f.S, f.F]; exact h8 i hi
  · simp (disch := omega) only [f.S, f.F]; exact h9 i hi
  · simp (disch := omega) only [f.S, f.F]; exact h10 i hi
  · simp (disch := omega) only [f.S, f.F]; exact h11
theorem CW.fr {t : Nat} {S : XS} (h : CW M t S) (f : Fr 439 M M') : CW M' t S := by
  have t2 := h.t2
  obtain ⟨h1, h2, h3, h4, h5, h6, h7, h8, h9, h10⟩ := h
  refine ⟨h1.fr f, h2.fr f (by omega), h3.fr f (by omega), h4.fr f (by omega), h5.fr f (by omega), ?_, ?_, ?_, ?_, ?_⟩
  · simp (disch := omega) only [f.I]; exact h6
  · simp (disch := omega) only [f.I]; exact h7
  · obtain ⟨q1, ⟨w, q2, q3, q4⟩, q5⟩ := h8
    refine ⟨by simp (disch := omega) only [f.I]; exact q1, ⟨w, q2, by simp (disch := omega) only [f.I]; exact q3, fun i hi => (q4 i hi).fr f (by omega)⟩, fun i hi => (q5 i hi).fr f (by omega)⟩
  · obtain ⟨q1, q2, q3⟩ := h9
    exact ⟨by simp (disch := omega) only [f.I]; exact q1, fun i hi G hG => (q2 i hi G hG).fr f (by omega), fun i hi => (q3 i hi).fr f (by omega)⟩
  · simp (disch := omega) only [f.I]; exact h10
end XFRAME
