/-! the rows are looked at, 0 -/
set_option maxRecDepth 100000 in
theorem xk_0_0 : xe_0_0.all (fun q => xdecB xm_0 q.1 q.2 && xlkB 0 xm_0 q.1 q.2) = true := by decide +kernel
theorem xg_0 (pc : Nat) (e : XI) : xc_0 pc = some e → xDec xm_0 pc e ∧ xLk xprog xcl xfty xTs xSL xTL xNW xm_0 pc e := fun h => xfind_ok (o := 0) (g := xm_0) rfl xk_0_0 h
set_option maxRecDepth 100000 in
theorem xk_1_0 : xe_1_0.all (fun q => xdecB xm_1 q.1 q.2 && xlkB 1 xm_1 q.1 q.2) = true := by decide +kernel
theorem xg_1 (pc : Nat) (e : XI) : xc_1 pc = some e → xDec xm_1 pc e ∧ xLk xprog xcl xfty xTs xSL xTL xNW xm_1 pc e := fun h => xfind_ok (o := 1) (g := xm_1) rfl xk_1_0 h
set_option maxRecDepth 100000 in
theorem xk_2_0 : xe_2_0.all (fun q => xdecB xm_2 q.1 q.2 && xlkB 2 xm_2 q.1 q.2) = true := by decide +kernel
theorem xg_2 (pc : Nat) (e : XI) : xc_2 pc = some e → xDec xm_2 pc e ∧ xLk xprog xcl xfty xTs xSL xTL xNW xm_2 pc e := fun h => xfind_ok (o := 2) (g := xm_2) rfl xk_2_0 h
set_option maxRecDepth 100000 in
theorem xk_3_0 : xe_3_0.all (fun q => xdecB xm_3 q.1 q.2 && xlkB 2 xm_3 q.1 q.2) = true := by decide +kernel
theorem xg_3 (pc : Nat) (e : XI) : xc_3 pc = some e → xDec xm_3 pc e ∧ xLk xprog xcl xfty xTs xSL xTL xNW xm_3 pc e := fun h => xfind_ok (o := 2) (g := xm_3) rfl xk_3_0 h
set_option maxRecDepth 100000 in
theorem xk_4_0 : xe_4_0.all (fun q => xdecB xm_4 q.1 q.2 && xlkB 2 xm_4 q.1 q.2) = true := by decide +kernel
theorem xg_4 (pc : Nat) (e : XI) : xc_4 pc = some e → xDec xm_4 pc e ∧ xLk xprog xcl xfty xTs xSL xTL xNW xm_4 pc e := fun h => xfind_ok (o := 2) (g := xm_4) rfl xk_4_0 h
set_option maxRecDepth 100000 in
theorem xk_5_0 : xe_5_0.all (fun q => xdecB xm_5 q.1 q.2 && xlkB 3 xm_5 q.1 q.2) = true := by decide +kernel
theorem xg_5 (pc : Nat) (e : XI) : xc_5 pc = some e → xDec xm_5 pc e ∧ xLk xprog xcl xfty xTs xSL xTL xNW xm_5 pc e := fun h => xfind_ok (o := 3) (g := xm_5) rfl xk_5_0 h
set_option maxRecDepth 100000 in
theorem xk_6_0 : xe_6_0.all (fun q => xdecB xm_6 q.1 q.2 && xlkB 2 xm_6 q.1 q.2) = true := by decide +kernel
theorem xg_6 (pc : Nat) (e : XI) : xc_6 pc = some e → xDec xm_6 pc e ∧ xLk xprog xcl xfty xTs xSL xTL xNW xm_6 pc e := fun h => xfind_ok (o := 2) (g := xm_6) rfl xk_6_0 h
set_option maxRecDepth 100000 in
theorem xk_7_0 : xe_7_0.all (fun q => xdecB xm_7 q.1 q.2 && xlkB 4 xm_7 q.1 q.2) = true := by decide +kernel
theorem xg_7 (pc : Nat) (e : XI) : xc_7 pc = some e → xDec xm_7 pc e ∧ xLk xprog xcl xfty xTs xSL xTL xNW xm_7 pc e := fun h => xfind_ok (o := 4) (g := xm_7) rfl xk_7_0 h
set_option maxRecDepth 100000 in
theorem xk_8_0 : xe_8_0.all (fun q => xdecB xm_8 q.1 q.2 && xlkB 2 xm_8 q.1 q.2) = true := by decide +kernel
theorem xg_8 (pc : Nat) (e : XI) : xc_8 pc = some e → xDec xm_8 pc e ∧ xLk xprog xcl xfty xTs xSL xTL xNW xm_8 pc e := fun h => xfind_ok (o := 2) (g := xm_8) rfl xk_8_0 h
set_option maxRecDepth 100000 in
theorem xk_9_0 : xe_9_0.all (fun q => xdecB xm_9 q.1 q.2 && xlkB 5 xm_9 q.1 q.2) = true := by decide +kernel
theorem xg_9 (pc : Nat) (e : XI) : xc_9 pc = some e → xDec xm_9 pc e ∧ xLk xprog xcl xfty xTs xSL xTL xNW xm_9 pc e := fun h => xfind_ok (o := 5) (g := xm_9) rfl xk_9_0 h
set_option maxRecDepth 100000 in
theorem xk_10_0 : xe_10_0.all (fun q => xdecB xm_10 q.1 q.2 && xlkB 5 xm_10 q.1 q.2) = true := by decide +kernel
theorem xg_10 (pc : Nat) (e : XI) : xc_10 pc = some e → xDec xm_10 pc e ∧ xLk xprog xcl xfty xTs xSL xTL xNW xm_10 pc e := fun h => xfind_ok (o := 5) (g := xm_10) rfl xk_10_0 h
set_option maxRecDepth 100000 in
theorem xk_11_0 : xe_11_0.all (fun q => xdecB xm_11 q.1 q.2 && xlkB 5 xm_11 q.1 q.2) = true := by decide +kernel
theorem xg_11 (pc : Nat) (e : XI) : xc_11 pc = some e → xDec xm_11 pc e ∧ xLk xprog xcl xfty xTs xSL xTL xNW xm_11 pc e := fun h => xfind_ok (o := 5) (g := xm_11) rfl xk_11_0 h
set_option maxRecDepth 100000 in
theorem xk_12_0 : xe_12_0.all (fun q => xdecB xm_12 q.1 q.2 && xlkB 6 xm_12 q.1 q.2) = true := by decide +kernel
theorem xg_12 (pc : Nat) (e : XI) : xc_12 pc = some e → xDec xm_12 pc e ∧ xLk xprog xcl xfty xTs xSL xTL xNW xm_12 pc e := fun h => xfind_ok (o := 6) (g := xm_12) rfl xk_12_0 h
set_option maxRecDepth 100000 in
theorem xk_13_0 : xe_13_0.all (fun q => xdecB xm_13 q.1 q.2 && xlkB 7 xm_13 q.1 q.2) = true := by decide +kernel
theorem xg_13 (pc : Nat) (e : XI) : xc_13 pc = some e → xDec xm_13 pc e ∧ xLk xprog xcl xfty xTs xSL xTL xNW xm_13 pc e := fun h => xfind_ok (o := 7) (g := xm_13) rfl xk_13_0 h
set_option maxRecDepth 100000 in
theorem xk_14_0 : xe_14_0.all (fun q => xdecB xm_14 q.1 q.2 && xlkB 8 xm_14 q.1 q.2) = true := by decide +kernel
theorem xg_14 (pc : Nat) (e : XI) : xc_14 pc = some e → xDec xm_14 pc e ∧ xLk xprog xcl xfty xTs xSL xTL xNW xm_14 pc e := fun h => xfind_ok (o := 8) (g := xm_14) rfl xk_14_0 h
set_option maxRecDepth 100000 in
theorem xk_15_0 : xe_15_0.all (fun q => xdecB xm_15 q.1 q.2 && xlkB 9 xm_15 q.1 q.2) = true := by decide +kernel
set_option maxRecDepth 100000 in
theorem xk_15_1 : xe_15_1.all (fun q => xdecB xm_15 q.1 q.2 && xlkB 9 xm_15 q.1 q.2) = true := by decide +kernel
theorem xg_15 (pc : Nat) (e : XI) : xc_15 pc = some e → xDec xm_15 pc e ∧ xLk xprog xcl xfty xTs xSL xTL xNW xm_15 pc e := fun h => xif_ok (fun h => xfind_ok (o := 9) (g := xm_15) rfl xk_15_0 h) (fun h => xfind_ok (o := 9) (g := xm_15) rfl xk_15_1 h) h
set_option maxRecDepth 100000 in
theorem xk_16_0 : xe_16_0.all (fun q => xdecB xm_16 q.1 q.2 && xlkB 10 xm_16 q.1 q.2) = true := by decide +kernel
theorem xg_16 (pc : Nat) (e : XI) : xc_16 pc = some e → xDec xm_16 pc e ∧ xLk xprog xcl xfty xTs xSL xTL xNW xm_16 pc e := fun h => xfind_ok (o := 10) (g := xm_16) rfl xk_16_0 h
set_option maxRecDepth 100000 in
theorem xk_17_0 : xe_17_0.all (fun q => xdecB xm_17 q.1 q.2 && xlkB 11 xm_17 q.1 q.2) = true := by decide +kernel
theorem xg_17 (pc : Nat) (e : XI) : xc_17 pc = some e → xDec xm_17 pc e ∧ xLk xprog xcl xfty xTs xSL xTL xNW xm_17 pc e := fun h => xfind_ok (o := 11) (g := xm_17) rfl xk_17_0 h
set_option maxRecDepth 100000 in
theorem xk_18_0 : xe_18_0.all (fun q => xdecB xm_18 q.1 q.2 && xlkB 12 xm_18 q.1 q.2) = true := by decide +kernel
theorem xg_18 (pc : Nat) (e : XI) : xc_18 pc = some e → xDec xm_18 pc e ∧ xLk xprog xcl xfty xTs xSL xTL xNW xm_18 pc e := fun h => xfind_ok (o := 12) (g := xm_18) rfl xk_18_0 h
set_option maxRecDepth 100000 in
theorem xk_19_0 : xe_19_0.all (fun q => xdecB xm_19 q.1 q.2 && xlkB 13 xm_19 q.1 q.2) = true := by decide +kernel
theorem xg_19 (pc : Nat) (e : XI) : xc_19 pc = some e → xDec xm_19 pc e ∧ xLk xprog xcl xfty xTs xSL xTL xNW xm_19 pc e := fun h => xfind_ok (o := 13) (g := xm_19) rfl xk_19_0 h
set_option maxRecDepth 100000 in
theorem xk_20_0 : xe_20_0.all (fun q => xdecB xm_20 q.1 q.2 && xlkB 14 xm_20 q.1 q.2) = true := by decide +kernel
theorem xg_20 (pc : Nat) (e : XI) : xc_20 pc = some e → xDec xm_20 pc e ∧ xLk xprog xcl xfty xTs xSL xTL xNW xm_20 pc e := fun h => xfind_ok (o := 14) (g := xm_20) rfl xk_20_0 h
set_option maxRecDepth 100000 in
theorem xk_21_0 : xe_21_0.all (fun q => xdecB xm_21 q.1 q.2 && xlkB 6 xm_21 q.1 q.2) = true := by decide +kernel
theorem xg_21 (pc : Nat) (e : XI) : xc_21 pc = some e → xDec xm_21 pc e ∧ xLk xprog xcl xfty xTs xSL xTL xNW xm_21 pc e := fun h => xfind_ok (o := 6) (g := xm_21) rfl xk_21_0 h
set_option maxRecDepth 100000 in
theorem xk_22_0 : xe_22_0.all (fun q => xdecB xm_22 q.1 q.2 && xlkB 9 xm_22 q.1 q.2) = true := by decide +kernel
set_option maxRecDepth 100000 in
theorem xk_22_1 : xe_22_1.all (fun q => xdecB xm_22 q.1 q.2 && xlkB 9 xm_22 q.1 q.2) = true := by decide +kernel
theorem xg_22 (pc : Nat) (e : XI) : xc_22 pc = some e → xDec xm_22 pc e ∧ xLk xprog xcl xfty xTs xSL xTL xNW xm_22 pc e := fun h => xif_ok (fun h => xfind_ok (o := 9) (g := xm_22) rfl xk_22_0 h) (fun h => xfind_ok (o := 9) (g := xm_22) rfl xk_22_1 h) h
set_option maxRecDepth 100000 in
theorem xk_23_0 : xe_23_0.all (fun q => xdecB xm_23 q.1 q.2 && xlkB 10 xm_23 q.1 q.2) = true := by decide +kernel
set_option maxRecDepth 100000 in
theorem xk_23_1 : xe_23_1.all (fun q => xdecB xm_23 q.1 q.2 && xlkB 10 xm_23 q.1 q.2) = true := by decide +kernel
theorem xg_23 (pc : Nat) (e : XI) : xc_23 pc = some e → xDec xm_23 pc e ∧ xLk xprog xcl xfty xTs xSL xTL xNW xm_23 pc e := fun h => xif_ok (fun h => xfind_ok (o := 10) (g := xm_23) rfl xk_23_0 h) (fun h => xfind_ok (o := 10) (g := xm_23) rfl xk_23_1 h) h
set_option maxRecDepth 100000 in
theorem xk_24_0 : xe_24_0.all (fun q => xdecB xm_24 q.1 q.2 && xlkB 15 xm_24 q.1 q.2) = true := by decide +kernel
set_option maxRecDepth 100000 in
theorem xk_24_1 : xe_24_1.all (fun q => xdecB xm_24 q.1 q.2 && xlkB 15 xm_24 q.1 q.2) = true := by decide +kernel
set_option maxRecDepth 100000 in
theorem xk_24_2 : xe_24_2.all (fun q => xdecB xm_24 q.1 q.2 && xlkB 15 xm_24 q.1 q.2) = true := by decide +kernel
theorem xg_24 (pc : Nat) (e : XI) : xc_24 pc = some e → xDec xm_24 pc e ∧ xLk xprog xcl xfty xTs xSL xTL xNW xm_24 pc e := fun h => xif_ok (fun h => xfind_ok (o := 15) (g := xm_24) rfl xk_24_0 h) (fun h => xif_ok (fun h => xfind_ok (o := 15) (g := xm_24) rfl xk_24_1 h) (fun h => xfind_ok (o := 15) (g := xm_24) rfl xk_24_2 h) h) h
