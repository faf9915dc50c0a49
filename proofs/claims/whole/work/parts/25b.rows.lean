/-! the rows are looked at, 1 -/
set_option maxRecDepth 100000 in
theorem xk_30_0 : xe_30_0.all (fun q => xdecB xm_30 q.1 q.2 && xlkB 16 xm_30 q.1 q.2) = true := by decide +kernel
set_option maxRecDepth 100000 in
theorem xk_30_1 : xe_30_1.all (fun q => xdecB xm_30 q.1 q.2 && xlkB 16 xm_30 q.1 q.2) = true := by decide +kernel
set_option maxRecDepth 100000 in
theorem xk_30_2 : xe_30_2.all (fun q => xdecB xm_30 q.1 q.2 && xlkB 16 xm_30 q.1 q.2) = true := by decide +kernel
set_option maxRecDepth 100000 in
theorem xk_30_3 : xe_30_3.all (fun q => xdecB xm_30 q.1 q.2 && xlkB 16 xm_30 q.1 q.2) = true := by decide +kernel
set_option maxRecDepth 100000 in
theorem xk_30_4 : xe_30_4.all (fun q => xdecB xm_30 q.1 q.2 && xlkB 16 xm_30 q.1 q.2) = true := by decide +kernel
set_option maxRecDepth 100000 in
theorem xk_30_5 : xe_30_5.all (fun q => xdecB xm_30 q.1 q.2 && xlkB 16 xm_30 q.1 q.2) = true := by decide +kernel
set_option maxRecDepth 100000 in
theorem xk_30_6 : xe_30_6.all (fun q => xdecB xm_30 q.1 q.2 && xlkB 16 xm_30 q.1 q.2) = true := by decide +kernel
set_option maxRecDepth 100000 in
theorem xk_30_7 : xe_30_7.all (fun q => xdecB xm_30 q.1 q.2 && xlkB 16 xm_30 q.1 q.2) = true := by decide +kernel
set_option maxRecDepth 100000 in
theorem xk_30_8 : xe_30_8.all (fun q => xdecB xm_30 q.1 q.2 && xlkB 16 xm_30 q.1 q.2) = true := by decide +kernel
set_option maxRecDepth 100000 in
theorem xk_30_9 : xe_30_9.all (fun q => xdecB xm_30 q.1 q.2 && xlkB 16 xm_30 q.1 q.2) = true := by decide +kernel
set_option maxRecDepth 100000 in
theorem xk_30_10 : xe_30_10.all (fun q => xdecB xm_30 q.1 q.2 && xlkB 16 xm_30 q.1 q.2) = true := by decide +kernel
set_option maxRecDepth 100000 in
theorem xk_30_11 : xe_30_11.all (fun q => xdecB xm_30 q.1 q.2 && xlkB 16 xm_30 q.1 q.2) = true := by decide +kernel
theorem xg_30 (pc : Nat) (e : XI) : xc_30 pc = some e → xDec xm_30 pc e ∧ xLk xprog xcl xfty xTs xSL xTL xNW xm_30 pc e := fun h => xif_ok (fun h => xif_ok (fun h => xif_ok (fun h => xfind_ok (o := 16) (g := xm_30) rfl xk_30_0 h) (fun h => xif_ok (fun h => xfind_ok (o := 16) (g := xm_30) rfl xk_30_1 h) (fun h => xfind_ok (o := 16) (g := xm_30) rfl xk_30_2 h) h) h) (fun h => xif_ok (fun h => xfind_ok (o := 16) (g := xm_30) rfl xk_30_3 h) (fun h => xif_ok (fun h => xfind_ok (o := 16) (g := xm_30) rfl xk_30_4 h) (fun h => xfind_ok (o := 16) (g := xm_30) rfl xk_30_5 h) h) h) h) (fun h => xif_ok (fun h => xif_ok (fun h => xfind_ok (o := 16) (g := xm_30) rfl xk_30_6 h) (fun h => xif_ok (fun h => xfind_ok (o := 16) (g := xm_30) rfl xk_30_7 h) (fun h => xfind_ok (o := 16) (g := xm_30) rfl xk_30_8 h) h) h) (fun h => xif_ok (fun h => xfind_ok (o := 16) (g := xm_30) rfl xk_30_9 h) (fun h => xif_ok (fun h => xfind_ok (o := 16) (g := xm_30) rfl xk_30_10 h) (fun h => xfind_ok (o := 16) (g := xm_30) rfl xk_30_11 h) h) h) h) h
set_option maxRecDepth 100000 in
theorem xk_31_0 : xe_31_0.all (fun q => xdecB xm_31 q.1 q.2 && xlkB 1 xm_31 q.1 q.2) = true := by decide +kernel
theorem xg_31 (pc : Nat) (e : XI) : xc_31 pc = some e → xDec xm_31 pc e ∧ xLk xprog xcl xfty xTs xSL xTL xNW xm_31 pc e := fun h => xfind_ok (o := 1) (g := xm_31) rfl xk_31_0 h
set_option maxRecDepth 100000 in
theorem xk_32_0 : xe_32_0.all (fun q => xdecB xm_32 q.1 q.2 && xlkB 1 xm_32 q.1 q.2) = true := by decide +kernel
theorem xg_32 (pc : Nat) (e : XI) : xc_32 pc = some e → xDec xm_32 pc e ∧ xLk xprog xcl xfty xTs xSL xTL xNW xm_32 pc e := fun h => xfind_ok (o := 1) (g := xm_32) rfl xk_32_0 h
set_option maxRecDepth 100000 in
theorem xk_33_0 : xe_33_0.all (fun q => xdecB xm_33 q.1 q.2 && xlkB 15 xm_33 q.1 q.2) = true := by decide +kernel
theorem xg_33 (pc : Nat) (e : XI) : xc_33 pc = some e → xDec xm_33 pc e ∧ xLk xprog xcl xfty xTs xSL xTL xNW xm_33 pc e := fun h => xfind_ok (o := 15) (g := xm_33) rfl xk_33_0 h
set_option maxRecDepth 100000 in
theorem xk_34_0 : xe_34_0.all (fun q => xdecB xm_34 q.1 q.2 && xlkB 16 xm_34 q.1 q.2) = true := by decide +kernel
theorem xg_34 (pc : Nat) (e : XI) : xc_34 pc = some e → xDec xm_34 pc e ∧ xLk xprog xcl xfty xTs xSL xTL xNW xm_34 pc e := fun h => xfind_ok (o := 16) (g := xm_34) rfl xk_34_0 h
set_option maxRecDepth 100000 in
theorem xk_35_0 : xe_35_0.all (fun q => xdecB xm_35 q.1 q.2 && xlkB 16 xm_35 q.1 q.2) = true := by decide +kernel
theorem xg_35 (pc : Nat) (e : XI) : xc_35 pc = some e → xDec xm_35 pc e ∧ xLk xprog xcl xfty xTs xSL xTL xNW xm_35 pc e := fun h => xfind_ok (o := 16) (g := xm_35) rfl xk_35_0 h
set_option maxRecDepth 100000 in
theorem xk_36_0 : xe_36_0.all (fun q => xdecB xm_36 q.1 q.2 && xlkB 15 xm_36 q.1 q.2) = true := by decide +kernel
theorem xg_36 (pc : Nat) (e : XI) : xc_36 pc = some e → xDec xm_36 pc e ∧ xLk xprog xcl xfty xTs xSL xTL xNW xm_36 pc e := fun h => xfind_ok (o := 15) (g := xm_36) rfl xk_36_0 h
set_option maxRecDepth 100000 in
theorem xk_37_0 : xe_37_0.all (fun q => xdecB xm_37 q.1 q.2 && xlkB 16 xm_37 q.1 q.2) = true := by decide +kernel
theorem xg_37 (pc : Nat) (e : XI) : xc_37 pc = some e → xDec xm_37 pc e ∧ xLk xprog xcl xfty xTs xSL xTL xNW xm_37 pc e := fun h => xfind_ok (o := 16) (g := xm_37) rfl xk_37_0 h
set_option maxRecDepth 100000 in
theorem xk_38_0 : xe_38_0.all (fun q => xdecB xm_38 q.1 q.2 && xlkB 5 xm_38 q.1 q.2) = true := by decide +kernel
theorem xg_38 (pc : Nat) (e : XI) : xc_38 pc = some e → xDec xm_38 pc e ∧ xLk xprog xcl xfty xTs xSL xTL xNW xm_38 pc e := fun h => xfind_ok (o := 5) (g := xm_38) rfl xk_38_0 h
set_option maxRecDepth 100000 in
theorem xk_39_0 : xe_39_0.all (fun q => xdecB xm_39 q.1 q.2 && xlkB 8 xm_39 q.1 q.2) = true := by decide +kernel
theorem xg_39 (pc : Nat) (e : XI) : xc_39 pc = some e → xDec xm_39 pc e ∧ xLk xprog xcl xfty xTs xSL xTL xNW xm_39 pc e := fun h => xfind_ok (o := 8) (g := xm_39) rfl xk_39_0 h
set_option maxRecDepth 100000 in
theorem xk_40_0 : xe_40_0.all (fun q => xdecB xm_40 q.1 q.2 && xlkB 1 xm_40 q.1 q.2) = true := by decide +kernel
theorem xg_40 (pc : Nat) (e : XI) : xc_40 pc = some e → xDec xm_40 pc e ∧ xLk xprog xcl xfty xTs xSL xTL xNW xm_40 pc e := fun h => xfind_ok (o := 1) (g := xm_40) rfl xk_40_0 h
set_option maxRecDepth 100000 in
theorem xk_41_0 : xe_41_0.all (fun q => xdecB xm_41 q.1 q.2 && xlkB 5 xm_41 q.1 q.2) = true := by decide +kernel
theorem xg_41 (pc : Nat) (e : XI) : xc_41 pc = some e → xDec xm_41 pc e ∧ xLk xprog xcl xfty xTs xSL xTL xNW xm_41 pc e := fun h => xfind_ok (o := 5) (g := xm_41) rfl xk_41_0 h
set_option maxRecDepth 100000 in
theorem xk_42_0 : xe_42_0.all (fun q => xdecB xm_42 q.1 q.2 && xlkB 5 xm_42 q.1 q.2) = true := by decide +kernel
theorem xg_42 (pc : Nat) (e : XI) : xc_42 pc = some e → xDec xm_42 pc e ∧ xLk xprog xcl xfty xTs xSL xTL xNW xm_42 pc e := fun h => xfind_ok (o := 5) (g := xm_42) rfl xk_42_0 h
set_option maxRecDepth 100000 in
theorem xk_43_0 : xe_43_0.all (fun q => xdecB xm_43 q.1 q.2 && xlkB 5 xm_43 q.1 q.2) = true := by decide +kernel
theorem xg_43 (pc : Nat) (e : XI) : xc_43 pc = some e → xDec xm_43 pc e ∧ xLk xprog xcl xfty xTs xSL xTL xNW xm_43 pc e := fun h => xfind_ok (o := 5) (g := xm_43) rfl xk_43_0 h
set_option maxRecDepth 100000 in
theorem xk_44_0 : xe_44_0.all (fun q => xdecB xm_44 q.1 q.2 && xlkB 5 xm_44 q.1 q.2) = true := by decide +kernel
theorem xg_44 (pc : Nat) (e : XI) : xc_44 pc = some e → xDec xm_44 pc e ∧ xLk xprog xcl xfty xTs xSL xTL xNW xm_44 pc e := fun h => xfind_ok (o := 5) (g := xm_44) rfl xk_44_0 h
