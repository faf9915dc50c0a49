/-! the rows are looked at, 22 -/
set_option maxRecDepth 100000 in
theorem xk_293_0 : xe_293_0.all (fun q => xdecB xm_293 q.1 q.2 && xlkB 19 xm_293 q.1 q.2) = true := by decide +kernel
set_option maxRecDepth 100000 in
theorem xk_293_1 : xe_293_1.all (fun q => xdecB xm_293 q.1 q.2 && xlkB 19 xm_293 q.1 q.2) = true := by decide +kernel
set_option maxRecDepth 100000 in
theorem xk_293_2 : xe_293_2.all (fun q => xdecB xm_293 q.1 q.2 && xlkB 19 xm_293 q.1 q.2) = true := by decide +kernel
set_option maxRecDepth 100000 in
theorem xk_293_3 : xe_293_3.all (fun q => xdecB xm_293 q.1 q.2 && xlkB 19 xm_293 q.1 q.2) = true := by decide +kernel
set_option maxRecDepth 100000 in
theorem xk_293_4 : xe_293_4.all (fun q => xdecB xm_293 q.1 q.2 && xlkB 19 xm_293 q.1 q.2) = true := by decide +kernel
set_option maxRecDepth 100000 in
theorem xk_293_5 : xe_293_5.all (fun q => xdecB xm_293 q.1 q.2 && xlkB 19 xm_293 q.1 q.2) = true := by decide +kernel
set_option maxRecDepth 100000 in
theorem xk_293_6 : xe_293_6.all (fun q => xdecB xm_293 q.1 q.2 && xlkB 19 xm_293 q.1 q.2) = true := by decide +kernel
set_option maxRecDepth 100000 in
theorem xk_293_7 : xe_293_7.all (fun q => xdecB xm_293 q.1 q.2 && xlkB 19 xm_293 q.1 q.2) = true := by decide +kernel
set_option maxRecDepth 100000 in
theorem xk_293_8 : xe_293_8.all (fun q => xdecB xm_293 q.1 q.2 && xlkB 19 xm_293 q.1 q.2) = true := by decide +kernel
set_option maxRecDepth 100000 in
theorem xk_293_9 : xe_293_9.all (fun q => xdecB xm_293 q.1 q.2 && xlkB 19 xm_293 q.1 q.2) = true := by decide +kernel
set_option maxRecDepth 100000 in
theorem xk_293_10 : xe_293_10.all (fun q => xdecB xm_293 q.1 q.2 && xlkB 19 xm_293 q.1 q.2) = true := by decide +kernel
set_option maxRecDepth 100000 in
theorem xk_293_11 : xe_293_11.all (fun q => xdecB xm_293 q.1 q.2 && xlkB 19 xm_293 q.1 q.2) = true := by decide +kernel
set_option maxRecDepth 100000 in
theorem xk_293_12 : xe_293_12.all (fun q => xdecB xm_293 q.1 q.2 && xlkB 19 xm_293 q.1 q.2) = true := by decide +kernel
set_option maxRecDepth 100000 in
theorem xk_293_13 : xe_293_13.all (fun q => xdecB xm_293 q.1 q.2 && xlkB 19 xm_293 q.1 q.2) = true := by decide +kernel
set_option maxRecDepth 100000 in
theorem xk_293_14 : xe_293_14.all (fun q => xdecB xm_293 q.1 q.2 && xlkB 19 xm_293 q.1 q.2) = true := by decide +kernel
set_option maxRecDepth 100000 in
theorem xk_293_15 : xe_293_15.all (fun q => xdecB xm_293 q.1 q.2 && xlkB 19 xm_293 q.1 q.2) = true := by decide +kernel
set_option maxRecDepth 100000 in
theorem xk_293_16 : xe_293_16.all (fun q => xdecB xm_293 q.1 q.2 && xlkB 19 xm_293 q.1 q.2) = true := by decide +kernel
set_option maxRecDepth 100000 in
theorem xk_293_17 : xe_293_17.all (fun q => xdecB xm_293 q.1 q.2 && xlkB 19 xm_293 q.1 q.2) = true := by decide +kernel
set_option maxRecDepth 100000 in
theorem xk_293_18 : xe_293_18.all (fun q => xdecB xm_293 q.1 q.2 && xlkB 19 xm_293 q.1 q.2) = true := by decide +kernel
set_option maxRecDepth 100000 in
theorem xk_293_19 : xe_293_19.all (fun q => xdecB xm_293 q.1 q.2 && xlkB 19 xm_293 q.1 q.2) = true := by decide +kernel
set_option maxRecDepth 100000 in
theorem xk_293_20 : xe_293_20.all (fun q => xdecB xm_293 q.1 q.2 && xlkB 19 xm_293 q.1 q.2) = true := by decide +kernel
set_option maxRecDepth 100000 in
theorem xk_293_21 : xe_293_21.all (fun q => xdecB xm_293 q.1 q.2 && xlkB 19 xm_293 q.1 q.2) = true := by decide +kernel
theorem xg_293 (pc : Nat) (e : XI) : xc_293 pc = some e → xDec xm_293 pc e ∧ xLk xprog xcl xfty xTs xSL xTL xNW xm_293 pc e := fun h => xif_ok (fun h => xif_ok (fun h => xif_ok (fun h => xif_ok (fun h => xfind_ok (o := 19) (g := xm_293) rfl xk_293_0 h) (fun h => xfind_ok (o := 19) (g := xm_293) rfl xk_293_1 h) h) (fun h => xif_ok (fun h => xfind_ok (o := 19) (g := xm_293) rfl xk_293_2 h) (fun h => xif_ok (fun h => xfind_ok (o := 19) (g := xm_293) rfl xk_293_3 h) (fun h => xfind_ok (o := 19) (g := xm_293) rfl xk_293_4 h) h) h) h) (fun h => xif_ok (fun h => xif_ok (fun h => xfind_ok (o := 19) (g := xm_293) rfl xk_293_5 h) (fun h => xif_ok (fun h => xfind_ok (o := 19) (g := xm_293) rfl xk_293_6 h) (fun h => xfind_ok (o := 19) (g := xm_293) rfl xk_293_7 h) h) h) (fun h => xif_ok (fun h => xfind_ok (o := 19) (g := xm_293) rfl xk_293_8 h) (fun h => xif_ok (fun h => xfind_ok (o := 19) (g := xm_293) rfl xk_293_9 h) (fun h => xfind_ok (o := 19) (g := xm_293) rfl xk_293_10 h) h) h) h) h) (fun h => xif_ok (fun h => xif_ok (fun h => xif_ok (fun h => xfind_ok (o := 19) (g := xm_293) rfl xk_293_11 h) (fun h => xfind_ok (o := 19) (g := xm_293) rfl xk_293_12 h) h) (fun h => xif_ok (fun h => xfind_ok (o := 19) (g := xm_293) rfl xk_293_13 h) (fun h => xif_ok (fun h => xfind_ok (o := 19) (g := xm_293) rfl xk_293_14 h) (fun h => xfind_ok (o := 19) (g := xm_293) rfl xk_293_15 h) h) h) h) (fun h => xif_ok (fun h => xif_ok (fun h => xfind_ok (o := 19) (g := xm_293) rfl xk_293_16 h) (fun h => xif_ok (fun h => xfind_ok (o := 19) (g := xm_293) rfl xk_293_17 h) (fun h => xfind_ok (o := 19) (g := xm_293) rfl xk_293_18 h) h) h) (fun h => xif_ok (fun h => xfind_ok (o := 19) (g := xm_293) rfl xk_293_19 h) (fun h => xif_ok (fun h => xfind_ok (o := 19) (g := xm_293) rfl xk_293_20 h) (fun h => xfind_ok (o := 19) (g := xm_293) rfl xk_293_21 h) h) h) h) h) h
