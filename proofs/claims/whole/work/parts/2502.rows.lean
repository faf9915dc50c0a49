/-! the rows are looked at, 2 -/
set_option maxRecDepth 100000 in
theorem xk_30_0 : xe_30_0.all (fun q => xdecB xm_30 q.1 q.2 && xlkB 16 xm_30 q.1 q.2) = true := by decide +kernel
set_option maxRecDepth 100000 in
theorem xk_30_1 : xe_30_1.all (fun q => xdecB xm_30 q.1 q.2 && xlkB 16 xm_30 q.1 q.2) = true := by decide +kernel
set_option maxRecDepth 100000 in
theorem xk_30_2 : xe_30_2.all (fun q => xdecB xm_30 q.1 q.2 && xlkB 16 xm_30 q.1 q.2) = true := by decide +kernel
set_option maxRecDepth 100000 in
theorem xk_30_3 : xe_30_3.all (fun q => xdecB xm_30 q.1 q.2 && xlkB 16 xm_30 q.1 q.2) = true := by decide +kernel
set_option maxRecDepth 100000 in
theorem xk_30_4 : xe_30_4.all (fun q => xdecB xm_30 q.1 q.2 && xlkB 16 xm_30 q.1 q.2) = true := by decide +kernel
set_option maxRecDepth 100000 in
theorem xk_30_5 : xe_30_5.all (fun q => xdecB xm_30 q.1 q.2 && xlkB 16 xm_30 q.1 q.2) = true := by decide +kernel
set_option maxRecDepth 100000 in
theorem xk_30_6 : xe_30_6.all (fun q => xdecB xm_30 q.1 q.2 && xlkB 16 xm_30 q.1 q.2) = true := by decide +kernel
set_option maxRecDepth 100000 in
theorem xk_30_7 : xe_30_7.all (fun q => xdecB xm_30 q.1 q.2 && xlkB 16 xm_30 q.1 q.2) = true := by decide +kernel
set_option maxRecDepth 100000 in
theorem xk_30_8 : xe_30_8.all (fun q => xdecB xm_30 q.1 q.2 && xlkB 16 xm_30 q.1 q.2) = true := by decide +kernel
set_option maxRecDepth 100000 in
theorem xk_30_9 : xe_30_9.all (fun q => xdecB xm_30 q.1 q.2 && xlkB 16 xm_30 q.1 q.2) = true := by decide +kernel
set_option maxRecDepth 100000 in
theorem xk_30_10 : xe_30_10.all (fun q => xdecB xm_30 q.1 q.2 && xlkB 16 xm_30 q.1 q.2) = true := by decide +kernel
set_option maxRecDepth 100000 in
theorem xk_30_11 : xe_30_11.all (fun q => xdecB xm_30 q.1 q.2 && xlkB 16 xm_30 q.1 q.2) = true := by decide +kernel
theorem xg_30 (pc : Nat) (e : XI) : xc_30 pc = some e → xDec xm_30 pc e ∧ xLk xprog xcl xfty xTs xSL xTL xNW xm_30 pc e := fun h => xif_ok (fun h => xif_ok (fun h => xif_ok (fun h => xfind_ok (o := 16) (g := xm_30) rfl xk_30_0 h) (fun h => xif_ok (fun h => xfind_ok (o := 16) (g := xm_30) rfl xk_30_1 h) (fun h => xfind_ok (o := 16) (g := xm_30) rfl xk_30_2 h) h) h) (fun h => xif_ok (fun h => xfind_ok (o := 16) (g := xm_30) rfl xk_30_3 h) (fun h => xif_ok (fun h => xfind_ok (o := 16) (g := xm_30) rfl xk_30_4 h) (fun h => xfind_ok (o := 16) (g := xm_30) rfl xk_30_5 h) h) h) h) (fun h => xif_ok (fun h => xif_ok (fun h => xfind_ok (o := 16) (g := xm_30) rfl xk_30_6 h) (fun h => xif_ok (fun h => xfind_ok (o := 16) (g := xm_30) rfl xk_30_7 h) (fun h => xfind_ok (o := 16) (g := xm_30) rfl xk_30_8 h) h) h) (fun h => xif_ok (fun h => xfind_ok (o := 16) (g := xm_30) rfl xk_30_9 h) (fun h => xif_ok (fun h => xfind_ok (o := 16) (g := xm_30) rfl xk_30_10 h) (fun h => xfind_ok (o := 16) (g := xm_30) rfl xk_30_11 h) h) h) h) h
