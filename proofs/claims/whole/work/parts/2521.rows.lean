/-! the rows are looked at, 21 -/
set_option maxRecDepth 100000 in
theorem xk_291_0 : xe_291_0.all (fun q => xdecB xm_291 q.1 q.2 && xlkB 15 xm_291 q.1 q.2) = true := by decide +kernel
set_option maxRecDepth 100000 in
theorem xk_291_1 : xe_291_1.all (fun q => xdecB xm_291 q.1 q.2 && xlkB 15 xm_291 q.1 q.2) = true := by decide +kernel
set_option maxRecDepth 100000 in
theorem xk_291_2 : xe_291_2.all (fun q => xdecB xm_291 q.1 q.2 && xlkB 15 xm_291 q.1 q.2) = true := by decide +kernel
theorem xg_291 (pc : Nat) (e : XI) : xc_291 pc = some e → xDec xm_291 pc e ∧ xLk xprog xcl xfty xTs xSL xTL xNW xm_291 pc e := fun h => xif_ok (fun h => xfind_ok (o := 15) (g := xm_291) rfl xk_291_0 h) (fun h => xif_ok (fun h => xfind_ok (o := 15) (g := xm_291) rfl xk_291_1 h) (fun h => xfind_ok (o := 15) (g := xm_291) rfl xk_291_2 h) h) h
set_option maxRecDepth 100000 in
theorem xk_292_0 : xe_292_0.all (fun q => xdecB xm_292 q.1 q.2 && xlkB 16 xm_292 q.1 q.2) = true := by decide +kernel
set_option maxRecDepth 100000 in
theorem xk_292_1 : xe_292_1.all (fun q => xdecB xm_292 q.1 q.2 && xlkB 16 xm_292 q.1 q.2) = true := by decide +kernel
set_option maxRecDepth 100000 in
theorem xk_292_2 : xe_292_2.all (fun q => xdecB xm_292 q.1 q.2 && xlkB 16 xm_292 q.1 q.2) = true := by decide +kernel
set_option maxRecDepth 100000 in
theorem xk_292_3 : xe_292_3.all (fun q => xdecB xm_292 q.1 q.2 && xlkB 16 xm_292 q.1 q.2) = true := by decide +kernel
theorem xg_292 (pc : Nat) (e : XI) : xc_292 pc = some e → xDec xm_292 pc e ∧ xLk xprog xcl xfty xTs xSL xTL xNW xm_292 pc e := fun h => xif_ok (fun h => xif_ok (fun h => xfind_ok (o := 16) (g := xm_292) rfl xk_292_0 h) (fun h => xfind_ok (o := 16) (g := xm_292) rfl xk_292_1 h) h) (fun h => xif_ok (fun h => xfind_ok (o := 16) (g := xm_292) rfl xk_292_2 h) (fun h => xfind_ok (o := 16) (g := xm_292) rfl xk_292_3 h) h) h
