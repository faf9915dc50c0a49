/-! the rows are looked at, 1 -/
set_option maxRecDepth 100000 in
theorem xk_25_0 : xe_25_0.all (fun q => xdecB xm_25 q.1 q.2 && xlkB 16 xm_25 q.1 q.2) = true := by decide +kernel
set_option maxRecDepth 100000 in
theorem xk_25_1 : xe_25_1.all (fun q => xdecB xm_25 q.1 q.2 && xlkB 16 xm_25 q.1 q.2) = true := by decide +kernel
theorem xg_25 (pc : Nat) (e : XI) : xc_25 pc = some e → xDec xm_25 pc e ∧ xLk xprog xcl xfty xTs xSL xTL xNW xm_25 pc e := fun h => xif_ok (fun h => xfind_ok (o := 16) (g := xm_25) rfl xk_25_0 h) (fun h => xfind_ok (o := 16) (g := xm_25) rfl xk_25_1 h) h
set_option maxRecDepth 100000 in
theorem xk_26_0 : xe_26_0.all (fun q => xdecB xm_26 q.1 q.2 && xlkB 16 xm_26 q.1 q.2) = true := by decide +kernel
theorem xg_26 (pc : Nat) (e : XI) : xc_26 pc = some e → xDec xm_26 pc e ∧ xLk xprog xcl xfty xTs xSL xTL xNW xm_26 pc e := fun h => xfind_ok (o := 16) (g := xm_26) rfl xk_26_0 h
set_option maxRecDepth 100000 in
theorem xk_27_0 : xe_27_0.all (fun q => xdecB xm_27 q.1 q.2 && xlkB 16 xm_27 q.1 q.2) = true := by decide +kernel
theorem xg_27 (pc : Nat) (e : XI) : xc_27 pc = some e → xDec xm_27 pc e ∧ xLk xprog xcl xfty xTs xSL xTL xNW xm_27 pc e := fun h => xfind_ok (o := 16) (g := xm_27) rfl xk_27_0 h
set_option maxRecDepth 100000 in
theorem xk_28_0 : xe_28_0.all (fun q => xdecB xm_28 q.1 q.2 && xlkB 16 xm_28 q.1 q.2) = true := by decide +kernel
set_option maxRecDepth 100000 in
theorem xk_28_1 : xe_28_1.all (fun q => xdecB xm_28 q.1 q.2 && xlkB 16 xm_28 q.1 q.2) = true := by decide +kernel
theorem xg_28 (pc : Nat) (e : XI) : xc_28 pc = some e → xDec xm_28 pc e ∧ xLk xprog xcl xfty xTs xSL xTL xNW xm_28 pc e := fun h => xif_ok (fun h => xfind_ok (o := 16) (g := xm_28) rfl xk_28_0 h) (fun h => xfind_ok (o := 16) (g := xm_28) rfl xk_28_1 h) h
set_option maxRecDepth 100000 in
theorem xk_29_0 : xe_29_0.all (fun q => xdecB xm_29 q.1 q.2 && xlkB 16 xm_29 q.1 q.2) = true := by decide +kernel
theorem xg_29 (pc : Nat) (e : XI) : xc_29 pc = some e → xDec xm_29 pc e ∧ xLk xprog xcl xfty xTs xSL xTL xNW xm_29 pc e := fun h => xfind_ok (o := 16) (g := xm_29) rfl xk_29_0 h
