/-! the rows are looked at, 7 -/
set_option maxRecDepth 100000 in
theorem xk_103_0 : xe_103_0.all (fun q => xdecB xm_103 q.1 q.2 && xlkB 16 xm_103 q.1 q.2) = true := by decide +kernel
set_option maxRecDepth 100000 in
theorem xk_103_1 : xe_103_1.all (fun q => xdecB xm_103 q.1 q.2 && xlkB 16 xm_103 q.1 q.2) = true := by decide +kernel
set_option maxRecDepth 100000 in
theorem xk_103_2 : xe_103_2.all (fun q => xdecB xm_103 q.1 q.2 && xlkB 16 xm_103 q.1 q.2) = true := by decide +kernel
set_option maxRecDepth 100000 in
theorem xk_103_3 : xe_103_3.all (fun q => xdecB xm_103 q.1 q.2 && xlkB 16 xm_103 q.1 q.2) = true := by decide +kernel
theorem xg_103 (pc : Nat) (e : XI) : xc_103 pc = some e → xDec xm_103 pc e ∧ xLk xprog xcl xfty xTs xSL xTL xNW xm_103 pc e := fun h => xif_ok (fun h => xif_ok (fun h => xfind_ok (o := 16) (g := xm_103) rfl xk_103_0 h) (fun h => xfind_ok (o := 16) (g := xm_103) rfl xk_103_1 h) h) (fun h => xif_ok (fun h => xfind_ok (o := 16) (g := xm_103) rfl xk_103_2 h) (fun h => xfind_ok (o := 16) (g := xm_103) rfl xk_103_3 h) h) h
set_option maxRecDepth 100000 in
theorem xk_104_0 : xe_104_0.all (fun q => xdecB xm_104 q.1 q.2 && xlkB 16 xm_104 q.1 q.2) = true := by decide +kernel
theorem xg_104 (pc : Nat) (e : XI) : xc_104 pc = some e → xDec xm_104 pc e ∧ xLk xprog xcl xfty xTs xSL xTL xNW xm_104 pc e := fun h => xfind_ok (o := 16) (g := xm_104) rfl xk_104_0 h
set_option maxRecDepth 100000 in
theorem xk_105_0 : xe_105_0.all (fun q => xdecB xm_105 q.1 q.2 && xlkB 16 xm_105 q.1 q.2) = true := by decide +kernel
set_option maxRecDepth 100000 in
theorem xk_105_1 : xe_105_1.all (fun q => xdecB xm_105 q.1 q.2 && xlkB 16 xm_105 q.1 q.2) = true := by decide +kernel
set_option maxRecDepth 100000 in
theorem xk_105_2 : xe_105_2.all (fun q => xdecB xm_105 q.1 q.2 && xlkB 16 xm_105 q.1 q.2) = true := by decide +kernel
theorem xg_105 (pc : Nat) (e : XI) : xc_105 pc = some e → xDec xm_105 pc e ∧ xLk xprog xcl xfty xTs xSL xTL xNW xm_105 pc e := fun h => xif_ok (fun h => xfind_ok (o := 16) (g := xm_105) rfl xk_105_0 h) (fun h => xif_ok (fun h => xfind_ok (o := 16) (g := xm_105) rfl xk_105_1 h) (fun h => xfind_ok (o := 16) (g := xm_105) rfl xk_105_2 h) h) h
