/-! the rows are looked at, 5 -/
set_option maxRecDepth 100000 in
theorem xk_78_0 : xe_78_0.all (fun q => xdecB xm_78 q.1 q.2 && xlkB 8 xm_78 q.1 q.2) = true := by decide +kernel
set_option maxRecDepth 100000 in
theorem xk_78_1 : xe_78_1.all (fun q => xdecB xm_78 q.1 q.2 && xlkB 8 xm_78 q.1 q.2) = true := by decide +kernel
theorem xg_78 (pc : Nat) (e : XI) : xc_78 pc = some e → xDec xm_78 pc e ∧ xLk xprog xcl xfty xTs xSL xTL xNW xm_78 pc e := fun h => xif_ok (fun h => xfind_ok (o := 8) (g := xm_78) rfl xk_78_0 h) (fun h => xfind_ok (o := 8) (g := xm_78) rfl xk_78_1 h) h
set_option maxRecDepth 100000 in
theorem xk_79_0 : xe_79_0.all (fun q => xdecB xm_79 q.1 q.2 && xlkB 8 xm_79 q.1 q.2) = true := by decide +kernel
set_option maxRecDepth 100000 in
theorem xk_79_1 : xe_79_1.all (fun q => xdecB xm_79 q.1 q.2 && xlkB 8 xm_79 q.1 q.2) = true := by decide +kernel
theorem xg_79 (pc : Nat) (e : XI) : xc_79 pc = some e → xDec xm_79 pc e ∧ xLk xprog xcl xfty xTs xSL xTL xNW xm_79 pc e := fun h => xif_ok (fun h => xfind_ok (o := 8) (g := xm_79) rfl xk_79_0 h) (fun h => xfind_ok (o := 8) (g := xm_79) rfl xk_79_1 h) h
set_option maxRecDepth 100000 in
theorem xk_80_0 : xe_80_0.all (fun q => xdecB xm_80 q.1 q.2 && xlkB 8 xm_80 q.1 q.2) = true := by decide +kernel
theorem xg_80 (pc : Nat) (e : XI) : xc_80 pc = some e → xDec xm_80 pc e ∧ xLk xprog xcl xfty xTs xSL xTL xNW xm_80 pc e := fun h => xfind_ok (o := 8) (g := xm_80) rfl xk_80_0 h
set_option maxRecDepth 100000 in
theorem xk_81_0 : xe_81_0.all (fun q => xdecB xm_81 q.1 q.2 && xlkB 8 xm_81 q.1 q.2) = true := by decide +kernel
set_option maxRecDepth 100000 in
theorem xk_81_1 : xe_81_1.all (fun q => xdecB xm_81 q.1 q.2 && xlkB 8 xm_81 q.1 q.2) = true := by decide +kernel
theorem xg_81 (pc : Nat) (e : XI) : xc_81 pc = some e → xDec xm_81 pc e ∧ xLk xprog xcl xfty xTs xSL xTL xNW xm_81 pc e := fun h => xif_ok (fun h => xfind_ok (o := 8) (g := xm_81) rfl xk_81_0 h) (fun h => xfind_ok (o := 8) (g := xm_81) rfl xk_81_1 h) h
set_option maxRecDepth 100000 in
theorem xk_82_0 : xe_82_0.all (fun q => xdecB xm_82 q.1 q.2 && xlkB 15 xm_82 q.1 q.2) = true := by decide +kernel
theorem xg_82 (pc : Nat) (e : XI) : xc_82 pc = some e → xDec xm_82 pc e ∧ xLk xprog xcl xfty xTs xSL xTL xNW xm_82 pc e := fun h => xfind_ok (o := 15) (g := xm_82) rfl xk_82_0 h
set_option maxRecDepth 100000 in
theorem xk_83_0 : xe_83_0.all (fun q => xdecB xm_83 q.1 q.2 && xlkB 15 xm_83 q.1 q.2) = true := by decide +kernel
theorem xg_83 (pc : Nat) (e : XI) : xc_83 pc = some e → xDec xm_83 pc e ∧ xLk xprog xcl xfty xTs xSL xTL xNW xm_83 pc e := fun h => xfind_ok (o := 15) (g := xm_83) rfl xk_83_0 h
set_option maxRecDepth 100000 in
theorem xk_84_0 : xe_84_0.all (fun q => xdecB xm_84 q.1 q.2 && xlkB 16 xm_84 q.1 q.2) = true := by decide +kernel
theorem xg_84 (pc : Nat) (e : XI) : xc_84 pc = some e → xDec xm_84 pc e ∧ xLk xprog xcl xfty xTs xSL xTL xNW xm_84 pc e := fun h => xfind_ok (o := 16) (g := xm_84) rfl xk_84_0 h
set_option maxRecDepth 100000 in
theorem xk_85_0 : xe_85_0.all (fun q => xdecB xm_85 q.1 q.2 && xlkB 16 xm_85 q.1 q.2) = true := by decide +kernel
theorem xg_85 (pc : Nat) (e : XI) : xc_85 pc = some e → xDec xm_85 pc e ∧ xLk xprog xcl xfty xTs xSL xTL xNW xm_85 pc e := fun h => xfind_ok (o := 16) (g := xm_85) rfl xk_85_0 h
set_option maxRecDepth 100000 in
theorem xk_86_0 : xe_86_0.all (fun q => xdecB xm_86 q.1 q.2 && xlkB 16 xm_86 q.1 q.2) = true := by decide +kernel
theorem xg_86 (pc : Nat) (e : XI) : xc_86 pc = some e → xDec xm_86 pc e ∧ xLk xprog xcl xfty xTs xSL xTL xNW xm_86 pc e := fun h => xfind_ok (o := 16) (g := xm_86) rfl xk_86_0 h
set_option maxRecDepth 100000 in
theorem xk_87_0 : xe_87_0.all (fun q => xdecB xm_87 q.1 q.2 && xlkB 16 xm_87 q.1 q.2) = true := by decide +kernel
theorem xg_87 (pc : Nat) (e : XI) : xc_87 pc = some e → xDec xm_87 pc e ∧ xLk xprog xcl xfty xTs xSL xTL xNW xm_87 pc e := fun h => xfind_ok (o := 16) (g := xm_87) rfl xk_87_0 h
set_option maxRecDepth 100000 in
theorem xk_88_0 : xe_88_0.all (fun q => xdecB xm_88 q.1 q.2 && xlkB 16 xm_88 q.1 q.2) = true := by decide +kernel
set_option maxRecDepth 100000 in
theorem xk_88_1 : xe_88_1.all (fun q => xdecB xm_88 q.1 q.2 && xlkB 16 xm_88 q.1 q.2) = true := by decide +kernel
theorem xg_88 (pc : Nat) (e : XI) : xc_88 pc = some e → xDec xm_88 pc e ∧ xLk xprog xcl xfty xTs xSL xTL xNW xm_88 pc e := fun h => xif_ok (fun h => xfind_ok (o := 16) (g := xm_88) rfl xk_88_0 h) (fun h => xfind_ok (o := 16) (g := xm_88) rfl xk_88_1 h) h
