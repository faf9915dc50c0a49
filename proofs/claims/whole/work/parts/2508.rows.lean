/-! the rows are looked at, 8 -/
set_option maxRecDepth 100000 in
theorem xk_106_0 : xe_106_0.all (fun q => xdecB xm_106 q.1 q.2 && xlkB 16 xm_106 q.1 q.2) = true := by decide +kernel
set_option maxRecDepth 100000 in
theorem xk_106_1 : xe_106_1.all (fun q => xdecB xm_106 q.1 q.2 && xlkB 16 xm_106 q.1 q.2) = true := by decide +kernel
set_option maxRecDepth 100000 in
theorem xk_106_2 : xe_106_2.all (fun q => xdecB xm_106 q.1 q.2 && xlkB 16 xm_106 q.1 q.2) = true := by decide +kernel
set_option maxRecDepth 100000 in
theorem xk_106_3 : xe_106_3.all (fun q => xdecB xm_106 q.1 q.2 && xlkB 16 xm_106 q.1 q.2) = true := by decide +kernel
set_option maxRecDepth 100000 in
theorem xk_106_4 : xe_106_4.all (fun q => xdecB xm_106 q.1 q.2 && xlkB 16 xm_106 q.1 q.2) = true := by decide +kernel
set_option maxRecDepth 100000 in
theorem xk_106_5 : xe_106_5.all (fun q => xdecB xm_106 q.1 q.2 && xlkB 16 xm_106 q.1 q.2) = true := by decide +kernel
theorem xg_106 (pc : Nat) (e : XI) : xc_106 pc = some e → xDec xm_106 pc e ∧ xLk xprog xcl xfty xTs xSL xTL xNW xm_106 pc e := fun h => xif_ok (fun h => xif_ok (fun h => xfind_ok (o := 16) (g := xm_106) rfl xk_106_0 h) (fun h => xif_ok (fun h => xfind_ok (o := 16) (g := xm_106) rfl xk_106_1 h) (fun h => xfind_ok (o := 16) (g := xm_106) rfl xk_106_2 h) h) h) (fun h => xif_ok (fun h => xfind_ok (o := 16) (g := xm_106) rfl xk_106_3 h) (fun h => xif_ok (fun h => xfind_ok (o := 16) (g := xm_106) rfl xk_106_4 h) (fun h => xfind_ok (o := 16) (g := xm_106) rfl xk_106_5 h) h) h) h
set_option maxRecDepth 100000 in
theorem xk_107_0 : xe_107_0.all (fun q => xdecB xm_107 q.1 q.2 && xlkB 16 xm_107 q.1 q.2) = true := by decide +kernel
set_option maxRecDepth 100000 in
theorem xk_107_1 : xe_107_1.all (fun q => xdecB xm_107 q.1 q.2 && xlkB 16 xm_107 q.1 q.2) = true := by decide +kernel
set_option maxRecDepth 100000 in
theorem xk_107_2 : xe_107_2.all (fun q => xdecB xm_107 q.1 q.2 && xlkB 16 xm_107 q.1 q.2) = true := by decide +kernel
set_option maxRecDepth 100000 in
theorem xk_107_3 : xe_107_3.all (fun q => xdecB xm_107 q.1 q.2 && xlkB 16 xm_107 q.1 q.2) = true := by decide +kernel
theorem xg_107 (pc : Nat) (e : XI) : xc_107 pc = some e → xDec xm_107 pc e ∧ xLk xprog xcl xfty xTs xSL xTL xNW xm_107 pc e := fun h => xif_ok (fun h => xif_ok (fun h => xfind_ok (o := 16) (g := xm_107) rfl xk_107_0 h) (fun h => xfind_ok (o := 16) (g := xm_107) rfl xk_107_1 h) h) (fun h => xif_ok (fun h => xfind_ok (o := 16) (g := xm_107) rfl xk_107_2 h) (fun h => xfind_ok (o := 16) (g := xm_107) rfl xk_107_3 h) h) h
set_option maxRecDepth 100000 in
theorem xk_108_0 : xe_108_0.all (fun q => xdecB xm_108 q.1 q.2 && xlkB 15 xm_108 q.1 q.2) = true := by decide +kernel
theorem xg_108 (pc : Nat) (e : XI) : xc_108 pc = some e → xDec xm_108 pc e ∧ xLk xprog xcl xfty xTs xSL xTL xNW xm_108 pc e := fun h => xfind_ok (o := 15) (g := xm_108) rfl xk_108_0 h
set_option maxRecDepth 100000 in
theorem xk_109_0 : xe_109_0.all (fun q => xdecB xm_109 q.1 q.2 && xlkB 16 xm_109 q.1 q.2) = true := by decide +kernel
theorem xg_109 (pc : Nat) (e : XI) : xc_109 pc = some e → xDec xm_109 pc e ∧ xLk xprog xcl xfty xTs xSL xTL xNW xm_109 pc e := fun h => xfind_ok (o := 16) (g := xm_109) rfl xk_109_0 h
set_option maxRecDepth 100000 in
theorem xk_110_0 : xe_110_0.all (fun q => xdecB xm_110 q.1 q.2 && xlkB 15 xm_110 q.1 q.2) = true := by decide +kernel
theorem xg_110 (pc : Nat) (e : XI) : xc_110 pc = some e → xDec xm_110 pc e ∧ xLk xprog xcl xfty xTs xSL xTL xNW xm_110 pc e := fun h => xfind_ok (o := 15) (g := xm_110) rfl xk_110_0 h
set_option maxRecDepth 100000 in
theorem xk_111_0 : xe_111_0.all (fun q => xdecB xm_111 q.1 q.2 && xlkB 9 xm_111 q.1 q.2) = true := by decide +kernel
theorem xg_111 (pc : Nat) (e : XI) : xc_111 pc = some e → xDec xm_111 pc e ∧ xLk xprog xcl xfty xTs xSL xTL xNW xm_111 pc e := fun h => xfind_ok (o := 9) (g := xm_111) rfl xk_111_0 h
