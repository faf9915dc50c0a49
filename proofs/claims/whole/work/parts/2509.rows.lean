/-! the rows are looked at, 9 -/
set_option maxRecDepth 100000 in
theorem xk_112_0 : xe_112_0.all (fun q => xdecB xm_112 q.1 q.2 && xlkB 15 xm_112 q.1 q.2) = true := by decide +kernel
set_option maxRecDepth 100000 in
theorem xk_112_1 : xe_112_1.all (fun q => xdecB xm_112 q.1 q.2 && xlkB 15 xm_112 q.1 q.2) = true := by decide +kernel
theorem xg_112 (pc : Nat) (e : XI) : xc_112 pc = some e → xDec xm_112 pc e ∧ xLk xprog xcl xfty xTs xSL xTL xNW xm_112 pc e := fun h => xif_ok (fun h => xfind_ok (o := 15) (g := xm_112) rfl xk_112_0 h) (fun h => xfind_ok (o := 15) (g := xm_112) rfl xk_112_1 h) h
set_option maxRecDepth 100000 in
theorem xk_113_0 : xe_113_0.all (fun q => xdecB xm_113 q.1 q.2 && xlkB 16 xm_113 q.1 q.2) = true := by decide +kernel
theorem xg_113 (pc : Nat) (e : XI) : xc_113 pc = some e → xDec xm_113 pc e ∧ xLk xprog xcl xfty xTs xSL xTL xNW xm_113 pc e := fun h => xfind_ok (o := 16) (g := xm_113) rfl xk_113_0 h
set_option maxRecDepth 100000 in
theorem xk_114_0 : xe_114_0.all (fun q => xdecB xm_114 q.1 q.2 && xlkB 16 xm_114 q.1 q.2) = true := by decide +kernel
theorem xg_114 (pc : Nat) (e : XI) : xc_114 pc = some e → xDec xm_114 pc e ∧ xLk xprog xcl xfty xTs xSL xTL xNW xm_114 pc e := fun h => xfind_ok (o := 16) (g := xm_114) rfl xk_114_0 h
set_option maxRecDepth 100000 in
theorem xk_115_0 : xe_115_0.all (fun q => xdecB xm_115 q.1 q.2 && xlkB 16 xm_115 q.1 q.2) = true := by decide +kernel
theorem xg_115 (pc : Nat) (e : XI) : xc_115 pc = some e → xDec xm_115 pc e ∧ xLk xprog xcl xfty xTs xSL xTL xNW xm_115 pc e := fun h => xfind_ok (o := 16) (g := xm_115) rfl xk_115_0 h
set_option maxRecDepth 100000 in
theorem xk_116_0 : xe_116_0.all (fun q => xdecB xm_116 q.1 q.2 && xlkB 16 xm_116 q.1 q.2) = true := by decide +kernel
theorem xg_116 (pc : Nat) (e : XI) : xc_116 pc = some e → xDec xm_116 pc e ∧ xLk xprog xcl xfty xTs xSL xTL xNW xm_116 pc e := fun h => xfind_ok (o := 16) (g := xm_116) rfl xk_116_0 h
set_option maxRecDepth 100000 in
theorem xk_117_0 : xe_117_0.all (fun q => xdecB xm_117 q.1 q.2 && xlkB 16 xm_117 q.1 q.2) = true := by decide +kernel
theorem xg_117 (pc : Nat) (e : XI) : xc_117 pc = some e → xDec xm_117 pc e ∧ xLk xprog xcl xfty xTs xSL xTL xNW xm_117 pc e := fun h => xfind_ok (o := 16) (g := xm_117) rfl xk_117_0 h
set_option maxRecDepth 100000 in
theorem xk_118_0 : xe_118_0.all (fun q => xdecB xm_118 q.1 q.2 && xlkB 16 xm_118 q.1 q.2) = true := by decide +kernel
set_option maxRecDepth 100000 in
theorem xk_118_1 : xe_118_1.all (fun q => xdecB xm_118 q.1 q.2 && xlkB 16 xm_118 q.1 q.2) = true := by decide +kernel
theorem xg_118 (pc : Nat) (e : XI) : xc_118 pc = some e → xDec xm_118 pc e ∧ xLk xprog xcl xfty xTs xSL xTL xNW xm_118 pc e := fun h => xif_ok (fun h => xfind_ok (o := 16) (g := xm_118) rfl xk_118_0 h) (fun h => xfind_ok (o := 16) (g := xm_118) rfl xk_118_1 h) h
set_option maxRecDepth 100000 in
theorem xk_119_0 : xe_119_0.all (fun q => xdecB xm_119 q.1 q.2 && xlkB 15 xm_119 q.1 q.2) = true := by decide +kernel
theorem xg_119 (pc : Nat) (e : XI) : xc_119 pc = some e → xDec xm_119 pc e ∧ xLk xprog xcl xfty xTs xSL xTL xNW xm_119 pc e := fun h => xfind_ok (o := 15) (g := xm_119) rfl xk_119_0 h
set_option maxRecDepth 100000 in
theorem xk_120_0 : xe_120_0.all (fun q => xdecB xm_120 q.1 q.2 && xlkB 15 xm_120 q.1 q.2) = true := by decide +kernel
theorem xg_120 (pc : Nat) (e : XI) : xc_120 pc = some e → xDec xm_120 pc e ∧ xLk xprog xcl xfty xTs xSL xTL xNW xm_120 pc e := fun h => xfind_ok (o := 15) (g := xm_120) rfl xk_120_0 h
set_option maxRecDepth 100000 in
theorem xk_121_0 : xe_121_0.all (fun q => xdecB xm_121 q.1 q.2 && xlkB 16 xm_121 q.1 q.2) = true := by decide +kernel
theorem xg_121 (pc : Nat) (e : XI) : xc_121 pc = some e → xDec xm_121 pc e ∧ xLk xprog xcl xfty xTs xSL xTL xNW xm_121 pc e := fun h => xfind_ok (o := 16) (g := xm_121) rfl xk_121_0 h
set_option maxRecDepth 100000 in
theorem xk_122_0 : xe_122_0.all (fun q => xdecB xm_122 q.1 q.2 && xlkB 16 xm_122 q.1 q.2) = true := by decide +kernel
theorem xg_122 (pc : Nat) (e : XI) : xc_122 pc = some e → xDec xm_122 pc e ∧ xLk xprog xcl xfty xTs xSL xTL xNW xm_122 pc e := fun h => xfind_ok (o := 16) (g := xm_122) rfl xk_122_0 h
set_option maxRecDepth 100000 in
theorem xk_123_0 : xe_123_0.all (fun q => xdecB xm_123 q.1 q.2 && xlkB 16 xm_123 q.1 q.2) = true := by decide +kernel
set_option maxRecDepth 100000 in
theorem xk_123_1 : xe_123_1.all (fun q => xdecB xm_123 q.1 q.2 && xlkB 16 xm_123 q.1 q.2) = true := by decide +kernel
theorem xg_123 (pc : Nat) (e : XI) : xc_123 pc = some e → xDec xm_123 pc e ∧ xLk xprog xcl xfty xTs xSL xTL xNW xm_123 pc e := fun h => xif_ok (fun h => xfind_ok (o := 16) (g := xm_123) rfl xk_123_0 h) (fun h => xfind_ok (o := 16) (g := xm_123) rfl xk_123_1 h) h
set_option maxRecDepth 100000 in
theorem xk_124_0 : xe_124_0.all (fun q => xdecB xm_124 q.1 q.2 && xlkB 9 xm_124 q.1 q.2) = true := by decide +kernel
set_option maxRecDepth 100000 in
theorem xk_124_1 : xe_124_1.all (fun q => xdecB xm_124 q.1 q.2 && xlkB 9 xm_124 q.1 q.2) = true := by decide +kernel
set_option maxRecDepth 100000 in
theorem xk_124_2 : xe_124_2.all (fun q => xdecB xm_124 q.1 q.2 && xlkB 9 xm_124 q.1 q.2) = true := by decide +kernel
theorem xg_124 (pc : Nat) (e : XI) : xc_124 pc = some e → xDec xm_124 pc e ∧ xLk xprog xcl xfty xTs xSL xTL xNW xm_124 pc e := fun h => xif_ok (fun h => xfind_ok (o := 9) (g := xm_124) rfl xk_124_0 h) (fun h => xif_ok (fun h => xfind_ok (o := 9) (g := xm_124) rfl xk_124_1 h) (fun h => xfind_ok (o := 9) (g := xm_124) rfl xk_124_2 h) h) h
set_option maxRecDepth 100000 in
theorem xk_125_0 : xe_125_0.all (fun q => xdecB xm_125 q.1 q.2 && xlkB 6 xm_125 q.1 q.2) = true := by decide +kernel
theorem xg_125 (pc : Nat) (e : XI) : xc_125 pc = some e → xDec xm_125 pc e ∧ xLk xprog xcl xfty xTs xSL xTL xNW xm_125 pc e := fun h => xfind_ok (o := 6) (g := xm_125) rfl xk_125_0 h
set_option maxRecDepth 100000 in
theorem xk_126_0 : xe_126_0.all (fun q => xdecB xm_126 q.1 q.2 && xlkB 6 xm_126 q.1 q.2) = true := by decide +kernel
set_option maxRecDepth 100000 in
theorem xk_126_1 : xe_126_1.all (fun q => xdecB xm_126 q.1 q.2 && xlkB 6 xm_126 q.1 q.2) = true := by decide +kernel
set_option maxRecDepth 100000 in
theorem xk_126_2 : xe_126_2.all (fun q => xdecB xm_126 q.1 q.2 && xlkB 6 xm_126 q.1 q.2) = true := by decide +kernel
theorem xg_126 (pc : Nat) (e : XI) : xc_126 pc = some e → xDec xm_126 pc e ∧ xLk xprog xcl xfty xTs xSL xTL xNW xm_126 pc e := fun h => xif_ok (fun h => xfind_ok (o := 6) (g := xm_126) rfl xk_126_0 h) (fun h => xif_ok (fun h => xfind_ok (o := 6) (g := xm_126) rfl xk_126_1 h) (fun h => xfind_ok (o := 6) (g := xm_126) rfl xk_126_2 h) h) h
