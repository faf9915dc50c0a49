/-! the rows are looked at, 10 -/
set_option maxRecDepth 100000 in
theorem xk_127_0 : xe_127_0.all (fun q => xdecB xm_127 q.1 q.2 && xlkB 9 xm_127 q.1 q.2) = true := by decide +kernel
theorem xg_127 (pc : Nat) (e : XI) : xc_127 pc = some e → xDec xm_127 pc e ∧ xLk xprog xcl xfty xTs xSL xTL xNW xm_127 pc e := fun h => xfind_ok (o := 9) (g := xm_127) rfl xk_127_0 h
set_option maxRecDepth 100000 in
theorem xk_128_0 : xe_128_0.all (fun q => xdecB xm_128 q.1 q.2 && xlkB 9 xm_128 q.1 q.2) = true := by decide +kernel
theorem xg_128 (pc : Nat) (e : XI) : xc_128 pc = some e → xDec xm_128 pc e ∧ xLk xprog xcl xfty xTs xSL xTL xNW xm_128 pc e := fun h => xfind_ok (o := 9) (g := xm_128) rfl xk_128_0 h
set_option maxRecDepth 100000 in
theorem xk_129_0 : xe_129_0.all (fun q => xdecB xm_129 q.1 q.2 && xlkB 15 xm_129 q.1 q.2) = true := by decide +kernel
theorem xg_129 (pc : Nat) (e : XI) : xc_129 pc = some e → xDec xm_129 pc e ∧ xLk xprog xcl xfty xTs xSL xTL xNW xm_129 pc e := fun h => xfind_ok (o := 15) (g := xm_129) rfl xk_129_0 h
set_option maxRecDepth 100000 in
theorem xk_130_0 : xe_130_0.all (fun q => xdecB xm_130 q.1 q.2 && xlkB 9 xm_130 q.1 q.2) = true := by decide +kernel
theorem xg_130 (pc : Nat) (e : XI) : xc_130 pc = some e → xDec xm_130 pc e ∧ xLk xprog xcl xfty xTs xSL xTL xNW xm_130 pc e := fun h => xfind_ok (o := 9) (g := xm_130) rfl xk_130_0 h
set_option maxRecDepth 100000 in
theorem xk_131_0 : xe_131_0.all (fun q => xdecB xm_131 q.1 q.2 && xlkB 9 xm_131 q.1 q.2) = true := by decide +kernel
theorem xg_131 (pc : Nat) (e : XI) : xc_131 pc = some e → xDec xm_131 pc e ∧ xLk xprog xcl xfty xTs xSL xTL xNW xm_131 pc e := fun h => xfind_ok (o := 9) (g := xm_131) rfl xk_131_0 h
set_option maxRecDepth 100000 in
theorem xk_132_0 : xe_132_0.all (fun q => xdecB xm_132 q.1 q.2 && xlkB 15 xm_132 q.1 q.2) = true := by decide +kernel
theorem xg_132 (pc : Nat) (e : XI) : xc_132 pc = some e → xDec xm_132 pc e ∧ xLk xprog xcl xfty xTs xSL xTL xNW xm_132 pc e := fun h => xfind_ok (o := 15) (g := xm_132) rfl xk_132_0 h
set_option maxRecDepth 100000 in
theorem xk_133_0 : xe_133_0.all (fun q => xdecB xm_133 q.1 q.2 && xlkB 16 xm_133 q.1 q.2) = true := by decide +kernel
theorem xg_133 (pc : Nat) (e : XI) : xc_133 pc = some e → xDec xm_133 pc e ∧ xLk xprog xcl xfty xTs xSL xTL xNW xm_133 pc e := fun h => xfind_ok (o := 16) (g := xm_133) rfl xk_133_0 h
set_option maxRecDepth 100000 in
theorem xk_134_0 : xe_134_0.all (fun q => xdecB xm_134 q.1 q.2 && xlkB 16 xm_134 q.1 q.2) = true := by decide +kernel
set_option maxRecDepth 100000 in
theorem xk_134_1 : xe_134_1.all (fun q => xdecB xm_134 q.1 q.2 && xlkB 16 xm_134 q.1 q.2) = true := by decide +kernel
set_option maxRecDepth 100000 in
theorem xk_134_2 : xe_134_2.all (fun q => xdecB xm_134 q.1 q.2 && xlkB 16 xm_134 q.1 q.2) = true := by decide +kernel
theorem xg_134 (pc : Nat) (e : XI) : xc_134 pc = some e → xDec xm_134 pc e ∧ xLk xprog xcl xfty xTs xSL xTL xNW xm_134 pc e := fun h => xif_ok (fun h => xfind_ok (o := 16) (g := xm_134) rfl xk_134_0 h) (fun h => xif_ok (fun h => xfind_ok (o := 16) (g := xm_134) rfl xk_134_1 h) (fun h => xfind_ok (o := 16) (g := xm_134) rfl xk_134_2 h) h) h
set_option maxRecDepth 100000 in
theorem xk_135_0 : xe_135_0.all (fun q => xdecB xm_135 q.1 q.2 && xlkB 16 xm_135 q.1 q.2) = true := by decide +kernel
set_option maxRecDepth 100000 in
theorem xk_135_1 : xe_135_1.all (fun q => xdecB xm_135 q.1 q.2 && xlkB 16 xm_135 q.1 q.2) = true := by decide +kernel
set_option maxRecDepth 100000 in
theorem xk_135_2 : xe_135_2.all (fun q => xdecB xm_135 q.1 q.2 && xlkB 16 xm_135 q.1 q.2) = true := by decide +kernel
theorem xg_135 (pc : Nat) (e : XI) : xc_135 pc = some e → xDec xm_135 pc e ∧ xLk xprog xcl xfty xTs xSL xTL xNW xm_135 pc e := fun h => xif_ok (fun h => xfind_ok (o := 16) (g := xm_135) rfl xk_135_0 h) (fun h => xif_ok (fun h => xfind_ok (o := 16) (g := xm_135) rfl xk_135_1 h) (fun h => xfind_ok (o := 16) (g := xm_135) rfl xk_135_2 h) h) h
set_option maxRecDepth 100000 in
theorem xk_136_0 : xe_136_0.all (fun q => xdecB xm_136 q.1 q.2 && xlkB 16 xm_136 q.1 q.2) = true := by decide +kernel
set_option maxRecDepth 100000 in
theorem xk_136_1 : xe_136_1.all (fun q => xdecB xm_136 q.1 q.2 && xlkB 16 xm_136 q.1 q.2) = true := by decide +kernel
set_option maxRecDepth 100000 in
theorem xk_136_2 : xe_136_2.all (fun q => xdecB xm_136 q.1 q.2 && xlkB 16 xm_136 q.1 q.2) = true := by decide +kernel
theorem xg_136 (pc : Nat) (e : XI) : xc_136 pc = some e → xDec xm_136 pc e ∧ xLk xprog xcl xfty xTs xSL xTL xNW xm_136 pc e := fun h => xif_ok (fun h => xfind_ok (o := 16) (g := xm_136) rfl xk_136_0 h) (fun h => xif_ok (fun h => xfind_ok (o := 16) (g := xm_136) rfl xk_136_1 h) (fun h => xfind_ok (o := 16) (g := xm_136) rfl xk_136_2 h) h) h
set_option maxRecDepth 100000 in
theorem xk_137_0 : xe_137_0.all (fun q => xdecB xm_137 q.1 q.2 && xlkB 16 xm_137 q.1 q.2) = true := by decide +kernel
theorem xg_137 (pc : Nat) (e : XI) : xc_137 pc = some e → xDec xm_137 pc e ∧ xLk xprog xcl xfty xTs xSL xTL xNW xm_137 pc e := fun h => xfind_ok (o := 16) (g := xm_137) rfl xk_137_0 h
set_option maxRecDepth 100000 in
theorem xk_138_0 : xe_138_0.all (fun q => xdecB xm_138 q.1 q.2 && xlkB 16 xm_138 q.1 q.2) = true := by decide +kernel
theorem xg_138 (pc : Nat) (e : XI) : xc_138 pc = some e → xDec xm_138 pc e ∧ xLk xprog xcl xfty xTs xSL xTL xNW xm_138 pc e := fun h => xfind_ok (o := 16) (g := xm_138) rfl xk_138_0 h
set_option maxRecDepth 100000 in
theorem xk_139_0 : xe_139_0.all (fun q => xdecB xm_139 q.1 q.2 && xlkB 16 xm_139 q.1 q.2) = true := by decide +kernel
theorem xg_139 (pc : Nat) (e : XI) : xc_139 pc = some e → xDec xm_139 pc e ∧ xLk xprog xcl xfty xTs xSL xTL xNW xm_139 pc e := fun h => xfind_ok (o := 16) (g := xm_139) rfl xk_139_0 h
set_option maxRecDepth 100000 in
theorem xk_140_0 : xe_140_0.all (fun q => xdecB xm_140 q.1 q.2 && xlkB 16 xm_140 q.1 q.2) = true := by decide +kernel
theorem xg_140 (pc : Nat) (e : XI) : xc_140 pc = some e → xDec xm_140 pc e ∧ xLk xprog xcl xfty xTs xSL xTL xNW xm_140 pc e := fun h => xfind_ok (o := 16) (g := xm_140) rfl xk_140_0 h
set_option maxRecDepth 100000 in
theorem xk_141_0 : xe_141_0.all (fun q => xdecB xm_141 q.1 q.2 && xlkB 9 xm_141 q.1 q.2) = true := by decide +kernel
theorem xg_141 (pc : Nat) (e : XI) : xc_141 pc = some e → xDec xm_141 pc e ∧ xLk xprog xcl xfty xTs xSL xTL xNW xm_141 pc e := fun h => xfind_ok (o := 9) (g := xm_141) rfl xk_141_0 h
