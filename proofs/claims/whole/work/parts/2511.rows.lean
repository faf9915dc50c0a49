/-! the rows are looked at, 11 -/
set_option maxRecDepth 100000 in
theorem xk_142_0 : xe_142_0.all (fun q => xdecB xm_142 q.1 q.2 && xlkB 9 xm_142 q.1 q.2) = true := by decide +kernel
set_option maxRecDepth 100000 in
theorem xk_142_1 : xe_142_1.all (fun q => xdecB xm_142 q.1 q.2 && xlkB 9 xm_142 q.1 q.2) = true := by decide +kernel
set_option maxRecDepth 100000 in
theorem xk_142_2 : xe_142_2.all (fun q => xdecB xm_142 q.1 q.2 && xlkB 9 xm_142 q.1 q.2) = true := by decide +kernel
theorem xg_142 (pc : Nat) (e : XI) : xc_142 pc = some e → xDec xm_142 pc e ∧ xLk xprog xcl xfty xTs xSL xTL xNW xm_142 pc e := fun h => xif_ok (fun h => xfind_ok (o := 9) (g := xm_142) rfl xk_142_0 h) (fun h => xif_ok (fun h => xfind_ok (o := 9) (g := xm_142) rfl xk_142_1 h) (fun h => xfind_ok (o := 9) (g := xm_142) rfl xk_142_2 h) h) h
set_option maxRecDepth 100000 in
theorem xk_143_0 : xe_143_0.all (fun q => xdecB xm_143 q.1 q.2 && xlkB 15 xm_143 q.1 q.2) = true := by decide +kernel
theorem xg_143 (pc : Nat) (e : XI) : xc_143 pc = some e → xDec xm_143 pc e ∧ xLk xprog xcl xfty xTs xSL xTL xNW xm_143 pc e := fun h => xfind_ok (o := 15) (g := xm_143) rfl xk_143_0 h
set_option maxRecDepth 100000 in
theorem xk_144_0 : xe_144_0.all (fun q => xdecB xm_144 q.1 q.2 && xlkB 16 xm_144 q.1 q.2) = true := by decide +kernel
theorem xg_144 (pc : Nat) (e : XI) : xc_144 pc = some e → xDec xm_144 pc e ∧ xLk xprog xcl xfty xTs xSL xTL xNW xm_144 pc e := fun h => xfind_ok (o := 16) (g := xm_144) rfl xk_144_0 h
set_option maxRecDepth 100000 in
theorem xk_145_0 : xe_145_0.all (fun q => xdecB xm_145 q.1 q.2 && xlkB 16 xm_145 q.1 q.2) = true := by decide +kernel
set_option maxRecDepth 100000 in
theorem xk_145_1 : xe_145_1.all (fun q => xdecB xm_145 q.1 q.2 && xlkB 16 xm_145 q.1 q.2) = true := by decide +kernel
set_option maxRecDepth 100000 in
theorem xk_145_2 : xe_145_2.all (fun q => xdecB xm_145 q.1 q.2 && xlkB 16 xm_145 q.1 q.2) = true := by decide +kernel
set_option maxRecDepth 100000 in
theorem xk_145_3 : xe_145_3.all (fun q => xdecB xm_145 q.1 q.2 && xlkB 16 xm_145 q.1 q.2) = true := by decide +kernel
theorem xg_145 (pc : Nat) (e : XI) : xc_145 pc = some e → xDec xm_145 pc e ∧ xLk xprog xcl xfty xTs xSL xTL xNW xm_145 pc e := fun h => xif_ok (fun h => xif_ok (fun h => xfind_ok (o := 16) (g := xm_145) rfl xk_145_0 h) (fun h => xfind_ok (o := 16) (g := xm_145) rfl xk_145_1 h) h) (fun h => xif_ok (fun h => xfind_ok (o := 16) (g := xm_145) rfl xk_145_2 h) (fun h => xfind_ok (o := 16) (g := xm_145) rfl xk_145_3 h) h) h
set_option maxRecDepth 100000 in
theorem xk_146_0 : xe_146_0.all (fun q => xdecB xm_146 q.1 q.2 && xlkB 16 xm_146 q.1 q.2) = true := by decide +kernel
theorem xg_146 (pc : Nat) (e : XI) : xc_146 pc = some e → xDec xm_146 pc e ∧ xLk xprog xcl xfty xTs xSL xTL xNW xm_146 pc e := fun h => xfind_ok (o := 16) (g := xm_146) rfl xk_146_0 h
set_option maxRecDepth 100000 in
theorem xk_147_0 : xe_147_0.all (fun q => xdecB xm_147 q.1 q.2 && xlkB 15 xm_147 q.1 q.2) = true := by decide +kernel
theorem xg_147 (pc : Nat) (e : XI) : xc_147 pc = some e → xDec xm_147 pc e ∧ xLk xprog xcl xfty xTs xSL xTL xNW xm_147 pc e := fun h => xfind_ok (o := 15) (g := xm_147) rfl xk_147_0 h
set_option maxRecDepth 100000 in
theorem xk_148_0 : xe_148_0.all (fun q => xdecB xm_148 q.1 q.2 && xlkB 10 xm_148 q.1 q.2) = true := by decide +kernel
set_option maxRecDepth 100000 in
theorem xk_148_1 : xe_148_1.all (fun q => xdecB xm_148 q.1 q.2 && xlkB 10 xm_148 q.1 q.2) = true := by decide +kernel
theorem xg_148 (pc : Nat) (e : XI) : xc_148 pc = some e → xDec xm_148 pc e ∧ xLk xprog xcl xfty xTs xSL xTL xNW xm_148 pc e := fun h => xif_ok (fun h => xfind_ok (o := 10) (g := xm_148) rfl xk_148_0 h) (fun h => xfind_ok (o := 10) (g := xm_148) rfl xk_148_1 h) h
set_option maxRecDepth 100000 in
theorem xk_149_0 : xe_149_0.all (fun q => xdecB xm_149 q.1 q.2 && xlkB 11 xm_149 q.1 q.2) = true := by decide +kernel
theorem xg_149 (pc : Nat) (e : XI) : xc_149 pc = some e → xDec xm_149 pc e ∧ xLk xprog xcl xfty xTs xSL xTL xNW xm_149 pc e := fun h => xfind_ok (o := 11) (g := xm_149) rfl xk_149_0 h
set_option maxRecDepth 100000 in
theorem xk_150_0 : xe_150_0.all (fun q => xdecB xm_150 q.1 q.2 && xlkB 10 xm_150 q.1 q.2) = true := by decide +kernel
theorem xg_150 (pc : Nat) (e : XI) : xc_150 pc = some e → xDec xm_150 pc e ∧ xLk xprog xcl xfty xTs xSL xTL xNW xm_150 pc e := fun h => xfind_ok (o := 10) (g := xm_150) rfl xk_150_0 h
set_option maxRecDepth 100000 in
theorem xk_151_0 : xe_151_0.all (fun q => xdecB xm_151 q.1 q.2 && xlkB 15 xm_151 q.1 q.2) = true := by decide +kernel
theorem xg_151 (pc : Nat) (e : XI) : xc_151 pc = some e → xDec xm_151 pc e ∧ xLk xprog xcl xfty xTs xSL xTL xNW xm_151 pc e := fun h => xfind_ok (o := 15) (g := xm_151) rfl xk_151_0 h
set_option maxRecDepth 100000 in
theorem xk_152_0 : xe_152_0.all (fun q => xdecB xm_152 q.1 q.2 && xlkB 16 xm_152 q.1 q.2) = true := by decide +kernel
theorem xg_152 (pc : Nat) (e : XI) : xc_152 pc = some e → xDec xm_152 pc e ∧ xLk xprog xcl xfty xTs xSL xTL xNW xm_152 pc e := fun h => xfind_ok (o := 16) (g := xm_152) rfl xk_152_0 h
