/-! the rows are looked at, 13 -/
set_option maxRecDepth 100000 in
theorem xk_178_0 : xe_178_0.all (fun q => xdecB xm_178 q.1 q.2 && xlkB 16 xm_178 q.1 q.2) = true := by decide +kernel
theorem xg_178 (pc : Nat) (e : XI) : xc_178 pc = some e → xDec xm_178 pc e ∧ xLk xprog xcl xfty xTs xSL xTL xNW xm_178 pc e := fun h => xfind_ok (o := 16) (g := xm_178) rfl xk_178_0 h
set_option maxRecDepth 100000 in
theorem xk_179_0 : xe_179_0.all (fun q => xdecB xm_179 q.1 q.2 && xlkB 16 xm_179 q.1 q.2) = true := by decide +kernel
theorem xg_179 (pc : Nat) (e : XI) : xc_179 pc = some e → xDec xm_179 pc e ∧ xLk xprog xcl xfty xTs xSL xTL xNW xm_179 pc e := fun h => xfind_ok (o := 16) (g := xm_179) rfl xk_179_0 h
set_option maxRecDepth 100000 in
theorem xk_180_0 : xe_180_0.all (fun q => xdecB xm_180 q.1 q.2 && xlkB 16 xm_180 q.1 q.2) = true := by decide +kernel
set_option maxRecDepth 100000 in
theorem xk_180_1 : xe_180_1.all (fun q => xdecB xm_180 q.1 q.2 && xlkB 16 xm_180 q.1 q.2) = true := by decide +kernel
set_option maxRecDepth 100000 in
theorem xk_180_2 : xe_180_2.all (fun q => xdecB xm_180 q.1 q.2 && xlkB 16 xm_180 q.1 q.2) = true := by decide +kernel
set_option maxRecDepth 100000 in
theorem xk_180_3 : xe_180_3.all (fun q => xdecB xm_180 q.1 q.2 && xlkB 16 xm_180 q.1 q.2) = true := by decide +kernel
set_option maxRecDepth 100000 in
theorem xk_180_4 : xe_180_4.all (fun q => xdecB xm_180 q.1 q.2 && xlkB 16 xm_180 q.1 q.2) = true := by decide +kernel
theorem xg_180 (pc : Nat) (e : XI) : xc_180 pc = some e → xDec xm_180 pc e ∧ xLk xprog xcl xfty xTs xSL xTL xNW xm_180 pc e := fun h => xif_ok (fun h => xif_ok (fun h => xfind_ok (o := 16) (g := xm_180) rfl xk_180_0 h) (fun h => xfind_ok (o := 16) (g := xm_180) rfl xk_180_1 h) h) (fun h => xif_ok (fun h => xfind_ok (o := 16) (g := xm_180) rfl xk_180_2 h) (fun h => xif_ok (fun h => xfind_ok (o := 16) (g := xm_180) rfl xk_180_3 h) (fun h => xfind_ok (o := 16) (g := xm_180) rfl xk_180_4 h) h) h) h
set_option maxRecDepth 100000 in
theorem xk_181_0 : xe_181_0.all (fun q => xdecB xm_181 q.1 q.2 && xlkB 16 xm_181 q.1 q.2) = true := by decide +kernel
theorem xg_181 (pc : Nat) (e : XI) : xc_181 pc = some e → xDec xm_181 pc e ∧ xLk xprog xcl xfty xTs xSL xTL xNW xm_181 pc e := fun h => xfind_ok (o := 16) (g := xm_181) rfl xk_181_0 h
set_option maxRecDepth 100000 in
theorem xk_182_0 : xe_182_0.all (fun q => xdecB xm_182 q.1 q.2 && xlkB 16 xm_182 q.1 q.2) = true := by decide +kernel
theorem xg_182 (pc : Nat) (e : XI) : xc_182 pc = some e → xDec xm_182 pc e ∧ xLk xprog xcl xfty xTs xSL xTL xNW xm_182 pc e := fun h => xfind_ok (o := 16) (g := xm_182) rfl xk_182_0 h
set_option maxRecDepth 100000 in
theorem xk_183_0 : xe_183_0.all (fun q => xdecB xm_183 q.1 q.2 && xlkB 11 xm_183 q.1 q.2) = true := by decide +kernel
theorem xg_183 (pc : Nat) (e : XI) : xc_183 pc = some e → xDec xm_183 pc e ∧ xLk xprog xcl xfty xTs xSL xTL xNW xm_183 pc e := fun h => xfind_ok (o := 11) (g := xm_183) rfl xk_183_0 h
set_option maxRecDepth 100000 in
theorem xk_184_0 : xe_184_0.all (fun q => xdecB xm_184 q.1 q.2 && xlkB 15 xm_184 q.1 q.2) = true := by decide +kernel
theorem xg_184 (pc : Nat) (e : XI) : xc_184 pc = some e → xDec xm_184 pc e ∧ xLk xprog xcl xfty xTs xSL xTL xNW xm_184 pc e := fun h => xfind_ok (o := 15) (g := xm_184) rfl xk_184_0 h
set_option maxRecDepth 100000 in
theorem xk_185_0 : xe_185_0.all (fun q => xdecB xm_185 q.1 q.2 && xlkB 16 xm_185 q.1 q.2) = true := by decide +kernel
theorem xg_185 (pc : Nat) (e : XI) : xc_185 pc = some e → xDec xm_185 pc e ∧ xLk xprog xcl xfty xTs xSL xTL xNW xm_185 pc e := fun h => xfind_ok (o := 16) (g := xm_185) rfl xk_185_0 h
set_option maxRecDepth 100000 in
theorem xk_186_0 : xe_186_0.all (fun q => xdecB xm_186 q.1 q.2 && xlkB 13 xm_186 q.1 q.2) = true := by decide +kernel
set_option maxRecDepth 100000 in
theorem xk_186_1 : xe_186_1.all (fun q => xdecB xm_186 q.1 q.2 && xlkB 13 xm_186 q.1 q.2) = true := by decide +kernel
theorem xg_186 (pc : Nat) (e : XI) : xc_186 pc = some e → xDec xm_186 pc e ∧ xLk xprog xcl xfty xTs xSL xTL xNW xm_186 pc e := fun h => xif_ok (fun h => xfind_ok (o := 13) (g := xm_186) rfl xk_186_0 h) (fun h => xfind_ok (o := 13) (g := xm_186) rfl xk_186_1 h) h
set_option maxRecDepth 100000 in
theorem xk_187_0 : xe_187_0.all (fun q => xdecB xm_187 q.1 q.2 && xlkB 17 xm_187 q.1 q.2) = true := by decide +kernel
theorem xg_187 (pc : Nat) (e : XI) : xc_187 pc = some e → xDec xm_187 pc e ∧ xLk xprog xcl xfty xTs xSL xTL xNW xm_187 pc e := fun h => xfind_ok (o := 17) (g := xm_187) rfl xk_187_0 h
set_option maxRecDepth 100000 in
theorem xk_188_0 : xe_188_0.all (fun q => xdecB xm_188 q.1 q.2 && xlkB 13 xm_188 q.1 q.2) = true := by decide +kernel
theorem xg_188 (pc : Nat) (e : XI) : xc_188 pc = some e → xDec xm_188 pc e ∧ xLk xprog xcl xfty xTs xSL xTL xNW xm_188 pc e := fun h => xfind_ok (o := 13) (g := xm_188) rfl xk_188_0 h
set_option maxRecDepth 100000 in
theorem xk_189_0 : xe_189_0.all (fun q => xdecB xm_189 q.1 q.2 && xlkB 13 xm_189 q.1 q.2) = true := by decide +kernel
theorem xg_189 (pc : Nat) (e : XI) : xc_189 pc = some e → xDec xm_189 pc e ∧ xLk xprog xcl xfty xTs xSL xTL xNW xm_189 pc e := fun h => xfind_ok (o := 13) (g := xm_189) rfl xk_189_0 h
set_option maxRecDepth 100000 in
theorem xk_190_0 : xe_190_0.all (fun q => xdecB xm_190 q.1 q.2 && xlkB 13 xm_190 q.1 q.2) = true := by decide +kernel
theorem xg_190 (pc : Nat) (e : XI) : xc_190 pc = some e → xDec xm_190 pc e ∧ xLk xprog xcl xfty xTs xSL xTL xNW xm_190 pc e := fun h => xfind_ok (o := 13) (g := xm_190) rfl xk_190_0 h
