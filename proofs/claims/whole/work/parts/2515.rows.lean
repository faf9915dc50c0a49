/-! the rows are looked at, 15 -/
set_option maxRecDepth 100000 in
theorem xk_205_0 : xe_205_0.all (fun q => xdecB xm_205 q.1 q.2 && xlkB 13 xm_205 q.1 q.2) = true := by decide +kernel
set_option maxRecDepth 100000 in
theorem xk_205_1 : xe_205_1.all (fun q => xdecB xm_205 q.1 q.2 && xlkB 13 xm_205 q.1 q.2) = true := by decide +kernel
theorem xg_205 (pc : Nat) (e : XI) : xc_205 pc = some e → xDec xm_205 pc e ∧ xLk xprog xcl xfty xTs xSL xTL xNW xm_205 pc e := fun h => xif_ok (fun h => xfind_ok (o := 13) (g := xm_205) rfl xk_205_0 h) (fun h => xfind_ok (o := 13) (g := xm_205) rfl xk_205_1 h) h
set_option maxRecDepth 100000 in
theorem xk_206_0 : xe_206_0.all (fun q => xdecB xm_206 q.1 q.2 && xlkB 13 xm_206 q.1 q.2) = true := by decide +kernel
set_option maxRecDepth 100000 in
theorem xk_206_1 : xe_206_1.all (fun q => xdecB xm_206 q.1 q.2 && xlkB 13 xm_206 q.1 q.2) = true := by decide +kernel
theorem xg_206 (pc : Nat) (e : XI) : xc_206 pc = some e → xDec xm_206 pc e ∧ xLk xprog xcl xfty xTs xSL xTL xNW xm_206 pc e := fun h => xif_ok (fun h => xfind_ok (o := 13) (g := xm_206) rfl xk_206_0 h) (fun h => xfind_ok (o := 13) (g := xm_206) rfl xk_206_1 h) h
set_option maxRecDepth 100000 in
theorem xk_207_0 : xe_207_0.all (fun q => xdecB xm_207 q.1 q.2 && xlkB 15 xm_207 q.1 q.2) = true := by decide +kernel
theorem xg_207 (pc : Nat) (e : XI) : xc_207 pc = some e → xDec xm_207 pc e ∧ xLk xprog xcl xfty xTs xSL xTL xNW xm_207 pc e := fun h => xfind_ok (o := 15) (g := xm_207) rfl xk_207_0 h
set_option maxRecDepth 100000 in
theorem xk_208_0 : xe_208_0.all (fun q => xdecB xm_208 q.1 q.2 && xlkB 16 xm_208 q.1 q.2) = true := by decide +kernel
theorem xg_208 (pc : Nat) (e : XI) : xc_208 pc = some e → xDec xm_208 pc e ∧ xLk xprog xcl xfty xTs xSL xTL xNW xm_208 pc e := fun h => xfind_ok (o := 16) (g := xm_208) rfl xk_208_0 h
set_option maxRecDepth 100000 in
theorem xk_209_0 : xe_209_0.all (fun q => xdecB xm_209 q.1 q.2 && xlkB 16 xm_209 q.1 q.2) = true := by decide +kernel
set_option maxRecDepth 100000 in
theorem xk_209_1 : xe_209_1.all (fun q => xdecB xm_209 q.1 q.2 && xlkB 16 xm_209 q.1 q.2) = true := by decide +kernel
theorem xg_209 (pc : Nat) (e : XI) : xc_209 pc = some e → xDec xm_209 pc e ∧ xLk xprog xcl xfty xTs xSL xTL xNW xm_209 pc e := fun h => xif_ok (fun h => xfind_ok (o := 16) (g := xm_209) rfl xk_209_0 h) (fun h => xfind_ok (o := 16) (g := xm_209) rfl xk_209_1 h) h
set_option maxRecDepth 100000 in
theorem xk_210_0 : xe_210_0.all (fun q => xdecB xm_210 q.1 q.2 && xlkB 16 xm_210 q.1 q.2) = true := by decide +kernel
set_option maxRecDepth 100000 in
theorem xk_210_1 : xe_210_1.all (fun q => xdecB xm_210 q.1 q.2 && xlkB 16 xm_210 q.1 q.2) = true := by decide +kernel
theorem xg_210 (pc : Nat) (e : XI) : xc_210 pc = some e → xDec xm_210 pc e ∧ xLk xprog xcl xfty xTs xSL xTL xNW xm_210 pc e := fun h => xif_ok (fun h => xfind_ok (o := 16) (g := xm_210) rfl xk_210_0 h) (fun h => xfind_ok (o := 16) (g := xm_210) rfl xk_210_1 h) h
set_option maxRecDepth 100000 in
theorem xk_211_0 : xe_211_0.all (fun q => xdecB xm_211 q.1 q.2 && xlkB 16 xm_211 q.1 q.2) = true := by decide +kernel
set_option maxRecDepth 100000 in
theorem xk_211_1 : xe_211_1.all (fun q => xdecB xm_211 q.1 q.2 && xlkB 16 xm_211 q.1 q.2) = true := by decide +kernel
theorem xg_211 (pc : Nat) (e : XI) : xc_211 pc = some e → xDec xm_211 pc e ∧ xLk xprog xcl xfty xTs xSL xTL xNW xm_211 pc e := fun h => xif_ok (fun h => xfind_ok (o := 16) (g := xm_211) rfl xk_211_0 h) (fun h => xfind_ok (o := 16) (g := xm_211) rfl xk_211_1 h) h
set_option maxRecDepth 100000 in
theorem xk_212_0 : xe_212_0.all (fun q => xdecB xm_212 q.1 q.2 && xlkB 15 xm_212 q.1 q.2) = true := by decide +kernel
set_option maxRecDepth 100000 in
theorem xk_212_1 : xe_212_1.all (fun q => xdecB xm_212 q.1 q.2 && xlkB 15 xm_212 q.1 q.2) = true := by decide +kernel
theorem xg_212 (pc : Nat) (e : XI) : xc_212 pc = some e → xDec xm_212 pc e ∧ xLk xprog xcl xfty xTs xSL xTL xNW xm_212 pc e := fun h => xif_ok (fun h => xfind_ok (o := 15) (g := xm_212) rfl xk_212_0 h) (fun h => xfind_ok (o := 15) (g := xm_212) rfl xk_212_1 h) h
set_option maxRecDepth 100000 in
theorem xk_213_0 : xe_213_0.all (fun q => xdecB xm_213 q.1 q.2 && xlkB 15 xm_213 q.1 q.2) = true := by decide +kernel
set_option maxRecDepth 100000 in
theorem xk_213_1 : xe_213_1.all (fun q => xdecB xm_213 q.1 q.2 && xlkB 15 xm_213 q.1 q.2) = true := by decide +kernel
theorem xg_213 (pc : Nat) (e : XI) : xc_213 pc = some e → xDec xm_213 pc e ∧ xLk xprog xcl xfty xTs xSL xTL xNW xm_213 pc e := fun h => xif_ok (fun h => xfind_ok (o := 15) (g := xm_213) rfl xk_213_0 h) (fun h => xfind_ok (o := 15) (g := xm_213) rfl xk_213_1 h) h
set_option maxRecDepth 100000 in
theorem xk_214_0 : xe_214_0.all (fun q => xdecB xm_214 q.1 q.2 && xlkB 16 xm_214 q.1 q.2) = true := by decide +kernel
set_option maxRecDepth 100000 in
theorem xk_214_1 : xe_214_1.all (fun q => xdecB xm_214 q.1 q.2 && xlkB 16 xm_214 q.1 q.2) = true := by decide +kernel
theorem xg_214 (pc : Nat) (e : XI) : xc_214 pc = some e → xDec xm_214 pc e ∧ xLk xprog xcl xfty xTs xSL xTL xNW xm_214 pc e := fun h => xif_ok (fun h => xfind_ok (o := 16) (g := xm_214) rfl xk_214_0 h) (fun h => xfind_ok (o := 16) (g := xm_214) rfl xk_214_1 h) h
set_option maxRecDepth 100000 in
theorem xk_215_0 : xe_215_0.all (fun q => xdecB xm_215 q.1 q.2 && xlkB 16 xm_215 q.1 q.2) = true := by decide +kernel
set_option maxRecDepth 100000 in
theorem xk_215_1 : xe_215_1.all (fun q => xdecB xm_215 q.1 q.2 && xlkB 16 xm_215 q.1 q.2) = true := by decide +kernel
theorem xg_215 (pc : Nat) (e : XI) : xc_215 pc = some e → xDec xm_215 pc e ∧ xLk xprog xcl xfty xTs xSL xTL xNW xm_215 pc e := fun h => xif_ok (fun h => xfind_ok (o := 16) (g := xm_215) rfl xk_215_0 h) (fun h => xfind_ok (o := 16) (g := xm_215) rfl xk_215_1 h) h
