/-! the rows are looked at, 16 -/
set_option maxRecDepth 100000 in
theorem xk_216_0 : xe_216_0.all (fun q => xdecB xm_216 q.1 q.2 && xlkB 15 xm_216 q.1 q.2) = true := by decide +kernel
set_option maxRecDepth 100000 in
theorem xk_216_1 : xe_216_1.all (fun q => xdecB xm_216 q.1 q.2 && xlkB 15 xm_216 q.1 q.2) = true := by decide +kernel
theorem xg_216 (pc : Nat) (e : XI) : xc_216 pc = some e → xDec xm_216 pc e ∧ xLk xprog xcl xfty xTs xSL xTL xNW xm_216 pc e := fun h => xif_ok (fun h => xfind_ok (o := 15) (g := xm_216) rfl xk_216_0 h) (fun h => xfind_ok (o := 15) (g := xm_216) rfl xk_216_1 h) h
set_option maxRecDepth 100000 in
theorem xk_217_0 : xe_217_0.all (fun q => xdecB xm_217 q.1 q.2 && xlkB 16 xm_217 q.1 q.2) = true := by decide +kernel
set_option maxRecDepth 100000 in
theorem xk_217_1 : xe_217_1.all (fun q => xdecB xm_217 q.1 q.2 && xlkB 16 xm_217 q.1 q.2) = true := by decide +kernel
theorem xg_217 (pc : Nat) (e : XI) : xc_217 pc = some e → xDec xm_217 pc e ∧ xLk xprog xcl xfty xTs xSL xTL xNW xm_217 pc e := fun h => xif_ok (fun h => xfind_ok (o := 16) (g := xm_217) rfl xk_217_0 h) (fun h => xfind_ok (o := 16) (g := xm_217) rfl xk_217_1 h) h
set_option maxRecDepth 100000 in
theorem xk_218_0 : xe_218_0.all (fun q => xdecB xm_218 q.1 q.2 && xlkB 15 xm_218 q.1 q.2) = true := by decide +kernel
theorem xg_218 (pc : Nat) (e : XI) : xc_218 pc = some e → xDec xm_218 pc e ∧ xLk xprog xcl xfty xTs xSL xTL xNW xm_218 pc e := fun h => xfind_ok (o := 15) (g := xm_218) rfl xk_218_0 h
set_option maxRecDepth 100000 in
theorem xk_219_0 : xe_219_0.all (fun q => xdecB xm_219 q.1 q.2 && xlkB 16 xm_219 q.1 q.2) = true := by decide +kernel
theorem xg_219 (pc : Nat) (e : XI) : xc_219 pc = some e → xDec xm_219 pc e ∧ xLk xprog xcl xfty xTs xSL xTL xNW xm_219 pc e := fun h => xfind_ok (o := 16) (g := xm_219) rfl xk_219_0 h
set_option maxRecDepth 100000 in
theorem xk_220_0 : xe_220_0.all (fun q => xdecB xm_220 q.1 q.2 && xlkB 14 xm_220 q.1 q.2) = true := by decide +kernel
set_option maxRecDepth 100000 in
theorem xk_220_1 : xe_220_1.all (fun q => xdecB xm_220 q.1 q.2 && xlkB 14 xm_220 q.1 q.2) = true := by decide +kernel
theorem xg_220 (pc : Nat) (e : XI) : xc_220 pc = some e → xDec xm_220 pc e ∧ xLk xprog xcl xfty xTs xSL xTL xNW xm_220 pc e := fun h => xif_ok (fun h => xfind_ok (o := 14) (g := xm_220) rfl xk_220_0 h) (fun h => xfind_ok (o := 14) (g := xm_220) rfl xk_220_1 h) h
set_option maxRecDepth 100000 in
theorem xk_221_0 : xe_221_0.all (fun q => xdecB xm_221 q.1 q.2 && xlkB 14 xm_221 q.1 q.2) = true := by decide +kernel
set_option maxRecDepth 100000 in
theorem xk_221_1 : xe_221_1.all (fun q => xdecB xm_221 q.1 q.2 && xlkB 14 xm_221 q.1 q.2) = true := by decide +kernel
theorem xg_221 (pc : Nat) (e : XI) : xc_221 pc = some e → xDec xm_221 pc e ∧ xLk xprog xcl xfty xTs xSL xTL xNW xm_221 pc e := fun h => xif_ok (fun h => xfind_ok (o := 14) (g := xm_221) rfl xk_221_0 h) (fun h => xfind_ok (o := 14) (g := xm_221) rfl xk_221_1 h) h
set_option maxRecDepth 100000 in
theorem xk_222_0 : xe_222_0.all (fun q => xdecB xm_222 q.1 q.2 && xlkB 14 xm_222 q.1 q.2) = true := by decide +kernel
theorem xg_222 (pc : Nat) (e : XI) : xc_222 pc = some e → xDec xm_222 pc e ∧ xLk xprog xcl xfty xTs xSL xTL xNW xm_222 pc e := fun h => xfind_ok (o := 14) (g := xm_222) rfl xk_222_0 h
set_option maxRecDepth 100000 in
theorem xk_223_0 : xe_223_0.all (fun q => xdecB xm_223 q.1 q.2 && xlkB 14 xm_223 q.1 q.2) = true := by decide +kernel
set_option maxRecDepth 100000 in
theorem xk_223_1 : xe_223_1.all (fun q => xdecB xm_223 q.1 q.2 && xlkB 14 xm_223 q.1 q.2) = true := by decide +kernel
theorem xg_223 (pc : Nat) (e : XI) : xc_223 pc = some e → xDec xm_223 pc e ∧ xLk xprog xcl xfty xTs xSL xTL xNW xm_223 pc e := fun h => xif_ok (fun h => xfind_ok (o := 14) (g := xm_223) rfl xk_223_0 h) (fun h => xfind_ok (o := 14) (g := xm_223) rfl xk_223_1 h) h
set_option maxRecDepth 100000 in
theorem xk_224_0 : xe_224_0.all (fun q => xdecB xm_224 q.1 q.2 && xlkB 14 xm_224 q.1 q.2) = true := by decide +kernel
set_option maxRecDepth 100000 in
theorem xk_224_1 : xe_224_1.all (fun q => xdecB xm_224 q.1 q.2 && xlkB 14 xm_224 q.1 q.2) = true := by decide +kernel
theorem xg_224 (pc : Nat) (e : XI) : xc_224 pc = some e → xDec xm_224 pc e ∧ xLk xprog xcl xfty xTs xSL xTL xNW xm_224 pc e := fun h => xif_ok (fun h => xfind_ok (o := 14) (g := xm_224) rfl xk_224_0 h) (fun h => xfind_ok (o := 14) (g := xm_224) rfl xk_224_1 h) h
set_option maxRecDepth 100000 in
theorem xk_225_0 : xe_225_0.all (fun q => xdecB xm_225 q.1 q.2 && xlkB 15 xm_225 q.1 q.2) = true := by decide +kernel
theorem xg_225 (pc : Nat) (e : XI) : xc_225 pc = some e → xDec xm_225 pc e ∧ xLk xprog xcl xfty xTs xSL xTL xNW xm_225 pc e := fun h => xfind_ok (o := 15) (g := xm_225) rfl xk_225_0 h
