/-! the rows are looked at, 18 -/
set_option maxRecDepth 100000 in
theorem xk_237_0 : xe_237_0.all (fun q => xdecB xm_237 q.1 q.2 && xlkB 15 xm_237 q.1 q.2) = true := by decide +kernel
theorem xg_237 (pc : Nat) (e : XI) : xc_237 pc = some e → xDec xm_237 pc e ∧ xLk xprog xcl xfty xTs xSL xTL xNW xm_237 pc e := fun h => xfind_ok (o := 15) (g := xm_237) rfl xk_237_0 h
set_option maxRecDepth 100000 in
theorem xk_238_0 : xe_238_0.all (fun q => xdecB xm_238 q.1 q.2 && xlkB 16 xm_238 q.1 q.2) = true := by decide +kernel
theorem xg_238 (pc : Nat) (e : XI) : xc_238 pc = some e → xDec xm_238 pc e ∧ xLk xprog xcl xfty xTs xSL xTL xNW xm_238 pc e := fun h => xfind_ok (o := 16) (g := xm_238) rfl xk_238_0 h
set_option maxRecDepth 100000 in
theorem xk_239_0 : xe_239_0.all (fun q => xdecB xm_239 q.1 q.2 && xlkB 16 xm_239 q.1 q.2) = true := by decide +kernel
theorem xg_239 (pc : Nat) (e : XI) : xc_239 pc = some e → xDec xm_239 pc e ∧ xLk xprog xcl xfty xTs xSL xTL xNW xm_239 pc e := fun h => xfind_ok (o := 16) (g := xm_239) rfl xk_239_0 h
set_option maxRecDepth 100000 in
theorem xk_240_0 : xe_240_0.all (fun q => xdecB xm_240 q.1 q.2 && xlkB 16 xm_240 q.1 q.2) = true := by decide +kernel
theorem xg_240 (pc : Nat) (e : XI) : xc_240 pc = some e → xDec xm_240 pc e ∧ xLk xprog xcl xfty xTs xSL xTL xNW xm_240 pc e := fun h => xfind_ok (o := 16) (g := xm_240) rfl xk_240_0 h
set_option maxRecDepth 100000 in
theorem xk_241_0 : xe_241_0.all (fun q => xdecB xm_241 q.1 q.2 && xlkB 15 xm_241 q.1 q.2) = true := by decide +kernel
set_option maxRecDepth 100000 in
theorem xk_241_1 : xe_241_1.all (fun q => xdecB xm_241 q.1 q.2 && xlkB 15 xm_241 q.1 q.2) = true := by decide +kernel
theorem xg_241 (pc : Nat) (e : XI) : xc_241 pc = some e → xDec xm_241 pc e ∧ xLk xprog xcl xfty xTs xSL xTL xNW xm_241 pc e := fun h => xif_ok (fun h => xfind_ok (o := 15) (g := xm_241) rfl xk_241_0 h) (fun h => xfind_ok (o := 15) (g := xm_241) rfl xk_241_1 h) h
set_option maxRecDepth 100000 in
theorem xk_242_0 : xe_242_0.all (fun q => xdecB xm_242 q.1 q.2 && xlkB 16 xm_242 q.1 q.2) = true := by decide +kernel
set_option maxRecDepth 100000 in
theorem xk_242_1 : xe_242_1.all (fun q => xdecB xm_242 q.1 q.2 && xlkB 16 xm_242 q.1 q.2) = true := by decide +kernel
theorem xg_242 (pc : Nat) (e : XI) : xc_242 pc = some e → xDec xm_242 pc e ∧ xLk xprog xcl xfty xTs xSL xTL xNW xm_242 pc e := fun h => xif_ok (fun h => xfind_ok (o := 16) (g := xm_242) rfl xk_242_0 h) (fun h => xfind_ok (o := 16) (g := xm_242) rfl xk_242_1 h) h
set_option maxRecDepth 100000 in
theorem xk_243_0 : xe_243_0.all (fun q => xdecB xm_243 q.1 q.2 && xlkB 15 xm_243 q.1 q.2) = true := by decide +kernel
theorem xg_243 (pc : Nat) (e : XI) : xc_243 pc = some e → xDec xm_243 pc e ∧ xLk xprog xcl xfty xTs xSL xTL xNW xm_243 pc e := fun h => xfind_ok (o := 15) (g := xm_243) rfl xk_243_0 h
set_option maxRecDepth 100000 in
theorem xk_244_0 : xe_244_0.all (fun q => xdecB xm_244 q.1 q.2 && xlkB 10 xm_244 q.1 q.2) = true := by decide +kernel
theorem xg_244 (pc : Nat) (e : XI) : xc_244 pc = some e → xDec xm_244 pc e ∧ xLk xprog xcl xfty xTs xSL xTL xNW xm_244 pc e := fun h => xfind_ok (o := 10) (g := xm_244) rfl xk_244_0 h
set_option maxRecDepth 100000 in
theorem xk_245_0 : xe_245_0.all (fun q => xdecB xm_245 q.1 q.2 && xlkB 18 xm_245 q.1 q.2) = true := by decide +kernel
set_option maxRecDepth 100000 in
theorem xk_245_1 : xe_245_1.all (fun q => xdecB xm_245 q.1 q.2 && xlkB 18 xm_245 q.1 q.2) = true := by decide +kernel
theorem xg_245 (pc : Nat) (e : XI) : xc_245 pc = some e → xDec xm_245 pc e ∧ xLk xprog xcl xfty xTs xSL xTL xNW xm_245 pc e := fun h => xif_ok (fun h => xfind_ok (o := 18) (g := xm_245) rfl xk_245_0 h) (fun h => xfind_ok (o := 18) (g := xm_245) rfl xk_245_1 h) h
set_option maxRecDepth 100000 in
theorem xk_246_0 : xe_246_0.all (fun q => xdecB xm_246 q.1 q.2 && xlkB 15 xm_246 q.1 q.2) = true := by decide +kernel
theorem xg_246 (pc : Nat) (e : XI) : xc_246 pc = some e → xDec xm_246 pc e ∧ xLk xprog xcl xfty xTs xSL xTL xNW xm_246 pc e := fun h => xfind_ok (o := 15) (g := xm_246) rfl xk_246_0 h
set_option maxRecDepth 100000 in
theorem xk_247_0 : xe_247_0.all (fun q => xdecB xm_247 q.1 q.2 && xlkB 16 xm_247 q.1 q.2) = true := by decide +kernel
theorem xg_247 (pc : Nat) (e : XI) : xc_247 pc = some e → xDec xm_247 pc e ∧ xLk xprog xcl xfty xTs xSL xTL xNW xm_247 pc e := fun h => xfind_ok (o := 16) (g := xm_247) rfl xk_247_0 h
set_option maxRecDepth 100000 in
theorem xk_248_0 : xe_248_0.all (fun q => xdecB xm_248 q.1 q.2 && xlkB 16 xm_248 q.1 q.2) = true := by decide +kernel
theorem xg_248 (pc : Nat) (e : XI) : xc_248 pc = some e → xDec xm_248 pc e ∧ xLk xprog xcl xfty xTs xSL xTL xNW xm_248 pc e := fun h => xfind_ok (o := 16) (g := xm_248) rfl xk_248_0 h
set_option maxRecDepth 100000 in
theorem xk_249_0 : xe_249_0.all (fun q => xdecB xm_249 q.1 q.2 && xlkB 16 xm_249 q.1 q.2) = true := by decide +kernel
theorem xg_249 (pc : Nat) (e : XI) : xc_249 pc = some e → xDec xm_249 pc e ∧ xLk xprog xcl xfty xTs xSL xTL xNW xm_249 pc e := fun h => xfind_ok (o := 16) (g := xm_249) rfl xk_249_0 h
set_option maxRecDepth 100000 in
theorem xk_250_0 : xe_250_0.all (fun q => xdecB xm_250 q.1 q.2 && xlkB 16 xm_250 q.1 q.2) = true := by decide +kernel
theorem xg_250 (pc : Nat) (e : XI) : xc_250 pc = some e → xDec xm_250 pc e ∧ xLk xprog xcl xfty xTs xSL xTL xNW xm_250 pc e := fun h => xfind_ok (o := 16) (g := xm_250) rfl xk_250_0 h
set_option maxRecDepth 100000 in
theorem xk_251_0 : xe_251_0.all (fun q => xdecB xm_251 q.1 q.2 && xlkB 10 xm_251 q.1 q.2) = true := by decide +kernel
theorem xg_251 (pc : Nat) (e : XI) : xc_251 pc = some e → xDec xm_251 pc e ∧ xLk xprog xcl xfty xTs xSL xTL xNW xm_251 pc e := fun h => xfind_ok (o := 10) (g := xm_251) rfl xk_251_0 h
set_option maxRecDepth 100000 in
theorem xk_252_0 : xe_252_0.all (fun q => xdecB xm_252 q.1 q.2 && xlkB 15 xm_252 q.1 q.2) = true := by decide +kernel
theorem xg_252 (pc : Nat) (e : XI) : xc_252 pc = some e → xDec xm_252 pc e ∧ xLk xprog xcl xfty xTs xSL xTL xNW xm_252 pc e := fun h => xfind_ok (o := 15) (g := xm_252) rfl xk_252_0 h
set_option maxRecDepth 100000 in
theorem xk_253_0 : xe_253_0.all (fun q => xdecB xm_253 q.1 q.2 && xlkB 16 xm_253 q.1 q.2) = true := by decide +kernel
theorem xg_253 (pc : Nat) (e : XI) : xc_253 pc = some e → xDec xm_253 pc e ∧ xLk xprog xcl xfty xTs xSL xTL xNW xm_253 pc e := fun h => xfind_ok (o := 16) (g := xm_253) rfl xk_253_0 h
set_option maxRecDepth 100000 in
theorem xk_254_0 : xe_254_0.all (fun q => xdecB xm_254 q.1 q.2 && xlkB 16 xm_254 q.1 q.2) = true := by decide +kernel
theorem xg_254 (pc : Nat) (e : XI) : xc_254 pc = some e → xDec xm_254 pc e ∧ xLk xprog xcl xfty xTs xSL xTL xNW xm_254 pc e := fun h => xfind_ok (o := 16) (g := xm_254) rfl xk_254_0 h
set_option maxRecDepth 100000 in
theorem xk_255_0 : xe_255_0.all (fun q => xdecB xm_255 q.1 q.2 && xlkB 15 xm_255 q.1 q.2) = true := by decide +kernel
theorem xg_255 (pc : Nat) (e : XI) : xc_255 pc = some e → xDec xm_255 pc e ∧ xLk xprog xcl xfty xTs xSL xTL xNW xm_255 pc e := fun h => xfind_ok (o := 15) (g := xm_255) rfl xk_255_0 h
set_option maxRecDepth 100000 in
theorem xk_256_0 : xe_256_0.all (fun q => xdecB xm_256 q.1 q.2 && xlkB 16 xm_256 q.1 q.2) = true := by decide +kernel
theorem xg_256 (pc : Nat) (e : XI) : xc_256 pc = some e → xDec xm_256 pc e ∧ xLk xprog xcl xfty xTs xSL xTL xNW xm_256 pc e := fun h => xfind_ok (o := 16) (g := xm_256) rfl xk_256_0 h
