/-! the rows are looked at, 19 -/
set_option maxRecDepth 100000 in
theorem xk_257_0 : xe_257_0.all (fun q => xdecB xm_257 q.1 q.2 && xlkB 15 xm_257 q.1 q.2) = true := by decide +kernel
theorem xg_257 (pc : Nat) (e : XI) : xc_257 pc = some e → xDec xm_257 pc e ∧ xLk xprog xcl xfty xTs xSL xTL xNW xm_257 pc e := fun h => xfind_ok (o := 15) (g := xm_257) rfl xk_257_0 h
set_option maxRecDepth 100000 in
theorem xk_258_0 : xe_258_0.all (fun q => xdecB xm_258 q.1 q.2 && xlkB 16 xm_258 q.1 q.2) = true := by decide +kernel
theorem xg_258 (pc : Nat) (e : XI) : xc_258 pc = some e → xDec xm_258 pc e ∧ xLk xprog xcl xfty xTs xSL xTL xNW xm_258 pc e := fun h => xfind_ok (o := 16) (g := xm_258) rfl xk_258_0 h
set_option maxRecDepth 100000 in
theorem xk_259_0 : xe_259_0.all (fun q => xdecB xm_259 q.1 q.2 && xlkB 9 xm_259 q.1 q.2) = true := by decide +kernel
theorem xg_259 (pc : Nat) (e : XI) : xc_259 pc = some e → xDec xm_259 pc e ∧ xLk xprog xcl xfty xTs xSL xTL xNW xm_259 pc e := fun h => xfind_ok (o := 9) (g := xm_259) rfl xk_259_0 h
set_option maxRecDepth 100000 in
theorem xk_260_0 : xe_260_0.all (fun q => xdecB xm_260 q.1 q.2 && xlkB 15 xm_260 q.1 q.2) = true := by decide +kernel
theorem xg_260 (pc : Nat) (e : XI) : xc_260 pc = some e → xDec xm_260 pc e ∧ xLk xprog xcl xfty xTs xSL xTL xNW xm_260 pc e := fun h => xfind_ok (o := 15) (g := xm_260) rfl xk_260_0 h
set_option maxRecDepth 100000 in
theorem xk_261_0 : xe_261_0.all (fun q => xdecB xm_261 q.1 q.2 && xlkB 16 xm_261 q.1 q.2) = true := by decide +kernel
theorem xg_261 (pc : Nat) (e : XI) : xc_261 pc = some e → xDec xm_261 pc e ∧ xLk xprog xcl xfty xTs xSL xTL xNW xm_261 pc e := fun h => xfind_ok (o := 16) (g := xm_261) rfl xk_261_0 h
set_option maxRecDepth 100000 in
theorem xk_262_0 : xe_262_0.all (fun q => xdecB xm_262 q.1 q.2 && xlkB 16 xm_262 q.1 q.2) = true := by decide +kernel
theorem xg_262 (pc : Nat) (e : XI) : xc_262 pc = some e → xDec xm_262 pc e ∧ xLk xprog xcl xfty xTs xSL xTL xNW xm_262 pc e := fun h => xfind_ok (o := 16) (g := xm_262) rfl xk_262_0 h
set_option maxRecDepth 100000 in
theorem xk_263_0 : xe_263_0.all (fun q => xdecB xm_263 q.1 q.2 && xlkB 9 xm_263 q.1 q.2) = true := by decide +kernel
theorem xg_263 (pc : Nat) (e : XI) : xc_263 pc = some e → xDec xm_263 pc e ∧ xLk xprog xcl xfty xTs xSL xTL xNW xm_263 pc e := fun h => xfind_ok (o := 9) (g := xm_263) rfl xk_263_0 h
set_option maxRecDepth 100000 in
theorem xk_264_0 : xe_264_0.all (fun q => xdecB xm_264 q.1 q.2 && xlkB 15 xm_264 q.1 q.2) = true := by decide +kernel
set_option maxRecDepth 100000 in
theorem xk_264_1 : xe_264_1.all (fun q => xdecB xm_264 q.1 q.2 && xlkB 15 xm_264 q.1 q.2) = true := by decide +kernel
theorem xg_264 (pc : Nat) (e : XI) : xc_264 pc = some e → xDec xm_264 pc e ∧ xLk xprog xcl xfty xTs xSL xTL xNW xm_264 pc e := fun h => xif_ok (fun h => xfind_ok (o := 15) (g := xm_264) rfl xk_264_0 h) (fun h => xfind_ok (o := 15) (g := xm_264) rfl xk_264_1 h) h
set_option maxRecDepth 100000 in
theorem xk_265_0 : xe_265_0.all (fun q => xdecB xm_265 q.1 q.2 && xlkB 16 xm_265 q.1 q.2) = true := by decide +kernel
set_option maxRecDepth 100000 in
theorem xk_265_1 : xe_265_1.all (fun q => xdecB xm_265 q.1 q.2 && xlkB 16 xm_265 q.1 q.2) = true := by decide +kernel
theorem xg_265 (pc : Nat) (e : XI) : xc_265 pc = some e → xDec xm_265 pc e ∧ xLk xprog xcl xfty xTs xSL xTL xNW xm_265 pc e := fun h => xif_ok (fun h => xfind_ok (o := 16) (g := xm_265) rfl xk_265_0 h) (fun h => xfind_ok (o := 16) (g := xm_265) rfl xk_265_1 h) h
set_option maxRecDepth 100000 in
theorem xk_266_0 : xe_266_0.all (fun q => xdecB xm_266 q.1 q.2 && xlkB 15 xm_266 q.1 q.2) = true := by decide +kernel
set_option maxRecDepth 100000 in
theorem xk_266_1 : xe_266_1.all (fun q => xdecB xm_266 q.1 q.2 && xlkB 15 xm_266 q.1 q.2) = true := by decide +kernel
theorem xg_266 (pc : Nat) (e : XI) : xc_266 pc = some e → xDec xm_266 pc e ∧ xLk xprog xcl xfty xTs xSL xTL xNW xm_266 pc e := fun h => xif_ok (fun h => xfind_ok (o := 15) (g := xm_266) rfl xk_266_0 h) (fun h => xfind_ok (o := 15) (g := xm_266) rfl xk_266_1 h) h
set_option maxRecDepth 100000 in
theorem xk_267_0 : xe_267_0.all (fun q => xdecB xm_267 q.1 q.2 && xlkB 15 xm_267 q.1 q.2) = true := by decide +kernel
theorem xg_267 (pc : Nat) (e : XI) : xc_267 pc = some e → xDec xm_267 pc e ∧ xLk xprog xcl xfty xTs xSL xTL xNW xm_267 pc e := fun h => xfind_ok (o := 15) (g := xm_267) rfl xk_267_0 h
set_option maxRecDepth 100000 in
theorem xk_268_0 : xe_268_0.all (fun q => xdecB xm_268 q.1 q.2 && xlkB 16 xm_268 q.1 q.2) = true := by decide +kernel
set_option maxRecDepth 100000 in
theorem xk_268_1 : xe_268_1.all (fun q => xdecB xm_268 q.1 q.2 && xlkB 16 xm_268 q.1 q.2) = true := by decide +kernel
theorem xg_268 (pc : Nat) (e : XI) : xc_268 pc = some e → xDec xm_268 pc e ∧ xLk xprog xcl xfty xTs xSL xTL xNW xm_268 pc e := fun h => xif_ok (fun h => xfind_ok (o := 16) (g := xm_268) rfl xk_268_0 h) (fun h => xfind_ok (o := 16) (g := xm_268) rfl xk_268_1 h) h
set_option maxRecDepth 100000 in
theorem xk_269_0 : xe_269_0.all (fun q => xdecB xm_269 q.1 q.2 && xlkB 16 xm_269 q.1 q.2) = true := by decide +kernel
set_option maxRecDepth 100000 in
theorem xk_269_1 : xe_269_1.all (fun q => xdecB xm_269 q.1 q.2 && xlkB 16 xm_269 q.1 q.2) = true := by decide +kernel
theorem xg_269 (pc : Nat) (e : XI) : xc_269 pc = some e → xDec xm_269 pc e ∧ xLk xprog xcl xfty xTs xSL xTL xNW xm_269 pc e := fun h => xif_ok (fun h => xfind_ok (o := 16) (g := xm_269) rfl xk_269_0 h) (fun h => xfind_ok (o := 16) (g := xm_269) rfl xk_269_1 h) h
set_option maxRecDepth 100000 in
theorem xk_270_0 : xe_270_0.all (fun q => xdecB xm_270 q.1 q.2 && xlkB 12 xm_270 q.1 q.2) = true := by decide +kernel
theorem xg_270 (pc : Nat) (e : XI) : xc_270 pc = some e → xDec xm_270 pc e ∧ xLk xprog xcl xfty xTs xSL xTL xNW xm_270 pc e := fun h => xfind_ok (o := 12) (g := xm_270) rfl xk_270_0 h
set_option maxRecDepth 100000 in
theorem xk_271_0 : xe_271_0.all (fun q => xdecB xm_271 q.1 q.2 && xlkB 12 xm_271 q.1 q.2) = true := by decide +kernel
theorem xg_271 (pc : Nat) (e : XI) : xc_271 pc = some e → xDec xm_271 pc e ∧ xLk xprog xcl xfty xTs xSL xTL xNW xm_271 pc e := fun h => xfind_ok (o := 12) (g := xm_271) rfl xk_271_0 h
set_option maxRecDepth 100000 in
theorem xk_272_0 : xe_272_0.all (fun q => xdecB xm_272 q.1 q.2 && xlkB 15 xm_272 q.1 q.2) = true := by decide +kernel
theorem xg_272 (pc : Nat) (e : XI) : xc_272 pc = some e → xDec xm_272 pc e ∧ xLk xprog xcl xfty xTs xSL xTL xNW xm_272 pc e := fun h => xfind_ok (o := 15) (g := xm_272) rfl xk_272_0 h
set_option maxRecDepth 100000 in
theorem xk_273_0 : xe_273_0.all (fun q => xdecB xm_273 q.1 q.2 && xlkB 16 xm_273 q.1 q.2) = true := by decide +kernel
set_option maxRecDepth 100000 in
theorem xk_273_1 : xe_273_1.all (fun q => xdecB xm_273 q.1 q.2 && xlkB 16 xm_273 q.1 q.2) = true := by decide +kernel
theorem xg_273 (pc : Nat) (e : XI) : xc_273 pc = some e → xDec xm_273 pc e ∧ xLk xprog xcl xfty xTs xSL xTL xNW xm_273 pc e := fun h => xif_ok (fun h => xfind_ok (o := 16) (g := xm_273) rfl xk_273_0 h) (fun h => xfind_ok (o := 16) (g := xm_273) rfl xk_273_1 h) h
