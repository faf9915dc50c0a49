/-! the rows are looked at, 20 -/
set_option maxRecDepth 100000 in
theorem xk_274_0 : xe_274_0.all (fun q => xdecB xm_274 q.1 q.2 && xlkB 15 xm_274 q.1 q.2) = true := by decide +kernel
theorem xg_274 (pc : Nat) (e : XI) : xc_274 pc = some e → xDec xm_274 pc e ∧ xLk xprog xcl xfty xTs xSL xTL xNW xm_274 pc e := fun h => xfind_ok (o := 15) (g := xm_274) rfl xk_274_0 h
set_option maxRecDepth 100000 in
theorem xk_275_0 : xe_275_0.all (fun q => xdecB xm_275 q.1 q.2 && xlkB 16 xm_275 q.1 q.2) = true := by decide +kernel
theorem xg_275 (pc : Nat) (e : XI) : xc_275 pc = some e → xDec xm_275 pc e ∧ xLk xprog xcl xfty xTs xSL xTL xNW xm_275 pc e := fun h => xfind_ok (o := 16) (g := xm_275) rfl xk_275_0 h
set_option maxRecDepth 100000 in
theorem xk_276_0 : xe_276_0.all (fun q => xdecB xm_276 q.1 q.2 && xlkB 12 xm_276 q.1 q.2) = true := by decide +kernel
theorem xg_276 (pc : Nat) (e : XI) : xc_276 pc = some e → xDec xm_276 pc e ∧ xLk xprog xcl xfty xTs xSL xTL xNW xm_276 pc e := fun h => xfind_ok (o := 12) (g := xm_276) rfl xk_276_0 h
set_option maxRecDepth 100000 in
theorem xk_277_0 : xe_277_0.all (fun q => xdecB xm_277 q.1 q.2 && xlkB 12 xm_277 q.1 q.2) = true := by decide +kernel
set_option maxRecDepth 100000 in
theorem xk_277_1 : xe_277_1.all (fun q => xdecB xm_277 q.1 q.2 && xlkB 12 xm_277 q.1 q.2) = true := by decide +kernel
theorem xg_277 (pc : Nat) (e : XI) : xc_277 pc = some e → xDec xm_277 pc e ∧ xLk xprog xcl xfty xTs xSL xTL xNW xm_277 pc e := fun h => xif_ok (fun h => xfind_ok (o := 12) (g := xm_277) rfl xk_277_0 h) (fun h => xfind_ok (o := 12) (g := xm_277) rfl xk_277_1 h) h
set_option maxRecDepth 100000 in
theorem xk_278_0 : xe_278_0.all (fun q => xdecB xm_278 q.1 q.2 && xlkB 15 xm_278 q.1 q.2) = true := by decide +kernel
theorem xg_278 (pc : Nat) (e : XI) : xc_278 pc = some e → xDec xm_278 pc e ∧ xLk xprog xcl xfty xTs xSL xTL xNW xm_278 pc e := fun h => xfind_ok (o := 15) (g := xm_278) rfl xk_278_0 h
set_option maxRecDepth 100000 in
theorem xk_279_0 : xe_279_0.all (fun q => xdecB xm_279 q.1 q.2 && xlkB 16 xm_279 q.1 q.2) = true := by decide +kernel
theorem xg_279 (pc : Nat) (e : XI) : xc_279 pc = some e → xDec xm_279 pc e ∧ xLk xprog xcl xfty xTs xSL xTL xNW xm_279 pc e := fun h => xfind_ok (o := 16) (g := xm_279) rfl xk_279_0 h
set_option maxRecDepth 100000 in
theorem xk_280_0 : xe_280_0.all (fun q => xdecB xm_280 q.1 q.2 && xlkB 16 xm_280 q.1 q.2) = true := by decide +kernel
set_option maxRecDepth 100000 in
theorem xk_280_1 : xe_280_1.all (fun q => xdecB xm_280 q.1 q.2 && xlkB 16 xm_280 q.1 q.2) = true := by decide +kernel
theorem xg_280 (pc : Nat) (e : XI) : xc_280 pc = some e → xDec xm_280 pc e ∧ xLk xprog xcl xfty xTs xSL xTL xNW xm_280 pc e := fun h => xif_ok (fun h => xfind_ok (o := 16) (g := xm_280) rfl xk_280_0 h) (fun h => xfind_ok (o := 16) (g := xm_280) rfl xk_280_1 h) h
set_option maxRecDepth 100000 in
theorem xk_281_0 : xe_281_0.all (fun q => xdecB xm_281 q.1 q.2 && xlkB 16 xm_281 q.1 q.2) = true := by decide +kernel
theorem xg_281 (pc : Nat) (e : XI) : xc_281 pc = some e → xDec xm_281 pc e ∧ xLk xprog xcl xfty xTs xSL xTL xNW xm_281 pc e := fun h => xfind_ok (o := 16) (g := xm_281) rfl xk_281_0 h
set_option maxRecDepth 100000 in
theorem xk_282_0 : xe_282_0.all (fun q => xdecB xm_282 q.1 q.2 && xlkB 12 xm_282 q.1 q.2) = true := by decide +kernel
set_option maxRecDepth 100000 in
theorem xk_282_1 : xe_282_1.all (fun q => xdecB xm_282 q.1 q.2 && xlkB 12 xm_282 q.1 q.2) = true := by decide +kernel
theorem xg_282 (pc : Nat) (e : XI) : xc_282 pc = some e → xDec xm_282 pc e ∧ xLk xprog xcl xfty xTs xSL xTL xNW xm_282 pc e := fun h => xif_ok (fun h => xfind_ok (o := 12) (g := xm_282) rfl xk_282_0 h) (fun h => xfind_ok (o := 12) (g := xm_282) rfl xk_282_1 h) h
set_option maxRecDepth 100000 in
theorem xk_283_0 : xe_283_0.all (fun q => xdecB xm_283 q.1 q.2 && xlkB 15 xm_283 q.1 q.2) = true := by decide +kernel
theorem xg_283 (pc : Nat) (e : XI) : xc_283 pc = some e → xDec xm_283 pc e ∧ xLk xprog xcl xfty xTs xSL xTL xNW xm_283 pc e := fun h => xfind_ok (o := 15) (g := xm_283) rfl xk_283_0 h
set_option maxRecDepth 100000 in
theorem xk_284_0 : xe_284_0.all (fun q => xdecB xm_284 q.1 q.2 && xlkB 16 xm_284 q.1 q.2) = true := by decide +kernel
set_option maxRecDepth 100000 in
theorem xk_284_1 : xe_284_1.all (fun q => xdecB xm_284 q.1 q.2 && xlkB 16 xm_284 q.1 q.2) = true := by decide +kernel
set_option maxRecDepth 100000 in
theorem xk_284_2 : xe_284_2.all (fun q => xdecB xm_284 q.1 q.2 && xlkB 16 xm_284 q.1 q.2) = true := by decide +kernel
theorem xg_284 (pc : Nat) (e : XI) : xc_284 pc = some e → xDec xm_284 pc e ∧ xLk xprog xcl xfty xTs xSL xTL xNW xm_284 pc e := fun h => xif_ok (fun h => xfind_ok (o := 16) (g := xm_284) rfl xk_284_0 h) (fun h => xif_ok (fun h => xfind_ok (o := 16) (g := xm_284) rfl xk_284_1 h) (fun h => xfind_ok (o := 16) (g := xm_284) rfl xk_284_2 h) h) h
set_option maxRecDepth 100000 in
theorem xk_285_0 : xe_285_0.all (fun q => xdecB xm_285 q.1 q.2 && xlkB 15 xm_285 q.1 q.2) = true := by decide +kernel
theorem xg_285 (pc : Nat) (e : XI) : xc_285 pc = some e → xDec xm_285 pc e ∧ xLk xprog xcl xfty xTs xSL xTL xNW xm_285 pc e := fun h => xfind_ok (o := 15) (g := xm_285) rfl xk_285_0 h
set_option maxRecDepth 100000 in
theorem xk_286_0 : xe_286_0.all (fun q => xdecB xm_286 q.1 q.2 && xlkB 16 xm_286 q.1 q.2) = true := by decide +kernel
theorem xg_286 (pc : Nat) (e : XI) : xc_286 pc = some e → xDec xm_286 pc e ∧ xLk xprog xcl xfty xTs xSL xTL xNW xm_286 pc e := fun h => xfind_ok (o := 16) (g := xm_286) rfl xk_286_0 h
set_option maxRecDepth 100000 in
theorem xk_287_0 : xe_287_0.all (fun q => xdecB xm_287 q.1 q.2 && xlkB 15 xm_287 q.1 q.2) = true := by decide +kernel
theorem xg_287 (pc : Nat) (e : XI) : xc_287 pc = some e → xDec xm_287 pc e ∧ xLk xprog xcl xfty xTs xSL xTL xNW xm_287 pc e := fun h => xfind_ok (o := 15) (g := xm_287) rfl xk_287_0 h
set_option maxRecDepth 100000 in
theorem xk_288_0 : xe_288_0.all (fun q => xdecB xm_288 q.1 q.2 && xlkB 16 xm_288 q.1 q.2) = true := by decide +kernel
theorem xg_288 (pc : Nat) (e : XI) : xc_288 pc = some e → xDec xm_288 pc e ∧ xLk xprog xcl xfty xTs xSL xTL xNW xm_288 pc e := fun h => xfind_ok (o := 16) (g := xm_288) rfl xk_288_0 h
set_option maxRecDepth 100000 in
theorem xk_289_0 : xe_289_0.all (fun q => xdecB xm_289 q.1 q.2 && xlkB 10 xm_289 q.1 q.2) = true := by decide +kernel
theorem xg_289 (pc : Nat) (e : XI) : xc_289 pc = some e → xDec xm_289 pc e ∧ xLk xprog xcl xfty xTs xSL xTL xNW xm_289 pc e := fun h => xfind_ok (o := 10) (g := xm_289) rfl xk_289_0 h
set_option maxRecDepth 100000 in
theorem xk_290_0 : xe_290_0.all (fun q => xdecB xm_290 q.1 q.2 && xlkB 10 xm_290 q.1 q.2) = true := by decide +kernel
theorem xg_290 (pc : Nat) (e : XI) : xc_290 pc = some e → xDec xm_290 pc e ∧ xLk xprog xcl xfty xTs xSL xTL xNW xm_290 pc e := fun h => xfind_ok (o := 10) (g := xm_290) rfl xk_290_0 h
