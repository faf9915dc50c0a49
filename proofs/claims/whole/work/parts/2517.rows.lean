/-! the rows are looked at, 17 -/
set_option maxRecDepth 100000 in
theorem xk_226_0 : xe_226_0.all (fun q => xdecB xm_226 q.1 q.2 && xlkB 16 xm_226 q.1 q.2) = true := by decide +kernel
set_option maxRecDepth 100000 in
theorem xk_226_1 : xe_226_1.all (fun q => xdecB xm_226 q.1 q.2 && xlkB 16 xm_226 q.1 q.2) = true := by decide +kernel
set_option maxRecDepth 100000 in
theorem xk_226_2 : xe_226_2.all (fun q => xdecB xm_226 q.1 q.2 && xlkB 16 xm_226 q.1 q.2) = true := by decide +kernel
theorem xg_226 (pc : Nat) (e : XI) : xc_226 pc = some e → xDec xm_226 pc e ∧ xLk xprog xcl xfty xTs xSL xTL xNW xm_226 pc e := fun h => xif_ok (fun h => xfind_ok (o := 16) (g := xm_226) rfl xk_226_0 h) (fun h => xif_ok (fun h => xfind_ok (o := 16) (g := xm_226) rfl xk_226_1 h) (fun h => xfind_ok (o := 16) (g := xm_226) rfl xk_226_2 h) h) h
set_option maxRecDepth 100000 in
theorem xk_227_0 : xe_227_0.all (fun q => xdecB xm_227 q.1 q.2 && xlkB 16 xm_227 q.1 q.2) = true := by decide +kernel
set_option maxRecDepth 100000 in
theorem xk_227_1 : xe_227_1.all (fun q => xdecB xm_227 q.1 q.2 && xlkB 16 xm_227 q.1 q.2) = true := by decide +kernel
theorem xg_227 (pc : Nat) (e : XI) : xc_227 pc = some e → xDec xm_227 pc e ∧ xLk xprog xcl xfty xTs xSL xTL xNW xm_227 pc e := fun h => xif_ok (fun h => xfind_ok (o := 16) (g := xm_227) rfl xk_227_0 h) (fun h => xfind_ok (o := 16) (g := xm_227) rfl xk_227_1 h) h
set_option maxRecDepth 100000 in
theorem xk_228_0 : xe_228_0.all (fun q => xdecB xm_228 q.1 q.2 && xlkB 14 xm_228 q.1 q.2) = true := by decide +kernel
set_option maxRecDepth 100000 in
theorem xk_228_1 : xe_228_1.all (fun q => xdecB xm_228 q.1 q.2 && xlkB 14 xm_228 q.1 q.2) = true := by decide +kernel
theorem xg_228 (pc : Nat) (e : XI) : xc_228 pc = some e → xDec xm_228 pc e ∧ xLk xprog xcl xfty xTs xSL xTL xNW xm_228 pc e := fun h => xif_ok (fun h => xfind_ok (o := 14) (g := xm_228) rfl xk_228_0 h) (fun h => xfind_ok (o := 14) (g := xm_228) rfl xk_228_1 h) h
set_option maxRecDepth 100000 in
theorem xk_229_0 : xe_229_0.all (fun q => xdecB xm_229 q.1 q.2 && xlkB 15 xm_229 q.1 q.2) = true := by decide +kernel
theorem xg_229 (pc : Nat) (e : XI) : xc_229 pc = some e → xDec xm_229 pc e ∧ xLk xprog xcl xfty xTs xSL xTL xNW xm_229 pc e := fun h => xfind_ok (o := 15) (g := xm_229) rfl xk_229_0 h
set_option maxRecDepth 100000 in
theorem xk_230_0 : xe_230_0.all (fun q => xdecB xm_230 q.1 q.2 && xlkB 16 xm_230 q.1 q.2) = true := by decide +kernel
set_option maxRecDepth 100000 in
theorem xk_230_1 : xe_230_1.all (fun q => xdecB xm_230 q.1 q.2 && xlkB 16 xm_230 q.1 q.2) = true := by decide +kernel
theorem xg_230 (pc : Nat) (e : XI) : xc_230 pc = some e → xDec xm_230 pc e ∧ xLk xprog xcl xfty xTs xSL xTL xNW xm_230 pc e := fun h => xif_ok (fun h => xfind_ok (o := 16) (g := xm_230) rfl xk_230_0 h) (fun h => xfind_ok (o := 16) (g := xm_230) rfl xk_230_1 h) h
set_option maxRecDepth 100000 in
theorem xk_231_0 : xe_231_0.all (fun q => xdecB xm_231 q.1 q.2 && xlkB 15 xm_231 q.1 q.2) = true := by decide +kernel
theorem xg_231 (pc : Nat) (e : XI) : xc_231 pc = some e → xDec xm_231 pc e ∧ xLk xprog xcl xfty xTs xSL xTL xNW xm_231 pc e := fun h => xfind_ok (o := 15) (g := xm_231) rfl xk_231_0 h
set_option maxRecDepth 100000 in
theorem xk_232_0 : xe_232_0.all (fun q => xdecB xm_232 q.1 q.2 && xlkB 15 xm_232 q.1 q.2) = true := by decide +kernel
theorem xg_232 (pc : Nat) (e : XI) : xc_232 pc = some e → xDec xm_232 pc e ∧ xLk xprog xcl xfty xTs xSL xTL xNW xm_232 pc e := fun h => xfind_ok (o := 15) (g := xm_232) rfl xk_232_0 h
set_option maxRecDepth 100000 in
theorem xk_233_0 : xe_233_0.all (fun q => xdecB xm_233 q.1 q.2 && xlkB 16 xm_233 q.1 q.2) = true := by decide +kernel
set_option maxRecDepth 100000 in
theorem xk_233_1 : xe_233_1.all (fun q => xdecB xm_233 q.1 q.2 && xlkB 16 xm_233 q.1 q.2) = true := by decide +kernel
theorem xg_233 (pc : Nat) (e : XI) : xc_233 pc = some e → xDec xm_233 pc e ∧ xLk xprog xcl xfty xTs xSL xTL xNW xm_233 pc e := fun h => xif_ok (fun h => xfind_ok (o := 16) (g := xm_233) rfl xk_233_0 h) (fun h => xfind_ok (o := 16) (g := xm_233) rfl xk_233_1 h) h
set_option maxRecDepth 100000 in
theorem xk_234_0 : xe_234_0.all (fun q => xdecB xm_234 q.1 q.2 && xlkB 15 xm_234 q.1 q.2) = true := by decide +kernel
theorem xg_234 (pc : Nat) (e : XI) : xc_234 pc = some e → xDec xm_234 pc e ∧ xLk xprog xcl xfty xTs xSL xTL xNW xm_234 pc e := fun h => xfind_ok (o := 15) (g := xm_234) rfl xk_234_0 h
set_option maxRecDepth 100000 in
theorem xk_235_0 : xe_235_0.all (fun q => xdecB xm_235 q.1 q.2 && xlkB 16 xm_235 q.1 q.2) = true := by decide +kernel
set_option maxRecDepth 100000 in
theorem xk_235_1 : xe_235_1.all (fun q => xdecB xm_235 q.1 q.2 && xlkB 16 xm_235 q.1 q.2) = true := by decide +kernel
theorem xg_235 (pc : Nat) (e : XI) : xc_235 pc = some e → xDec xm_235 pc e ∧ xLk xprog xcl xfty xTs xSL xTL xNW xm_235 pc e := fun h => xif_ok (fun h => xfind_ok (o := 16) (g := xm_235) rfl xk_235_0 h) (fun h => xfind_ok (o := 16) (g := xm_235) rfl xk_235_1 h) h
set_option maxRecDepth 100000 in
theorem xk_236_0 : xe_236_0.all (fun q => xdecB xm_236 q.1 q.2 && xlkB 15 xm_236 q.1 q.2) = true := by decide +kernel
theorem xg_236 (pc : Nat) (e : XI) : xc_236 pc = some e → xDec xm_236 pc e ∧ xLk xprog xcl xfty xTs xSL xTL xNW xm_236 pc e := fun h => xfind_ok (o := 15) (g := xm_236) rfl xk_236_0 h
