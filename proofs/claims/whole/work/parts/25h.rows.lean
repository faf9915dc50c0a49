/-! the rows are looked at, 7 -/
set_option maxRecDepth 100000 in
theorem xk_231_0 : xe_231_0.all (fun q => xdecB xm_231 q.1 q.2 && xlkB 15 xm_231 q.1 q.2) = true := by decide +kernel
theorem xg_231 (pc : Nat) (e : XI) : xc_231 pc = some e → xDec xm_231 pc e ∧ xLk xprog xcl xfty xTs xSL xTL xNW xm_231 pc e := fun h => xfind_ok (o := 15) (g := xm_231) rfl xk_231_0 h
set_option maxRecDepth 100000 in
theorem xk_232_0 : xe_232_0.all (fun q => xdecB xm_232 q.1 q.2 && xlkB 15 xm_232 q.1 q.2) = true := by decide +kernel
theorem xg_232 (pc : Nat) (e : XI) : xc_232 pc = some e → xDec xm_232 pc e ∧ xLk xprog xcl xfty xTs xSL xTL xNW xm_232 pc e := fun h => xfind_ok (o := 15) (g := xm_232) rfl xk_232_0 h
set_option maxRecDepth 100000 in
theorem xk_233_0 : xe_233_0.all (fun q => xdecB xm_233 q.1 q.2 && xlkB 16 xm_233 q.1 q.2) = true := by decide +kernel
set_option maxRecDepth 100000 in
theorem xk_233_1 : xe_233_1.all (fun q => xdecB xm_233 q.1 q.2 && xlkB 16 xm_233 q.1 q.2) = true := by decide +kernel
theorem xg_233 (pc : Nat) (e : XI) : xc_233 pc = some e → xDec xm_233 pc e ∧ xLk xprog xcl xfty xTs xSL xTL xNW xm_233 pc e := fun h => xif_ok (fun h => xfind_ok (o := 16) (g := xm_233) rfl xk_233_0 h) (fun h => xfind_ok (o := 16) (g := xm_233) rfl xk_233_1 h) h
set_option maxRecDepth 100000 in
theorem xk_234_0 : xe_234_0.all (fun q => xdecB xm_234 q.1 q.2 && xlkB 15 xm_234 q.1 q.2) = true := by decide +kernel
theorem xg_234 (pc : Nat) (e : XI) : xc_234 pc = some e → xDec xm_234 pc e ∧ xLk xprog xcl xfty xTs xSL xTL xNW xm_234 pc e := fun h => xfind_ok (o := 15) (g := xm_234) rfl xk_234_0 h
set_option maxRecDepth 100000 in
theorem xk_235_0 : xe_235_0.all (fun q => xdecB xm_235 q.1 q.2 && xlkB 16 xm_235 q.1 q.2) = true := by decide +kernel
set_option maxRecDepth 100000 in
theorem xk_235_1 : xe_235_1.all (fun q => xdecB xm_235 q.1 q.2 && xlkB 16 xm_235 q.1 q.2) = true := by decide +kernel
theorem xg_235 (pc : Nat) (e : XI) : xc_235 pc = some e → xDec xm_235 pc e ∧ xLk xprog xcl xfty xTs xSL xTL xNW xm_235 pc e := fun h => xif_ok (fun h => xfind_ok (o := 16) (g := xm_235) rfl xk_235_0 h) (fun h => xfind_ok (o := 16) (g := xm_235) rfl xk_235_1 h) h
set_option maxRecDepth 100000 in
theorem xk_236_0 : xe_236_0.all (fun q => xdecB xm_236 q.1 q.2 && xlkB 15 xm_236 q.1 q.2) = true := by decide +kernel
theorem xg_236 (pc : Nat) (e : XI) : xc_236 pc = some e → xDec xm_236 pc e ∧ xLk xprog xcl xfty xTs xSL xTL xNW xm_236 pc e := fun h => xfind_ok (o := 15) (g := xm_236) rfl xk_236_0 h
set_option maxRecDepth 100000 in
theorem xk_237_0 : xe_237_0.all (fun q => xdecB xm_237 q.1 q.2 && xlkB 15 xm_237 q.1 q.2) = true := by decide +kernel
theorem xg_237 (pc : Nat) (e : XI) : xc_237 pc = some e → xDec xm_237 pc e ∧ xLk xprog xcl xfty xTs xSL xTL xNW xm_237 pc e := fun h => xfind_ok (o := 15) (g := xm_237) rfl xk_237_0 h
set_option maxRecDepth 100000 in
theorem xk_238_0 : xe_238_0.all (fun q => xdecB xm_238 q.1 q.2 && xlkB 16 xm_238 q.1 q.2) = true := by decide +kernel
theorem xg_238 (pc : Nat) (e : XI) : xc_238 pc = some e → xDec xm_238 pc e ∧ xLk xprog xcl xfty xTs xSL xTL xNW xm_238 pc e := fun h => xfind_ok (o := 16) (g := xm_238) rfl xk_238_0 h
set_option maxRecDepth 100000 in
theorem xk_239_0 : xe_239_0.all (fun q => xdecB xm_239 q.1 q.2 && xlkB 16 xm_239 q.1 q.2) = true := by decide +kernel
theorem xg_239 (pc : Nat) (e : XI) : xc_239 pc = some e → xDec xm_239 pc e ∧ xLk xprog xcl xfty xTs xSL xTL xNW xm_239 pc e := fun h => xfind_ok (o := 16) (g := xm_239) rfl xk_239_0 h
set_option maxRecDepth 100000 in
theorem xk_240_0 : xe_240_0.all (fun q => xdecB xm_240 q.1 q.2 && xlkB 16 xm_240 q.1 q.2) = true := by decide +kernel
theorem xg_240 (pc : Nat) (e : XI) : xc_240 pc = some e → xDec xm_240 pc e ∧ xLk xprog xcl xfty xTs xSL xTL xNW xm_240 pc e := fun h => xfind_ok (o := 16) (g := xm_240) rfl xk_240_0 h
set_option maxRecDepth 100000 in
theorem xk_241_0 : xe_241_0.all (fun q => xdecB xm_241 q.1 q.2 && xlkB 15 xm_241 q.1 q.2) = true := by decide +kernel
set_option maxRecDepth 100000 in
theorem xk_241_1 : xe_241_1.all (fun q => xdecB xm_241 q.1 q.2 && xlkB 15 xm_241 q.1 q.2) = true := by decide +kernel
theorem xg_241 (pc : Nat) (e : XI) : xc_241 pc = some e → xDec xm_241 pc e ∧ xLk xprog xcl xfty xTs xSL xTL xNW xm_241 pc e := fun h => xif_ok (fun h => xfind_ok (o := 15) (g := xm_241) rfl xk_241_0 h) (fun h => xfind_ok (o := 15) (g := xm_241) rfl xk_241_1 h) h
set_option maxRecDepth 100000 in
theorem xk_242_0 : xe_242_0.all (fun q => xdecB xm_242 q.1 q.2 && xlkB 16 xm_242 q.1 q.2) = true := by decide +kernel
set_option maxRecDepth 100000 in
theorem xk_242_1 : xe_242_1.all (fun q => xdecB xm_242 q.1 q.2 && xlkB 16 xm_242 q.1 q.2) = true := by decide +kernel
theorem xg_242 (pc : Nat) (e : XI) : xc_242 pc = some e → xDec xm_242 pc e ∧ xLk xprog xcl xfty xTs xSL xTL xNW xm_242 pc e := fun h => xif_ok (fun h => xfind_ok (o := 16) (g := xm_242) rfl xk_242_0 h) (fun h => xfind_ok (o := 16) (g := xm_242) rfl xk_242_1 h) h
set_option maxRecDepth 100000 in
theorem xk_243_0 : xe_243_0.all (fun q => xdecB xm_243 q.1 q.2 && xlkB 15 xm_243 q.1 q.2) = true := by decide +kernel
theorem xg_243 (pc : Nat) (e : XI) : xc_243 pc = some e → xDec xm_243 pc e ∧ xLk xprog xcl xfty xTs xSL xTL xNW xm_243 pc e := fun h => xfind_ok (o := 15) (g := xm_243) rfl xk_243_0 h
set_option maxRecDepth 100000 in
theorem xk_244_0 : xe_244_0.all (fun q => xdecB xm_244 q.1 q.2 && xlkB 10 xm_244 q.1 q.2) = true := by decide +kernel
theorem xg_244 (pc : Nat) (e : XI) : xc_244 pc = some e → xDec xm_244 pc e ∧ xLk xprog xcl xfty xTs xSL xTL xNW xm_244 pc e := fun h => xfind_ok (o := 10) (g := xm_244) rfl xk_244_0 h
set_option maxRecDepth 100000 in
theorem xk_245_0 : xe_245_0.all (fun q => xdecB xm_245 q.1 q.2 && xlkB 18 xm_245 q.1 q.2) = true := by decide +kernel
set_option maxRecDepth 100000 in
theorem xk_245_1 : xe_245_1.all (fun q => xdecB xm_245 q.1 q.2 && xlkB 18 xm_245 q.1 q.2) = true := by decide +kernel
theorem xg_245 (pc : Nat) (e : XI) : xc_245 pc = some e → xDec xm_245 pc e ∧ xLk xprog xcl xfty xTs xSL xTL xNW xm_245 pc e := fun h => xif_ok (fun h => xfind_ok (o := 18) (g := xm_245) rfl xk_245_0 h) (fun h => xfind_ok (o := 18) (g := xm_245) rfl xk_245_1 h) h
set_option maxRecDepth 100000 in
theorem xk_246_0 : xe_246_0.all (fun q => xdecB xm_246 q.1 q.2 && xlkB 15 xm_246 q.1 q.2) = true := by decide +kernel
theorem xg_246 (pc : Nat) (e : XI) : xc_246 pc = some e → xDec xm_246 pc e ∧ xLk xprog xcl xfty xTs xSL xTL xNW xm_246 pc e := fun h => xfind_ok (o := 15) (g := xm_246) rfl xk_246_0 h
set_option maxRecDepth 100000 in
theorem xk_247_0 : xe_247_0.all (fun q => xdecB xm_247 q.1 q.2 && xlkB 16 xm_247 q.1 q.2) = true := by decide +kernel
theorem xg_247 (pc : Nat) (e : XI) : xc_247 pc = some e → xDec xm_247 pc e ∧ xLk xprog xcl xfty xTs xSL xTL xNW xm_247 pc e := fun h => xfind_ok (o := 16) (g := xm_247) rfl xk_247_0 h
set_option maxRecDepth 100000 in
theorem xk_248_0 : xe_248_0.all (fun q => xdecB xm_248 q.1 q.2 && xlkB 16 xm_248 q.1 q.2) = true := by decide +kernel
theorem xg_248 (pc : Nat) (e : XI) : xc_248 pc = some e → xDec xm_248 pc e ∧ xLk xprog xcl xfty xTs xSL xTL xNW xm_248 pc e := fun h => xfind_ok (o := 16) (g := xm_248) rfl xk_248_0 h
set_option maxRecDepth 100000 in
theorem xk_249_0 : xe_249_0.all (fun q => xdecB xm_249 q.1 q.2 && xlkB 16 xm_249 q.1 q.2) = true := by decide +kernel
theorem xg_249 (pc : Nat) (e : XI) : xc_249 pc = some e → xDec xm_249 pc e ∧ xLk xprog xcl xfty xTs xSL xTL xNW xm_249 pc e := fun h => xfind_ok (o := 16) (g := xm_249) rfl xk_249_0 h
set_option maxRecDepth 100000 in
theorem xk_250_0 : xe_250_0.all (fun q => xdecB xm_250 q.1 q.2 && xlkB 16 xm_250 q.1 q.2) = true := by decide +kernel
theorem xg_250 (pc : Nat) (e : XI) : xc_250 pc = some e → xDec xm_250 pc e ∧ xLk xprog xcl xfty xTs xSL xTL xNW xm_250 pc e := fun h => xfind_ok (o := 16) (g := xm_250) rfl xk_250_0 h
set_option maxRecDepth 100000 in
theorem xk_251_0 : xe_251_0.all (fun q => xdecB xm_251 q.1 q.2 && xlkB 10 xm_251 q.1 q.2) = true := by decide +kernel
theorem xg_251 (pc : Nat) (e : XI) : xc_251 pc = some e → xDec xm_251 pc e ∧ xLk xprog xcl xfty xTs xSL xTL xNW xm_251 pc e := fun h => xfind_ok (o := 10) (g := xm_251) rfl xk_251_0 h
set_option maxRecDepth 100000 in
theorem xk_252_0 : xe_252_0.all (fun q => xdecB xm_252 q.1 q.2 && xlkB 15 xm_252 q.1 q.2) = true := by decide +kernel
theorem xg_252 (pc : Nat) (e : XI) : xc_252 pc = some e → xDec xm_252 pc e ∧ xLk xprog xcl xfty xTs xSL xTL xNW xm_252 pc e := fun h => xfind_ok (o := 15) (g := xm_252) rfl xk_252_0 h
set_option maxRecDepth 100000 in
theorem xk_253_0 : xe_253_0.all (fun q => xdecB xm_253 q.1 q.2 && xlkB 16 xm_253 q.1 q.2) = true := by decide +kernel
theorem xg_253 (pc : Nat) (e : XI) : xc_253 pc = some e → xDec xm_253 pc e ∧ xLk xprog xcl xfty xTs xSL xTL xNW xm_253 pc e := fun h => xfind_ok (o := 16) (g := xm_253) rfl xk_253_0 h
set_option maxRecDepth 100000 in
theorem xk_254_0 : xe_254_0.all (fun q => xdecB xm_254 q.1 q.2 && xlkB 16 xm_254 q.1 q.2) = true := by decide +kernel
theorem xg_254 (pc : Nat) (e : XI) : xc_254 pc = some e → xDec xm_254 pc e ∧ xLk xprog xcl xfty xTs xSL xTL xNW xm_254 pc e := fun h => xfind_ok (o := 16) (g := xm_254) rfl xk_254_0 h
set_option maxRecDepth 100000 in
theorem xk_255_0 : xe_255_0.all (fun q => xdecB xm_255 q.1 q.2 && xlkB 15 xm_255 q.1 q.2) = true := by decide +kernel
theorem xg_255 (pc : Nat) (e : XI) : xc_255 pc = some e → xDec xm_255 pc e ∧ xLk xprog xcl xfty xTs xSL xTL xNW xm_255 pc e := fun h => xfind_ok (o := 15) (g := xm_255) rfl xk_255_0 h
set_option maxRecDepth 100000 in
theorem xk_256_0 : xe_256_0.all (fun q => xdecB xm_256 q.1 q.2 && xlkB 16 xm_256 q.1 q.2) = true := by decide +kernel
theorem xg_256 (pc : Nat) (e : XI) : xc_256 pc = some e → xDec xm_256 pc e ∧ xLk xprog xcl xfty xTs xSL xTL xNW xm_256 pc e := fun h => xfind_ok (o := 16) (g := xm_256) rfl xk_256_0 h
set_option maxRecDepth 100000 in
theorem xk_257_0 : xe_257_0.all (fun q => xdecB xm_257 q.1 q.2 && xlkB 15 xm_257 q.1 q.2) = true := by decide +kernel
theorem xg_257 (pc : Nat) (e : XI) : xc_257 pc = some e → xDec xm_257 pc e ∧ xLk xprog xcl xfty xTs xSL xTL xNW xm_257 pc e := fun h => xfind_ok (o := 15) (g := xm_257) rfl xk_257_0 h
set_option maxRecDepth 100000 in
theorem xk_258_0 : xe_258_0.all (fun q => xdecB xm_258 q.1 q.2 && xlkB 16 xm_258 q.1 q.2) = true := by decide +kernel
theorem xg_258 (pc : Nat) (e : XI) : xc_258 pc = some e → xDec xm_258 pc e ∧ xLk xprog xcl xfty xTs xSL xTL xNW xm_258 pc e := fun h => xfind_ok (o := 16) (g := xm_258) rfl xk_258_0 h
set_option maxRecDepth 100000 in
theorem xk_259_0 : xe_259_0.all (fun q => xdecB xm_259 q.1 q.2 && xlkB 9 xm_259 q.1 q.2) = true := by decide +kernel
theorem xg_259 (pc : Nat) (e : XI) : xc_259 pc = some e → xDec xm_259 pc e ∧ xLk xprog xcl xfty xTs xSL xTL xNW xm_259 pc e := fun h => xfind_ok (o := 9) (g := xm_259) rfl xk_259_0 h
set_option maxRecDepth 100000 in
theorem xk_260_0 : xe_260_0.all (fun q => xdecB xm_260 q.1 q.2 && xlkB 15 xm_260 q.1 q.2) = true := by decide +kernel
theorem xg_260 (pc : Nat) (e : XI) : xc_260 pc = some e → xDec xm_260 pc e ∧ xLk xprog xcl xfty xTs xSL xTL xNW xm_260 pc e := fun h => xfind_ok (o := 15) (g := xm_260) rfl xk_260_0 h
set_option maxRecDepth 100000 in
theorem xk_261_0 : xe_261_0.all (fun q => xdecB xm_261 q.1 q.2 && xlkB 16 xm_261 q.1 q.2) = true := by decide +kernel
theorem xg_261 (pc : Nat) (e : XI) : xc_261 pc = some e → xDec xm_261 pc e ∧ xLk xprog xcl xfty xTs xSL xTL xNW xm_261 pc e := fun h => xfind_ok (o := 16) (g := xm_261) rfl xk_261_0 h
set_option maxRecDepth 100000 in
theorem xk_262_0 : xe_262_0.all (fun q => xdecB xm_262 q.1 q.2 && xlkB 16 xm_262 q.1 q.2) = true := by decide +kernel
theorem xg_262 (pc : Nat) (e : XI) : xc_262 pc = some e → xDec xm_262 pc e ∧ xLk xprog xcl xfty xTs xSL xTL xNW xm_262 pc e := fun h => xfind_ok (o := 16) (g := xm_262) rfl xk_262_0 h
set_option maxRecDepth 100000 in
theorem xk_263_0 : xe_263_0.all (fun q => xdecB xm_263 q.1 q.2 && xlkB 9 xm_263 q.1 q.2) = true := by decide +kernel
theorem xg_263 (pc : Nat) (e : XI) : xc_263 pc = some e → xDec xm_263 pc e ∧ xLk xprog xcl xfty xTs xSL xTL xNW xm_263 pc e := fun h => xfind_ok (o := 9) (g := xm_263) rfl xk_263_0 h
set_option maxRecDepth 100000 in
theorem xk_264_0 : xe_264_0.all (fun q => xdecB xm_264 q.1 q.2 && xlkB 15 xm_264 q.1 q.2) = true := by decide +kernel
set_option maxRecDepth 100000 in
theorem xk_264_1 : xe_264_1.all (fun q => xdecB xm_264 q.1 q.2 && xlkB 15 xm_264 q.1 q.2) = true := by decide +kernel
theorem xg_264 (pc : Nat) (e : XI) : xc_264 pc = some e → xDec xm_264 pc e ∧ xLk xprog xcl xfty xTs xSL xTL xNW xm_264 pc e := fun h => xif_ok (fun h => xfind_ok (o := 15) (g := xm_264) rfl xk_264_0 h) (fun h => xfind_ok (o := 15) (g := xm_264) rfl xk_264_1 h) h
set_option maxRecDepth 100000 in
theorem xk_265_0 : xe_265_0.all (fun q => xdecB xm_265 q.1 q.2 && xlkB 16 xm_265 q.1 q.2) = true := by decide +kernel
set_option maxRecDepth 100000 in
theorem xk_265_1 : xe_265_1.all (fun q => xdecB xm_265 q.1 q.2 && xlkB 16 xm_265 q.1 q.2) = true := by decide +kernel
theorem xg_265 (pc : Nat) (e : XI) : xc_265 pc = some e → xDec xm_265 pc e ∧ xLk xprog xcl xfty xTs xSL xTL xNW xm_265 pc e := fun h => xif_ok (fun h => xfind_ok (o := 16) (g := xm_265) rfl xk_265_0 h) (fun h => xfind_ok (o := 16) (g := xm_265) rfl xk_265_1 h) h
set_option maxRecDepth 100000 in
theorem xk_266_0 : xe_266_0.all (fun q => xdecB xm_266 q.1 q.2 && xlkB 15 xm_266 q.1 q.2) = true := by decide +kernel
set_option maxRecDepth 100000 in
theorem xk_266_1 : xe_266_1.all (fun q => xdecB xm_266 q.1 q.2 && xlkB 15 xm_266 q.1 q.2) = true := by decide +kernel
theorem xg_266 (pc : Nat) (e : XI) : xc_266 pc = some e → xDec xm_266 pc e ∧ xLk xprog xcl xfty xTs xSL xTL xNW xm_266 pc e := fun h => xif_ok (fun h => xfind_ok (o := 15) (g := xm_266) rfl xk_266_0 h) (fun h => xfind_ok (o := 15) (g := xm_266) rfl xk_266_1 h) h
set_option maxRecDepth 100000 in
theorem xk_267_0 : xe_267_0.all (fun q => xdecB xm_267 q.1 q.2 && xlkB 15 xm_267 q.1 q.2) = true := by decide +kernel
theorem xg_267 (pc : Nat) (e : XI) : xc_267 pc = some e → xDec xm_267 pc e ∧ xLk xprog xcl xfty xTs xSL xTL xNW xm_267 pc e := fun h => xfind_ok (o := 15) (g := xm_267) rfl xk_267_0 h
set_option maxRecDepth 100000 in
theorem xk_268_0 : xe_268_0.all (fun q => xdecB xm_268 q.1 q.2 && xlkB 16 xm_268 q.1 q.2) = true := by decide +kernel
set_option maxRecDepth 100000 in
theorem xk_268_1 : xe_268_1.all (fun q => xdecB xm_268 q.1 q.2 && xlkB 16 xm_268 q.1 q.2) = true := by decide +kernel
theorem xg_268 (pc : Nat) (e : XI) : xc_268 pc = some e → xDec xm_268 pc e ∧ xLk xprog xcl xfty xTs xSL xTL xNW xm_268 pc e := fun h => xif_ok (fun h => xfind_ok (o := 16) (g := xm_268) rfl xk_268_0 h) (fun h => xfind_ok (o := 16) (g := xm_268) rfl xk_268_1 h) h
set_option maxRecDepth 100000 in
theorem xk_269_0 : xe_269_0.all (fun q => xdecB xm_269 q.1 q.2 && xlkB 16 xm_269 q.1 q.2) = true := by decide +kernel
set_option maxRecDepth 100000 in
theorem xk_269_1 : xe_269_1.all (fun q => xdecB xm_269 q.1 q.2 && xlkB 16 xm_269 q.1 q.2) = true := by decide +kernel
theorem xg_269 (pc : Nat) (e : XI) : xc_269 pc = some e → xDec xm_269 pc e ∧ xLk xprog xcl xfty xTs xSL xTL xNW xm_269 pc e := fun h => xif_ok (fun h => xfind_ok (o := 16) (g := xm_269) rfl xk_269_0 h) (fun h => xfind_ok (o := 16) (g := xm_269) rfl xk_269_1 h) h
set_option maxRecDepth 100000 in
theorem xk_270_0 : xe_270_0.all (fun q => xdecB xm_270 q.1 q.2 && xlkB 12 xm_270 q.1 q.2) = true := by decide +kernel
theorem xg_270 (pc : Nat) (e : XI) : xc_270 pc = some e → xDec xm_270 pc e ∧ xLk xprog xcl xfty xTs xSL xTL xNW xm_270 pc e := fun h => xfind_ok (o := 12) (g := xm_270) rfl xk_270_0 h
set_option maxRecDepth 100000 in
theorem xk_271_0 : xe_271_0.all (fun q => xdecB xm_271 q.1 q.2 && xlkB 12 xm_271 q.1 q.2) = true := by decide +kernel
theorem xg_271 (pc : Nat) (e : XI) : xc_271 pc = some e → xDec xm_271 pc e ∧ xLk xprog xcl xfty xTs xSL xTL xNW xm_271 pc e := fun h => xfind_ok (o := 12) (g := xm_271) rfl xk_271_0 h
set_option maxRecDepth 100000 in
theorem xk_272_0 : xe_272_0.all (fun q => xdecB xm_272 q.1 q.2 && xlkB 15 xm_272 q.1 q.2) = true := by decide +kernel
theorem xg_272 (pc : Nat) (e : XI) : xc_272 pc = some e → xDec xm_272 pc e ∧ xLk xprog xcl xfty xTs xSL xTL xNW xm_272 pc e := fun h => xfind_ok (o := 15) (g := xm_272) rfl xk_272_0 h
set_option maxRecDepth 100000 in
theorem xk_273_0 : xe_273_0.all (fun q => xdecB xm_273 q.1 q.2 && xlkB 16 xm_273 q.1 q.2) = true := by decide +kernel
set_option maxRecDepth 100000 in
theorem xk_273_1 : xe_273_1.all (fun q => xdecB xm_273 q.1 q.2 && xlkB 16 xm_273 q.1 q.2) = true := by decide +kernel
theorem xg_273 (pc : Nat) (e : XI) : xc_273 pc = some e → xDec xm_273 pc e ∧ xLk xprog xcl xfty xTs xSL xTL xNW xm_273 pc e := fun h => xif_ok (fun h => xfind_ok (o := 16) (g := xm_273) rfl xk_273_0 h) (fun h => xfind_ok (o := 16) (g := xm_273) rfl xk_273_1 h) h
set_option maxRecDepth 100000 in
theorem xk_274_0 : xe_274_0.all (fun q => xdecB xm_274 q.1 q.2 && xlkB 15 xm_274 q.1 q.2) = true := by decide +kernel
theorem xg_274 (pc : Nat) (e : XI) : xc_274 pc = some e → xDec xm_274 pc e ∧ xLk xprog xcl xfty xTs xSL xTL xNW xm_274 pc e := fun h => xfind_ok (o := 15) (g := xm_274) rfl xk_274_0 h
set_option maxRecDepth 100000 in
theorem xk_275_0 : xe_275_0.all (fun q => xdecB xm_275 q.1 q.2 && xlkB 16 xm_275 q.1 q.2) = true := by decide +kernel
theorem xg_275 (pc : Nat) (e : XI) : xc_275 pc = some e → xDec xm_275 pc e ∧ xLk xprog xcl xfty xTs xSL xTL xNW xm_275 pc e := fun h => xfind_ok (o := 16) (g := xm_275) rfl xk_275_0 h
set_option maxRecDepth 100000 in
theorem xk_276_0 : xe_276_0.all (fun q => xdecB xm_276 q.1 q.2 && xlkB 12 xm_276 q.1 q.2) = true := by decide +kernel
theorem xg_276 (pc : Nat) (e : XI) : xc_276 pc = some e → xDec xm_276 pc e ∧ xLk xprog xcl xfty xTs xSL xTL xNW xm_276 pc e := fun h => xfind_ok (o := 12) (g := xm_276) rfl xk_276_0 h
set_option maxRecDepth 100000 in
theorem xk_277_0 : xe_277_0.all (fun q => xdecB xm_277 q.1 q.2 && xlkB 12 xm_277 q.1 q.2) = true := by decide +kernel
set_option maxRecDepth 100000 in
theorem xk_277_1 : xe_277_1.all (fun q => xdecB xm_277 q.1 q.2 && xlkB 12 xm_277 q.1 q.2) = true := by decide +kernel
theorem xg_277 (pc : Nat) (e : XI) : xc_277 pc = some e → xDec xm_277 pc e ∧ xLk xprog xcl xfty xTs xSL xTL xNW xm_277 pc e := fun h => xif_ok (fun h => xfind_ok (o := 12) (g := xm_277) rfl xk_277_0 h) (fun h => xfind_ok (o := 12) (g := xm_277) rfl xk_277_1 h) h
set_option maxRecDepth 100000 in
theorem xk_278_0 : xe_278_0.all (fun q => xdecB xm_278 q.1 q.2 && xlkB 15 xm_278 q.1 q.2) = true := by decide +kernel
theorem xg_278 (pc : Nat) (e : XI) : xc_278 pc = some e → xDec xm_278 pc e ∧ xLk xprog xcl xfty xTs xSL xTL xNW xm_278 pc e := fun h => xfind_ok (o := 15) (g := xm_278) rfl xk_278_0 h
set_option maxRecDepth 100000 in
theorem xk_279_0 : xe_279_0.all (fun q => xdecB xm_279 q.1 q.2 && xlkB 16 xm_279 q.1 q.2) = true := by decide +kernel
theorem xg_279 (pc : Nat) (e : XI) : xc_279 pc = some e → xDec xm_279 pc e ∧ xLk xprog xcl xfty xTs xSL xTL xNW xm_279 pc e := fun h => xfind_ok (o := 16) (g := xm_279) rfl xk_279_0 h
