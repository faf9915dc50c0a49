/-! the rows are looked at, 6 -/
set_option maxRecDepth 100000 in
theorem xk_203_0 : xe_203_0.all (fun q => xdecB xm_203 q.1 q.2 && xlkB 13 xm_203 q.1 q.2) = true := by decide +kernel
set_option maxRecDepth 100000 in
theorem xk_203_1 : xe_203_1.all (fun q => xdecB xm_203 q.1 q.2 && xlkB 13 xm_203 q.1 q.2) = true := by decide +kernel
theorem xg_203 (pc : Nat) (e : XI) : xc_203 pc = some e → xDec xm_203 pc e ∧ xLk xprog xcl xfty xTs xSL xTL xNW xm_203 pc e := fun h => xif_ok (fun h => xfind_ok (o := 13) (g := xm_203) rfl xk_203_0 h) (fun h => xfind_ok (o := 13) (g := xm_203) rfl xk_203_1 h) h
set_option maxRecDepth 100000 in
theorem xk_204_0 : xe_204_0.all (fun q => xdecB xm_204 q.1 q.2 && xlkB 13 xm_204 q.1 q.2) = true := by decide +kernel
theorem xg_204 (pc : Nat) (e : XI) : xc_204 pc = some e → xDec xm_204 pc e ∧ xLk xprog xcl xfty xTs xSL xTL xNW xm_204 pc e := fun h => xfind_ok (o := 13) (g := xm_204) rfl xk_204_0 h
set_option maxRecDepth 100000 in
theorem xk_205_0 : xe_205_0.all (fun q => xdecB xm_205 q.1 q.2 && xlkB 13 xm_205 q.1 q.2) = true := by decide +kernel
set_option maxRecDepth 100000 in
theorem xk_205_1 : xe_205_1.all (fun q => xdecB xm_205 q.1 q.2 && xlkB 13 xm_205 q.1 q.2) = true := by decide +kernel
theorem xg_205 (pc : Nat) (e : XI) : xc_205 pc = some e → xDec xm_205 pc e ∧ xLk xprog xcl xfty xTs xSL xTL xNW xm_205 pc e := fun h => xif_ok (fun h => xfind_ok (o := 13) (g := xm_205) rfl xk_205_0 h) (fun h => xfind_ok (o := 13) (g := xm_205) rfl xk_205_1 h) h
set_option maxRecDepth 100000 in
theorem xk_206_0 : xe_206_0.all (fun q => xdecB xm_206 q.1 q.2 && xlkB 13 xm_206 q.1 q.2) = true := by decide +kernel
set_option maxRecDepth 100000 in
theorem xk_206_1 : xe_206_1.all (fun q => xdecB xm_206 q.1 q.2 && xlkB 13 xm_206 q.1 q.2) = true := by decide +kernel
theorem xg_206 (pc : Nat) (e : XI) : xc_206 pc = some e → xDec xm_206 pc e ∧ xLk xprog xcl xfty xTs xSL xTL xNW xm_206 pc e := fun h => xif_ok (fun h => xfind_ok (o := 13) (g := xm_206) rfl xk_206_0 h) (fun h => xfind_ok (o := 13) (g := xm_206) rfl xk_206_1 h) h
set_option maxRecDepth 100000 in
theorem xk_207_0 : xe_207_0.all (fun q => xdecB xm_207 q.1 q.2 && xlkB 15 xm_207 q.1 q.2) = true := by decide +kernel
theorem xg_207 (pc : Nat) (e : XI) : xc_207 pc = some e → xDec xm_207 pc e ∧ xLk xprog xcl xfty xTs xSL xTL xNW xm_207 pc e := fun h => xfind_ok (o := 15) (g := xm_207) rfl xk_207_0 h
set_option maxRecDepth 100000 in
theorem xk_208_0 : xe_208_0.all (fun q => xdecB xm_208 q.1 q.2 && xlkB 16 xm_208 q.1 q.2) = true := by decide +kernel
theorem xg_208 (pc : Nat) (e : XI) : xc_208 pc = some e → xDec xm_208 pc e ∧ xLk xprog xcl xfty xTs xSL xTL xNW xm_208 pc e := fun h => xfind_ok (o := 16) (g := xm_208) rfl xk_208_0 h
set_option maxRecDepth 100000 in
theorem xk_209_0 : xe_209_0.all (fun q => xdecB xm_209 q.1 q.2 && xlkB 16 xm_209 q.1 q.2) = true := by decide +kernel
set_option maxRecDepth 100000 in
theorem xk_209_1 : xe_209_1.all (fun q => xdecB xm_209 q.1 q.2 && xlkB 16 xm_209 q.1 q.2) = true := by decide +kernel
theorem xg_209 (pc : Nat) (e : XI) : xc_209 pc = some e → xDec xm_209 pc e ∧ xLk xprog xcl xfty xTs xSL xTL xNW xm_209 pc e := fun h => xif_ok (fun h => xfind_ok (o := 16) (g := xm_209) rfl xk_209_0 h) (fun h => xfind_ok (o := 16) (g := xm_209) rfl xk_209_1 h) h
set_option maxRecDepth 100000 in
theorem xk_210_0 : xe_210_0.all (fun q => xdecB xm_210 q.1 q.2 && xlkB 16 xm_210 q.1 q.2) = true := by decide +kernel
set_option maxRecDepth 100000 in
theorem xk_210_1 : xe_210_1.all (fun q => xdecB xm_210 q.1 q.2 && xlkB 16 xm_210 q.1 q.2) = true := by decide +kernel
theorem xg_210 (pc : Nat) (e : XI) : xc_210 pc = some e → xDec xm_210 pc e ∧ xLk xprog xcl xfty xTs xSL xTL xNW xm_210 pc e := fun h => xif_ok (fun h => xfind_ok (o := 16) (g := xm_210) rfl xk_210_0 h) (fun h => xfind_ok (o := 16) (g := xm_210) rfl xk_210_1 h) h
set_option maxRecDepth 100000 in
theorem xk_211_0 : xe_211_0.all (fun q => xdecB xm_211 q.1 q.2 && xlkB 16 xm_211 q.1 q.2) = true := by decide +kernel
set_option maxRecDepth 100000 in
theorem xk_211_1 : xe_211_1.all (fun q => xdecB xm_211 q.1 q.2 && xlkB 16 xm_211 q.1 q.2) = true := by decide +kernel
theorem xg_211 (pc : Nat) (e : XI) : xc_211 pc = some e → xDec xm_211 pc e ∧ xLk xprog xcl xfty xTs xSL xTL xNW xm_211 pc e := fun h => xif_ok (fun h => xfind_ok (o := 16) (g := xm_211) rfl xk_211_0 h) (fun h => xfind_ok (o := 16) (g := xm_211) rfl xk_211_1 h) h
set_option maxRecDepth 100000 in
theorem xk_212_0 : xe_212_0.all (fun q => xdecB xm_212 q.1 q.2 && xlkB 15 xm_212 q.1 q.2) = true := by decide +kernel
set_option maxRecDepth 100000 in
theorem xk_212_1 : xe_212_1.all (fun q => xdecB xm_212 q.1 q.2 && xlkB 15 xm_212 q.1 q.2) = true := by decide +kernel
theorem xg_212 (pc : Nat) (e : XI) : xc_212 pc = some e → xDec xm_212 pc e ∧ xLk xprog xcl xfty xTs xSL xTL xNW xm_212 pc e := fun h => xif_ok (fun h => xfind_ok (o := 15) (g := xm_212) rfl xk_212_0 h) (fun h => xfind_ok (o := 15) (g := xm_212) rfl xk_212_1 h) h
set_option maxRecDepth 100000 in
theorem xk_213_0 : xe_213_0.all (fun q => xdecB xm_213 q.1 q.2 && xlkB 15 xm_213 q.1 q.2) = true := by decide +kernel
set_option maxRecDepth 100000 in
theorem xk_213_1 : xe_213_1.all (fun q => xdecB xm_213 q.1 q.2 && xlkB 15 xm_213 q.1 q.2) = true := by decide +kernel
theorem xg_213 (pc : Nat) (e : XI) : xc_213 pc = some e → xDec xm_213 pc e ∧ xLk xprog xcl xfty xTs xSL xTL xNW xm_213 pc e := fun h => xif_ok (fun h => xfind_ok (o := 15) (g := xm_213) rfl xk_213_0 h) (fun h => xfind_ok (o := 15) (g := xm_213) rfl xk_213_1 h) h
set_option maxRecDepth 100000 in
theorem xk_214_0 : xe_214_0.all (fun q => xdecB xm_214 q.1 q.2 && xlkB 16 xm_214 q.1 q.2) = true := by decide +kernel
set_option maxRecDepth 100000 in
theorem xk_214_1 : xe_214_1.all (fun q => xdecB xm_214 q.1 q.2 && xlkB 16 xm_214 q.1 q.2) = true := by decide +kernel
theorem xg_214 (pc : Nat) (e : XI) : xc_214 pc = some e → xDec xm_214 pc e ∧ xLk xprog xcl xfty xTs xSL xTL xNW xm_214 pc e := fun h => xif_ok (fun h => xfind_ok (o := 16) (g := xm_214) rfl xk_214_0 h) (fun h => xfind_ok (o := 16) (g := xm_214) rfl xk_214_1 h) h
set_option maxRecDepth 100000 in
theorem xk_215_0 : xe_215_0.all (fun q => xdecB xm_215 q.1 q.2 && xlkB 16 xm_215 q.1 q.2) = true := by decide +kernel
set_option maxRecDepth 100000 in
theorem xk_215_1 : xe_215_1.all (fun q => xdecB xm_215 q.1 q.2 && xlkB 16 xm_215 q.1 q.2) = true := by decide +kernel
theorem xg_215 (pc : Nat) (e : XI) : xc_215 pc = some e → xDec xm_215 pc e ∧ xLk xprog xcl xfty xTs xSL xTL xNW xm_215 pc e := fun h => xif_ok (fun h => xfind_ok (o := 16) (g := xm_215) rfl xk_215_0 h) (fun h => xfind_ok (o := 16) (g := xm_215) rfl xk_215_1 h) h
set_option maxRecDepth 100000 in
theorem xk_216_0 : xe_216_0.all (fun q => xdecB xm_216 q.1 q.2 && xlkB 15 xm_216 q.1 q.2) = true := by decide +kernel
set_option maxRecDepth 100000 in
theorem xk_216_1 : xe_216_1.all (fun q => xdecB xm_216 q.1 q.2 && xlkB 15 xm_216 q.1 q.2) = true := by decide +kernel
theorem xg_216 (pc : Nat) (e : XI) : xc_216 pc = some e → xDec xm_216 pc e ∧ xLk xprog xcl xfty xTs xSL xTL xNW xm_216 pc e := fun h => xif_ok (fun h => xfind_ok (o := 15) (g := xm_216) rfl xk_216_0 h) (fun h => xfind_ok (o := 15) (g := xm_216) rfl xk_216_1 h) h
set_option maxRecDepth 100000 in
theorem xk_217_0 : xe_217_0.all (fun q => xdecB xm_217 q.1 q.2 && xlkB 16 xm_217 q.1 q.2) = true := by decide +kernel
set_option maxRecDepth 100000 in
theorem xk_217_1 : xe_217_1.all (fun q => xdecB xm_217 q.1 q.2 && xlkB 16 xm_217 q.1 q.2) = true := by decide +kernel
theorem xg_217 (pc : Nat) (e : XI) : xc_217 pc = some e → xDec xm_217 pc e ∧ xLk xprog xcl xfty xTs xSL xTL xNW xm_217 pc e := fun h => xif_ok (fun h => xfind_ok (o := 16) (g := xm_217) rfl xk_217_0 h) (fun h => xfind_ok (o := 16) (g := xm_217) rfl xk_217_1 h) h
set_option maxRecDepth 100000 in
theorem xk_218_0 : xe_218_0.all (fun q => xdecB xm_218 q.1 q.2 && xlkB 15 xm_218 q.1 q.2) = true := by decide +kernel
theorem xg_218 (pc : Nat) (e : XI) : xc_218 pc = some e → xDec xm_218 pc e ∧ xLk xprog xcl xfty xTs xSL xTL xNW xm_218 pc e := fun h => xfind_ok (o := 15) (g := xm_218) rfl xk_218_0 h
set_option maxRecDepth 100000 in
theorem xk_219_0 : xe_219_0.all (fun q => xdecB xm_219 q.1 q.2 && xlkB 16 xm_219 q.1 q.2) = true := by decide +kernel
theorem xg_219 (pc : Nat) (e : XI) : xc_219 pc = some e → xDec xm_219 pc e ∧ xLk xprog xcl xfty xTs xSL xTL xNW xm_219 pc e := fun h => xfind_ok (o := 16) (g := xm_219) rfl xk_219_0 h
set_option maxRecDepth 100000 in
theorem xk_220_0 : xe_220_0.all (fun q => xdecB xm_220 q.1 q.2 && xlkB 14 xm_220 q.1 q.2) = true := by decide +kernel
set_option maxRecDepth 100000 in
theorem xk_220_1 : xe_220_1.all (fun q => xdecB xm_220 q.1 q.2 && xlkB 14 xm_220 q.1 q.2) = true := by decide +kernel
theorem xg_220 (pc : Nat) (e : XI) : xc_220 pc = some e → xDec xm_220 pc e ∧ xLk xprog xcl xfty xTs xSL xTL xNW xm_220 pc e := fun h => xif_ok (fun h => xfind_ok (o := 14) (g := xm_220) rfl xk_220_0 h) (fun h => xfind_ok (o := 14) (g := xm_220) rfl xk_220_1 h) h
set_option maxRecDepth 100000 in
theorem xk_221_0 : xe_221_0.all (fun q => xdecB xm_221 q.1 q.2 && xlkB 14 xm_221 q.1 q.2) = true := by decide +kernel
set_option maxRecDepth 100000 in
theorem xk_221_1 : xe_221_1.all (fun q => xdecB xm_221 q.1 q.2 && xlkB 14 xm_221 q.1 q.2) = true := by decide +kernel
theorem xg_221 (pc : Nat) (e : XI) : xc_221 pc = some e → xDec xm_221 pc e ∧ xLk xprog xcl xfty xTs xSL xTL xNW xm_221 pc e := fun h => xif_ok (fun h => xfind_ok (o := 14) (g := xm_221) rfl xk_221_0 h) (fun h => xfind_ok (o := 14) (g := xm_221) rfl xk_221_1 h) h
set_option maxRecDepth 100000 in
theorem xk_222_0 : xe_222_0.all (fun q => xdecB xm_222 q.1 q.2 && xlkB 14 xm_222 q.1 q.2) = true := by decide +kernel
theorem xg_222 (pc : Nat) (e : XI) : xc_222 pc = some e → xDec xm_222 pc e ∧ xLk xprog xcl xfty xTs xSL xTL xNW xm_222 pc e := fun h => xfind_ok (o := 14) (g := xm_222) rfl xk_222_0 h
set_option maxRecDepth 100000 in
theorem xk_223_0 : xe_223_0.all (fun q => xdecB xm_223 q.1 q.2 && xlkB 14 xm_223 q.1 q.2) = true := by decide +kernel
set_option maxRecDepth 100000 in
theorem xk_223_1 : xe_223_1.all (fun q => xdecB xm_223 q.1 q.2 && xlkB 14 xm_223 q.1 q.2) = true := by decide +kernel
theorem xg_223 (pc : Nat) (e : XI) : xc_223 pc = some e → xDec xm_223 pc e ∧ xLk xprog xcl xfty xTs xSL xTL xNW xm_223 pc e := fun h => xif_ok (fun h => xfind_ok (o := 14) (g := xm_223) rfl xk_223_0 h) (fun h => xfind_ok (o := 14) (g := xm_223) rfl xk_223_1 h) h
set_option maxRecDepth 100000 in
theorem xk_224_0 : xe_224_0.all (fun q => xdecB xm_224 q.1 q.2 && xlkB 14 xm_224 q.1 q.2) = true := by decide +kernel
set_option maxRecDepth 100000 in
theorem xk_224_1 : xe_224_1.all (fun q => xdecB xm_224 q.1 q.2 && xlkB 14 xm_224 q.1 q.2) = true := by decide +kernel
theorem xg_224 (pc : Nat) (e : XI) : xc_224 pc = some e → xDec xm_224 pc e ∧ xLk xprog xcl xfty xTs xSL xTL xNW xm_224 pc e := fun h => xif_ok (fun h => xfind_ok (o := 14) (g := xm_224) rfl xk_224_0 h) (fun h => xfind_ok (o := 14) (g := xm_224) rfl xk_224_1 h) h
set_option maxRecDepth 100000 in
theorem xk_225_0 : xe_225_0.all (fun q => xdecB xm_225 q.1 q.2 && xlkB 15 xm_225 q.1 q.2) = true := by decide +kernel
theorem xg_225 (pc : Nat) (e : XI) : xc_225 pc = some e → xDec xm_225 pc e ∧ xLk xprog xcl xfty xTs xSL xTL xNW xm_225 pc e := fun h => xfind_ok (o := 15) (g := xm_225) rfl xk_225_0 h
set_option maxRecDepth 100000 in
theorem xk_226_0 : xe_226_0.all (fun q => xdecB xm_226 q.1 q.2 && xlkB 16 xm_226 q.1 q.2) = true := by decide +kernel
set_option maxRecDepth 100000 in
theorem xk_226_1 : xe_226_1.all (fun q => xdecB xm_226 q.1 q.2 && xlkB 16 xm_226 q.1 q.2) = true := by decide +kernel
set_option maxRecDepth 100000 in
theorem xk_226_2 : xe_226_2.all (fun q => xdecB xm_226 q.1 q.2 && xlkB 16 xm_226 q.1 q.2) = true := by decide +kernel
theorem xg_226 (pc : Nat) (e : XI) : xc_226 pc = some e → xDec xm_226 pc e ∧ xLk xprog xcl xfty xTs xSL xTL xNW xm_226 pc e := fun h => xif_ok (fun h => xfind_ok (o := 16) (g := xm_226) rfl xk_226_0 h) (fun h => xif_ok (fun h => xfind_ok (o := 16) (g := xm_226) rfl xk_226_1 h) (fun h => xfind_ok (o := 16) (g := xm_226) rfl xk_226_2 h) h) h
set_option maxRecDepth 100000 in
theorem xk_227_0 : xe_227_0.all (fun q => xdecB xm_227 q.1 q.2 && xlkB 16 xm_227 q.1 q.2) = true := by decide +kernel
set_option maxRecDepth 100000 in
theorem xk_227_1 : xe_227_1.all (fun q => xdecB xm_227 q.1 q.2 && xlkB 16 xm_227 q.1 q.2) = true := by decide +kernel
theorem xg_227 (pc : Nat) (e : XI) : xc_227 pc = some e → xDec xm_227 pc e ∧ xLk xprog xcl xfty xTs xSL xTL xNW xm_227 pc e := fun h => xif_ok (fun h => xfind_ok (o := 16) (g := xm_227) rfl xk_227_0 h) (fun h => xfind_ok (o := 16) (g := xm_227) rfl xk_227_1 h) h
set_option maxRecDepth 100000 in
theorem xk_228_0 : xe_228_0.all (fun q => xdecB xm_228 q.1 q.2 && xlkB 14 xm_228 q.1 q.2) = true := by decide +kernel
set_option maxRecDepth 100000 in
theorem xk_228_1 : xe_228_1.all (fun q => xdecB xm_228 q.1 q.2 && xlkB 14 xm_228 q.1 q.2) = true := by decide +kernel
theorem xg_228 (pc : Nat) (e : XI) : xc_228 pc = some e → xDec xm_228 pc e ∧ xLk xprog xcl xfty xTs xSL xTL xNW xm_228 pc e := fun h => xif_ok (fun h => xfind_ok (o := 14) (g := xm_228) rfl xk_228_0 h) (fun h => xfind_ok (o := 14) (g := xm_228) rfl xk_228_1 h) h
set_option maxRecDepth 100000 in
theorem xk_229_0 : xe_229_0.all (fun q => xdecB xm_229 q.1 q.2 && xlkB 15 xm_229 q.1 q.2) = true := by decide +kernel
theorem xg_229 (pc : Nat) (e : XI) : xc_229 pc = some e → xDec xm_229 pc e ∧ xLk xprog xcl xfty xTs xSL xTL xNW xm_229 pc e := fun h => xfind_ok (o := 15) (g := xm_229) rfl xk_229_0 h
set_option maxRecDepth 100000 in
theorem xk_230_0 : xe_230_0.all (fun q => xdecB xm_230 q.1 q.2 && xlkB 16 xm_230 q.1 q.2) = true := by decide +kernel
set_option maxRecDepth 100000 in
theorem xk_230_1 : xe_230_1.all (fun q => xdecB xm_230 q.1 q.2 && xlkB 16 xm_230 q.1 q.2) = true := by decide +kernel
theorem xg_230 (pc : Nat) (e : XI) : xc_230 pc = some e → xDec xm_230 pc e ∧ xLk xprog xcl xfty xTs xSL xTL xNW xm_230 pc e := fun h => xif_ok (fun h => xfind_ok (o := 16) (g := xm_230) rfl xk_230_0 h) (fun h => xfind_ok (o := 16) (g := xm_230) rfl xk_230_1 h) h
