/-! the rows are looked at, 14 -/
set_option maxRecDepth 100000 in
theorem xk_191_0 : xe_191_0.all (fun q => xdecB xm_191 q.1 q.2 && xlkB 13 xm_191 q.1 q.2) = true := by decide +kernel
set_option maxRecDepth 100000 in
theorem xk_191_1 : xe_191_1.all (fun q => xdecB xm_191 q.1 q.2 && xlkB 13 xm_191 q.1 q.2) = true := by decide +kernel
theorem xg_191 (pc : Nat) (e : XI) : xc_191 pc = some e → xDec xm_191 pc e ∧ xLk xprog xcl xfty xTs xSL xTL xNW xm_191 pc e := fun h => xif_ok (fun h => xfind_ok (o := 13) (g := xm_191) rfl xk_191_0 h) (fun h => xfind_ok (o := 13) (g := xm_191) rfl xk_191_1 h) h
set_option maxRecDepth 100000 in
theorem xk_192_0 : xe_192_0.all (fun q => xdecB xm_192 q.1 q.2 && xlkB 13 xm_192 q.1 q.2) = true := by decide +kernel
set_option maxRecDepth 100000 in
theorem xk_192_1 : xe_192_1.all (fun q => xdecB xm_192 q.1 q.2 && xlkB 13 xm_192 q.1 q.2) = true := by decide +kernel
theorem xg_192 (pc : Nat) (e : XI) : xc_192 pc = some e → xDec xm_192 pc e ∧ xLk xprog xcl xfty xTs xSL xTL xNW xm_192 pc e := fun h => xif_ok (fun h => xfind_ok (o := 13) (g := xm_192) rfl xk_192_0 h) (fun h => xfind_ok (o := 13) (g := xm_192) rfl xk_192_1 h) h
set_option maxRecDepth 100000 in
theorem xk_193_0 : xe_193_0.all (fun q => xdecB xm_193 q.1 q.2 && xlkB 15 xm_193 q.1 q.2) = true := by decide +kernel
theorem xg_193 (pc : Nat) (e : XI) : xc_193 pc = some e → xDec xm_193 pc e ∧ xLk xprog xcl xfty xTs xSL xTL xNW xm_193 pc e := fun h => xfind_ok (o := 15) (g := xm_193) rfl xk_193_0 h
set_option maxRecDepth 100000 in
theorem xk_194_0 : xe_194_0.all (fun q => xdecB xm_194 q.1 q.2 && xlkB 16 xm_194 q.1 q.2) = true := by decide +kernel
theorem xg_194 (pc : Nat) (e : XI) : xc_194 pc = some e → xDec xm_194 pc e ∧ xLk xprog xcl xfty xTs xSL xTL xNW xm_194 pc e := fun h => xfind_ok (o := 16) (g := xm_194) rfl xk_194_0 h
set_option maxRecDepth 100000 in
theorem xk_195_0 : xe_195_0.all (fun q => xdecB xm_195 q.1 q.2 && xlkB 16 xm_195 q.1 q.2) = true := by decide +kernel
set_option maxRecDepth 100000 in
theorem xk_195_1 : xe_195_1.all (fun q => xdecB xm_195 q.1 q.2 && xlkB 16 xm_195 q.1 q.2) = true := by decide +kernel
theorem xg_195 (pc : Nat) (e : XI) : xc_195 pc = some e → xDec xm_195 pc e ∧ xLk xprog xcl xfty xTs xSL xTL xNW xm_195 pc e := fun h => xif_ok (fun h => xfind_ok (o := 16) (g := xm_195) rfl xk_195_0 h) (fun h => xfind_ok (o := 16) (g := xm_195) rfl xk_195_1 h) h
set_option maxRecDepth 100000 in
theorem xk_196_0 : xe_196_0.all (fun q => xdecB xm_196 q.1 q.2 && xlkB 16 xm_196 q.1 q.2) = true := by decide +kernel
theorem xg_196 (pc : Nat) (e : XI) : xc_196 pc = some e → xDec xm_196 pc e ∧ xLk xprog xcl xfty xTs xSL xTL xNW xm_196 pc e := fun h => xfind_ok (o := 16) (g := xm_196) rfl xk_196_0 h
set_option maxRecDepth 100000 in
theorem xk_197_0 : xe_197_0.all (fun q => xdecB xm_197 q.1 q.2 && xlkB 16 xm_197 q.1 q.2) = true := by decide +kernel
theorem xg_197 (pc : Nat) (e : XI) : xc_197 pc = some e → xDec xm_197 pc e ∧ xLk xprog xcl xfty xTs xSL xTL xNW xm_197 pc e := fun h => xfind_ok (o := 16) (g := xm_197) rfl xk_197_0 h
set_option maxRecDepth 100000 in
theorem xk_198_0 : xe_198_0.all (fun q => xdecB xm_198 q.1 q.2 && xlkB 16 xm_198 q.1 q.2) = true := by decide +kernel
set_option maxRecDepth 100000 in
theorem xk_198_1 : xe_198_1.all (fun q => xdecB xm_198 q.1 q.2 && xlkB 16 xm_198 q.1 q.2) = true := by decide +kernel
set_option maxRecDepth 100000 in
theorem xk_198_2 : xe_198_2.all (fun q => xdecB xm_198 q.1 q.2 && xlkB 16 xm_198 q.1 q.2) = true := by decide +kernel
theorem xg_198 (pc : Nat) (e : XI) : xc_198 pc = some e → xDec xm_198 pc e ∧ xLk xprog xcl xfty xTs xSL xTL xNW xm_198 pc e := fun h => xif_ok (fun h => xfind_ok (o := 16) (g := xm_198) rfl xk_198_0 h) (fun h => xif_ok (fun h => xfind_ok (o := 16) (g := xm_198) rfl xk_198_1 h) (fun h => xfind_ok (o := 16) (g := xm_198) rfl xk_198_2 h) h) h
set_option maxRecDepth 100000 in
theorem xk_199_0 : xe_199_0.all (fun q => xdecB xm_199 q.1 q.2 && xlkB 16 xm_199 q.1 q.2) = true := by decide +kernel
theorem xg_199 (pc : Nat) (e : XI) : xc_199 pc = some e → xDec xm_199 pc e ∧ xLk xprog xcl xfty xTs xSL xTL xNW xm_199 pc e := fun h => xfind_ok (o := 16) (g := xm_199) rfl xk_199_0 h
set_option maxRecDepth 100000 in
theorem xk_200_0 : xe_200_0.all (fun q => xdecB xm_200 q.1 q.2 && xlkB 16 xm_200 q.1 q.2) = true := by decide +kernel
set_option maxRecDepth 100000 in
theorem xk_200_1 : xe_200_1.all (fun q => xdecB xm_200 q.1 q.2 && xlkB 16 xm_200 q.1 q.2) = true := by decide +kernel
theorem xg_200 (pc : Nat) (e : XI) : xc_200 pc = some e → xDec xm_200 pc e ∧ xLk xprog xcl xfty xTs xSL xTL xNW xm_200 pc e := fun h => xif_ok (fun h => xfind_ok (o := 16) (g := xm_200) rfl xk_200_0 h) (fun h => xfind_ok (o := 16) (g := xm_200) rfl xk_200_1 h) h
set_option maxRecDepth 100000 in
theorem xk_201_0 : xe_201_0.all (fun q => xdecB xm_201 q.1 q.2 && xlkB 13 xm_201 q.1 q.2) = true := by decide +kernel
set_option maxRecDepth 100000 in
theorem xk_201_1 : xe_201_1.all (fun q => xdecB xm_201 q.1 q.2 && xlkB 13 xm_201 q.1 q.2) = true := by decide +kernel
theorem xg_201 (pc : Nat) (e : XI) : xc_201 pc = some e → xDec xm_201 pc e ∧ xLk xprog xcl xfty xTs xSL xTL xNW xm_201 pc e := fun h => xif_ok (fun h => xfind_ok (o := 13) (g := xm_201) rfl xk_201_0 h) (fun h => xfind_ok (o := 13) (g := xm_201) rfl xk_201_1 h) h
set_option maxRecDepth 100000 in
theorem xk_202_0 : xe_202_0.all (fun q => xdecB xm_202 q.1 q.2 && xlkB 13 xm_202 q.1 q.2) = true := by decide +kernel
theorem xg_202 (pc : Nat) (e : XI) : xc_202 pc = some e → xDec xm_202 pc e ∧ xLk xprog xcl xfty xTs xSL xTL xNW xm_202 pc e := fun h => xfind_ok (o := 13) (g := xm_202) rfl xk_202_0 h
set_option maxRecDepth 100000 in
theorem xk_203_0 : xe_203_0.all (fun q => xdecB xm_203 q.1 q.2 && xlkB 13 xm_203 q.1 q.2) = true := by decide +kernel
set_option maxRecDepth 100000 in
theorem xk_203_1 : xe_203_1.all (fun q => xdecB xm_203 q.1 q.2 && xlkB 13 xm_203 q.1 q.2) = true := by decide +kernel
theorem xg_203 (pc : Nat) (e : XI) : xc_203 pc = some e → xDec xm_203 pc e ∧ xLk xprog xcl xfty xTs xSL xTL xNW xm_203 pc e := fun h => xif_ok (fun h => xfind_ok (o := 13) (g := xm_203) rfl xk_203_0 h) (fun h => xfind_ok (o := 13) (g := xm_203) rfl xk_203_1 h) h
set_option maxRecDepth 100000 in
theorem xk_204_0 : xe_204_0.all (fun q => xdecB xm_204 q.1 q.2 && xlkB 13 xm_204 q.1 q.2) = true := by decide +kernel
theorem xg_204 (pc : Nat) (e : XI) : xc_204 pc = some e → xDec xm_204 pc e ∧ xLk xprog xcl xfty xTs xSL xTL xNW xm_204 pc e := fun h => xfind_ok (o := 13) (g := xm_204) rfl xk_204_0 h
