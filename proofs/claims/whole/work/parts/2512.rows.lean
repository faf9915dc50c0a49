/-! the rows are looked at, 12 -/
set_option maxRecDepth 100000 in
theorem xk_153_0 : xe_153_0.all (fun q => xdecB xm_153 q.1 q.2 && xlkB 16 xm_153 q.1 q.2) = true := by decide +kernel
set_option maxRecDepth 100000 in
theorem xk_153_1 : xe_153_1.all (fun q => xdecB xm_153 q.1 q.2 && xlkB 16 xm_153 q.1 q.2) = true := by decide +kernel
theorem xg_153 (pc : Nat) (e : XI) : xc_153 pc = some e → xDec xm_153 pc e ∧ xLk xprog xcl xfty xTs xSL xTL xNW xm_153 pc e := fun h => xif_ok (fun h => xfind_ok (o := 16) (g := xm_153) rfl xk_153_0 h) (fun h => xfind_ok (o := 16) (g := xm_153) rfl xk_153_1 h) h
set_option maxRecDepth 100000 in
theorem xk_154_0 : xe_154_0.all (fun q => xdecB xm_154 q.1 q.2 && xlkB 16 xm_154 q.1 q.2) = true := by decide +kernel
theorem xg_154 (pc : Nat) (e : XI) : xc_154 pc = some e → xDec xm_154 pc e ∧ xLk xprog xcl xfty xTs xSL xTL xNW xm_154 pc e := fun h => xfind_ok (o := 16) (g := xm_154) rfl xk_154_0 h
set_option maxRecDepth 100000 in
theorem xk_155_0 : xe_155_0.all (fun q => xdecB xm_155 q.1 q.2 && xlkB 15 xm_155 q.1 q.2) = true := by decide +kernel
theorem xg_155 (pc : Nat) (e : XI) : xc_155 pc = some e → xDec xm_155 pc e ∧ xLk xprog xcl xfty xTs xSL xTL xNW xm_155 pc e := fun h => xfind_ok (o := 15) (g := xm_155) rfl xk_155_0 h
set_option maxRecDepth 100000 in
theorem xk_156_0 : xe_156_0.all (fun q => xdecB xm_156 q.1 q.2 && xlkB 10 xm_156 q.1 q.2) = true := by decide +kernel
theorem xg_156 (pc : Nat) (e : XI) : xc_156 pc = some e → xDec xm_156 pc e ∧ xLk xprog xcl xfty xTs xSL xTL xNW xm_156 pc e := fun h => xfind_ok (o := 10) (g := xm_156) rfl xk_156_0 h
set_option maxRecDepth 100000 in
theorem xk_157_0 : xe_157_0.all (fun q => xdecB xm_157 q.1 q.2 && xlkB 15 xm_157 q.1 q.2) = true := by decide +kernel
theorem xg_157 (pc : Nat) (e : XI) : xc_157 pc = some e → xDec xm_157 pc e ∧ xLk xprog xcl xfty xTs xSL xTL xNW xm_157 pc e := fun h => xfind_ok (o := 15) (g := xm_157) rfl xk_157_0 h
set_option maxRecDepth 100000 in
theorem xk_158_0 : xe_158_0.all (fun q => xdecB xm_158 q.1 q.2 && xlkB 16 xm_158 q.1 q.2) = true := by decide +kernel
theorem xg_158 (pc : Nat) (e : XI) : xc_158 pc = some e → xDec xm_158 pc e ∧ xLk xprog xcl xfty xTs xSL xTL xNW xm_158 pc e := fun h => xfind_ok (o := 16) (g := xm_158) rfl xk_158_0 h
set_option maxRecDepth 100000 in
theorem xk_159_0 : xe_159_0.all (fun q => xdecB xm_159 q.1 q.2 && xlkB 15 xm_159 q.1 q.2) = true := by decide +kernel
theorem xg_159 (pc : Nat) (e : XI) : xc_159 pc = some e → xDec xm_159 pc e ∧ xLk xprog xcl xfty xTs xSL xTL xNW xm_159 pc e := fun h => xfind_ok (o := 15) (g := xm_159) rfl xk_159_0 h
set_option maxRecDepth 100000 in
theorem xk_160_0 : xe_160_0.all (fun q => xdecB xm_160 q.1 q.2 && xlkB 16 xm_160 q.1 q.2) = true := by decide +kernel
theorem xg_160 (pc : Nat) (e : XI) : xc_160 pc = some e → xDec xm_160 pc e ∧ xLk xprog xcl xfty xTs xSL xTL xNW xm_160 pc e := fun h => xfind_ok (o := 16) (g := xm_160) rfl xk_160_0 h
set_option maxRecDepth 100000 in
theorem xk_161_0 : xe_161_0.all (fun q => xdecB xm_161 q.1 q.2 && xlkB 15 xm_161 q.1 q.2) = true := by decide +kernel
theorem xg_161 (pc : Nat) (e : XI) : xc_161 pc = some e → xDec xm_161 pc e ∧ xLk xprog xcl xfty xTs xSL xTL xNW xm_161 pc e := fun h => xfind_ok (o := 15) (g := xm_161) rfl xk_161_0 h
set_option maxRecDepth 100000 in
theorem xk_162_0 : xe_162_0.all (fun q => xdecB xm_162 q.1 q.2 && xlkB 9 xm_162 q.1 q.2) = true := by decide +kernel
theorem xg_162 (pc : Nat) (e : XI) : xc_162 pc = some e → xDec xm_162 pc e ∧ xLk xprog xcl xfty xTs xSL xTL xNW xm_162 pc e := fun h => xfind_ok (o := 9) (g := xm_162) rfl xk_162_0 h
set_option maxRecDepth 100000 in
theorem xk_163_0 : xe_163_0.all (fun q => xdecB xm_163 q.1 q.2 && xlkB 9 xm_163 q.1 q.2) = true := by decide +kernel
theorem xg_163 (pc : Nat) (e : XI) : xc_163 pc = some e → xDec xm_163 pc e ∧ xLk xprog xcl xfty xTs xSL xTL xNW xm_163 pc e := fun h => xfind_ok (o := 9) (g := xm_163) rfl xk_163_0 h
set_option maxRecDepth 100000 in
theorem xk_164_0 : xe_164_0.all (fun q => xdecB xm_164 q.1 q.2 && xlkB 10 xm_164 q.1 q.2) = true := by decide +kernel
theorem xg_164 (pc : Nat) (e : XI) : xc_164 pc = some e → xDec xm_164 pc e ∧ xLk xprog xcl xfty xTs xSL xTL xNW xm_164 pc e := fun h => xfind_ok (o := 10) (g := xm_164) rfl xk_164_0 h
set_option maxRecDepth 100000 in
theorem xk_165_0 : xe_165_0.all (fun q => xdecB xm_165 q.1 q.2 && xlkB 10 xm_165 q.1 q.2) = true := by decide +kernel
theorem xg_165 (pc : Nat) (e : XI) : xc_165 pc = some e → xDec xm_165 pc e ∧ xLk xprog xcl xfty xTs xSL xTL xNW xm_165 pc e := fun h => xfind_ok (o := 10) (g := xm_165) rfl xk_165_0 h
set_option maxRecDepth 100000 in
theorem xk_166_0 : xe_166_0.all (fun q => xdecB xm_166 q.1 q.2 && xlkB 10 xm_166 q.1 q.2) = true := by decide +kernel
theorem xg_166 (pc : Nat) (e : XI) : xc_166 pc = some e → xDec xm_166 pc e ∧ xLk xprog xcl xfty xTs xSL xTL xNW xm_166 pc e := fun h => xfind_ok (o := 10) (g := xm_166) rfl xk_166_0 h
set_option maxRecDepth 100000 in
theorem xk_167_0 : xe_167_0.all (fun q => xdecB xm_167 q.1 q.2 && xlkB 10 xm_167 q.1 q.2) = true := by decide +kernel
theorem xg_167 (pc : Nat) (e : XI) : xc_167 pc = some e → xDec xm_167 pc e ∧ xLk xprog xcl xfty xTs xSL xTL xNW xm_167 pc e := fun h => xfind_ok (o := 10) (g := xm_167) rfl xk_167_0 h
set_option maxRecDepth 100000 in
theorem xk_168_0 : xe_168_0.all (fun q => xdecB xm_168 q.1 q.2 && xlkB 10 xm_168 q.1 q.2) = true := by decide +kernel
set_option maxRecDepth 100000 in
theorem xk_168_1 : xe_168_1.all (fun q => xdecB xm_168 q.1 q.2 && xlkB 10 xm_168 q.1 q.2) = true := by decide +kernel
theorem xg_168 (pc : Nat) (e : XI) : xc_168 pc = some e → xDec xm_168 pc e ∧ xLk xprog xcl xfty xTs xSL xTL xNW xm_168 pc e := fun h => xif_ok (fun h => xfind_ok (o := 10) (g := xm_168) rfl xk_168_0 h) (fun h => xfind_ok (o := 10) (g := xm_168) rfl xk_168_1 h) h
set_option maxRecDepth 100000 in
theorem xk_169_0 : xe_169_0.all (fun q => xdecB xm_169 q.1 q.2 && xlkB 10 xm_169 q.1 q.2) = true := by decide +kernel
theorem xg_169 (pc : Nat) (e : XI) : xc_169 pc = some e → xDec xm_169 pc e ∧ xLk xprog xcl xfty xTs xSL xTL xNW xm_169 pc e := fun h => xfind_ok (o := 10) (g := xm_169) rfl xk_169_0 h
set_option maxRecDepth 100000 in
theorem xk_170_0 : xe_170_0.all (fun q => xdecB xm_170 q.1 q.2 && xlkB 10 xm_170 q.1 q.2) = true := by decide +kernel
theorem xg_170 (pc : Nat) (e : XI) : xc_170 pc = some e → xDec xm_170 pc e ∧ xLk xprog xcl xfty xTs xSL xTL xNW xm_170 pc e := fun h => xfind_ok (o := 10) (g := xm_170) rfl xk_170_0 h
set_option maxRecDepth 100000 in
theorem xk_171_0 : xe_171_0.all (fun q => xdecB xm_171 q.1 q.2 && xlkB 9 xm_171 q.1 q.2) = true := by decide +kernel
theorem xg_171 (pc : Nat) (e : XI) : xc_171 pc = some e → xDec xm_171 pc e ∧ xLk xprog xcl xfty xTs xSL xTL xNW xm_171 pc e := fun h => xfind_ok (o := 9) (g := xm_171) rfl xk_171_0 h
set_option maxRecDepth 100000 in
theorem xk_172_0 : xe_172_0.all (fun q => xdecB xm_172 q.1 q.2 && xlkB 10 xm_172 q.1 q.2) = true := by decide +kernel
theorem xg_172 (pc : Nat) (e : XI) : xc_172 pc = some e → xDec xm_172 pc e ∧ xLk xprog xcl xfty xTs xSL xTL xNW xm_172 pc e := fun h => xfind_ok (o := 10) (g := xm_172) rfl xk_172_0 h
set_option maxRecDepth 100000 in
theorem xk_173_0 : xe_173_0.all (fun q => xdecB xm_173 q.1 q.2 && xlkB 10 xm_173 q.1 q.2) = true := by decide +kernel
theorem xg_173 (pc : Nat) (e : XI) : xc_173 pc = some e → xDec xm_173 pc e ∧ xLk xprog xcl xfty xTs xSL xTL xNW xm_173 pc e := fun h => xfind_ok (o := 10) (g := xm_173) rfl xk_173_0 h
set_option maxRecDepth 100000 in
theorem xk_174_0 : xe_174_0.all (fun q => xdecB xm_174 q.1 q.2 && xlkB 15 xm_174 q.1 q.2) = true := by decide +kernel
theorem xg_174 (pc : Nat) (e : XI) : xc_174 pc = some e → xDec xm_174 pc e ∧ xLk xprog xcl xfty xTs xSL xTL xNW xm_174 pc e := fun h => xfind_ok (o := 15) (g := xm_174) rfl xk_174_0 h
set_option maxRecDepth 100000 in
theorem xk_175_0 : xe_175_0.all (fun q => xdecB xm_175 q.1 q.2 && xlkB 16 xm_175 q.1 q.2) = true := by decide +kernel
theorem xg_175 (pc : Nat) (e : XI) : xc_175 pc = some e → xDec xm_175 pc e ∧ xLk xprog xcl xfty xTs xSL xTL xNW xm_175 pc e := fun h => xfind_ok (o := 16) (g := xm_175) rfl xk_175_0 h
set_option maxRecDepth 100000 in
theorem xk_176_0 : xe_176_0.all (fun q => xdecB xm_176 q.1 q.2 && xlkB 16 xm_176 q.1 q.2) = true := by decide +kernel
theorem xg_176 (pc : Nat) (e : XI) : xc_176 pc = some e → xDec xm_176 pc e ∧ xLk xprog xcl xfty xTs xSL xTL xNW xm_176 pc e := fun h => xfind_ok (o := 16) (g := xm_176) rfl xk_176_0 h
set_option maxRecDepth 100000 in
theorem xk_177_0 : xe_177_0.all (fun q => xdecB xm_177 q.1 q.2 && xlkB 16 xm_177 q.1 q.2) = true := by decide +kernel
theorem xg_177 (pc : Nat) (e : XI) : xc_177 pc = some e → xDec xm_177 pc e ∧ xLk xprog xcl xfty xTs xSL xTL xNW xm_177 pc e := fun h => xfind_ok (o := 16) (g := xm_177) rfl xk_177_0 h
