/-! the rows are looked at, 5 -/
set_option maxRecDepth 100000 in
theorem xk_158_0 : xe_158_0.all (fun q => xdecB xm_158 q.1 q.2 && xlkB 16 xm_158 q.1 q.2) = true := by decide +kernel
theorem xg_158 (pc : Nat) (e : XI) : xc_158 pc = some e → xDec xm_158 pc e ∧ xLk xprog xcl xfty xTs xSL xTL xNW xm_158 pc e := fun h => xfind_ok (o := 16) (g := xm_158) rfl xk_158_0 h
set_option maxRecDepth 100000 in
theorem xk_159_0 : xe_159_0.all (fun q => xdecB xm_159 q.1 q.2 && xlkB 15 xm_159 q.1 q.2) = true := by decide +kernel
theorem xg_159 (pc : Nat) (e : XI) : xc_159 pc = some e → xDec xm_159 pc e ∧ xLk xprog xcl xfty xTs xSL xTL xNW xm_159 pc e := fun h => xfind_ok (o := 15) (g := xm_159) rfl xk_159_0 h
set_option maxRecDepth 100000 in
theorem xk_160_0 : xe_160_0.all (fun q => xdecB xm_160 q.1 q.2 && xlkB 16 xm_160 q.1 q.2) = true := by decide +kernel
theorem xg_160 (pc : Nat) (e : XI) : xc_160 pc = some e → xDec xm_160 pc e ∧ xLk xprog xcl xfty xTs xSL xTL xNW xm_160 pc e := fun h => xfind_ok (o := 16) (g := xm_160) rfl xk_160_0 h
set_option maxRecDepth 100000 in
theorem xk_161_0 : xe_161_0.all (fun q => xdecB xm_161 q.1 q.2 && xlkB 15 xm_161 q.1 q.2) = true := by decide +kernel
theorem xg_161 (pc : Nat) (e : XI) : xc_161 pc = some e → xDec xm_161 pc e ∧ xLk xprog xcl xfty xTs xSL xTL xNW xm_161 pc e := fun h => xfind_ok (o := 15) (g := xm_161) rfl xk_161_0 h
set_option maxRecDepth 100000 in
theorem xk_162_0 : xe_162_0.all (fun q => xdecB xm_162 q.1 q.2 && xlkB 9 xm_162 q.1 q.2) = true := by decide +kernel
theorem xg_162 (pc : Nat) (e : XI) : xc_162 pc = some e → xDec xm_162 pc e ∧ xLk xprog xcl xfty xTs xSL xTL xNW xm_162 pc e := fun h => xfind_ok (o := 9) (g := xm_162) rfl xk_162_0 h
set_option maxRecDepth 100000 in
theorem xk_163_0 : xe_163_0.all (fun q => xdecB xm_163 q.1 q.2 && xlkB 9 xm_163 q.1 q.2) = true := by decide +kernel
theorem xg_163 (pc : Nat) (e : XI) : xc_163 pc = some e → xDec xm_163 pc e ∧ xLk xprog xcl xfty xTs xSL xTL xNW xm_163 pc e := fun h => xfind_ok (o := 9) (g := xm_163) rfl xk_163_0 h
set_option maxRecDepth 100000 in
theorem xk_164_0 : xe_164_0.all (fun q => xdecB xm_164 q.1 q.2 && xlkB 10 xm_164 q.1 q.2) = true := by decide +kernel
theorem xg_164 (pc : Nat) (e : XI) : xc_164 pc = some e → xDec xm_164 pc e ∧ xLk xprog xcl xfty xTs xSL xTL xNW xm_164 pc e := fun h => xfind_ok (o := 10) (g := xm_164) rfl xk_164_0 h
set_option maxRecDepth 100000 in
theorem xk_165_0 : xe_165_0.all (fun q => xdecB xm_165 q.1 q.2 && xlkB 10 xm_165 q.1 q.2) = true := by decide +kernel
theorem xg_165 (pc : Nat) (e : XI) : xc_165 pc = some e → xDec xm_165 pc e ∧ xLk xprog xcl xfty xTs xSL xTL xNW xm_165 pc e := fun h => xfind_ok (o := 10) (g := xm_165) rfl xk_165_0 h
set_option maxRecDepth 100000 in
theorem xk_166_0 : xe_166_0.all (fun q => xdecB xm_166 q.1 q.2 && xlkB 10 xm_166 q.1 q.2) = true := by decide +kernel
theorem xg_166 (pc : Nat) (e : XI) : xc_166 pc = some e → xDec xm_166 pc e ∧ xLk xprog xcl xfty xTs xSL xTL xNW xm_166 pc e := fun h => xfind_ok (o := 10) (g := xm_166) rfl xk_166_0 h
set_option maxRecDepth 100000 in
theorem xk_167_0 : xe_167_0.all (fun q => xdecB xm_167 q.1 q.2 && xlkB 10 xm_167 q.1 q.2) = true := by decide +kernel
theorem xg_167 (pc : Nat) (e : XI) : xc_167 pc = some e → xDec xm_167 pc e ∧ xLk xprog xcl xfty xTs xSL xTL xNW xm_167 pc e := fun h => xfind_ok (o := 10) (g := xm_167) rfl xk_167_0 h
set_option maxRecDepth 100000 in
theorem xk_168_0 : xe_168_0.all (fun q => xdecB xm_168 q.1 q.2 && xlkB 10 xm_168 q.1 q.2) = true := by decide +kernel
set_option maxRecDepth 100000 in
theorem xk_168_1 : xe_168_1.all (fun q => xdecB xm_168 q.1 q.2 && xlkB 10 xm_168 q.1 q.2) = true := by decide +kernel
theorem xg_168 (pc : Nat) (e : XI) : xc_168 pc = some e → xDec xm_168 pc e ∧ xLk xprog xcl xfty xTs xSL xTL xNW xm_168 pc e := fun h => xif_ok (fun h => xfind_ok (o := 10) (g := xm_168) rfl xk_168_0 h) (fun h => xfind_ok (o := 10) (g := xm_168) rfl xk_168_1 h) h
set_option maxRecDepth 100000 in
theorem xk_169_0 : xe_169_0.all (fun q => xdecB xm_169 q.1 q.2 && xlkB 10 xm_169 q.1 q.2) = true := by decide +kernel
theorem xg_169 (pc : Nat) (e : XI) : xc_169 pc = some e → xDec xm_169 pc e ∧ xLk xprog xcl xfty xTs xSL xTL xNW xm_169 pc e := fun h => xfind_ok (o := 10) (g := xm_169) rfl xk_169_0 h
set_option maxRecDepth 100000 in
theorem xk_170_0 : xe_170_0.all (fun q => xdecB xm_170 q.1 q.2 && xlkB 10 xm_170 q.1 q.2) = true := by decide +kernel
theorem xg_170 (pc : Nat) (e : XI) : xc_170 pc = some e → xDec xm_170 pc e ∧ xLk xprog xcl xfty xTs xSL xTL xNW xm_170 pc e := fun h => xfind_ok (o := 10) (g := xm_170) rfl xk_170_0 h
set_option maxRecDepth 100000 in
theorem xk_171_0 : xe_171_0.all (fun q => xdecB xm_171 q.1 q.2 && xlkB 9 xm_171 q.1 q.2) = true := by decide +kernel
theorem xg_171 (pc : Nat) (e : XI) : xc_171 pc = some e → xDec xm_171 pc e ∧ xLk xprog xcl xfty xTs xSL xTL xNW xm_171 pc e := fun h => xfind_ok (o := 9) (g := xm_171) rfl xk_171_0 h
set_option maxRecDepth 100000 in
theorem xk_172_0 : xe_172_0.all (fun q => xdecB xm_172 q.1 q.2 && xlkB 10 xm_172 q.1 q.2) = true := by decide +kernel
theorem xg_172 (pc : Nat) (e : XI) : xc_172 pc = some e → xDec xm_172 pc e ∧ xLk xprog xcl xfty xTs xSL xTL xNW xm_172 pc e := fun h => xfind_ok (o := 10) (g := xm_172) rfl xk_172_0 h
set_option maxRecDepth 100000 in
theorem xk_173_0 : xe_173_0.all (fun q => xdecB xm_173 q.1 q.2 && xlkB 10 xm_173 q.1 q.2) = true := by decide +kernel
theorem xg_173 (pc : Nat) (e : XI) : xc_173 pc = some e → xDec xm_173 pc e ∧ xLk xprog xcl xfty xTs xSL xTL xNW xm_173 pc e := fun h => xfind_ok (o := 10) (g := xm_173) rfl xk_173_0 h
set_option maxRecDepth 100000 in
theorem xk_174_0 : xe_174_0.all (fun q => xdecB xm_174 q.1 q.2 && xlkB 15 xm_174 q.1 q.2) = true := by decide +kernel
theorem xg_174 (pc : Nat) (e : XI) : xc_174 pc = some e → xDec xm_174 pc e ∧ xLk xprog xcl xfty xTs xSL xTL xNW xm_174 pc e := fun h => xfind_ok (o := 15) (g := xm_174) rfl xk_174_0 h
set_option maxRecDepth 100000 in
theorem xk_175_0 : xe_175_0.all (fun q => xdecB xm_175 q.1 q.2 && xlkB 16 xm_175 q.1 q.2) = true := by decide +kernel
theorem xg_175 (pc : Nat) (e : XI) : xc_175 pc = some e → xDec xm_175 pc e ∧ xLk xprog xcl xfty xTs xSL xTL xNW xm_175 pc e := fun h => xfind_ok (o := 16) (g := xm_175) rfl xk_175_0 h
set_option maxRecDepth 100000 in
theorem xk_176_0 : xe_176_0.all (fun q => xdecB xm_176 q.1 q.2 && xlkB 16 xm_176 q.1 q.2) = true := by decide +kernel
theorem xg_176 (pc : Nat) (e : XI) : xc_176 pc = some e → xDec xm_176 pc e ∧ xLk xprog xcl xfty xTs xSL xTL xNW xm_176 pc e := fun h => xfind_ok (o := 16) (g := xm_176) rfl xk_176_0 h
set_option maxRecDepth 100000 in
theorem xk_177_0 : xe_177_0.all (fun q => xdecB xm_177 q.1 q.2 && xlkB 16 xm_177 q.1 q.2) = true := by decide +kernel
theorem xg_177 (pc : Nat) (e : XI) : xc_177 pc = some e → xDec xm_177 pc e ∧ xLk xprog xcl xfty xTs xSL xTL xNW xm_177 pc e := fun h => xfind_ok (o := 16) (g := xm_177) rfl xk_177_0 h
set_option maxRecDepth 100000 in
theorem xk_178_0 : xe_178_0.all (fun q => xdecB xm_178 q.1 q.2 && xlkB 16 xm_178 q.1 q.2) = true := by decide +kernel
theorem xg_178 (pc : Nat) (e : XI) : xc_178 pc = some e → xDec xm_178 pc e ∧ xLk xprog xcl xfty xTs xSL xTL xNW xm_178 pc e := fun h => xfind_ok (o := 16) (g := xm_178) rfl xk_178_0 h
set_option maxRecDepth 100000 in
theorem xk_179_0 : xe_179_0.all (fun q => xdecB xm_179 q.1 q.2 && xlkB 16 xm_179 q.1 q.2) = true := by decide +kernel
theorem xg_179 (pc : Nat) (e : XI) : xc_179 pc = some e → xDec xm_179 pc e ∧ xLk xprog xcl xfty xTs xSL xTL xNW xm_179 pc e := fun h => xfind_ok (o := 16) (g := xm_179) rfl xk_179_0 h
set_option maxRecDepth 100000 in
theorem xk_180_0 : xe_180_0.all (fun q => xdecB xm_180 q.1 q.2 && xlkB 16 xm_180 q.1 q.2) = true := by decide +kernel
set_option maxRecDepth 100000 in
theorem xk_180_1 : xe_180_1.all (fun q => xdecB xm_180 q.1 q.2 && xlkB 16 xm_180 q.1 q.2) = true := by decide +kernel
set_option maxRecDepth 100000 in
theorem xk_180_2 : xe_180_2.all (fun q => xdecB xm_180 q.1 q.2 && xlkB 16 xm_180 q.1 q.2) = true := by decide +kernel
set_option maxRecDepth 100000 in
theorem xk_180_3 : xe_180_3.all (fun q => xdecB xm_180 q.1 q.2 && xlkB 16 xm_180 q.1 q.2) = true := by decide +kernel
set_option maxRecDepth 100000 in
theorem xk_180_4 : xe_180_4.all (fun q => xdecB xm_180 q.1 q.2 && xlkB 16 xm_180 q.1 q.2) = true := by decide +kernel
theorem xg_180 (pc : Nat) (e : XI) : xc_180 pc = some e → xDec xm_180 pc e ∧ xLk xprog xcl xfty xTs xSL xTL xNW xm_180 pc e := fun h => xif_ok (fun h => xif_ok (fun h => xfind_ok (o := 16) (g := xm_180) rfl xk_180_0 h) (fun h => xfind_ok (o := 16) (g := xm_180) rfl xk_180_1 h) h) (fun h => xif_ok (fun h => xfind_ok (o := 16) (g := xm_180) rfl xk_180_2 h) (fun h => xif_ok (fun h => xfind_ok (o := 16) (g := xm_180) rfl xk_180_3 h) (fun h => xfind_ok (o := 16) (g := xm_180) rfl xk_180_4 h) h) h) h
set_option maxRecDepth 100000 in
theorem xk_181_0 : xe_181_0.all (fun q => xdecB xm_181 q.1 q.2 && xlkB 16 xm_181 q.1 q.2) = true := by decide +kernel
theorem xg_181 (pc : Nat) (e : XI) : xc_181 pc = some e → xDec xm_181 pc e ∧ xLk xprog xcl xfty xTs xSL xTL xNW xm_181 pc e := fun h => xfind_ok (o := 16) (g := xm_181) rfl xk_181_0 h
set_option maxRecDepth 100000 in
theorem xk_182_0 : xe_182_0.all (fun q => xdecB xm_182 q.1 q.2 && xlkB 16 xm_182 q.1 q.2) = true := by decide +kernel
theorem xg_182 (pc : Nat) (e : XI) : xc_182 pc = some e → xDec xm_182 pc e ∧ xLk xprog xcl xfty xTs xSL xTL xNW xm_182 pc e := fun h => xfind_ok (o := 16) (g := xm_182) rfl xk_182_0 h
set_option maxRecDepth 100000 in
theorem xk_183_0 : xe_183_0.all (fun q => xdecB xm_183 q.1 q.2 && xlkB 11 xm_183 q.1 q.2) = true := by decide +kernel
theorem xg_183 (pc : Nat) (e : XI) : xc_183 pc = some e → xDec xm_183 pc e ∧ xLk xprog xcl xfty xTs xSL xTL xNW xm_183 pc e := fun h => xfind_ok (o := 11) (g := xm_183) rfl xk_183_0 h
set_option maxRecDepth 100000 in
theorem xk_184_0 : xe_184_0.all (fun q => xdecB xm_184 q.1 q.2 && xlkB 15 xm_184 q.1 q.2) = true := by decide +kernel
theorem xg_184 (pc : Nat) (e : XI) : xc_184 pc = some e → xDec xm_184 pc e ∧ xLk xprog xcl xfty xTs xSL xTL xNW xm_184 pc e := fun h => xfind_ok (o := 15) (g := xm_184) rfl xk_184_0 h
set_option maxRecDepth 100000 in
theorem xk_185_0 : xe_185_0.all (fun q => xdecB xm_185 q.1 q.2 && xlkB 16 xm_185 q.1 q.2) = true := by decide +kernel
theorem xg_185 (pc : Nat) (e : XI) : xc_185 pc = some e → xDec xm_185 pc e ∧ xLk xprog xcl xfty xTs xSL xTL xNW xm_185 pc e := fun h => xfind_ok (o := 16) (g := xm_185) rfl xk_185_0 h
set_option maxRecDepth 100000 in
theorem xk_186_0 : xe_186_0.all (fun q => xdecB xm_186 q.1 q.2 && xlkB 13 xm_186 q.1 q.2) = true := by decide +kernel
set_option maxRecDepth 100000 in
theorem xk_186_1 : xe_186_1.all (fun q => xdecB xm_186 q.1 q.2 && xlkB 13 xm_186 q.1 q.2) = true := by decide +kernel
theorem xg_186 (pc : Nat) (e : XI) : xc_186 pc = some e → xDec xm_186 pc e ∧ xLk xprog xcl xfty xTs xSL xTL xNW xm_186 pc e := fun h => xif_ok (fun h => xfind_ok (o := 13) (g := xm_186) rfl xk_186_0 h) (fun h => xfind_ok (o := 13) (g := xm_186) rfl xk_186_1 h) h
set_option maxRecDepth 100000 in
theorem xk_187_0 : xe_187_0.all (fun q => xdecB xm_187 q.1 q.2 && xlkB 17 xm_187 q.1 q.2) = true := by decide +kernel
theorem xg_187 (pc : Nat) (e : XI) : xc_187 pc = some e → xDec xm_187 pc e ∧ xLk xprog xcl xfty xTs xSL xTL xNW xm_187 pc e := fun h => xfind_ok (o := 17) (g := xm_187) rfl xk_187_0 h
set_option maxRecDepth 100000 in
theorem xk_188_0 : xe_188_0.all (fun q => xdecB xm_188 q.1 q.2 && xlkB 13 xm_188 q.1 q.2) = true := by decide +kernel
theorem xg_188 (pc : Nat) (e : XI) : xc_188 pc = some e → xDec xm_188 pc e ∧ xLk xprog xcl xfty xTs xSL xTL xNW xm_188 pc e := fun h => xfind_ok (o := 13) (g := xm_188) rfl xk_188_0 h
set_option maxRecDepth 100000 in
theorem xk_189_0 : xe_189_0.all (fun q => xdecB xm_189 q.1 q.2 && xlkB 13 xm_189 q.1 q.2) = true := by decide +kernel
theorem xg_189 (pc : Nat) (e : XI) : xc_189 pc = some e → xDec xm_189 pc e ∧ xLk xprog xcl xfty xTs xSL xTL xNW xm_189 pc e := fun h => xfind_ok (o := 13) (g := xm_189) rfl xk_189_0 h
set_option maxRecDepth 100000 in
theorem xk_190_0 : xe_190_0.all (fun q => xdecB xm_190 q.1 q.2 && xlkB 13 xm_190 q.1 q.2) = true := by decide +kernel
theorem xg_190 (pc : Nat) (e : XI) : xc_190 pc = some e → xDec xm_190 pc e ∧ xLk xprog xcl xfty xTs xSL xTL xNW xm_190 pc e := fun h => xfind_ok (o := 13) (g := xm_190) rfl xk_190_0 h
set_option maxRecDepth 100000 in
theorem xk_191_0 : xe_191_0.all (fun q => xdecB xm_191 q.1 q.2 && xlkB 13 xm_191 q.1 q.2) = true := by decide +kernel
set_option maxRecDepth 100000 in
theorem xk_191_1 : xe_191_1.all (fun q => xdecB xm_191 q.1 q.2 && xlkB 13 xm_191 q.1 q.2) = true := by decide +kernel
theorem xg_191 (pc : Nat) (e : XI) : xc_191 pc = some e → xDec xm_191 pc e ∧ xLk xprog xcl xfty xTs xSL xTL xNW xm_191 pc e := fun h => xif_ok (fun h => xfind_ok (o := 13) (g := xm_191) rfl xk_191_0 h) (fun h => xfind_ok (o := 13) (g := xm_191) rfl xk_191_1 h) h
set_option maxRecDepth 100000 in
theorem xk_192_0 : xe_192_0.all (fun q => xdecB xm_192 q.1 q.2 && xlkB 13 xm_192 q.1 q.2) = true := by decide +kernel
set_option maxRecDepth 100000 in
theorem xk_192_1 : xe_192_1.all (fun q => xdecB xm_192 q.1 q.2 && xlkB 13 xm_192 q.1 q.2) = true := by decide +kernel
theorem xg_192 (pc : Nat) (e : XI) : xc_192 pc = some e → xDec xm_192 pc e ∧ xLk xprog xcl xfty xTs xSL xTL xNW xm_192 pc e := fun h => xif_ok (fun h => xfind_ok (o := 13) (g := xm_192) rfl xk_192_0 h) (fun h => xfind_ok (o := 13) (g := xm_192) rfl xk_192_1 h) h
set_option maxRecDepth 100000 in
theorem xk_193_0 : xe_193_0.all (fun q => xdecB xm_193 q.1 q.2 && xlkB 15 xm_193 q.1 q.2) = true := by decide +kernel
theorem xg_193 (pc : Nat) (e : XI) : xc_193 pc = some e → xDec xm_193 pc e ∧ xLk xprog xcl xfty xTs xSL xTL xNW xm_193 pc e := fun h => xfind_ok (o := 15) (g := xm_193) rfl xk_193_0 h
set_option maxRecDepth 100000 in
theorem xk_194_0 : xe_194_0.all (fun q => xdecB xm_194 q.1 q.2 && xlkB 16 xm_194 q.1 q.2) = true := by decide +kernel
theorem xg_194 (pc : Nat) (e : XI) : xc_194 pc = some e → xDec xm_194 pc e ∧ xLk xprog xcl xfty xTs xSL xTL xNW xm_194 pc e := fun h => xfind_ok (o := 16) (g := xm_194) rfl xk_194_0 h
set_option maxRecDepth 100000 in
theorem xk_195_0 : xe_195_0.all (fun q => xdecB xm_195 q.1 q.2 && xlkB 16 xm_195 q.1 q.2) = true := by decide +kernel
set_option maxRecDepth 100000 in
theorem xk_195_1 : xe_195_1.all (fun q => xdecB xm_195 q.1 q.2 && xlkB 16 xm_195 q.1 q.2) = true := by decide +kernel
theorem xg_195 (pc : Nat) (e : XI) : xc_195 pc = some e → xDec xm_195 pc e ∧ xLk xprog xcl xfty xTs xSL xTL xNW xm_195 pc e := fun h => xif_ok (fun h => xfind_ok (o := 16) (g := xm_195) rfl xk_195_0 h) (fun h => xfind_ok (o := 16) (g := xm_195) rfl xk_195_1 h) h
set_option maxRecDepth 100000 in
theorem xk_196_0 : xe_196_0.all (fun q => xdecB xm_196 q.1 q.2 && xlkB 16 xm_196 q.1 q.2) = true := by decide +kernel
theorem xg_196 (pc : Nat) (e : XI) : xc_196 pc = some e → xDec xm_196 pc e ∧ xLk xprog xcl xfty xTs xSL xTL xNW xm_196 pc e := fun h => xfind_ok (o := 16) (g := xm_196) rfl xk_196_0 h
set_option maxRecDepth 100000 in
theorem xk_197_0 : xe_197_0.all (fun q => xdecB xm_197 q.1 q.2 && xlkB 16 xm_197 q.1 q.2) = true := by decide +kernel
theorem xg_197 (pc : Nat) (e : XI) : xc_197 pc = some e → xDec xm_197 pc e ∧ xLk xprog xcl xfty xTs xSL xTL xNW xm_197 pc e := fun h => xfind_ok (o := 16) (g := xm_197) rfl xk_197_0 h
set_option maxRecDepth 100000 in
theorem xk_198_0 : xe_198_0.all (fun q => xdecB xm_198 q.1 q.2 && xlkB 16 xm_198 q.1 q.2) = true := by decide +kernel
set_option maxRecDepth 100000 in
theorem xk_198_1 : xe_198_1.all (fun q => xdecB xm_198 q.1 q.2 && xlkB 16 xm_198 q.1 q.2) = true := by decide +kernel
set_option maxRecDepth 100000 in
theorem xk_198_2 : xe_198_2.all (fun q => xdecB xm_198 q.1 q.2 && xlkB 16 xm_198 q.1 q.2) = true := by decide +kernel
theorem xg_198 (pc : Nat) (e : XI) : xc_198 pc = some e → xDec xm_198 pc e ∧ xLk xprog xcl xfty xTs xSL xTL xNW xm_198 pc e := fun h => xif_ok (fun h => xfind_ok (o := 16) (g := xm_198) rfl xk_198_0 h) (fun h => xif_ok (fun h => xfind_ok (o := 16) (g := xm_198) rfl xk_198_1 h) (fun h => xfind_ok (o := 16) (g := xm_198) rfl xk_198_2 h) h) h
set_option maxRecDepth 100000 in
theorem xk_199_0 : xe_199_0.all (fun q => xdecB xm_199 q.1 q.2 && xlkB 16 xm_199 q.1 q.2) = true := by decide +kernel
theorem xg_199 (pc : Nat) (e : XI) : xc_199 pc = some e → xDec xm_199 pc e ∧ xLk xprog xcl xfty xTs xSL xTL xNW xm_199 pc e := fun h => xfind_ok (o := 16) (g := xm_199) rfl xk_199_0 h
set_option maxRecDepth 100000 in
theorem xk_200_0 : xe_200_0.all (fun q => xdecB xm_200 q.1 q.2 && xlkB 16 xm_200 q.1 q.2) = true := by decide +kernel
set_option maxRecDepth 100000 in
theorem xk_200_1 : xe_200_1.all (fun q => xdecB xm_200 q.1 q.2 && xlkB 16 xm_200 q.1 q.2) = true := by decide +kernel
theorem xg_200 (pc : Nat) (e : XI) : xc_200 pc = some e → xDec xm_200 pc e ∧ xLk xprog xcl xfty xTs xSL xTL xNW xm_200 pc e := fun h => xif_ok (fun h => xfind_ok (o := 16) (g := xm_200) rfl xk_200_0 h) (fun h => xfind_ok (o := 16) (g := xm_200) rfl xk_200_1 h) h
set_option maxRecDepth 100000 in
theorem xk_201_0 : xe_201_0.all (fun q => xdecB xm_201 q.1 q.2 && xlkB 13 xm_201 q.1 q.2) = true := by decide +kernel
set_option maxRecDepth 100000 in
theorem xk_201_1 : xe_201_1.all (fun q => xdecB xm_201 q.1 q.2 && xlkB 13 xm_201 q.1 q.2) = true := by decide +kernel
theorem xg_201 (pc : Nat) (e : XI) : xc_201 pc = some e → xDec xm_201 pc e ∧ xLk xprog xcl xfty xTs xSL xTL xNW xm_201 pc e := fun h => xif_ok (fun h => xfind_ok (o := 13) (g := xm_201) rfl xk_201_0 h) (fun h => xfind_ok (o := 13) (g := xm_201) rfl xk_201_1 h) h
set_option maxRecDepth 100000 in
theorem xk_202_0 : xe_202_0.all (fun q => xdecB xm_202 q.1 q.2 && xlkB 13 xm_202 q.1 q.2) = true := by decide +kernel
theorem xg_202 (pc : Nat) (e : XI) : xc_202 pc = some e → xDec xm_202 pc e ∧ xLk xprog xcl xfty xTs xSL xTL xNW xm_202 pc e := fun h => xfind_ok (o := 13) (g := xm_202) rfl xk_202_0 h
