/-! the rows are looked at, 4 -/
set_option maxRecDepth 100000 in
theorem xk_124_0 : xe_124_0.all (fun q => xdecB xm_124 q.1 q.2 && xlkB 9 xm_124 q.1 q.2) = true := by decide +kernel
set_option maxRecDepth 100000 in
theorem xk_124_1 : xe_124_1.all (fun q => xdecB xm_124 q.1 q.2 && xlkB 9 xm_124 q.1 q.2) = true := by decide +kernel
set_option maxRecDepth 100000 in
theorem xk_124_2 : xe_124_2.all (fun q => xdecB xm_124 q.1 q.2 && xlkB 9 xm_124 q.1 q.2) = true := by decide +kernel
theorem xg_124 (pc : Nat) (e : XI) : xc_124 pc = some e → xDec xm_124 pc e ∧ xLk xprog xcl xfty xTs xSL xTL xNW xm_124 pc e := fun h => xif_ok (fun h => xfind_ok (o := 9) (g := xm_124) rfl xk_124_0 h) (fun h => xif_ok (fun h => xfind_ok (o := 9) (g := xm_124) rfl xk_124_1 h) (fun h => xfind_ok (o := 9) (g := xm_124) rfl xk_124_2 h) h) h
set_option maxRecDepth 100000 in
theorem xk_125_0 : xe_125_0.all (fun q => xdecB xm_125 q.1 q.2 && xlkB 6 xm_125 q.1 q.2) = true := by decide +kernel
theorem xg_125 (pc : Nat) (e : XI) : xc_125 pc = some e → xDec xm_125 pc e ∧ xLk xprog xcl xfty xTs xSL xTL xNW xm_125 pc e := fun h => xfind_ok (o := 6) (g := xm_125) rfl xk_125_0 h
set_option maxRecDepth 100000 in
theorem xk_126_0 : xe_126_0.all (fun q => xdecB xm_126 q.1 q.2 && xlkB 6 xm_126 q.1 q.2) = true := by decide +kernel
set_option maxRecDepth 100000 in
theorem xk_126_1 : xe_126_1.all (fun q => xdecB xm_126 q.1 q.2 && xlkB 6 xm_126 q.1 q.2) = true := by decide +kernel
set_option maxRecDepth 100000 in
theorem xk_126_2 : xe_126_2.all (fun q => xdecB xm_126 q.1 q.2 && xlkB 6 xm_126 q.1 q.2) = true := by decide +kernel
theorem xg_126 (pc : Nat) (e : XI) : xc_126 pc = some e → xDec xm_126 pc e ∧ xLk xprog xcl xfty xTs xSL xTL xNW xm_126 pc e := fun h => xif_ok (fun h => xfind_ok (o := 6) (g := xm_126) rfl xk_126_0 h) (fun h => xif_ok (fun h => xfind_ok (o := 6) (g := xm_126) rfl xk_126_1 h) (fun h => xfind_ok (o := 6) (g := xm_126) rfl xk_126_2 h) h) h
set_option maxRecDepth 100000 in
theorem xk_127_0 : xe_127_0.all (fun q => xdecB xm_127 q.1 q.2 && xlkB 9 xm_127 q.1 q.2) = true := by decide +kernel
theorem xg_127 (pc : Nat) (e : XI) : xc_127 pc = some e → xDec xm_127 pc e ∧ xLk xprog xcl xfty xTs xSL xTL xNW xm_127 pc e := fun h => xfind_ok (o := 9) (g := xm_127) rfl xk_127_0 h
set_option maxRecDepth 100000 in
theorem xk_128_0 : xe_128_0.all (fun q => xdecB xm_128 q.1 q.2 && xlkB 9 xm_128 q.1 q.2) = true := by decide +kernel
theorem xg_128 (pc : Nat) (e : XI) : xc_128 pc = some e → xDec xm_128 pc e ∧ xLk xprog xcl xfty xTs xSL xTL xNW xm_128 pc e := fun h => xfind_ok (o := 9) (g := xm_128) rfl xk_128_0 h
set_option maxRecDepth 100000 in
theorem xk_129_0 : xe_129_0.all (fun q => xdecB xm_129 q.1 q.2 && xlkB 15 xm_129 q.1 q.2) = true := by decide +kernel
theorem xg_129 (pc : Nat) (e : XI) : xc_129 pc = some e → xDec xm_129 pc e ∧ xLk xprog xcl xfty xTs xSL xTL xNW xm_129 pc e := fun h => xfind_ok (o := 15) (g := xm_129) rfl xk_129_0 h
set_option maxRecDepth 100000 in
theorem xk_130_0 : xe_130_0.all (fun q => xdecB xm_130 q.1 q.2 && xlkB 9 xm_130 q.1 q.2) = true := by decide +kernel
theorem xg_130 (pc : Nat) (e : XI) : xc_130 pc = some e → xDec xm_130 pc e ∧ xLk xprog xcl xfty xTs xSL xTL xNW xm_130 pc e := fun h => xfind_ok (o := 9) (g := xm_130) rfl xk_130_0 h
set_option maxRecDepth 100000 in
theorem xk_131_0 : xe_131_0.all (fun q => xdecB xm_131 q.1 q.2 && xlkB 9 xm_131 q.1 q.2) = true := by decide +kernel
theorem xg_131 (pc : Nat) (e : XI) : xc_131 pc = some e → xDec xm_131 pc e ∧ xLk xprog xcl xfty xTs xSL xTL xNW xm_131 pc e := fun h => xfind_ok (o := 9) (g := xm_131) rfl xk_131_0 h
set_option maxRecDepth 100000 in
theorem xk_132_0 : xe_132_0.all (fun q => xdecB xm_132 q.1 q.2 && xlkB 15 xm_132 q.1 q.2) = true := by decide +kernel
theorem xg_132 (pc : Nat) (e : XI) : xc_132 pc = some e → xDec xm_132 pc e ∧ xLk xprog xcl xfty xTs xSL xTL xNW xm_132 pc e := fun h => xfind_ok (o := 15) (g := xm_132) rfl xk_132_0 h
set_option maxRecDepth 100000 in
theorem xk_133_0 : xe_133_0.all (fun q => xdecB xm_133 q.1 q.2 && xlkB 16 xm_133 q.1 q.2) = true := by decide +kernel
theorem xg_133 (pc : Nat) (e : XI) : xc_133 pc = some e → xDec xm_133 pc e ∧ xLk xprog xcl xfty xTs xSL xTL xNW xm_133 pc e := fun h => xfind_ok (o := 16) (g := xm_133) rfl xk_133_0 h
set_option maxRecDepth 100000 in
theorem xk_134_0 : xe_134_0.all (fun q => xdecB xm_134 q.1 q.2 && xlkB 16 xm_134 q.1 q.2) = true := by decide +kernel
set_option maxRecDepth 100000 in
theorem xk_134_1 : xe_134_1.all (fun q => xdecB xm_134 q.1 q.2 && xlkB 16 xm_134 q.1 q.2) = true := by decide +kernel
set_option maxRecDepth 100000 in
theorem xk_134_2 : xe_134_2.all (fun q => xdecB xm_134 q.1 q.2 && xlkB 16 xm_134 q.1 q.2) = true := by decide +kernel
theorem xg_134 (pc : Nat) (e : XI) : xc_134 pc = some e → xDec xm_134 pc e ∧ xLk xprog xcl xfty xTs xSL xTL xNW xm_134 pc e := fun h => xif_ok (fun h => xfind_ok (o := 16) (g := xm_134) rfl xk_134_0 h) (fun h => xif_ok (fun h => xfind_ok (o := 16) (g := xm_134) rfl xk_134_1 h) (fun h => xfind_ok (o := 16) (g := xm_134) rfl xk_134_2 h) h) h
set_option maxRecDepth 100000 in
theorem xk_135_0 : xe_135_0.all (fun q => xdecB xm_135 q.1 q.2 && xlkB 16 xm_135 q.1 q.2) = true := by decide +kernel
set_option maxRecDepth 100000 in
theorem xk_135_1 : xe_135_1.all (fun q => xdecB xm_135 q.1 q.2 && xlkB 16 xm_135 q.1 q.2) = true := by decide +kernel
set_option maxRecDepth 100000 in
theorem xk_135_2 : xe_135_2.all (fun q => xdecB xm_135 q.1 q.2 && xlkB 16 xm_135 q.1 q.2) = true := by decide +kernel
theorem xg_135 (pc : Nat) (e : XI) : xc_135 pc = some e → xDec xm_135 pc e ∧ xLk xprog xcl xfty xTs xSL xTL xNW xm_135 pc e := fun h => xif_ok (fun h => xfind_ok (o := 16) (g := xm_135) rfl xk_135_0 h) (fun h => xif_ok (fun h => xfind_ok (o := 16) (g := xm_135) rfl xk_135_1 h) (fun h => xfind_ok (o := 16) (g := xm_135) rfl xk_135_2 h) h) h
set_option maxRecDepth 100000 in
theorem xk_136_0 : xe_136_0.all (fun q => xdecB xm_136 q.1 q.2 && xlkB 16 xm_136 q.1 q.2) = true := by decide +kernel
set_option maxRecDepth 100000 in
theorem xk_136_1 : xe_136_1.all (fun q => xdecB xm_136 q.1 q.2 && xlkB 16 xm_136 q.1 q.2) = true := by decide +kernel
set_option maxRecDepth 100000 in
theorem xk_136_2 : xe_136_2.all (fun q => xdecB xm_136 q.1 q.2 && xlkB 16 xm_136 q.1 q.2) = true := by decide +kernel
theorem xg_136 (pc : Nat) (e : XI) : xc_136 pc = some e → xDec xm_136 pc e ∧ xLk xprog xcl xfty xTs xSL xTL xNW xm_136 pc e := fun h => xif_ok (fun h => xfind_ok (o := 16) (g := xm_136) rfl xk_136_0 h) (fun h => xif_ok (fun h => xfind_ok (o := 16) (g := xm_136) rfl xk_136_1 h) (fun h => xfind_ok (o := 16) (g := xm_136) rfl xk_136_2 h) h) h
set_option maxRecDepth 100000 in
theorem xk_137_0 : xe_137_0.all (fun q => xdecB xm_137 q.1 q.2 && xlkB 16 xm_137 q.1 q.2) = true := by decide +kernel
theorem xg_137 (pc : Nat) (e : XI) : xc_137 pc = some e → xDec xm_137 pc e ∧ xLk xprog xcl xfty xTs xSL xTL xNW xm_137 pc e := fun h => xfind_ok (o := 16) (g := xm_137) rfl xk_137_0 h
set_option maxRecDepth 100000 in
theorem xk_138_0 : xe_138_0.all (fun q => xdecB xm_138 q.1 q.2 && xlkB 16 xm_138 q.1 q.2) = true := by decide +kernel
theorem xg_138 (pc : Nat) (e : XI) : xc_138 pc = some e → xDec xm_138 pc e ∧ xLk xprog xcl xfty xTs xSL xTL xNW xm_138 pc e := fun h => xfind_ok (o := 16) (g := xm_138) rfl xk_138_0 h
set_option maxRecDepth 100000 in
theorem xk_139_0 : xe_139_0.all (fun q => xdecB xm_139 q.1 q.2 && xlkB 16 xm_139 q.1 q.2) = true := by decide +kernel
theorem xg_139 (pc : Nat) (e : XI) : xc_139 pc = some e → xDec xm_139 pc e ∧ xLk xprog xcl xfty xTs xSL xTL xNW xm_139 pc e := fun h => xfind_ok (o := 16) (g := xm_139) rfl xk_139_0 h
set_option maxRecDepth 100000 in
theorem xk_140_0 : xe_140_0.all (fun q => xdecB xm_140 q.1 q.2 && xlkB 16 xm_140 q.1 q.2) = true := by decide +kernel
theorem xg_140 (pc : Nat) (e : XI) : xc_140 pc = some e → xDec xm_140 pc e ∧ xLk xprog xcl xfty xTs xSL xTL xNW xm_140 pc e := fun h => xfind_ok (o := 16) (g := xm_140) rfl xk_140_0 h
set_option maxRecDepth 100000 in
theorem xk_141_0 : xe_141_0.all (fun q => xdecB xm_141 q.1 q.2 && xlkB 9 xm_141 q.1 q.2) = true := by decide +kernel
theorem xg_141 (pc : Nat) (e : XI) : xc_141 pc = some e → xDec xm_141 pc e ∧ xLk xprog xcl xfty xTs xSL xTL xNW xm_141 pc e := fun h => xfind_ok (o := 9) (g := xm_141) rfl xk_141_0 h
set_option maxRecDepth 100000 in
theorem xk_142_0 : xe_142_0.all (fun q => xdecB xm_142 q.1 q.2 && xlkB 9 xm_142 q.1 q.2) = true := by decide +kernel
set_option maxRecDepth 100000 in
theorem xk_142_1 : xe_142_1.all (fun q => xdecB xm_142 q.1 q.2 && xlkB 9 xm_142 q.1 q.2) = true := by decide +kernel
set_option maxRecDepth 100000 in
theorem xk_142_2 : xe_142_2.all (fun q => xdecB xm_142 q.1 q.2 && xlkB 9 xm_142 q.1 q.2) = true := by decide +kernel
theorem xg_142 (pc : Nat) (e : XI) : xc_142 pc = some e → xDec xm_142 pc e ∧ xLk xprog xcl xfty xTs xSL xTL xNW xm_142 pc e := fun h => xif_ok (fun h => xfind_ok (o := 9) (g := xm_142) rfl xk_142_0 h) (fun h => xif_ok (fun h => xfind_ok (o := 9) (g := xm_142) rfl xk_142_1 h) (fun h => xfind_ok (o := 9) (g := xm_142) rfl xk_142_2 h) h) h
set_option maxRecDepth 100000 in
theorem xk_143_0 : xe_143_0.all (fun q => xdecB xm_143 q.1 q.2 && xlkB 15 xm_143 q.1 q.2) = true := by decide +kernel
theorem xg_143 (pc : Nat) (e : XI) : xc_143 pc = some e → xDec xm_143 pc e ∧ xLk xprog xcl xfty xTs xSL xTL xNW xm_143 pc e := fun h => xfind_ok (o := 15) (g := xm_143) rfl xk_143_0 h
set_option maxRecDepth 100000 in
theorem xk_144_0 : xe_144_0.all (fun q => xdecB xm_144 q.1 q.2 && xlkB 16 xm_144 q.1 q.2) = true := by decide +kernel
theorem xg_144 (pc : Nat) (e : XI) : xc_144 pc = some e → xDec xm_144 pc e ∧ xLk xprog xcl xfty xTs xSL xTL xNW xm_144 pc e := fun h => xfind_ok (o := 16) (g := xm_144) rfl xk_144_0 h
set_option maxRecDepth 100000 in
theorem xk_145_0 : xe_145_0.all (fun q => xdecB xm_145 q.1 q.2 && xlkB 16 xm_145 q.1 q.2) = true := by decide +kernel
set_option maxRecDepth 100000 in
theorem xk_145_1 : xe_145_1.all (fun q => xdecB xm_145 q.1 q.2 && xlkB 16 xm_145 q.1 q.2) = true := by decide +kernel
set_option maxRecDepth 100000 in
theorem xk_145_2 : xe_145_2.all (fun q => xdecB xm_145 q.1 q.2 && xlkB 16 xm_145 q.1 q.2) = true := by decide +kernel
set_option maxRecDepth 100000 in
theorem xk_145_3 : xe_145_3.all (fun q => xdecB xm_145 q.1 q.2 && xlkB 16 xm_145 q.1 q.2) = true := by decide +kernel
theorem xg_145 (pc : Nat) (e : XI) : xc_145 pc = some e → xDec xm_145 pc e ∧ xLk xprog xcl xfty xTs xSL xTL xNW xm_145 pc e := fun h => xif_ok (fun h => xif_ok (fun h => xfind_ok (o := 16) (g := xm_145) rfl xk_145_0 h) (fun h => xfind_ok (o := 16) (g := xm_145) rfl xk_145_1 h) h) (fun h => xif_ok (fun h => xfind_ok (o := 16) (g := xm_145) rfl xk_145_2 h) (fun h => xfind_ok (o := 16) (g := xm_145) rfl xk_145_3 h) h) h
set_option maxRecDepth 100000 in
theorem xk_146_0 : xe_146_0.all (fun q => xdecB xm_146 q.1 q.2 && xlkB 16 xm_146 q.1 q.2) = true := by decide +kernel
theorem xg_146 (pc : Nat) (e : XI) : xc_146 pc = some e → xDec xm_146 pc e ∧ xLk xprog xcl xfty xTs xSL xTL xNW xm_146 pc e := fun h => xfind_ok (o := 16) (g := xm_146) rfl xk_146_0 h
set_option maxRecDepth 100000 in
theorem xk_147_0 : xe_147_0.all (fun q => xdecB xm_147 q.1 q.2 && xlkB 15 xm_147 q.1 q.2) = true := by decide +kernel
theorem xg_147 (pc : Nat) (e : XI) : xc_147 pc = some e → xDec xm_147 pc e ∧ xLk xprog xcl xfty xTs xSL xTL xNW xm_147 pc e := fun h => xfind_ok (o := 15) (g := xm_147) rfl xk_147_0 h
set_option maxRecDepth 100000 in
theorem xk_148_0 : xe_148_0.all (fun q => xdecB xm_148 q.1 q.2 && xlkB 10 xm_148 q.1 q.2) = true := by decide +kernel
set_option maxRecDepth 100000 in
theorem xk_148_1 : xe_148_1.all (fun q => xdecB xm_148 q.1 q.2 && xlkB 10 xm_148 q.1 q.2) = true := by decide +kernel
theorem xg_148 (pc : Nat) (e : XI) : xc_148 pc = some e → xDec xm_148 pc e ∧ xLk xprog xcl xfty xTs xSL xTL xNW xm_148 pc e := fun h => xif_ok (fun h => xfind_ok (o := 10) (g := xm_148) rfl xk_148_0 h) (fun h => xfind_ok (o := 10) (g := xm_148) rfl xk_148_1 h) h
set_option maxRecDepth 100000 in
theorem xk_149_0 : xe_149_0.all (fun q => xdecB xm_149 q.1 q.2 && xlkB 11 xm_149 q.1 q.2) = true := by decide +kernel
theorem xg_149 (pc : Nat) (e : XI) : xc_149 pc = some e → xDec xm_149 pc e ∧ xLk xprog xcl xfty xTs xSL xTL xNW xm_149 pc e := fun h => xfind_ok (o := 11) (g := xm_149) rfl xk_149_0 h
set_option maxRecDepth 100000 in
theorem xk_150_0 : xe_150_0.all (fun q => xdecB xm_150 q.1 q.2 && xlkB 10 xm_150 q.1 q.2) = true := by decide +kernel
theorem xg_150 (pc : Nat) (e : XI) : xc_150 pc = some e → xDec xm_150 pc e ∧ xLk xprog xcl xfty xTs xSL xTL xNW xm_150 pc e := fun h => xfind_ok (o := 10) (g := xm_150) rfl xk_150_0 h
set_option maxRecDepth 100000 in
theorem xk_151_0 : xe_151_0.all (fun q => xdecB xm_151 q.1 q.2 && xlkB 15 xm_151 q.1 q.2) = true := by decide +kernel
theorem xg_151 (pc : Nat) (e : XI) : xc_151 pc = some e → xDec xm_151 pc e ∧ xLk xprog xcl xfty xTs xSL xTL xNW xm_151 pc e := fun h => xfind_ok (o := 15) (g := xm_151) rfl xk_151_0 h
set_option maxRecDepth 100000 in
theorem xk_152_0 : xe_152_0.all (fun q => xdecB xm_152 q.1 q.2 && xlkB 16 xm_152 q.1 q.2) = true := by decide +kernel
theorem xg_152 (pc : Nat) (e : XI) : xc_152 pc = some e → xDec xm_152 pc e ∧ xLk xprog xcl xfty xTs xSL xTL xNW xm_152 pc e := fun h => xfind_ok (o := 16) (g := xm_152) rfl xk_152_0 h
set_option maxRecDepth 100000 in
theorem xk_153_0 : xe_153_0.all (fun q => xdecB xm_153 q.1 q.2 && xlkB 16 xm_153 q.1 q.2) = true := by decide +kernel
set_option maxRecDepth 100000 in
theorem xk_153_1 : xe_153_1.all (fun q => xdecB xm_153 q.1 q.2 && xlkB 16 xm_153 q.1 q.2) = true := by decide +kernel
theorem xg_153 (pc : Nat) (e : XI) : xc_153 pc = some e → xDec xm_153 pc e ∧ xLk xprog xcl xfty xTs xSL xTL xNW xm_153 pc e := fun h => xif_ok (fun h => xfind_ok (o := 16) (g := xm_153) rfl xk_153_0 h) (fun h => xfind_ok (o := 16) (g := xm_153) rfl xk_153_1 h) h
set_option maxRecDepth 100000 in
theorem xk_154_0 : xe_154_0.all (fun q => xdecB xm_154 q.1 q.2 && xlkB 16 xm_154 q.1 q.2) = true := by decide +kernel
theorem xg_154 (pc : Nat) (e : XI) : xc_154 pc = some e → xDec xm_154 pc e ∧ xLk xprog xcl xfty xTs xSL xTL xNW xm_154 pc e := fun h => xfind_ok (o := 16) (g := xm_154) rfl xk_154_0 h
set_option maxRecDepth 100000 in
theorem xk_155_0 : xe_155_0.all (fun q => xdecB xm_155 q.1 q.2 && xlkB 15 xm_155 q.1 q.2) = true := by decide +kernel
theorem xg_155 (pc : Nat) (e : XI) : xc_155 pc = some e → xDec xm_155 pc e ∧ xLk xprog xcl xfty xTs xSL xTL xNW xm_155 pc e := fun h => xfind_ok (o := 15) (g := xm_155) rfl xk_155_0 h
set_option maxRecDepth 100000 in
theorem xk_156_0 : xe_156_0.all (fun q => xdecB xm_156 q.1 q.2 && xlkB 10 xm_156 q.1 q.2) = true := by decide +kernel
theorem xg_156 (pc : Nat) (e : XI) : xc_156 pc = some e → xDec xm_156 pc e ∧ xLk xprog xcl xfty xTs xSL xTL xNW xm_156 pc e := fun h => xfind_ok (o := 10) (g := xm_156) rfl xk_156_0 h
set_option maxRecDepth 100000 in
theorem xk_157_0 : xe_157_0.all (fun q => xdecB xm_157 q.1 q.2 && xlkB 15 xm_157 q.1 q.2) = true := by decide +kernel
theorem xg_157 (pc : Nat) (e : XI) : xc_157 pc = some e → xDec xm_157 pc e ∧ xLk xprog xcl xfty xTs xSL xTL xNW xm_157 pc e := fun h => xfind_ok (o := 15) (g := xm_157) rfl xk_157_0 h
