/-! the rows are looked at, 6 -/
set_option maxRecDepth 100000 in
theorem xk_89_0 : xe_89_0.all (fun q => xdecB xm_89 q.1 q.2 && xlkB 16 xm_89 q.1 q.2) = true := by decide +kernel
set_option maxRecDepth 100000 in
theorem xk_89_1 : xe_89_1.all (fun q => xdecB xm_89 q.1 q.2 && xlkB 16 xm_89 q.1 q.2) = true := by decide +kernel
set_option maxRecDepth 100000 in
theorem xk_89_2 : xe_89_2.all (fun q => xdecB xm_89 q.1 q.2 && xlkB 16 xm_89 q.1 q.2) = true := by decide +kernel
set_option maxRecDepth 100000 in
theorem xk_89_3 : xe_89_3.all (fun q => xdecB xm_89 q.1 q.2 && xlkB 16 xm_89 q.1 q.2) = true := by decide +kernel
set_option maxRecDepth 100000 in
theorem xk_89_4 : xe_89_4.all (fun q => xdecB xm_89 q.1 q.2 && xlkB 16 xm_89 q.1 q.2) = true := by decide +kernel
theorem xg_89 (pc : Nat) (e : XI) : xc_89 pc = some e → xDec xm_89 pc e ∧ xLk xprog xcl xfty xTs xSL xTL xNW xm_89 pc e := fun h => xif_ok (fun h => xif_ok (fun h => xfind_ok (o := 16) (g := xm_89) rfl xk_89_0 h) (fun h => xfind_ok (o := 16) (g := xm_89) rfl xk_89_1 h) h) (fun h => xif_ok (fun h => xfind_ok (o := 16) (g := xm_89) rfl xk_89_2 h) (fun h => xif_ok (fun h => xfind_ok (o := 16) (g := xm_89) rfl xk_89_3 h) (fun h => xfind_ok (o := 16) (g := xm_89) rfl xk_89_4 h) h) h) h
set_option maxRecDepth 100000 in
theorem xk_90_0 : xe_90_0.all (fun q => xdecB xm_90 q.1 q.2 && xlkB 16 xm_90 q.1 q.2) = true := by decide +kernel
theorem xg_90 (pc : Nat) (e : XI) : xc_90 pc = some e → xDec xm_90 pc e ∧ xLk xprog xcl xfty xTs xSL xTL xNW xm_90 pc e := fun h => xfind_ok (o := 16) (g := xm_90) rfl xk_90_0 h
set_option maxRecDepth 100000 in
theorem xk_91_0 : xe_91_0.all (fun q => xdecB xm_91 q.1 q.2 && xlkB 16 xm_91 q.1 q.2) = true := by decide +kernel
theorem xg_91 (pc : Nat) (e : XI) : xc_91 pc = some e → xDec xm_91 pc e ∧ xLk xprog xcl xfty xTs xSL xTL xNW xm_91 pc e := fun h => xfind_ok (o := 16) (g := xm_91) rfl xk_91_0 h
set_option maxRecDepth 100000 in
theorem xk_92_0 : xe_92_0.all (fun q => xdecB xm_92 q.1 q.2 && xlkB 16 xm_92 q.1 q.2) = true := by decide +kernel
theorem xg_92 (pc : Nat) (e : XI) : xc_92 pc = some e → xDec xm_92 pc e ∧ xLk xprog xcl xfty xTs xSL xTL xNW xm_92 pc e := fun h => xfind_ok (o := 16) (g := xm_92) rfl xk_92_0 h
set_option maxRecDepth 100000 in
theorem xk_93_0 : xe_93_0.all (fun q => xdecB xm_93 q.1 q.2 && xlkB 16 xm_93 q.1 q.2) = true := by decide +kernel
theorem xg_93 (pc : Nat) (e : XI) : xc_93 pc = some e → xDec xm_93 pc e ∧ xLk xprog xcl xfty xTs xSL xTL xNW xm_93 pc e := fun h => xfind_ok (o := 16) (g := xm_93) rfl xk_93_0 h
set_option maxRecDepth 100000 in
theorem xk_94_0 : xe_94_0.all (fun q => xdecB xm_94 q.1 q.2 && xlkB 16 xm_94 q.1 q.2) = true := by decide +kernel
theorem xg_94 (pc : Nat) (e : XI) : xc_94 pc = some e → xDec xm_94 pc e ∧ xLk xprog xcl xfty xTs xSL xTL xNW xm_94 pc e := fun h => xfind_ok (o := 16) (g := xm_94) rfl xk_94_0 h
set_option maxRecDepth 100000 in
theorem xk_95_0 : xe_95_0.all (fun q => xdecB xm_95 q.1 q.2 && xlkB 16 xm_95 q.1 q.2) = true := by decide +kernel
theorem xg_95 (pc : Nat) (e : XI) : xc_95 pc = some e → xDec xm_95 pc e ∧ xLk xprog xcl xfty xTs xSL xTL xNW xm_95 pc e := fun h => xfind_ok (o := 16) (g := xm_95) rfl xk_95_0 h
set_option maxRecDepth 100000 in
theorem xk_96_0 : xe_96_0.all (fun q => xdecB xm_96 q.1 q.2 && xlkB 16 xm_96 q.1 q.2) = true := by decide +kernel
theorem xg_96 (pc : Nat) (e : XI) : xc_96 pc = some e → xDec xm_96 pc e ∧ xLk xprog xcl xfty xTs xSL xTL xNW xm_96 pc e := fun h => xfind_ok (o := 16) (g := xm_96) rfl xk_96_0 h
set_option maxRecDepth 100000 in
theorem xk_97_0 : xe_97_0.all (fun q => xdecB xm_97 q.1 q.2 && xlkB 16 xm_97 q.1 q.2) = true := by decide +kernel
theorem xg_97 (pc : Nat) (e : XI) : xc_97 pc = some e → xDec xm_97 pc e ∧ xLk xprog xcl xfty xTs xSL xTL xNW xm_97 pc e := fun h => xfind_ok (o := 16) (g := xm_97) rfl xk_97_0 h
set_option maxRecDepth 100000 in
theorem xk_98_0 : xe_98_0.all (fun q => xdecB xm_98 q.1 q.2 && xlkB 16 xm_98 q.1 q.2) = true := by decide +kernel
theorem xg_98 (pc : Nat) (e : XI) : xc_98 pc = some e → xDec xm_98 pc e ∧ xLk xprog xcl xfty xTs xSL xTL xNW xm_98 pc e := fun h => xfind_ok (o := 16) (g := xm_98) rfl xk_98_0 h
set_option maxRecDepth 100000 in
theorem xk_99_0 : xe_99_0.all (fun q => xdecB xm_99 q.1 q.2 && xlkB 16 xm_99 q.1 q.2) = true := by decide +kernel
theorem xg_99 (pc : Nat) (e : XI) : xc_99 pc = some e → xDec xm_99 pc e ∧ xLk xprog xcl xfty xTs xSL xTL xNW xm_99 pc e := fun h => xfind_ok (o := 16) (g := xm_99) rfl xk_99_0 h
set_option maxRecDepth 100000 in
theorem xk_100_0 : xe_100_0.all (fun q => xdecB xm_100 q.1 q.2 && xlkB 16 xm_100 q.1 q.2) = true := by decide +kernel
theorem xg_100 (pc : Nat) (e : XI) : xc_100 pc = some e → xDec xm_100 pc e ∧ xLk xprog xcl xfty xTs xSL xTL xNW xm_100 pc e := fun h => xfind_ok (o := 16) (g := xm_100) rfl xk_100_0 h
set_option maxRecDepth 100000 in
theorem xk_101_0 : xe_101_0.all (fun q => xdecB xm_101 q.1 q.2 && xlkB 16 xm_101 q.1 q.2) = true := by decide +kernel
set_option maxRecDepth 100000 in
theorem xk_101_1 : xe_101_1.all (fun q => xdecB xm_101 q.1 q.2 && xlkB 16 xm_101 q.1 q.2) = true := by decide +kernel
theorem xg_101 (pc : Nat) (e : XI) : xc_101 pc = some e → xDec xm_101 pc e ∧ xLk xprog xcl xfty xTs xSL xTL xNW xm_101 pc e := fun h => xif_ok (fun h => xfind_ok (o := 16) (g := xm_101) rfl xk_101_0 h) (fun h => xfind_ok (o := 16) (g := xm_101) rfl xk_101_1 h) h
set_option maxRecDepth 100000 in
theorem xk_102_0 : xe_102_0.all (fun q => xdecB xm_102 q.1 q.2 && xlkB 16 xm_102 q.1 q.2) = true := by decide +kernel
set_option maxRecDepth 100000 in
theorem xk_102_1 : xe_102_1.all (fun q => xdecB xm_102 q.1 q.2 && xlkB 16 xm_102 q.1 q.2) = true := by decide +kernel
theorem xg_102 (pc : Nat) (e : XI) : xc_102 pc = some e → xDec xm_102 pc e ∧ xLk xprog xcl xfty xTs xSL xTL xNW xm_102 pc e := fun h => xif_ok (fun h => xfind_ok (o := 16) (g := xm_102) rfl xk_102_0 h) (fun h => xfind_ok (o := 16) (g := xm_102) rfl xk_102_1 h) h
