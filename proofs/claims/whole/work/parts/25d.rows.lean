/-! the rows are looked at, 3 -/
set_option maxRecDepth 100000 in
theorem xk_94_0 : xe_94_0.all (fun q => xdecB xm_94 q.1 q.2 && xlkB 16 xm_94 q.1 q.2) = true := by decide +kernel
theorem xg_94 (pc : Nat) (e : XI) : xc_94 pc = some e → xDec xm_94 pc e ∧ xLk xprog xcl xfty xTs xSL xTL xNW xm_94 pc e := fun h => xfind_ok (o := 16) (g := xm_94) rfl xk_94_0 h
set_option maxRecDepth 100000 in
theorem xk_95_0 : xe_95_0.all (fun q => xdecB xm_95 q.1 q.2 && xlkB 16 xm_95 q.1 q.2) = true := by decide +kernel
theorem xg_95 (pc : Nat) (e : XI) : xc_95 pc = some e → xDec xm_95 pc e ∧ xLk xprog xcl xfty xTs xSL xTL xNW xm_95 pc e := fun h => xfind_ok (o := 16) (g := xm_95) rfl xk_95_0 h
set_option maxRecDepth 100000 in
theorem xk_96_0 : xe_96_0.all (fun q => xdecB xm_96 q.1 q.2 && xlkB 16 xm_96 q.1 q.2) = true := by decide +kernel
theorem xg_96 (pc : Nat) (e : XI) : xc_96 pc = some e → xDec xm_96 pc e ∧ xLk xprog xcl xfty xTs xSL xTL xNW xm_96 pc e := fun h => xfind_ok (o := 16) (g := xm_96) rfl xk_96_0 h
set_option maxRecDepth 100000 in
theorem xk_97_0 : xe_97_0.all (fun q => xdecB xm_97 q.1 q.2 && xlkB 16 xm_97 q.1 q.2) = true := by decide +kernel
theorem xg_97 (pc : Nat) (e : XI) : xc_97 pc = some e → xDec xm_97 pc e ∧ xLk xprog xcl xfty xTs xSL xTL xNW xm_97 pc e := fun h => xfind_ok (o := 16) (g := xm_97) rfl xk_97_0 h
set_option maxRecDepth 100000 in
theorem xk_98_0 : xe_98_0.all (fun q => xdecB xm_98 q.1 q.2 && xlkB 16 xm_98 q.1 q.2) = true := by decide +kernel
theorem xg_98 (pc : Nat) (e : XI) : xc_98 pc = some e → xDec xm_98 pc e ∧ xLk xprog xcl xfty xTs xSL xTL xNW xm_98 pc e := fun h => xfind_ok (o := 16) (g := xm_98) rfl xk_98_0 h
set_option maxRecDepth 100000 in
theorem xk_99_0 : xe_99_0.all (fun q => xdecB xm_99 q.1 q.2 && xlkB 16 xm_99 q.1 q.2) = true := by decide +kernel
theorem xg_99 (pc : Nat) (e : XI) : xc_99 pc = some e → xDec xm_99 pc e ∧ xLk xprog xcl xfty xTs xSL xTL xNW xm_99 pc e := fun h => xfind_ok (o := 16) (g := xm_99) rfl xk_99_0 h
set_option maxRecDepth 100000 in
theorem xk_100_0 : xe_100_0.all (fun q => xdecB xm_100 q.1 q.2 && xlkB 16 xm_100 q.1 q.2) = true := by decide +kernel
theorem xg_100 (pc : Nat) (e : XI) : xc_100 pc = some e → xDec xm_100 pc e ∧ xLk xprog xcl xfty xTs xSL xTL xNW xm_100 pc e := fun h => xfind_ok (o := 16) (g := xm_100) rfl xk_100_0 h
set_option maxRecDepth 100000 in
theorem xk_101_0 : xe_101_0.all (fun q => xdecB xm_101 q.1 q.2 && xlkB 16 xm_101 q.1 q.2) = true := by decide +kernel
set_option maxRecDepth 100000 in
theorem xk_101_1 : xe_101_1.all (fun q => xdecB xm_101 q.1 q.2 && xlkB 16 xm_101 q.1 q.2) = true := by decide +kernel
theorem xg_101 (pc : Nat) (e : XI) : xc_101 pc = some e → xDec xm_101 pc e ∧ xLk xprog xcl xfty xTs xSL xTL xNW xm_101 pc e := fun h => xif_ok (fun h => xfind_ok (o := 16) (g := xm_101) rfl xk_101_0 h) (fun h => xfind_ok (o := 16) (g := xm_101) rfl xk_101_1 h) h
set_option maxRecDepth 100000 in
theorem xk_102_0 : xe_102_0.all (fun q => xdecB xm_102 q.1 q.2 && xlkB 16 xm_102 q.1 q.2) = true := by decide +kernel
set_option maxRecDepth 100000 in
theorem xk_102_1 : xe_102_1.all (fun q => xdecB xm_102 q.1 q.2 && xlkB 16 xm_102 q.1 q.2) = true := by decide +kernel
theorem xg_102 (pc : Nat) (e : XI) : xc_102 pc = some e → xDec xm_102 pc e ∧ xLk xprog xcl xfty xTs xSL xTL xNW xm_102 pc e := fun h => xif_ok (fun h => xfind_ok (o := 16) (g := xm_102) rfl xk_102_0 h) (fun h => xfind_ok (o := 16) (g := xm_102) rfl xk_102_1 h) h
set_option maxRecDepth 100000 in
theorem xk_103_0 : xe_103_0.all (fun q => xdecB xm_103 q.1 q.2 && xlkB 16 xm_103 q.1 q.2) = true := by decide +kernel
set_option maxRecDepth 100000 in
theorem xk_103_1 : xe_103_1.all (fun q => xdecB xm_103 q.1 q.2 && xlkB 16 xm_103 q.1 q.2) = true := by decide +kernel
set_option maxRecDepth 100000 in
theorem xk_103_2 : xe_103_2.all (fun q => xdecB xm_103 q.1 q.2 && xlkB 16 xm_103 q.1 q.2) = true := by decide +kernel
set_option maxRecDepth 100000 in
theorem xk_103_3 : xe_103_3.all (fun q => xdecB xm_103 q.1 q.2 && xlkB 16 xm_103 q.1 q.2) = true := by decide +kernel
theorem xg_103 (pc : Nat) (e : XI) : xc_103 pc = some e → xDec xm_103 pc e ∧ xLk xprog xcl xfty xTs xSL xTL xNW xm_103 pc e := fun h => xif_ok (fun h => xif_ok (fun h => xfind_ok (o := 16) (g := xm_103) rfl xk_103_0 h) (fun h => xfind_ok (o := 16) (g := xm_103) rfl xk_103_1 h) h) (fun h => xif_ok (fun h => xfind_ok (o := 16) (g := xm_103) rfl xk_103_2 h) (fun h => xfind_ok (o := 16) (g := xm_103) rfl xk_103_3 h) h) h
set_option maxRecDepth 100000 in
theorem xk_104_0 : xe_104_0.all (fun q => xdecB xm_104 q.1 q.2 && xlkB 16 xm_104 q.1 q.2) = true := by decide +kernel
theorem xg_104 (pc : Nat) (e : XI) : xc_104 pc = some e → xDec xm_104 pc e ∧ xLk xprog xcl xfty xTs xSL xTL xNW xm_104 pc e := fun h => xfind_ok (o := 16) (g := xm_104) rfl xk_104_0 h
set_option maxRecDepth 100000 in
theorem xk_105_0 : xe_105_0.all (fun q => xdecB xm_105 q.1 q.2 && xlkB 16 xm_105 q.1 q.2) = true := by decide +kernel
set_option maxRecDepth 100000 in
theorem xk_105_1 : xe_105_1.all (fun q => xdecB xm_105 q.1 q.2 && xlkB 16 xm_105 q.1 q.2) = true := by decide +kernel
set_option maxRecDepth 100000 in
theorem xk_105_2 : xe_105_2.all (fun q => xdecB xm_105 q.1 q.2 && xlkB 16 xm_105 q.1 q.2) = true := by decide +kernel
theorem xg_105 (pc : Nat) (e : XI) : xc_105 pc = some e → xDec xm_105 pc e ∧ xLk xprog xcl xfty xTs xSL xTL xNW xm_105 pc e := fun h => xif_ok (fun h => xfind_ok (o := 16) (g := xm_105) rfl xk_105_0 h) (fun h => xif_ok (fun h => xfind_ok (o := 16) (g := xm_105) rfl xk_105_1 h) (fun h => xfind_ok (o := 16) (g := xm_105) rfl xk_105_2 h) h) h
set_option maxRecDepth 100000 in
theorem xk_106_0 : xe_106_0.all (fun q => xdecB xm_106 q.1 q.2 && xlkB 16 xm_106 q.1 q.2) = true := by decide +kernel
set_option maxRecDepth 100000 in
theorem xk_106_1 : xe_106_1.all (fun q => xdecB xm_106 q.1 q.2 && xlkB 16 xm_106 q.1 q.2) = true := by decide +kernel
set_option maxRecDepth 100000 in
theorem xk_106_2 : xe_106_2.all (fun q => xdecB xm_106 q.1 q.2 && xlkB 16 xm_106 q.1 q.2) = true := by decide +kernel
set_option maxRecDepth 100000 in
theorem xk_106_3 : xe_106_3.all (fun q => xdecB xm_106 q.1 q.2 && xlkB 16 xm_106 q.1 q.2) = true := by decide +kernel
set_option maxRecDepth 100000 in
theorem xk_106_4 : xe_106_4.all (fun q => xdecB xm_106 q.1 q.2 && xlkB 16 xm_106 q.1 q.2) = true := by decide +kernel
set_option maxRecDepth 100000 in
theorem xk_106_5 : xe_106_5.all (fun q => xdecB xm_106 q.1 q.2 && xlkB 16 xm_106 q.1 q.2) = true := by decide +kernel
theorem xg_106 (pc : Nat) (e : XI) : xc_106 pc = some e → xDec xm_106 pc e ∧ xLk xprog xcl xfty xTs xSL xTL xNW xm_106 pc e := fun h => xif_ok (fun h => xif_ok (fun h => xfind_ok (o := 16) (g := xm_106) rfl xk_106_0 h) (fun h => xif_ok (fun h => xfind_ok (o := 16) (g := xm_106) rfl xk_106_1 h) (fun h => xfind_ok (o := 16) (g := xm_106) rfl xk_106_2 h) h) h) (fun h => xif_ok (fun h => xfind_ok (o := 16) (g := xm_106) rfl xk_106_3 h) (fun h => xif_ok (fun h => xfind_ok (o := 16) (g := xm_106) rfl xk_106_4 h) (fun h => xfind_ok (o := 16) (g := xm_106) rfl xk_106_5 h) h) h) h
set_option maxRecDepth 100000 in
theorem xk_107_0 : xe_107_0.all (fun q => xdecB xm_107 q.1 q.2 && xlkB 16 xm_107 q.1 q.2) = true := by decide +kernel
set_option maxRecDepth 100000 in
theorem xk_107_1 : xe_107_1.all (fun q => xdecB xm_107 q.1 q.2 && xlkB 16 xm_107 q.1 q.2) = true := by decide +kernel
set_option maxRecDepth 100000 in
theorem xk_107_2 : xe_107_2.all (fun q => xdecB xm_107 q.1 q.2 && xlkB 16 xm_107 q.1 q.2) = true := by decide +kernel
set_option maxRecDepth 100000 in
theorem xk_107_3 : xe_107_3.all (fun q => xdecB xm_107 q.1 q.2 && xlkB 16 xm_107 q.1 q.2) = true := by decide +kernel
theorem xg_107 (pc : Nat) (e : XI) : xc_107 pc = some e → xDec xm_107 pc e ∧ xLk xprog xcl xfty xTs xSL xTL xNW xm_107 pc e := fun h => xif_ok (fun h => xif_ok (fun h => xfind_ok (o := 16) (g := xm_107) rfl xk_107_0 h) (fun h => xfind_ok (o := 16) (g := xm_107) rfl xk_107_1 h) h) (fun h => xif_ok (fun h => xfind_ok (o := 16) (g := xm_107) rfl xk_107_2 h) (fun h => xfind_ok (o := 16) (g := xm_107) rfl xk_107_3 h) h) h
set_option maxRecDepth 100000 in
theorem xk_108_0 : xe_108_0.all (fun q => xdecB xm_108 q.1 q.2 && xlkB 15 xm_108 q.1 q.2) = true := by decide +kernel
theorem xg_108 (pc : Nat) (e : XI) : xc_108 pc = some e → xDec xm_108 pc e ∧ xLk xprog xcl xfty xTs xSL xTL xNW xm_108 pc e := fun h => xfind_ok (o := 15) (g := xm_108) rfl xk_108_0 h
set_option maxRecDepth 100000 in
theorem xk_109_0 : xe_109_0.all (fun q => xdecB xm_109 q.1 q.2 && xlkB 16 xm_109 q.1 q.2) = true := by decide +kernel
theorem xg_109 (pc : Nat) (e : XI) : xc_109 pc = some e → xDec xm_109 pc e ∧ xLk xprog xcl xfty xTs xSL xTL xNW xm_109 pc e := fun h => xfind_ok (o := 16) (g := xm_109) rfl xk_109_0 h
set_option maxRecDepth 100000 in
theorem xk_110_0 : xe_110_0.all (fun q => xdecB xm_110 q.1 q.2 && xlkB 15 xm_110 q.1 q.2) = true := by decide +kernel
theorem xg_110 (pc : Nat) (e : XI) : xc_110 pc = some e → xDec xm_110 pc e ∧ xLk xprog xcl xfty xTs xSL xTL xNW xm_110 pc e := fun h => xfind_ok (o := 15) (g := xm_110) rfl xk_110_0 h
set_option maxRecDepth 100000 in
theorem xk_111_0 : xe_111_0.all (fun q => xdecB xm_111 q.1 q.2 && xlkB 9 xm_111 q.1 q.2) = true := by decide +kernel
theorem xg_111 (pc : Nat) (e : XI) : xc_111 pc = some e → xDec xm_111 pc e ∧ xLk xprog xcl xfty xTs xSL xTL xNW xm_111 pc e := fun h => xfind_ok (o := 9) (g := xm_111) rfl xk_111_0 h
set_option maxRecDepth 100000 in
theorem xk_112_0 : xe_112_0.all (fun q => xdecB xm_112 q.1 q.2 && xlkB 15 xm_112 q.1 q.2) = true := by decide +kernel
set_option maxRecDepth 100000 in
theorem xk_112_1 : xe_112_1.all (fun q => xdecB xm_112 q.1 q.2 && xlkB 15 xm_112 q.1 q.2) = true := by decide +kernel
theorem xg_112 (pc : Nat) (e : XI) : xc_112 pc = some e → xDec xm_112 pc e ∧ xLk xprog xcl xfty xTs xSL xTL xNW xm_112 pc e := fun h => xif_ok (fun h => xfind_ok (o := 15) (g := xm_112) rfl xk_112_0 h) (fun h => xfind_ok (o := 15) (g := xm_112) rfl xk_112_1 h) h
set_option maxRecDepth 100000 in
theorem xk_113_0 : xe_113_0.all (fun q => xdecB xm_113 q.1 q.2 && xlkB 16 xm_113 q.1 q.2) = true := by decide +kernel
theorem xg_113 (pc : Nat) (e : XI) : xc_113 pc = some e → xDec xm_113 pc e ∧ xLk xprog xcl xfty xTs xSL xTL xNW xm_113 pc e := fun h => xfind_ok (o := 16) (g := xm_113) rfl xk_113_0 h
set_option maxRecDepth 100000 in
theorem xk_114_0 : xe_114_0.all (fun q => xdecB xm_114 q.1 q.2 && xlkB 16 xm_114 q.1 q.2) = true := by decide +kernel
theorem xg_114 (pc : Nat) (e : XI) : xc_114 pc = some e → xDec xm_114 pc e ∧ xLk xprog xcl xfty xTs xSL xTL xNW xm_114 pc e := fun h => xfind_ok (o := 16) (g := xm_114) rfl xk_114_0 h
set_option maxRecDepth 100000 in
theorem xk_115_0 : xe_115_0.all (fun q => xdecB xm_115 q.1 q.2 && xlkB 16 xm_115 q.1 q.2) = true := by decide +kernel
theorem xg_115 (pc : Nat) (e : XI) : xc_115 pc = some e → xDec xm_115 pc e ∧ xLk xprog xcl xfty xTs xSL xTL xNW xm_115 pc e := fun h => xfind_ok (o := 16) (g := xm_115) rfl xk_115_0 h
set_option maxRecDepth 100000 in
theorem xk_116_0 : xe_116_0.all (fun q => xdecB xm_116 q.1 q.2 && xlkB 16 xm_116 q.1 q.2) = true := by decide +kernel
theorem xg_116 (pc : Nat) (e : XI) : xc_116 pc = some e → xDec xm_116 pc e ∧ xLk xprog xcl xfty xTs xSL xTL xNW xm_116 pc e := fun h => xfind_ok (o := 16) (g := xm_116) rfl xk_116_0 h
set_option maxRecDepth 100000 in
theorem xk_117_0 : xe_117_0.all (fun q => xdecB xm_117 q.1 q.2 && xlkB 16 xm_117 q.1 q.2) = true := by decide +kernel
theorem xg_117 (pc : Nat) (e : XI) : xc_117 pc = some e → xDec xm_117 pc e ∧ xLk xprog xcl xfty xTs xSL xTL xNW xm_117 pc e := fun h => xfind_ok (o := 16) (g := xm_117) rfl xk_117_0 h
set_option maxRecDepth 100000 in
theorem xk_118_0 : xe_118_0.all (fun q => xdecB xm_118 q.1 q.2 && xlkB 16 xm_118 q.1 q.2) = true := by decide +kernel
set_option maxRecDepth 100000 in
theorem xk_118_1 : xe_118_1.all (fun q => xdecB xm_118 q.1 q.2 && xlkB 16 xm_118 q.1 q.2) = true := by decide +kernel
theorem xg_118 (pc : Nat) (e : XI) : xc_118 pc = some e → xDec xm_118 pc e ∧ xLk xprog xcl xfty xTs xSL xTL xNW xm_118 pc e := fun h => xif_ok (fun h => xfind_ok (o := 16) (g := xm_118) rfl xk_118_0 h) (fun h => xfind_ok (o := 16) (g := xm_118) rfl xk_118_1 h) h
set_option maxRecDepth 100000 in
theorem xk_119_0 : xe_119_0.all (fun q => xdecB xm_119 q.1 q.2 && xlkB 15 xm_119 q.1 q.2) = true := by decide +kernel
theorem xg_119 (pc : Nat) (e : XI) : xc_119 pc = some e → xDec xm_119 pc e ∧ xLk xprog xcl xfty xTs xSL xTL xNW xm_119 pc e := fun h => xfind_ok (o := 15) (g := xm_119) rfl xk_119_0 h
set_option maxRecDepth 100000 in
theorem xk_120_0 : xe_120_0.all (fun q => xdecB xm_120 q.1 q.2 && xlkB 15 xm_120 q.1 q.2) = true := by decide +kernel
theorem xg_120 (pc : Nat) (e : XI) : xc_120 pc = some e → xDec xm_120 pc e ∧ xLk xprog xcl xfty xTs xSL xTL xNW xm_120 pc e := fun h => xfind_ok (o := 15) (g := xm_120) rfl xk_120_0 h
set_option maxRecDepth 100000 in
theorem xk_121_0 : xe_121_0.all (fun q => xdecB xm_121 q.1 q.2 && xlkB 16 xm_121 q.1 q.2) = true := by decide +kernel
theorem xg_121 (pc : Nat) (e : XI) : xc_121 pc = some e → xDec xm_121 pc e ∧ xLk xprog xcl xfty xTs xSL xTL xNW xm_121 pc e := fun h => xfind_ok (o := 16) (g := xm_121) rfl xk_121_0 h
set_option maxRecDepth 100000 in
theorem xk_122_0 : xe_122_0.all (fun q => xdecB xm_122 q.1 q.2 && xlkB 16 xm_122 q.1 q.2) = true := by decide +kernel
theorem xg_122 (pc : Nat) (e : XI) : xc_122 pc = some e → xDec xm_122 pc e ∧ xLk xprog xcl xfty xTs xSL xTL xNW xm_122 pc e := fun h => xfind_ok (o := 16) (g := xm_122) rfl xk_122_0 h
set_option maxRecDepth 100000 in
theorem xk_123_0 : xe_123_0.all (fun q => xdecB xm_123 q.1 q.2 && xlkB 16 xm_123 q.1 q.2) = true := by decide +kernel
set_option maxRecDepth 100000 in
theorem xk_123_1 : xe_123_1.all (fun q => xdecB xm_123 q.1 q.2 && xlkB 16 xm_123 q.1 q.2) = true := by decide +kernel
theorem xg_123 (pc : Nat) (e : XI) : xc_123 pc = some e → xDec xm_123 pc e ∧ xLk xprog xcl xfty xTs xSL xTL xNW xm_123 pc e := fun h => xif_ok (fun h => xfind_ok (o := 16) (g := xm_123) rfl xk_123_0 h) (fun h => xfind_ok (o := 16) (g := xm_123) rfl xk_123_1 h) h
