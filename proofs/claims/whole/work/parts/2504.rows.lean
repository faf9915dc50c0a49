/-! the rows are looked at, 4 -/
set_option maxRecDepth 100000 in
theorem xk_58_0 : xe_58_0.all (fun q => xdecB xm_58 q.1 q.2 && xlkB 8 xm_58 q.1 q.2) = true := by decide +kernel
set_option maxRecDepth 100000 in
theorem xk_58_1 : xe_58_1.all (fun q => xdecB xm_58 q.1 q.2 && xlkB 8 xm_58 q.1 q.2) = true := by decide +kernel
theorem xg_58 (pc : Nat) (e : XI) : xc_58 pc = some e → xDec xm_58 pc e ∧ xLk xprog xcl xfty xTs xSL xTL xNW xm_58 pc e := fun h => xif_ok (fun h => xfind_ok (o := 8) (g := xm_58) rfl xk_58_0 h) (fun h => xfind_ok (o := 8) (g := xm_58) rfl xk_58_1 h) h
set_option maxRecDepth 100000 in
theorem xk_59_0 : xe_59_0.all (fun q => xdecB xm_59 q.1 q.2 && xlkB 9 xm_59 q.1 q.2) = true := by decide +kernel
theorem xg_59 (pc : Nat) (e : XI) : xc_59 pc = some e → xDec xm_59 pc e ∧ xLk xprog xcl xfty xTs xSL xTL xNW xm_59 pc e := fun h => xfind_ok (o := 9) (g := xm_59) rfl xk_59_0 h
set_option maxRecDepth 100000 in
theorem xk_60_0 : xe_60_0.all (fun q => xdecB xm_60 q.1 q.2 && xlkB 8 xm_60 q.1 q.2) = true := by decide +kernel
theorem xg_60 (pc : Nat) (e : XI) : xc_60 pc = some e → xDec xm_60 pc e ∧ xLk xprog xcl xfty xTs xSL xTL xNW xm_60 pc e := fun h => xfind_ok (o := 8) (g := xm_60) rfl xk_60_0 h
set_option maxRecDepth 100000 in
theorem xk_61_0 : xe_61_0.all (fun q => xdecB xm_61 q.1 q.2 && xlkB 9 xm_61 q.1 q.2) = true := by decide +kernel
theorem xg_61 (pc : Nat) (e : XI) : xc_61 pc = some e → xDec xm_61 pc e ∧ xLk xprog xcl xfty xTs xSL xTL xNW xm_61 pc e := fun h => xfind_ok (o := 9) (g := xm_61) rfl xk_61_0 h
set_option maxRecDepth 100000 in
theorem xk_62_0 : xe_62_0.all (fun q => xdecB xm_62 q.1 q.2 && xlkB 8 xm_62 q.1 q.2) = true := by decide +kernel
set_option maxRecDepth 100000 in
theorem xk_62_1 : xe_62_1.all (fun q => xdecB xm_62 q.1 q.2 && xlkB 8 xm_62 q.1 q.2) = true := by decide +kernel
set_option maxRecDepth 100000 in
theorem xk_62_2 : xe_62_2.all (fun q => xdecB xm_62 q.1 q.2 && xlkB 8 xm_62 q.1 q.2) = true := by decide +kernel
theorem xg_62 (pc : Nat) (e : XI) : xc_62 pc = some e → xDec xm_62 pc e ∧ xLk xprog xcl xfty xTs xSL xTL xNW xm_62 pc e := fun h => xif_ok (fun h => xfind_ok (o := 8) (g := xm_62) rfl xk_62_0 h) (fun h => xif_ok (fun h => xfind_ok (o := 8) (g := xm_62) rfl xk_62_1 h) (fun h => xfind_ok (o := 8) (g := xm_62) rfl xk_62_2 h) h) h
set_option maxRecDepth 100000 in
theorem xk_63_0 : xe_63_0.all (fun q => xdecB xm_63 q.1 q.2 && xlkB 8 xm_63 q.1 q.2) = true := by decide +kernel
set_option maxRecDepth 100000 in
theorem xk_63_1 : xe_63_1.all (fun q => xdecB xm_63 q.1 q.2 && xlkB 8 xm_63 q.1 q.2) = true := by decide +kernel
theorem xg_63 (pc : Nat) (e : XI) : xc_63 pc = some e → xDec xm_63 pc e ∧ xLk xprog xcl xfty xTs xSL xTL xNW xm_63 pc e := fun h => xif_ok (fun h => xfind_ok (o := 8) (g := xm_63) rfl xk_63_0 h) (fun h => xfind_ok (o := 8) (g := xm_63) rfl xk_63_1 h) h
set_option maxRecDepth 100000 in
theorem xk_64_0 : xe_64_0.all (fun q => xdecB xm_64 q.1 q.2 && xlkB 8 xm_64 q.1 q.2) = true := by decide +kernel
theorem xg_64 (pc : Nat) (e : XI) : xc_64 pc = some e → xDec xm_64 pc e ∧ xLk xprog xcl xfty xTs xSL xTL xNW xm_64 pc e := fun h => xfind_ok (o := 8) (g := xm_64) rfl xk_64_0 h
set_option maxRecDepth 100000 in
theorem xk_65_0 : xe_65_0.all (fun q => xdecB xm_65 q.1 q.2 && xlkB 7 xm_65 q.1 q.2) = true := by decide +kernel
theorem xg_65 (pc : Nat) (e : XI) : xc_65 pc = some e → xDec xm_65 pc e ∧ xLk xprog xcl xfty xTs xSL xTL xNW xm_65 pc e := fun h => xfind_ok (o := 7) (g := xm_65) rfl xk_65_0 h
set_option maxRecDepth 100000 in
theorem xk_66_0 : xe_66_0.all (fun q => xdecB xm_66 q.1 q.2 && xlkB 7 xm_66 q.1 q.2) = true := by decide +kernel
theorem xg_66 (pc : Nat) (e : XI) : xc_66 pc = some e → xDec xm_66 pc e ∧ xLk xprog xcl xfty xTs xSL xTL xNW xm_66 pc e := fun h => xfind_ok (o := 7) (g := xm_66) rfl xk_66_0 h
set_option maxRecDepth 100000 in
theorem xk_67_0 : xe_67_0.all (fun q => xdecB xm_67 q.1 q.2 && xlkB 7 xm_67 q.1 q.2) = true := by decide +kernel
theorem xg_67 (pc : Nat) (e : XI) : xc_67 pc = some e → xDec xm_67 pc e ∧ xLk xprog xcl xfty xTs xSL xTL xNW xm_67 pc e := fun h => xfind_ok (o := 7) (g := xm_67) rfl xk_67_0 h
set_option maxRecDepth 100000 in
theorem xk_68_0 : xe_68_0.all (fun q => xdecB xm_68 q.1 q.2 && xlkB 7 xm_68 q.1 q.2) = true := by decide +kernel
theorem xg_68 (pc : Nat) (e : XI) : xc_68 pc = some e → xDec xm_68 pc e ∧ xLk xprog xcl xfty xTs xSL xTL xNW xm_68 pc e := fun h => xfind_ok (o := 7) (g := xm_68) rfl xk_68_0 h
set_option maxRecDepth 100000 in
theorem xk_69_0 : xe_69_0.all (fun q => xdecB xm_69 q.1 q.2 && xlkB 8 xm_69 q.1 q.2) = true := by decide +kernel
set_option maxRecDepth 100000 in
theorem xk_69_1 : xe_69_1.all (fun q => xdecB xm_69 q.1 q.2 && xlkB 8 xm_69 q.1 q.2) = true := by decide +kernel
theorem xg_69 (pc : Nat) (e : XI) : xc_69 pc = some e → xDec xm_69 pc e ∧ xLk xprog xcl xfty xTs xSL xTL xNW xm_69 pc e := fun h => xif_ok (fun h => xfind_ok (o := 8) (g := xm_69) rfl xk_69_0 h) (fun h => xfind_ok (o := 8) (g := xm_69) rfl xk_69_1 h) h
set_option maxRecDepth 100000 in
theorem xk_70_0 : xe_70_0.all (fun q => xdecB xm_70 q.1 q.2 && xlkB 7 xm_70 q.1 q.2) = true := by decide +kernel
theorem xg_70 (pc : Nat) (e : XI) : xc_70 pc = some e → xDec xm_70 pc e ∧ xLk xprog xcl xfty xTs xSL xTL xNW xm_70 pc e := fun h => xfind_ok (o := 7) (g := xm_70) rfl xk_70_0 h
set_option maxRecDepth 100000 in
theorem xk_71_0 : xe_71_0.all (fun q => xdecB xm_71 q.1 q.2 && xlkB 7 xm_71 q.1 q.2) = true := by decide +kernel
theorem xg_71 (pc : Nat) (e : XI) : xc_71 pc = some e → xDec xm_71 pc e ∧ xLk xprog xcl xfty xTs xSL xTL xNW xm_71 pc e := fun h => xfind_ok (o := 7) (g := xm_71) rfl xk_71_0 h
set_option maxRecDepth 100000 in
theorem xk_72_0 : xe_72_0.all (fun q => xdecB xm_72 q.1 q.2 && xlkB 7 xm_72 q.1 q.2) = true := by decide +kernel
theorem xg_72 (pc : Nat) (e : XI) : xc_72 pc = some e → xDec xm_72 pc e ∧ xLk xprog xcl xfty xTs xSL xTL xNW xm_72 pc e := fun h => xfind_ok (o := 7) (g := xm_72) rfl xk_72_0 h
set_option maxRecDepth 100000 in
theorem xk_73_0 : xe_73_0.all (fun q => xdecB xm_73 q.1 q.2 && xlkB 7 xm_73 q.1 q.2) = true := by decide +kernel
theorem xg_73 (pc : Nat) (e : XI) : xc_73 pc = some e → xDec xm_73 pc e ∧ xLk xprog xcl xfty xTs xSL xTL xNW xm_73 pc e := fun h => xfind_ok (o := 7) (g := xm_73) rfl xk_73_0 h
set_option maxRecDepth 100000 in
theorem xk_74_0 : xe_74_0.all (fun q => xdecB xm_74 q.1 q.2 && xlkB 7 xm_74 q.1 q.2) = true := by decide +kernel
theorem xg_74 (pc : Nat) (e : XI) : xc_74 pc = some e → xDec xm_74 pc e ∧ xLk xprog xcl xfty xTs xSL xTL xNW xm_74 pc e := fun h => xfind_ok (o := 7) (g := xm_74) rfl xk_74_0 h
set_option maxRecDepth 100000 in
theorem xk_75_0 : xe_75_0.all (fun q => xdecB xm_75 q.1 q.2 && xlkB 6 xm_75 q.1 q.2) = true := by decide +kernel
theorem xg_75 (pc : Nat) (e : XI) : xc_75 pc = some e → xDec xm_75 pc e ∧ xLk xprog xcl xfty xTs xSL xTL xNW xm_75 pc e := fun h => xfind_ok (o := 6) (g := xm_75) rfl xk_75_0 h
set_option maxRecDepth 100000 in
theorem xk_76_0 : xe_76_0.all (fun q => xdecB xm_76 q.1 q.2 && xlkB 7 xm_76 q.1 q.2) = true := by decide +kernel
theorem xg_76 (pc : Nat) (e : XI) : xc_76 pc = some e → xDec xm_76 pc e ∧ xLk xprog xcl xfty xTs xSL xTL xNW xm_76 pc e := fun h => xfind_ok (o := 7) (g := xm_76) rfl xk_76_0 h
set_option maxRecDepth 100000 in
theorem xk_77_0 : xe_77_0.all (fun q => xdecB xm_77 q.1 q.2 && xlkB 8 xm_77 q.1 q.2) = true := by decide +kernel
set_option maxRecDepth 100000 in
theorem xk_77_1 : xe_77_1.all (fun q => xdecB xm_77 q.1 q.2 && xlkB 8 xm_77 q.1 q.2) = true := by decide +kernel
theorem xg_77 (pc : Nat) (e : XI) : xc_77 pc = some e → xDec xm_77 pc e ∧ xLk xprog xcl xfty xTs xSL xTL xNW xm_77 pc e := fun h => xif_ok (fun h => xfind_ok (o := 8) (g := xm_77) rfl xk_77_0 h) (fun h => xfind_ok (o := 8) (g := xm_77) rfl xk_77_1 h) h
