/-! the rows are looked at, 2 -/
set_option maxRecDepth 100000 in
theorem xk_45_0 : xe_45_0.all (fun q => xdecB xm_45 q.1 q.2 && xlkB 5 xm_45 q.1 q.2) = true := by decide +kernel
theorem xg_45 (pc : Nat) (e : XI) : xc_45 pc = some e → xDec xm_45 pc e ∧ xLk xprog xcl xfty xTs xSL xTL xNW xm_45 pc e := fun h => xfind_ok (o := 5) (g := xm_45) rfl xk_45_0 h
set_option maxRecDepth 100000 in
theorem xk_46_0 : xe_46_0.all (fun q => xdecB xm_46 q.1 q.2 && xlkB 5 xm_46 q.1 q.2) = true := by decide +kernel
set_option maxRecDepth 100000 in
theorem xk_46_1 : xe_46_1.all (fun q => xdecB xm_46 q.1 q.2 && xlkB 5 xm_46 q.1 q.2) = true := by decide +kernel
theorem xg_46 (pc : Nat) (e : XI) : xc_46 pc = some e → xDec xm_46 pc e ∧ xLk xprog xcl xfty xTs xSL xTL xNW xm_46 pc e := fun h => xif_ok (fun h => xfind_ok (o := 5) (g := xm_46) rfl xk_46_0 h) (fun h => xfind_ok (o := 5) (g := xm_46) rfl xk_46_1 h) h
set_option maxRecDepth 100000 in
theorem xk_47_0 : xe_47_0.all (fun q => xdecB xm_47 q.1 q.2 && xlkB 5 xm_47 q.1 q.2) = true := by decide +kernel
theorem xg_47 (pc : Nat) (e : XI) : xc_47 pc = some e → xDec xm_47 pc e ∧ xLk xprog xcl xfty xTs xSL xTL xNW xm_47 pc e := fun h => xfind_ok (o := 5) (g := xm_47) rfl xk_47_0 h
set_option maxRecDepth 100000 in
theorem xk_48_0 : xe_48_0.all (fun q => xdecB xm_48 q.1 q.2 && xlkB 5 xm_48 q.1 q.2) = true := by decide +kernel
set_option maxRecDepth 100000 in
theorem xk_48_1 : xe_48_1.all (fun q => xdecB xm_48 q.1 q.2 && xlkB 5 xm_48 q.1 q.2) = true := by decide +kernel
theorem xg_48 (pc : Nat) (e : XI) : xc_48 pc = some e → xDec xm_48 pc e ∧ xLk xprog xcl xfty xTs xSL xTL xNW xm_48 pc e := fun h => xif_ok (fun h => xfind_ok (o := 5) (g := xm_48) rfl xk_48_0 h) (fun h => xfind_ok (o := 5) (g := xm_48) rfl xk_48_1 h) h
set_option maxRecDepth 100000 in
theorem xk_49_0 : xe_49_0.all (fun q => xdecB xm_49 q.1 q.2 && xlkB 4 xm_49 q.1 q.2) = true := by decide +kernel
theorem xg_49 (pc : Nat) (e : XI) : xc_49 pc = some e → xDec xm_49 pc e ∧ xLk xprog xcl xfty xTs xSL xTL xNW xm_49 pc e := fun h => xfind_ok (o := 4) (g := xm_49) rfl xk_49_0 h
set_option maxRecDepth 100000 in
theorem xk_50_0 : xe_50_0.all (fun q => xdecB xm_50 q.1 q.2 && xlkB 4 xm_50 q.1 q.2) = true := by decide +kernel
theorem xg_50 (pc : Nat) (e : XI) : xc_50 pc = some e → xDec xm_50 pc e ∧ xLk xprog xcl xfty xTs xSL xTL xNW xm_50 pc e := fun h => xfind_ok (o := 4) (g := xm_50) rfl xk_50_0 h
set_option maxRecDepth 100000 in
theorem xk_51_0 : xe_51_0.all (fun q => xdecB xm_51 q.1 q.2 && xlkB 4 xm_51 q.1 q.2) = true := by decide +kernel
theorem xg_51 (pc : Nat) (e : XI) : xc_51 pc = some e → xDec xm_51 pc e ∧ xLk xprog xcl xfty xTs xSL xTL xNW xm_51 pc e := fun h => xfind_ok (o := 4) (g := xm_51) rfl xk_51_0 h
set_option maxRecDepth 100000 in
theorem xk_52_0 : xe_52_0.all (fun q => xdecB xm_52 q.1 q.2 && xlkB 2 xm_52 q.1 q.2) = true := by decide +kernel
theorem xg_52 (pc : Nat) (e : XI) : xc_52 pc = some e → xDec xm_52 pc e ∧ xLk xprog xcl xfty xTs xSL xTL xNW xm_52 pc e := fun h => xfind_ok (o := 2) (g := xm_52) rfl xk_52_0 h
set_option maxRecDepth 100000 in
theorem xk_53_0 : xe_53_0.all (fun q => xdecB xm_53 q.1 q.2 && xlkB 2 xm_53 q.1 q.2) = true := by decide +kernel
theorem xg_53 (pc : Nat) (e : XI) : xc_53 pc = some e → xDec xm_53 pc e ∧ xLk xprog xcl xfty xTs xSL xTL xNW xm_53 pc e := fun h => xfind_ok (o := 2) (g := xm_53) rfl xk_53_0 h
set_option maxRecDepth 100000 in
theorem xk_54_0 : xe_54_0.all (fun q => xdecB xm_54 q.1 q.2 && xlkB 5 xm_54 q.1 q.2) = true := by decide +kernel
set_option maxRecDepth 100000 in
theorem xk_54_1 : xe_54_1.all (fun q => xdecB xm_54 q.1 q.2 && xlkB 5 xm_54 q.1 q.2) = true := by decide +kernel
theorem xg_54 (pc : Nat) (e : XI) : xc_54 pc = some e → xDec xm_54 pc e ∧ xLk xprog xcl xfty xTs xSL xTL xNW xm_54 pc e := fun h => xif_ok (fun h => xfind_ok (o := 5) (g := xm_54) rfl xk_54_0 h) (fun h => xfind_ok (o := 5) (g := xm_54) rfl xk_54_1 h) h
set_option maxRecDepth 100000 in
theorem xk_55_0 : xe_55_0.all (fun q => xdecB xm_55 q.1 q.2 && xlkB 7 xm_55 q.1 q.2) = true := by decide +kernel
theorem xg_55 (pc : Nat) (e : XI) : xc_55 pc = some e → xDec xm_55 pc e ∧ xLk xprog xcl xfty xTs xSL xTL xNW xm_55 pc e := fun h => xfind_ok (o := 7) (g := xm_55) rfl xk_55_0 h
set_option maxRecDepth 100000 in
theorem xk_56_0 : xe_56_0.all (fun q => xdecB xm_56 q.1 q.2 && xlkB 8 xm_56 q.1 q.2) = true := by decide +kernel
theorem xg_56 (pc : Nat) (e : XI) : xc_56 pc = some e → xDec xm_56 pc e ∧ xLk xprog xcl xfty xTs xSL xTL xNW xm_56 pc e := fun h => xfind_ok (o := 8) (g := xm_56) rfl xk_56_0 h
set_option maxRecDepth 100000 in
theorem xk_57_0 : xe_57_0.all (fun q => xdecB xm_57 q.1 q.2 && xlkB 8 xm_57 q.1 q.2) = true := by decide +kernel
theorem xg_57 (pc : Nat) (e : XI) : xc_57 pc = some e → xDec xm_57 pc e ∧ xLk xprog xcl xfty xTs xSL xTL xNW xm_57 pc e := fun h => xfind_ok (o := 8) (g := xm_57) rfl xk_57_0 h
set_option maxRecDepth 100000 in
theorem xk_58_0 : xe_58_0.all (fun q => xdecB xm_58 q.1 q.2 && xlkB 8 xm_58 q.1 q.2) = true := by decide +kernel
set_option maxRecDepth 100000 in
theorem xk_58_1 : xe_58_1.all (fun q => xdecB xm_58 q.1 q.2 && xlkB 8 xm_58 q.1 q.2) = true := by decide +kernel
theorem xg_58 (pc : Nat) (e : XI) : xc_58 pc = some e → xDec xm_58 pc e ∧ xLk xprog xcl xfty xTs xSL xTL xNW xm_58 pc e := fun h => xif_ok (fun h => xfind_ok (o := 8) (g := xm_58) rfl xk_58_0 h) (fun h => xfind_ok (o := 8) (g := xm_58) rfl xk_58_1 h) h
set_option maxRecDepth 100000 in
theorem xk_59_0 : xe_59_0.all (fun q => xdecB xm_59 q.1 q.2 && xlkB 9 xm_59 q.1 q.2) = true := by decide +kernel
theorem xg_59 (pc : Nat) (e : XI) : xc_59 pc = some e → xDec xm_59 pc e ∧ xLk xprog xcl xfty xTs xSL xTL xNW xm_59 pc e := fun h => xfind_ok (o := 9) (g := xm_59) rfl xk_59_0 h
set_option maxRecDepth 100000 in
theorem xk_60_0 : xe_60_0.all (fun q => xdecB xm_60 q.1 q.2 && xlkB 8 xm_60 q.1 q.2) = true := by decide +kernel
theorem xg_60 (pc : Nat) (e : XI) : xc_60 pc = some e → xDec xm_60 pc e ∧ xLk xprog xcl xfty xTs xSL xTL xNW xm_60 pc e := fun h => xfind_ok (o := 8) (g := xm_60) rfl xk_60_0 h
set_option maxRecDepth 100000 in
theorem xk_61_0 : xe_61_0.all (fun q => xdecB xm_61 q.1 q.2 && xlkB 9 xm_61 q.1 q.2) = true := by decide +kernel
theorem xg_61 (pc : Nat) (e : XI) : xc_61 pc = some e → xDec xm_61 pc e ∧ xLk xprog xcl xfty xTs xSL xTL xNW xm_61 pc e := fun h => xfind_ok (o := 9) (g := xm_61) rfl xk_61_0 h
set_option maxRecDepth 100000 in
theorem xk_62_0 : xe_62_0.all (fun q => xdecB xm_62 q.1 q.2 && xlkB 8 xm_62 q.1 q.2) = true := by decide +kernel
set_option maxRecDepth 100000 in
theorem xk_62_1 : xe_62_1.all (fun q => xdecB xm_62 q.1 q.2 && xlkB 8 xm_62 q.1 q.2) = true := by decide +kernel
set_option maxRecDepth 100000 in
theorem xk_62_2 : xe_62_2.all (fun q => xdecB xm_62 q.1 q.2 && xlkB 8 xm_62 q.1 q.2) = true := by decide +kernel
theorem xg_62 (pc : Nat) (e : XI) : xc_62 pc = some e → xDec xm_62 pc e ∧ xLk xprog xcl xfty xTs xSL xTL xNW xm_62 pc e := fun h => xif_ok (fun h => xfind_ok (o := 8) (g := xm_62) rfl xk_62_0 h) (fun h => xif_ok (fun h => xfind_ok (o := 8) (g := xm_62) rfl xk_62_1 h) (fun h => xfind_ok (o := 8) (g := xm_62) rfl xk_62_2 h) h) h
set_option maxRecDepth 100000 in
theorem xk_63_0 : xe_63_0.all (fun q => xdecB xm_63 q.1 q.2 && xlkB 8 xm_63 q.1 q.2) = true := by decide +kernel
set_option maxRecDepth 100000 in
theorem xk_63_1 : xe_63_1.all (fun q => xdecB xm_63 q.1 q.2 && xlkB 8 xm_63 q.1 q.2) = true := by decide +kernel
theorem xg_63 (pc : Nat) (e : XI) : xc_63 pc = some e → xDec xm_63 pc e ∧ xLk xprog xcl xfty xTs xSL xTL xNW xm_63 pc e := fun h => xif_ok (fun h => xfind_ok (o := 8) (g := xm_63) rfl xk_63_0 h) (fun h => xfind_ok (o := 8) (g := xm_63) rfl xk_63_1 h) h
set_option maxRecDepth 100000 in
theorem xk_64_0 : xe_64_0.all (fun q => xdecB xm_64 q.1 q.2 && xlkB 8 xm_64 q.1 q.2) = true := by decide +kernel
theorem xg_64 (pc : Nat) (e : XI) : xc_64 pc = some e → xDec xm_64 pc e ∧ xLk xprog xcl xfty xTs xSL xTL xNW xm_64 pc e := fun h => xfind_ok (o := 8) (g := xm_64) rfl xk_64_0 h
set_option maxRecDepth 100000 in
theorem xk_65_0 : xe_65_0.all (fun q => xdecB xm_65 q.1 q.2 && xlkB 7 xm_65 q.1 q.2) = true := by decide +kernel
theorem xg_65 (pc : Nat) (e : XI) : xc_65 pc = some e → xDec xm_65 pc e ∧ xLk xprog xcl xfty xTs xSL xTL xNW xm_65 pc e := fun h => xfind_ok (o := 7) (g := xm_65) rfl xk_65_0 h
set_option maxRecDepth 100000 in
theorem xk_66_0 : xe_66_0.all (fun q => xdecB xm_66 q.1 q.2 && xlkB 7 xm_66 q.1 q.2) = true := by decide +kernel
theorem xg_66 (pc : Nat) (e : XI) : xc_66 pc = some e → xDec xm_66 pc e ∧ xLk xprog xcl xfty xTs xSL xTL xNW xm_66 pc e := fun h => xfind_ok (o := 7) (g := xm_66) rfl xk_66_0 h
set_option maxRecDepth 100000 in
theorem xk_67_0 : xe_67_0.all (fun q => xdecB xm_67 q.1 q.2 && xlkB 7 xm_67 q.1 q.2) = true := by decide +kernel
theorem xg_67 (pc : Nat) (e : XI) : xc_67 pc = some e → xDec xm_67 pc e ∧ xLk xprog xcl xfty xTs xSL xTL xNW xm_67 pc e := fun h => xfind_ok (o := 7) (g := xm_67) rfl xk_67_0 h
set_option maxRecDepth 100000 in
theorem xk_68_0 : xe_68_0.all (fun q => xdecB xm_68 q.1 q.2 && xlkB 7 xm_68 q.1 q.2) = true := by decide +kernel
theorem xg_68 (pc : Nat) (e : XI) : xc_68 pc = some e → xDec xm_68 pc e ∧ xLk xprog xcl xfty xTs xSL xTL xNW xm_68 pc e := fun h => xfind_ok (o := 7) (g := xm_68) rfl xk_68_0 h
set_option maxRecDepth 100000 in
theorem xk_69_0 : xe_69_0.all (fun q => xdecB xm_69 q.1 q.2 && xlkB 8 xm_69 q.1 q.2) = true := by decide +kernel
set_option maxRecDepth 100000 in
theorem xk_69_1 : xe_69_1.all (fun q => xdecB xm_69 q.1 q.2 && xlkB 8 xm_69 q.1 q.2) = true := by decide +kernel
theorem xg_69 (pc : Nat) (e : XI) : xc_69 pc = some e → xDec xm_69 pc e ∧ xLk xprog xcl xfty xTs xSL xTL xNW xm_69 pc e := fun h => xif_ok (fun h => xfind_ok (o := 8) (g := xm_69) rfl xk_69_0 h) (fun h => xfind_ok (o := 8) (g := xm_69) rfl xk_69_1 h) h
set_option maxRecDepth 100000 in
theorem xk_70_0 : xe_70_0.all (fun q => xdecB xm_70 q.1 q.2 && xlkB 7 xm_70 q.1 q.2) = true := by decide +kernel
theorem xg_70 (pc : Nat) (e : XI) : xc_70 pc = some e → xDec xm_70 pc e ∧ xLk xprog xcl xfty xTs xSL xTL xNW xm_70 pc e := fun h => xfind_ok (o := 7) (g := xm_70) rfl xk_70_0 h
set_option maxRecDepth 100000 in
theorem xk_71_0 : xe_71_0.all (fun q => xdecB xm_71 q.1 q.2 && xlkB 7 xm_71 q.1 q.2) = true := by decide +kernel
theorem xg_71 (pc : Nat) (e : XI) : xc_71 pc = some e → xDec xm_71 pc e ∧ xLk xprog xcl xfty xTs xSL xTL xNW xm_71 pc e := fun h => xfind_ok (o := 7) (g := xm_71) rfl xk_71_0 h
set_option maxRecDepth 100000 in
theorem xk_72_0 : xe_72_0.all (fun q => xdecB xm_72 q.1 q.2 && xlkB 7 xm_72 q.1 q.2) = true := by decide +kernel
theorem xg_72 (pc : Nat) (e : XI) : xc_72 pc = some e → xDec xm_72 pc e ∧ xLk xprog xcl xfty xTs xSL xTL xNW xm_72 pc e := fun h => xfind_ok (o := 7) (g := xm_72) rfl xk_72_0 h
set_option maxRecDepth 100000 in
theorem xk_73_0 : xe_73_0.all (fun q => xdecB xm_73 q.1 q.2 && xlkB 7 xm_73 q.1 q.2) = true := by decide +kernel
theorem xg_73 (pc : Nat) (e : XI) : xc_73 pc = some e → xDec xm_73 pc e ∧ xLk xprog xcl xfty xTs xSL xTL xNW xm_73 pc e := fun h => xfind_ok (o := 7) (g := xm_73) rfl xk_73_0 h
set_option maxRecDepth 100000 in
theorem xk_74_0 : xe_74_0.all (fun q => xdecB xm_74 q.1 q.2 && xlkB 7 xm_74 q.1 q.2) = true := by decide +kernel
theorem xg_74 (pc : Nat) (e : XI) : xc_74 pc = some e → xDec xm_74 pc e ∧ xLk xprog xcl xfty xTs xSL xTL xNW xm_74 pc e := fun h => xfind_ok (o := 7) (g := xm_74) rfl xk_74_0 h
set_option maxRecDepth 100000 in
theorem xk_75_0 : xe_75_0.all (fun q => xdecB xm_75 q.1 q.2 && xlkB 6 xm_75 q.1 q.2) = true := by decide +kernel
theorem xg_75 (pc : Nat) (e : XI) : xc_75 pc = some e → xDec xm_75 pc e ∧ xLk xprog xcl xfty xTs xSL xTL xNW xm_75 pc e := fun h => xfind_ok (o := 6) (g := xm_75) rfl xk_75_0 h
set_option maxRecDepth 100000 in
theorem xk_76_0 : xe_76_0.all (fun q => xdecB xm_76 q.1 q.2 && xlkB 7 xm_76 q.1 q.2) = true := by decide +kernel
theorem xg_76 (pc : Nat) (e : XI) : xc_76 pc = some e → xDec xm_76 pc e ∧ xLk xprog xcl xfty xTs xSL xTL xNW xm_76 pc e := fun h => xfind_ok (o := 7) (g := xm_76) rfl xk_76_0 h
set_option maxRecDepth 100000 in
theorem xk_77_0 : xe_77_0.all (fun q => xdecB xm_77 q.1 q.2 && xlkB 8 xm_77 q.1 q.2) = true := by decide +kernel
set_option maxRecDepth 100000 in
theorem xk_77_1 : xe_77_1.all (fun q => xdecB xm_77 q.1 q.2 && xlkB 8 xm_77 q.1 q.2) = true := by decide +kernel
theorem xg_77 (pc : Nat) (e : XI) : xc_77 pc = some e → xDec xm_77 pc e ∧ xLk xprog xcl xfty xTs xSL xTL xNW xm_77 pc e := fun h => xif_ok (fun h => xfind_ok (o := 8) (g := xm_77) rfl xk_77_0 h) (fun h => xfind_ok (o := 8) (g := xm_77) rfl xk_77_1 h) h
set_option maxRecDepth 100000 in
theorem xk_78_0 : xe_78_0.all (fun q => xdecB xm_78 q.1 q.2 && xlkB 8 xm_78 q.1 q.2) = true := by decide +kernel
set_option maxRecDepth 100000 in
theorem xk_78_1 : xe_78_1.all (fun q => xdecB xm_78 q.1 q.2 && xlkB 8 xm_78 q.1 q.2) = true := by decide +kernel
theorem xg_78 (pc : Nat) (e : XI) : xc_78 pc = some e → xDec xm_78 pc e ∧ xLk xprog xcl xfty xTs xSL xTL xNW xm_78 pc e := fun h => xif_ok (fun h => xfind_ok (o := 8) (g := xm_78) rfl xk_78_0 h) (fun h => xfind_ok (o := 8) (g := xm_78) rfl xk_78_1 h) h
set_option maxRecDepth 100000 in
theorem xk_79_0 : xe_79_0.all (fun q => xdecB xm_79 q.1 q.2 && xlkB 8 xm_79 q.1 q.2) = true := by decide +kernel
set_option maxRecDepth 100000 in
theorem xk_79_1 : xe_79_1.all (fun q => xdecB xm_79 q.1 q.2 && xlkB 8 xm_79 q.1 q.2) = true := by decide +kernel
theorem xg_79 (pc : Nat) (e : XI) : xc_79 pc = some e → xDec xm_79 pc e ∧ xLk xprog xcl xfty xTs xSL xTL xNW xm_79 pc e := fun h => xif_ok (fun h => xfind_ok (o := 8) (g := xm_79) rfl xk_79_0 h) (fun h => xfind_ok (o := 8) (g := xm_79) rfl xk_79_1 h) h
set_option maxRecDepth 100000 in
theorem xk_80_0 : xe_80_0.all (fun q => xdecB xm_80 q.1 q.2 && xlkB 8 xm_80 q.1 q.2) = true := by decide +kernel
theorem xg_80 (pc : Nat) (e : XI) : xc_80 pc = some e → xDec xm_80 pc e ∧ xLk xprog xcl xfty xTs xSL xTL xNW xm_80 pc e := fun h => xfind_ok (o := 8) (g := xm_80) rfl xk_80_0 h
set_option maxRecDepth 100000 in
theorem xk_81_0 : xe_81_0.all (fun q => xdecB xm_81 q.1 q.2 && xlkB 8 xm_81 q.1 q.2) = true := by decide +kernel
set_option maxRecDepth 100000 in
theorem xk_81_1 : xe_81_1.all (fun q => xdecB xm_81 q.1 q.2 && xlkB 8 xm_81 q.1 q.2) = true := by decide +kernel
theorem xg_81 (pc : Nat) (e : XI) : xc_81 pc = some e → xDec xm_81 pc e ∧ xLk xprog xcl xfty xTs xSL xTL xNW xm_81 pc e := fun h => xif_ok (fun h => xfind_ok (o := 8) (g := xm_81) rfl xk_81_0 h) (fun h => xfind_ok (o := 8) (g := xm_81) rfl xk_81_1 h) h
set_option maxRecDepth 100000 in
theorem xk_82_0 : xe_82_0.all (fun q => xdecB xm_82 q.1 q.2 && xlkB 15 xm_82 q.1 q.2) = true := by decide +kernel
theorem xg_82 (pc : Nat) (e : XI) : xc_82 pc = some e → xDec xm_82 pc e ∧ xLk xprog xcl xfty xTs xSL xTL xNW xm_82 pc e := fun h => xfind_ok (o := 15) (g := xm_82) rfl xk_82_0 h
set_option maxRecDepth 100000 in
theorem xk_83_0 : xe_83_0.all (fun q => xdecB xm_83 q.1 q.2 && xlkB 15 xm_83 q.1 q.2) = true := by decide +kernel
theorem xg_83 (pc : Nat) (e : XI) : xc_83 pc = some e → xDec xm_83 pc e ∧ xLk xprog xcl xfty xTs xSL xTL xNW xm_83 pc e := fun h => xfind_ok (o := 15) (g := xm_83) rfl xk_83_0 h
set_option maxRecDepth 100000 in
theorem xk_84_0 : xe_84_0.all (fun q => xdecB xm_84 q.1 q.2 && xlkB 16 xm_84 q.1 q.2) = true := by decide +kernel
theorem xg_84 (pc : Nat) (e : XI) : xc_84 pc = some e → xDec xm_84 pc e ∧ xLk xprog xcl xfty xTs xSL xTL xNW xm_84 pc e := fun h => xfind_ok (o := 16) (g := xm_84) rfl xk_84_0 h
set_option maxRecDepth 100000 in
theorem xk_85_0 : xe_85_0.all (fun q => xdecB xm_85 q.1 q.2 && xlkB 16 xm_85 q.1 q.2) = true := by decide +kernel
theorem xg_85 (pc : Nat) (e : XI) : xc_85 pc = some e → xDec xm_85 pc e ∧ xLk xprog xcl xfty xTs xSL xTL xNW xm_85 pc e := fun h => xfind_ok (o := 16) (g := xm_85) rfl xk_85_0 h
set_option maxRecDepth 100000 in
theorem xk_86_0 : xe_86_0.all (fun q => xdecB xm_86 q.1 q.2 && xlkB 16 xm_86 q.1 q.2) = true := by decide +kernel
theorem xg_86 (pc : Nat) (e : XI) : xc_86 pc = some e → xDec xm_86 pc e ∧ xLk xprog xcl xfty xTs xSL xTL xNW xm_86 pc e := fun h => xfind_ok (o := 16) (g := xm_86) rfl xk_86_0 h
set_option maxRecDepth 100000 in
theorem xk_87_0 : xe_87_0.all (fun q => xdecB xm_87 q.1 q.2 && xlkB 16 xm_87 q.1 q.2) = true := by decide +kernel
theorem xg_87 (pc : Nat) (e : XI) : xc_87 pc = some e → xDec xm_87 pc e ∧ xLk xprog xcl xfty xTs xSL xTL xNW xm_87 pc e := fun h => xfind_ok (o := 16) (g := xm_87) rfl xk_87_0 h
set_option maxRecDepth 100000 in
theorem xk_88_0 : xe_88_0.all (fun q => xdecB xm_88 q.1 q.2 && xlkB 16 xm_88 q.1 q.2) = true := by decide +kernel
set_option maxRecDepth 100000 in
theorem xk_88_1 : xe_88_1.all (fun q => xdecB xm_88 q.1 q.2 && xlkB 16 xm_88 q.1 q.2) = true := by decide +kernel
theorem xg_88 (pc : Nat) (e : XI) : xc_88 pc = some e → xDec xm_88 pc e ∧ xLk xprog xcl xfty xTs xSL xTL xNW xm_88 pc e := fun h => xif_ok (fun h => xfind_ok (o := 16) (g := xm_88) rfl xk_88_0 h) (fun h => xfind_ok (o := 16) (g := xm_88) rfl xk_88_1 h) h
set_option maxRecDepth 100000 in
theorem xk_89_0 : xe_89_0.all (fun q => xdecB xm_89 q.1 q.2 && xlkB 16 xm_89 q.1 q.2) = true := by decide +kernel
set_option maxRecDepth 100000 in
theorem xk_89_1 : xe_89_1.all (fun q => xdecB xm_89 q.1 q.2 && xlkB 16 xm_89 q.1 q.2) = true := by decide +kernel
set_option maxRecDepth 100000 in
theorem xk_89_2 : xe_89_2.all (fun q => xdecB xm_89 q.1 q.2 && xlkB 16 xm_89 q.1 q.2) = true := by decide +kernel
set_option maxRecDepth 100000 in
theorem xk_89_3 : xe_89_3.all (fun q => xdecB xm_89 q.1 q.2 && xlkB 16 xm_89 q.1 q.2) = true := by decide +kernel
set_option maxRecDepth 100000 in
theorem xk_89_4 : xe_89_4.all (fun q => xdecB xm_89 q.1 q.2 && xlkB 16 xm_89 q.1 q.2) = true := by decide +kernel
theorem xg_89 (pc : Nat) (e : XI) : xc_89 pc = some e → xDec xm_89 pc e ∧ xLk xprog xcl xfty xTs xSL xTL xNW xm_89 pc e := fun h => xif_ok (fun h => xif_ok (fun h => xfind_ok (o := 16) (g := xm_89) rfl xk_89_0 h) (fun h => xfind_ok (o := 16) (g := xm_89) rfl xk_89_1 h) h) (fun h => xif_ok (fun h => xfind_ok (o := 16) (g := xm_89) rfl xk_89_2 h) (fun h => xif_ok (fun h => xfind_ok (o := 16) (g := xm_89) rfl xk_89_3 h) (fun h => xfind_ok (o := 16) (g := xm_89) rfl xk_89_4 h) h) h) h
set_option maxRecDepth 100000 in
theorem xk_90_0 : xe_90_0.all (fun q => xdecB xm_90 q.1 q.2 && xlkB 16 xm_90 q.1 q.2) = true := by decide +kernel
theorem xg_90 (pc : Nat) (e : XI) : xc_90 pc = some e → xDec xm_90 pc e ∧ xLk xprog xcl xfty xTs xSL xTL xNW xm_90 pc e := fun h => xfind_ok (o := 16) (g := xm_90) rfl xk_90_0 h
set_option maxRecDepth 100000 in
theorem xk_91_0 : xe_91_0.all (fun q => xdecB xm_91 q.1 q.2 && xlkB 16 xm_91 q.1 q.2) = true := by decide +kernel
theorem xg_91 (pc : Nat) (e : XI) : xc_91 pc = some e → xDec xm_91 pc e ∧ xLk xprog xcl xfty xTs xSL xTL xNW xm_91 pc e := fun h => xfind_ok (o := 16) (g := xm_91) rfl xk_91_0 h
set_option maxRecDepth 100000 in
theorem xk_92_0 : xe_92_0.all (fun q => xdecB xm_92 q.1 q.2 && xlkB 16 xm_92 q.1 q.2) = true := by decide +kernel
theorem xg_92 (pc : Nat) (e : XI) : xc_92 pc = some e → xDec xm_92 pc e ∧ xLk xprog xcl xfty xTs xSL xTL xNW xm_92 pc e := fun h => xfind_ok (o := 16) (g := xm_92) rfl xk_92_0 h
set_option maxRecDepth 100000 in
theorem xk_93_0 : xe_93_0.all (fun q => xdecB xm_93 q.1 q.2 && xlkB 16 xm_93 q.1 q.2) = true := by decide +kernel
theorem xg_93 (pc : Nat) (e : XI) : xc_93 pc = some e → xDec xm_93 pc e ∧ xLk xprog xcl xfty xTs xSL xTL xNW xm_93 pc e := fun h => xfind_ok (o := 16) (g := xm_93) rfl xk_93_0 h
