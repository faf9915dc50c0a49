/-! the rows are looked at, 3 -/
set_option maxRecDepth 100000 in
theorem xk_31_0 : xe_31_0.all (fun q => xdecB xm_31 q.1 q.2 && xlkB 1 xm_31 q.1 q.2) = true := by decide +kernel
theorem xg_31 (pc : Nat) (e : XI) : xc_31 pc = some e → xDec xm_31 pc e ∧ xLk xprog xcl xfty xTs xSL xTL xNW xm_31 pc e := fun h => xfind_ok (o := 1) (g := xm_31) rfl xk_31_0 h
set_option maxRecDepth 100000 in
theorem xk_32_0 : xe_32_0.all (fun q => xdecB xm_32 q.1 q.2 && xlkB 1 xm_32 q.1 q.2) = true := by decide +kernel
theorem xg_32 (pc : Nat) (e : XI) : xc_32 pc = some e → xDec xm_32 pc e ∧ xLk xprog xcl xfty xTs xSL xTL xNW xm_32 pc e := fun h => xfind_ok (o := 1) (g := xm_32) rfl xk_32_0 h
set_option maxRecDepth 100000 in
theorem xk_33_0 : xe_33_0.all (fun q => xdecB xm_33 q.1 q.2 && xlkB 15 xm_33 q.1 q.2) = true := by decide +kernel
theorem xg_33 (pc : Nat) (e : XI) : xc_33 pc = some e → xDec xm_33 pc e ∧ xLk xprog xcl xfty xTs xSL xTL xNW xm_33 pc e := fun h => xfind_ok (o := 15) (g := xm_33) rfl xk_33_0 h
set_option maxRecDepth 100000 in
theorem xk_34_0 : xe_34_0.all (fun q => xdecB xm_34 q.1 q.2 && xlkB 16 xm_34 q.1 q.2) = true := by decide +kernel
theorem xg_34 (pc : Nat) (e : XI) : xc_34 pc = some e → xDec xm_34 pc e ∧ xLk xprog xcl xfty xTs xSL xTL xNW xm_34 pc e := fun h => xfind_ok (o := 16) (g := xm_34) rfl xk_34_0 h
set_option maxRecDepth 100000 in
theorem xk_35_0 : xe_35_0.all (fun q => xdecB xm_35 q.1 q.2 && xlkB 16 xm_35 q.1 q.2) = true := by decide +kernel
theorem xg_35 (pc : Nat) (e : XI) : xc_35 pc = some e → xDec xm_35 pc e ∧ xLk xprog xcl xfty xTs xSL xTL xNW xm_35 pc e := fun h => xfind_ok (o := 16) (g := xm_35) rfl xk_35_0 h
set_option maxRecDepth 100000 in
theorem xk_36_0 : xe_36_0.all (fun q => xdecB xm_36 q.1 q.2 && xlkB 15 xm_36 q.1 q.2) = true := by decide +kernel
theorem xg_36 (pc : Nat) (e : XI) : xc_36 pc = some e → xDec xm_36 pc e ∧ xLk xprog xcl xfty xTs xSL xTL xNW xm_36 pc e := fun h => xfind_ok (o := 15) (g := xm_36) rfl xk_36_0 h
set_option maxRecDepth 100000 in
theorem xk_37_0 : xe_37_0.all (fun q => xdecB xm_37 q.1 q.2 && xlkB 16 xm_37 q.1 q.2) = true := by decide +kernel
theorem xg_37 (pc : Nat) (e : XI) : xc_37 pc = some e → xDec xm_37 pc e ∧ xLk xprog xcl xfty xTs xSL xTL xNW xm_37 pc e := fun h => xfind_ok (o := 16) (g := xm_37) rfl xk_37_0 h
set_option maxRecDepth 100000 in
theorem xk_38_0 : xe_38_0.all (fun q => xdecB xm_38 q.1 q.2 && xlkB 5 xm_38 q.1 q.2) = true := by decide +kernel
theorem xg_38 (pc : Nat) (e : XI) : xc_38 pc = some e → xDec xm_38 pc e ∧ xLk xprog xcl xfty xTs xSL xTL xNW xm_38 pc e := fun h => xfind_ok (o := 5) (g := xm_38) rfl xk_38_0 h
set_option maxRecDepth 100000 in
theorem xk_39_0 : xe_39_0.all (fun q => xdecB xm_39 q.1 q.2 && xlkB 8 xm_39 q.1 q.2) = true := by decide +kernel
theorem xg_39 (pc : Nat) (e : XI) : xc_39 pc = some e → xDec xm_39 pc e ∧ xLk xprog xcl xfty xTs xSL xTL xNW xm_39 pc e := fun h => xfind_ok (o := 8) (g := xm_39) rfl xk_39_0 h
set_option maxRecDepth 100000 in
theorem xk_40_0 : xe_40_0.all (fun q => xdecB xm_40 q.1 q.2 && xlkB 1 xm_40 q.1 q.2) = true := by decide +kernel
theorem xg_40 (pc : Nat) (e : XI) : xc_40 pc = some e → xDec xm_40 pc e ∧ xLk xprog xcl xfty xTs xSL xTL xNW xm_40 pc e := fun h => xfind_ok (o := 1) (g := xm_40) rfl xk_40_0 h
set_option maxRecDepth 100000 in
theorem xk_41_0 : xe_41_0.all (fun q => xdecB xm_41 q.1 q.2 && xlkB 5 xm_41 q.1 q.2) = true := by decide +kernel
theorem xg_41 (pc : Nat) (e : XI) : xc_41 pc = some e → xDec xm_41 pc e ∧ xLk xprog xcl xfty xTs xSL xTL xNW xm_41 pc e := fun h => xfind_ok (o := 5) (g := xm_41) rfl xk_41_0 h
set_option maxRecDepth 100000 in
theorem xk_42_0 : xe_42_0.all (fun q => xdecB xm_42 q.1 q.2 && xlkB 5 xm_42 q.1 q.2) = true := by decide +kernel
theorem xg_42 (pc : Nat) (e : XI) : xc_42 pc = some e → xDec xm_42 pc e ∧ xLk xprog xcl xfty xTs xSL xTL xNW xm_42 pc e := fun h => xfind_ok (o := 5) (g := xm_42) rfl xk_42_0 h
set_option maxRecDepth 100000 in
theorem xk_43_0 : xe_43_0.all (fun q => xdecB xm_43 q.1 q.2 && xlkB 5 xm_43 q.1 q.2) = true := by decide +kernel
theorem xg_43 (pc : Nat) (e : XI) : xc_43 pc = some e → xDec xm_43 pc e ∧ xLk xprog xcl xfty xTs xSL xTL xNW xm_43 pc e := fun h => xfind_ok (o := 5) (g := xm_43) rfl xk_43_0 h
set_option maxRecDepth 100000 in
theorem xk_44_0 : xe_44_0.all (fun q => xdecB xm_44 q.1 q.2 && xlkB 5 xm_44 q.1 q.2) = true := by decide +kernel
theorem xg_44 (pc : Nat) (e : XI) : xc_44 pc = some e → xDec xm_44 pc e ∧ xLk xprog xcl xfty xTs xSL xTL xNW xm_44 pc e := fun h => xfind_ok (o := 5) (g := xm_44) rfl xk_44_0 h
set_option maxRecDepth 100000 in
theorem xk_45_0 : xe_45_0.all (fun q => xdecB xm_45 q.1 q.2 && xlkB 5 xm_45 q.1 q.2) = true := by decide +kernel
theorem xg_45 (pc : Nat) (e : XI) : xc_45 pc = some e → xDec xm_45 pc e ∧ xLk xprog xcl xfty xTs xSL xTL xNW xm_45 pc e := fun h => xfind_ok (o := 5) (g := xm_45) rfl xk_45_0 h
set_option maxRecDepth 100000 in
theorem xk_46_0 : xe_46_0.all (fun q => xdecB xm_46 q.1 q.2 && xlkB 5 xm_46 q.1 q.2) = true := by decide +kernel
set_option maxRecDepth 100000 in
theorem xk_46_1 : xe_46_1.all (fun q => xdecB xm_46 q.1 q.2 && xlkB 5 xm_46 q.1 q.2) = true := by decide +kernel
theorem xg_46 (pc : Nat) (e : XI) : xc_46 pc = some e → xDec xm_46 pc e ∧ xLk xprog xcl xfty xTs xSL xTL xNW xm_46 pc e := fun h => xif_ok (fun h => xfind_ok (o := 5) (g := xm_46) rfl xk_46_0 h) (fun h => xfind_ok (o := 5) (g := xm_46) rfl xk_46_1 h) h
set_option maxRecDepth 100000 in
theorem xk_47_0 : xe_47_0.all (fun q => xdecB xm_47 q.1 q.2 && xlkB 5 xm_47 q.1 q.2) = true := by decide +kernel
theorem xg_47 (pc : Nat) (e : XI) : xc_47 pc = some e → xDec xm_47 pc e ∧ xLk xprog xcl xfty xTs xSL xTL xNW xm_47 pc e := fun h => xfind_ok (o := 5) (g := xm_47) rfl xk_47_0 h
set_option maxRecDepth 100000 in
theorem xk_48_0 : xe_48_0.all (fun q => xdecB xm_48 q.1 q.2 && xlkB 5 xm_48 q.1 q.2) = true := by decide +kernel
set_option maxRecDepth 100000 in
theorem xk_48_1 : xe_48_1.all (fun q => xdecB xm_48 q.1 q.2 && xlkB 5 xm_48 q.1 q.2) = true := by decide +kernel
theorem xg_48 (pc : Nat) (e : XI) : xc_48 pc = some e → xDec xm_48 pc e ∧ xLk xprog xcl xfty xTs xSL xTL xNW xm_48 pc e := fun h => xif_ok (fun h => xfind_ok (o := 5) (g := xm_48) rfl xk_48_0 h) (fun h => xfind_ok (o := 5) (g := xm_48) rfl xk_48_1 h) h
set_option maxRecDepth 100000 in
theorem xk_49_0 : xe_49_0.all (fun q => xdecB xm_49 q.1 q.2 && xlkB 4 xm_49 q.1 q.2) = true := by decide +kernel
theorem xg_49 (pc : Nat) (e : XI) : xc_49 pc = some e → xDec xm_49 pc e ∧ xLk xprog xcl xfty xTs xSL xTL xNW xm_49 pc e := fun h => xfind_ok (o := 4) (g := xm_49) rfl xk_49_0 h
set_option maxRecDepth 100000 in
theorem xk_50_0 : xe_50_0.all (fun q => xdecB xm_50 q.1 q.2 && xlkB 4 xm_50 q.1 q.2) = true := by decide +kernel
theorem xg_50 (pc : Nat) (e : XI) : xc_50 pc = some e → xDec xm_50 pc e ∧ xLk xprog xcl xfty xTs xSL xTL xNW xm_50 pc e := fun h => xfind_ok (o := 4) (g := xm_50) rfl xk_50_0 h
set_option maxRecDepth 100000 in
theorem xk_51_0 : xe_51_0.all (fun q => xdecB xm_51 q.1 q.2 && xlkB 4 xm_51 q.1 q.2) = true := by decide +kernel
theorem xg_51 (pc : Nat) (e : XI) : xc_51 pc = some e → xDec xm_51 pc e ∧ xLk xprog xcl xfty xTs xSL xTL xNW xm_51 pc e := fun h => xfind_ok (o := 4) (g := xm_51) rfl xk_51_0 h
set_option maxRecDepth 100000 in
theorem xk_52_0 : xe_52_0.all (fun q => xdecB xm_52 q.1 q.2 && xlkB 2 xm_52 q.1 q.2) = true := by decide +kernel
theorem xg_52 (pc : Nat) (e : XI) : xc_52 pc = some e → xDec xm_52 pc e ∧ xLk xprog xcl xfty xTs xSL xTL xNW xm_52 pc e := fun h => xfind_ok (o := 2) (g := xm_52) rfl xk_52_0 h
set_option maxRecDepth 100000 in
theorem xk_53_0 : xe_53_0.all (fun q => xdecB xm_53 q.1 q.2 && xlkB 2 xm_53 q.1 q.2) = true := by decide +kernel
theorem xg_53 (pc : Nat) (e : XI) : xc_53 pc = some e → xDec xm_53 pc e ∧ xLk xprog xcl xfty xTs xSL xTL xNW xm_53 pc e := fun h => xfind_ok (o := 2) (g := xm_53) rfl xk_53_0 h
set_option maxRecDepth 100000 in
theorem xk_54_0 : xe_54_0.all (fun q => xdecB xm_54 q.1 q.2 && xlkB 5 xm_54 q.1 q.2) = true := by decide +kernel
set_option maxRecDepth 100000 in
theorem xk_54_1 : xe_54_1.all (fun q => xdecB xm_54 q.1 q.2 && xlkB 5 xm_54 q.1 q.2) = true := by decide +kernel
theorem xg_54 (pc : Nat) (e : XI) : xc_54 pc = some e → xDec xm_54 pc e ∧ xLk xprog xcl xfty xTs xSL xTL xNW xm_54 pc e := fun h => xif_ok (fun h => xfind_ok (o := 5) (g := xm_54) rfl xk_54_0 h) (fun h => xfind_ok (o := 5) (g := xm_54) rfl xk_54_1 h) h
set_option maxRecDepth 100000 in
theorem xk_55_0 : xe_55_0.all (fun q => xdecB xm_55 q.1 q.2 && xlkB 7 xm_55 q.1 q.2) = true := by decide +kernel
theorem xg_55 (pc : Nat) (e : XI) : xc_55 pc = some e → xDec xm_55 pc e ∧ xLk xprog xcl xfty xTs xSL xTL xNW xm_55 pc e := fun h => xfind_ok (o := 7) (g := xm_55) rfl xk_55_0 h
set_option maxRecDepth 100000 in
theorem xk_56_0 : xe_56_0.all (fun q => xdecB xm_56 q.1 q.2 && xlkB 8 xm_56 q.1 q.2) = true := by decide +kernel
theorem xg_56 (pc : Nat) (e : XI) : xc_56 pc = some e → xDec xm_56 pc e ∧ xLk xprog xcl xfty xTs xSL xTL xNW xm_56 pc e := fun h => xfind_ok (o := 8) (g := xm_56) rfl xk_56_0 h
set_option maxRecDepth 100000 in
theorem xk_57_0 : xe_57_0.all (fun q => xdecB xm_57 q.1 q.2 && xlkB 8 xm_57 q.1 q.2) = true := by decide +kernel
theorem xg_57 (pc : Nat) (e : XI) : xc_57 pc = some e → xDec xm_57 pc e ∧ xLk xprog xcl xfty xTs xSL xTL xNW xm_57 pc e := fun h => xfind_ok (o := 8) (g := xm_57) rfl xk_57_0 h
