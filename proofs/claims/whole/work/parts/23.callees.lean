/-! the callees' words -/
set_option maxRecDepth 100000 in
theorem xCAL_ok : xCAL.all xcaB = true := by decide +kernel
