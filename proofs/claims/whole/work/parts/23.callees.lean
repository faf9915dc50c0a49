/-! the callees' words -/
set_option maxRecDepth 100000 in
theorem xCALk_0 : xCAL_0.all xcaB = true := by decide +kernel
set_option maxRecDepth 100000 in
theorem xCALw_0 : ∀ q ∈ xCAL_0, xcw q := List.forall_mem_cons.mpr ⟨xcw_of rfl, List.forall_mem_cons.mpr ⟨xcw_of rfl, List.forall_mem_cons.mpr ⟨xcw_of rfl, List.forall_mem_cons.mpr ⟨xcw_of rfl, List.forall_mem_cons.mpr ⟨xcw_of rfl, List.forall_mem_cons.mpr ⟨xcw_of rfl, List.forall_mem_cons.mpr ⟨xcw_of rfl, List.forall_mem_cons.mpr ⟨xcw_of rfl, List.forall_mem_cons.mpr ⟨xcw_of rfl, List.forall_mem_cons.mpr ⟨xcw_of rfl, List.forall_mem_cons.mpr ⟨xcw_of rfl, List.forall_mem_cons.mpr ⟨xcw_of rfl, fun _ h => absurd h List.not_mem_nil⟩⟩⟩⟩⟩⟩⟩⟩⟩⟩⟩⟩
set_option maxRecDepth 100000 in
theorem xCALk_1 : xCAL_1.all xcaB = true := by decide +kernel
set_option maxRecDepth 100000 in
theorem xCALw_1 : ∀ q ∈ xCAL_1, xcw q := List.forall_mem_cons.mpr ⟨xcw_of rfl, List.forall_mem_cons.mpr ⟨xcw_of rfl, List.forall_mem_cons.mpr ⟨xcw_of rfl, List.forall_mem_cons.mpr ⟨xcw_of rfl, List.forall_mem_cons.mpr ⟨xcw_of rfl, List.forall_mem_cons.mpr ⟨xcw_of rfl, List.forall_mem_cons.mpr ⟨xcw_of rfl, List.forall_mem_cons.mpr ⟨xcw_of rfl, List.forall_mem_cons.mpr ⟨xcw_of rfl, List.forall_mem_cons.mpr ⟨xcw_of rfl, List.forall_mem_cons.mpr ⟨xcw_of rfl, List.forall_mem_cons.mpr ⟨xcw_of rfl, fun _ h => absurd h List.not_mem_nil⟩⟩⟩⟩⟩⟩⟩⟩⟩⟩⟩⟩
set_option maxRecDepth 100000 in
theorem xCALk_2 : xCAL_2.all xcaB = true := by decide +kernel
set_option maxRecDepth 100000 in
theorem xCALw_2 : ∀ q ∈ xCAL_2, xcw q := List.forall_mem_cons.mpr ⟨xcw_of rfl, List.forall_mem_cons.mpr ⟨xcw_of rfl, List.forall_mem_cons.mpr ⟨xcw_of rfl, List.forall_mem_cons.mpr ⟨xcw_of rfl, List.forall_mem_cons.mpr ⟨xcw_of rfl, List.forall_mem_cons.mpr ⟨xcw_of rfl, List.forall_mem_cons.mpr ⟨xcw_of rfl, List.forall_mem_cons.mpr ⟨xcw_of rfl, List.forall_mem_cons.mpr ⟨xcw_of rfl, List.forall_mem_cons.mpr ⟨xcw_of rfl, List.forall_mem_cons.mpr ⟨xcw_of rfl, List.forall_mem_cons.mpr ⟨xcw_of rfl, fun _ h => absurd h List.not_mem_nil⟩⟩⟩⟩⟩⟩⟩⟩⟩⟩⟩⟩
set_option maxRecDepth 100000 in
theorem xCALk_3 : xCAL_3.all xcaB = true := by decide +kernel
set_option maxRecDepth 100000 in
theorem xCALw_3 : ∀ q ∈ xCAL_3, xcw q := List.forall_mem_cons.mpr ⟨xcw_of rfl, List.forall_mem_cons.mpr ⟨xcw_of rfl, List.forall_mem_cons.mpr ⟨xcw_of rfl, List.forall_mem_cons.mpr ⟨xcw_of rfl, List.forall_mem_cons.mpr ⟨xcw_of rfl, List.forall_mem_cons.mpr ⟨xcw_of rfl, List.forall_mem_cons.mpr ⟨xcw_of rfl, List.forall_mem_cons.mpr ⟨xcw_of rfl, List.forall_mem_cons.mpr ⟨xcw_of rfl, List.forall_mem_cons.mpr ⟨xcw_of rfl, List.forall_mem_cons.mpr ⟨xcw_of rfl, List.forall_mem_cons.mpr ⟨xcw_of rfl, fun _ h => absurd h List.not_mem_nil⟩⟩⟩⟩⟩⟩⟩⟩⟩⟩⟩⟩
set_option maxRecDepth 100000 in
theorem xCALk_4 : xCAL_4.all xcaB = true := by decide +kernel
set_option maxRecDepth 100000 in
theorem xCALw_4 : ∀ q ∈ xCAL_4, xcw q := List.forall_mem_cons.mpr ⟨xcw_of rfl, List.forall_mem_cons.mpr ⟨xcw_of rfl, List.forall_mem_cons.mpr ⟨xcw_of rfl, List.forall_mem_cons.mpr ⟨xcw_of rfl, List.forall_mem_cons.mpr ⟨xcw_of rfl, List.forall_mem_cons.mpr ⟨xcw_of rfl, List.forall_mem_cons.mpr ⟨xcw_of rfl, List.forall_mem_cons.mpr ⟨xcw_of rfl, List.forall_mem_cons.mpr ⟨xcw_of rfl, List.forall_mem_cons.mpr ⟨xcw_of rfl, List.forall_mem_cons.mpr ⟨xcw_of rfl, List.forall_mem_cons.mpr ⟨xcw_of rfl, fun _ h => absurd h List.not_mem_nil⟩⟩⟩⟩⟩⟩⟩⟩⟩⟩⟩⟩
set_option maxRecDepth 100000 in
theorem xCALk_5 : xCAL_5.all xcaB = true := by decide +kernel
set_option maxRecDepth 100000 in
theorem xCALw_5 : ∀ q ∈ xCAL_5, xcw q := List.forall_mem_cons.mpr ⟨xcw_of rfl, List.forall_mem_cons.mpr ⟨xcw_of rfl, List.forall_mem_cons.mpr ⟨xcw_of rfl, List.forall_mem_cons.mpr ⟨xcw_of rfl, List.forall_mem_cons.mpr ⟨xcw_of rfl, List.forall_mem_cons.mpr ⟨xcw_of rfl, List.forall_mem_cons.mpr ⟨xcw_of rfl, List.forall_mem_cons.mpr ⟨xcw_of rfl, List.forall_mem_cons.mpr ⟨xcw_of rfl, List.forall_mem_cons.mpr ⟨xcw_of rfl, List.forall_mem_cons.mpr ⟨xcw_of rfl, List.forall_mem_cons.mpr ⟨xcw_of rfl, fun _ h => absurd h List.not_mem_nil⟩⟩⟩⟩⟩⟩⟩⟩⟩⟩⟩⟩
set_option maxRecDepth 100000 in
theorem xCALk_6 : xCAL_6.all xcaB = true := by decide +kernel
set_option maxRecDepth 100000 in
theorem xCALw_6 : ∀ q ∈ xCAL_6, xcw q := List.forall_mem_cons.mpr ⟨xcw_of rfl, List.forall_mem_cons.mpr ⟨xcw_of rfl, List.forall_mem_cons.mpr ⟨xcw_of rfl, List.forall_mem_cons.mpr ⟨xcw_of rfl, List.forall_mem_cons.mpr ⟨xcw_of rfl, List.forall_mem_cons.mpr ⟨xcw_of rfl, List.forall_mem_cons.mpr ⟨xcw_of rfl, List.forall_mem_cons.mpr ⟨xcw_of rfl, List.forall_mem_cons.mpr ⟨xcw_of rfl, List.forall_mem_cons.mpr ⟨xcw_of rfl, List.forall_mem_cons.mpr ⟨xcw_of rfl, List.forall_mem_cons.mpr ⟨xcw_of rfl, fun _ h => absurd h List.not_mem_nil⟩⟩⟩⟩⟩⟩⟩⟩⟩⟩⟩⟩
set_option maxRecDepth 100000 in
theorem xCALk_7 : xCAL_7.all xcaB = true := by decide +kernel
set_option maxRecDepth 100000 in
theorem xCALw_7 : ∀ q ∈ xCAL_7, xcw q := List.forall_mem_cons.mpr ⟨xcw_of rfl, List.forall_mem_cons.mpr ⟨xcw_of rfl, List.forall_mem_cons.mpr ⟨xcw_of rfl, List.forall_mem_cons.mpr ⟨xcw_of rfl, List.forall_mem_cons.mpr ⟨xcw_of rfl, List.forall_mem_cons.mpr ⟨xcw_of rfl, List.forall_mem_cons.mpr ⟨xcw_of rfl, List.forall_mem_cons.mpr ⟨xcw_of rfl, List.forall_mem_cons.mpr ⟨xcw_of rfl, List.forall_mem_cons.mpr ⟨xcw_of rfl, List.forall_mem_cons.mpr ⟨xcw_of rfl, List.forall_mem_cons.mpr ⟨xcw_of rfl, fun _ h => absurd h List.not_mem_nil⟩⟩⟩⟩⟩⟩⟩⟩⟩⟩⟩⟩
set_option maxRecDepth 100000 in
theorem xCALk_8 : xCAL_8.all xcaB = true := by decide +kernel
set_option maxRecDepth 100000 in
theorem xCALw_8 : ∀ q ∈ xCAL_8, xcw q := List.forall_mem_cons.mpr ⟨xcw_of rfl, List.forall_mem_cons.mpr ⟨xcw_of rfl, List.forall_mem_cons.mpr ⟨xcw_of rfl, List.forall_mem_cons.mpr ⟨xcw_of rfl, List.forall_mem_cons.mpr ⟨xcw_of rfl, List.forall_mem_cons.mpr ⟨xcw_of rfl, List.forall_mem_cons.mpr ⟨xcw_of rfl, List.forall_mem_cons.mpr ⟨xcw_of rfl, List.forall_mem_cons.mpr ⟨xcw_of rfl, List.forall_mem_cons.mpr ⟨xcw_of rfl, List.forall_mem_cons.mpr ⟨xcw_of rfl, List.forall_mem_cons.mpr ⟨xcw_of rfl, fun _ h => absurd h List.not_mem_nil⟩⟩⟩⟩⟩⟩⟩⟩⟩⟩⟩⟩
set_option maxRecDepth 100000 in
theorem xCALk_9 : xCAL_9.all xcaB = true := by decide +kernel
set_option maxRecDepth 100000 in
theorem xCALw_9 : ∀ q ∈ xCAL_9, xcw q := List.forall_mem_cons.mpr ⟨xcw_of rfl, List.forall_mem_cons.mpr ⟨xcw_of rfl, List.forall_mem_cons.mpr ⟨xcw_of rfl, List.forall_mem_cons.mpr ⟨xcw_of rfl, List.forall_mem_cons.mpr ⟨xcw_of rfl, List.forall_mem_cons.mpr ⟨xcw_of rfl, List.forall_mem_cons.mpr ⟨xcw_of rfl, List.forall_mem_cons.mpr ⟨xcw_of rfl, List.forall_mem_cons.mpr ⟨xcw_of rfl, List.forall_mem_cons.mpr ⟨xcw_of rfl, List.forall_mem_cons.mpr ⟨xcw_of rfl, List.forall_mem_cons.mpr ⟨xcw_of rfl, fun _ h => absurd h List.not_mem_nil⟩⟩⟩⟩⟩⟩⟩⟩⟩⟩⟩⟩
set_option maxRecDepth 100000 in
theorem xCALk_10 : xCAL_10.all xcaB = true := by decide +kernel
set_option maxRecDepth 100000 in
theorem xCALw_10 : ∀ q ∈ xCAL_10, xcw q := List.forall_mem_cons.mpr ⟨xcw_of rfl, List.forall_mem_cons.mpr ⟨xcw_of rfl, List.forall_mem_cons.mpr ⟨xcw_of rfl, List.forall_mem_cons.mpr ⟨xcw_of rfl, List.forall_mem_cons.mpr ⟨xcw_of rfl, List.forall_mem_cons.mpr ⟨xcw_of rfl, List.forall_mem_cons.mpr ⟨xcw_of rfl, List.forall_mem_cons.mpr ⟨xcw_of rfl, List.forall_mem_cons.mpr ⟨xcw_of rfl, List.forall_mem_cons.mpr ⟨xcw_of rfl, List.forall_mem_cons.mpr ⟨xcw_of rfl, List.forall_mem_cons.mpr ⟨xcw_of rfl, fun _ h => absurd h List.not_mem_nil⟩⟩⟩⟩⟩⟩⟩⟩⟩⟩⟩⟩
set_option maxRecDepth 100000 in
theorem xCALk_11 : xCAL_11.all xcaB = true := by decide +kernel
set_option maxRecDepth 100000 in
theorem xCALw_11 : ∀ q ∈ xCAL_11, xcw q := List.forall_mem_cons.mpr ⟨xcw_of rfl, List.forall_mem_cons.mpr ⟨xcw_of rfl, List.forall_mem_cons.mpr ⟨xcw_of rfl, List.forall_mem_cons.mpr ⟨xcw_of rfl, List.forall_mem_cons.mpr ⟨xcw_of rfl, List.forall_mem_cons.mpr ⟨xcw_of rfl, List.forall_mem_cons.mpr ⟨xcw_of rfl, List.forall_mem_cons.mpr ⟨xcw_of rfl, List.forall_mem_cons.mpr ⟨xcw_of rfl, List.forall_mem_cons.mpr ⟨xcw_of rfl, List.forall_mem_cons.mpr ⟨xcw_of rfl, List.forall_mem_cons.mpr ⟨xcw_of rfl, fun _ h => absurd h List.not_mem_nil⟩⟩⟩⟩⟩⟩⟩⟩⟩⟩⟩⟩
set_option maxRecDepth 100000 in
theorem xCALk_12 : xCAL_12.all xcaB = true := by decide +kernel
set_option maxRecDepth 100000 in
theorem xCALw_12 : ∀ q ∈ xCAL_12, xcw q := List.forall_mem_cons.mpr ⟨xcw_of rfl, List.forall_mem_cons.mpr ⟨xcw_of rfl, List.forall_mem_cons.mpr ⟨xcw_of rfl, List.forall_mem_cons.mpr ⟨xcw_of rfl, List.forall_mem_cons.mpr ⟨xcw_of rfl, List.forall_mem_cons.mpr ⟨xcw_of rfl, List.forall_mem_cons.mpr ⟨xcw_of rfl, List.forall_mem_cons.mpr ⟨xcw_of rfl, List.forall_mem_cons.mpr ⟨xcw_of rfl, List.forall_mem_cons.mpr ⟨xcw_of rfl, List.forall_mem_cons.mpr ⟨xcw_of rfl, List.forall_mem_cons.mpr ⟨xcw_of rfl, fun _ h => absurd h List.not_mem_nil⟩⟩⟩⟩⟩⟩⟩⟩⟩⟩⟩⟩
set_option maxRecDepth 100000 in
theorem xCALk_13 : xCAL_13.all xcaB = true := by decide +kernel
set_option maxRecDepth 100000 in
theorem xCALw_13 : ∀ q ∈ xCAL_13, xcw q := List.forall_mem_cons.mpr ⟨xcw_of rfl, List.forall_mem_cons.mpr ⟨xcw_of rfl, List.forall_mem_cons.mpr ⟨xcw_of rfl, List.forall_mem_cons.mpr ⟨xcw_of rfl, List.forall_mem_cons.mpr ⟨xcw_of rfl, List.forall_mem_cons.mpr ⟨xcw_of rfl, List.forall_mem_cons.mpr ⟨xcw_of rfl, List.forall_mem_cons.mpr ⟨xcw_of rfl, List.forall_mem_cons.mpr ⟨xcw_of rfl, List.forall_mem_cons.mpr ⟨xcw_of rfl, List.forall_mem_cons.mpr ⟨xcw_of rfl, List.forall_mem_cons.mpr ⟨xcw_of rfl, fun _ h => absurd h List.not_mem_nil⟩⟩⟩⟩⟩⟩⟩⟩⟩⟩⟩⟩
set_option maxRecDepth 100000 in
theorem xCALk_14 : xCAL_14.all xcaB = true := by decide +kernel
set_option maxRecDepth 100000 in
theorem xCALw_14 : ∀ q ∈ xCAL_14, xcw q := List.forall_mem_cons.mpr ⟨xcw_of rfl, List.forall_mem_cons.mpr ⟨xcw_of rfl, List.forall_mem_cons.mpr ⟨xcw_of rfl, List.forall_mem_cons.mpr ⟨xcw_of rfl, List.forall_mem_cons.mpr ⟨xcw_of rfl, List.forall_mem_cons.mpr ⟨xcw_of rfl, List.forall_mem_cons.mpr ⟨xcw_of rfl, List.forall_mem_cons.mpr ⟨xcw_of rfl, List.forall_mem_cons.mpr ⟨xcw_of rfl, List.forall_mem_cons.mpr ⟨xcw_of rfl, List.forall_mem_cons.mpr ⟨xcw_of rfl, List.forall_mem_cons.mpr ⟨xcw_of rfl, fun _ h => absurd h List.not_mem_nil⟩⟩⟩⟩⟩⟩⟩⟩⟩⟩⟩⟩
set_option maxRecDepth 100000 in
theorem xCALk_15 : xCAL_15.all xcaB = true := by decide +kernel
set_option maxRecDepth 100000 in
theorem xCALw_15 : ∀ q ∈ xCAL_15, xcw q := List.forall_mem_cons.mpr ⟨xcw_of rfl, List.forall_mem_cons.mpr ⟨xcw_of rfl, List.forall_mem_cons.mpr ⟨xcw_of rfl, List.forall_mem_cons.mpr ⟨xcw_of rfl, List.forall_mem_cons.mpr ⟨xcw_of rfl, List.forall_mem_cons.mpr ⟨xcw_of rfl, List.forall_mem_cons.mpr ⟨xcw_of rfl, List.forall_mem_cons.mpr ⟨xcw_of rfl, List.forall_mem_cons.mpr ⟨xcw_of rfl, List.forall_mem_cons.mpr ⟨xcw_of rfl, List.forall_mem_cons.mpr ⟨xcw_of rfl, List.forall_mem_cons.mpr ⟨xcw_of rfl, fun _ h => absurd h List.not_mem_nil⟩⟩⟩⟩⟩⟩⟩⟩⟩⟩⟩⟩
set_option maxRecDepth 100000 in
theorem xCALk_16 : xCAL_16.all xcaB = true := by decide +kernel
set_option maxRecDepth 100000 in
theorem xCALw_16 : ∀ q ∈ xCAL_16, xcw q := List.forall_mem_cons.mpr ⟨xcw_of rfl, List.forall_mem_cons.mpr ⟨xcw_of rfl, List.forall_mem_cons.mpr ⟨xcw_of rfl, List.forall_mem_cons.mpr ⟨xcw_of rfl, List.forall_mem_cons.mpr ⟨xcw_of rfl, List.forall_mem_cons.mpr ⟨xcw_of rfl, List.forall_mem_cons.mpr ⟨xcw_of rfl, List.forall_mem_cons.mpr ⟨xcw_of rfl, List.forall_mem_cons.mpr ⟨xcw_of rfl, List.forall_mem_cons.mpr ⟨xcw_of rfl, List.forall_mem_cons.mpr ⟨xcw_of rfl, List.forall_mem_cons.mpr ⟨xcw_of rfl, fun _ h => absurd h List.not_mem_nil⟩⟩⟩⟩⟩⟩⟩⟩⟩⟩⟩⟩
set_option maxRecDepth 100000 in
theorem xCALk_17 : xCAL_17.all xcaB = true := by decide +kernel
set_option maxRecDepth 100000 in
theorem xCALw_17 : ∀ q ∈ xCAL_17, xcw q := List.forall_mem_cons.mpr ⟨xcw_of rfl, List.forall_mem_cons.mpr ⟨xcw_of rfl, List.forall_mem_cons.mpr ⟨xcw_of rfl, List.forall_mem_cons.mpr ⟨xcw_of rfl, List.forall_mem_cons.mpr ⟨xcw_of rfl, List.forall_mem_cons.mpr ⟨xcw_of rfl, List.forall_mem_cons.mpr ⟨xcw_of rfl, List.forall_mem_cons.mpr ⟨xcw_of rfl, List.forall_mem_cons.mpr ⟨xcw_of rfl, List.forall_mem_cons.mpr ⟨xcw_of rfl, List.forall_mem_cons.mpr ⟨xcw_of rfl, List.forall_mem_cons.mpr ⟨xcw_of rfl, fun _ h => absurd h List.not_mem_nil⟩⟩⟩⟩⟩⟩⟩⟩⟩⟩⟩⟩
set_option maxRecDepth 100000 in
theorem xCALk_18 : xCAL_18.all xcaB = true := by decide +kernel
set_option maxRecDepth 100000 in
theorem xCALw_18 : ∀ q ∈ xCAL_18, xcw q := List.forall_mem_cons.mpr ⟨xcw_of rfl, List.forall_mem_cons.mpr ⟨xcw_of rfl, List.forall_mem_cons.mpr ⟨xcw_of rfl, List.forall_mem_cons.mpr ⟨xcw_of rfl, List.forall_mem_cons.mpr ⟨xcw_of rfl, List.forall_mem_cons.mpr ⟨xcw_of rfl, List.forall_mem_cons.mpr ⟨xcw_of rfl, List.forall_mem_cons.mpr ⟨xcw_of rfl, List.forall_mem_cons.mpr ⟨xcw_of rfl, List.forall_mem_cons.mpr ⟨xcw_of rfl, List.forall_mem_cons.mpr ⟨xcw_of rfl, List.forall_mem_cons.mpr ⟨xcw_of rfl, fun _ h => absurd h List.not_mem_nil⟩⟩⟩⟩⟩⟩⟩⟩⟩⟩⟩⟩
set_option maxRecDepth 100000 in
theorem xCALk_19 : xCAL_19.all xcaB = true := by decide +kernel
set_option maxRecDepth 100000 in
theorem xCALw_19 : ∀ q ∈ xCAL_19, xcw q := List.forall_mem_cons.mpr ⟨xcw_of rfl, List.forall_mem_cons.mpr ⟨xcw_of rfl, List.forall_mem_cons.mpr ⟨xcw_of rfl, List.forall_mem_cons.mpr ⟨xcw_of rfl, List.forall_mem_cons.mpr ⟨xcw_of rfl, List.forall_mem_cons.mpr ⟨xcw_of rfl, List.forall_mem_cons.mpr ⟨xcw_of rfl, List.forall_mem_cons.mpr ⟨xcw_of rfl, List.forall_mem_cons.mpr ⟨xcw_of rfl, List.forall_mem_cons.mpr ⟨xcw_of rfl, List.forall_mem_cons.mpr ⟨xcw_of rfl, List.forall_mem_cons.mpr ⟨xcw_of rfl, fun _ h => absurd h List.not_mem_nil⟩⟩⟩⟩⟩⟩⟩⟩⟩⟩⟩⟩
set_option maxRecDepth 100000 in
theorem xCALk_20 : xCAL_20.all xcaB = true := by decide +kernel
set_option maxRecDepth 100000 in
theorem xCALw_20 : ∀ q ∈ xCAL_20, xcw q := List.forall_mem_cons.mpr ⟨xcw_of rfl, List.forall_mem_cons.mpr ⟨xcw_of rfl, List.forall_mem_cons.mpr ⟨xcw_of rfl, List.forall_mem_cons.mpr ⟨xcw_of rfl, List.forall_mem_cons.mpr ⟨xcw_of rfl, List.forall_mem_cons.mpr ⟨xcw_of rfl, List.forall_mem_cons.mpr ⟨xcw_of rfl, List.forall_mem_cons.mpr ⟨xcw_of rfl, List.forall_mem_cons.mpr ⟨xcw_of rfl, List.forall_mem_cons.mpr ⟨xcw_of rfl, List.forall_mem_cons.mpr ⟨xcw_of rfl, List.forall_mem_cons.mpr ⟨xcw_of rfl, fun _ h => absurd h List.not_mem_nil⟩⟩⟩⟩⟩⟩⟩⟩⟩⟩⟩⟩
set_option maxRecDepth 100000 in
theorem xCALk_21 : xCAL_21.all xcaB = true := by decide +kernel
set_option maxRecDepth 100000 in
theorem xCALw_21 : ∀ q ∈ xCAL_21, xcw q := List.forall_mem_cons.mpr ⟨xcw_of rfl, List.forall_mem_cons.mpr ⟨xcw_of rfl, List.forall_mem_cons.mpr ⟨xcw_of rfl, List.forall_mem_cons.mpr ⟨xcw_of rfl, List.forall_mem_cons.mpr ⟨xcw_of rfl, List.forall_mem_cons.mpr ⟨xcw_of rfl, List.forall_mem_cons.mpr ⟨xcw_of rfl, List.forall_mem_cons.mpr ⟨xcw_of rfl, List.forall_mem_cons.mpr ⟨xcw_of rfl, List.forall_mem_cons.mpr ⟨xcw_of rfl, List.forall_mem_cons.mpr ⟨xcw_of rfl, List.forall_mem_cons.mpr ⟨xcw_of rfl, fun _ h => absurd h List.not_mem_nil⟩⟩⟩⟩⟩⟩⟩⟩⟩⟩⟩⟩
set_option maxRecDepth 100000 in
theorem xCALk_22 : xCAL_22.all xcaB = true := by decide +kernel
set_option maxRecDepth 100000 in
theorem xCALw_22 : ∀ q ∈ xCAL_22, xcw q := List.forall_mem_cons.mpr ⟨xcw_of rfl, List.forall_mem_cons.mpr ⟨xcw_of rfl, List.forall_mem_cons.mpr ⟨xcw_of rfl, List.forall_mem_cons.mpr ⟨xcw_of rfl, List.forall_mem_cons.mpr ⟨xcw_of rfl, List.forall_mem_cons.mpr ⟨xcw_of rfl, List.forall_mem_cons.mpr ⟨xcw_of rfl, List.forall_mem_cons.mpr ⟨xcw_of rfl, List.forall_mem_cons.mpr ⟨xcw_of rfl, List.forall_mem_cons.mpr ⟨xcw_of rfl, List.forall_mem_cons.mpr ⟨xcw_of rfl, List.forall_mem_cons.mpr ⟨xcw_of rfl, fun _ h => absurd h List.not_mem_nil⟩⟩⟩⟩⟩⟩⟩⟩⟩⟩⟩⟩
set_option maxRecDepth 100000 in
theorem xCALk_23 : xCAL_23.all xcaB = true := by decide +kernel
set_option maxRecDepth 100000 in
theorem xCALw_23 : ∀ q ∈ xCAL_23, xcw q := List.forall_mem_cons.mpr ⟨xcw_of rfl, List.forall_mem_cons.mpr ⟨xcw_of rfl, List.forall_mem_cons.mpr ⟨xcw_of rfl, List.forall_mem_cons.mpr ⟨xcw_of rfl, List.forall_mem_cons.mpr ⟨xcw_of rfl, List.forall_mem_cons.mpr ⟨xcw_of rfl, List.forall_mem_cons.mpr ⟨xcw_of rfl, List.forall_mem_cons.mpr ⟨xcw_of rfl, List.forall_mem_cons.mpr ⟨xcw_of rfl, List.forall_mem_cons.mpr ⟨xcw_of rfl, List.forall_mem_cons.mpr ⟨xcw_of rfl, List.forall_mem_cons.mpr ⟨xcw_of rfl, fun _ h => absurd h List.not_mem_nil⟩⟩⟩⟩⟩⟩⟩⟩⟩⟩⟩⟩
set_option maxRecDepth 100000 in
theorem xCALk_24 : xCAL_24.all xcaB = true := by decide +kernel
set_option maxRecDepth 100000 in
theorem xCALw_24 : ∀ q ∈ xCAL_24, xcw q := List.forall_mem_cons.mpr ⟨xcw_of rfl, List.forall_mem_cons.mpr ⟨xcw_of rfl, List.forall_mem_cons.mpr ⟨xcw_of rfl, List.forall_mem_cons.mpr ⟨xcw_of rfl, fun _ h => absurd h List.not_mem_nil⟩⟩⟩⟩
theorem xall_app {α : Type} {f : α → Bool} {a b : List α} (h1 : a.all f = true) (h2 : b.all f = true) : (a ++ b).all f = true := by rw [List.all_append, h1, h2]; rfl
theorem xCAL_ok : xCAL.all xcaB = true := xall_app xCALk_0 (xall_app xCALk_1 (xall_app xCALk_2 (xall_app xCALk_3 (xall_app xCALk_4 (xall_app xCALk_5 (xall_app xCALk_6 (xall_app xCALk_7 (xall_app xCALk_8 (xall_app xCALk_9 (xall_app xCALk_10 (xall_app xCALk_11 (xall_app xCALk_12 (xall_app xCALk_13 (xall_app xCALk_14 (xall_app xCALk_15 (xall_app xCALk_16 (xall_app xCALk_17 (xall_app xCALk_18 (xall_app xCALk_19 (xall_app xCALk_20 (xall_app xCALk_21 (xall_app xCALk_22 (xall_app xCALk_23 (xCALk_24))))))))))))))))))))))))
theorem xCAL_w : ∀ q ∈ xCAL, xcw q := List.forall_mem_append.mpr ⟨xCALw_0, List.forall_mem_append.mpr ⟨xCALw_1, List.forall_mem_append.mpr ⟨xCALw_2, List.forall_mem_append.mpr ⟨xCALw_3, List.forall_mem_append.mpr ⟨xCALw_4, List.forall_mem_append.mpr ⟨xCALw_5, List.forall_mem_append.mpr ⟨xCALw_6, List.forall_mem_append.mpr ⟨xCALw_7, List.forall_mem_append.mpr ⟨xCALw_8, List.forall_mem_append.mpr ⟨xCALw_9, List.forall_mem_append.mpr ⟨xCALw_10, List.forall_mem_append.mpr ⟨xCALw_11, List.forall_mem_append.mpr ⟨xCALw_12, List.forall_mem_append.mpr ⟨xCALw_13, List.forall_mem_append.mpr ⟨xCALw_14, List.forall_mem_append.mpr ⟨xCALw_15, List.forall_mem_append.mpr ⟨xCALw_16, List.forall_mem_append.mpr ⟨xCALw_17, List.forall_mem_append.mpr ⟨xCALw_18, List.forall_mem_append.mpr ⟨xCALw_19, List.forall_mem_append.mpr ⟨xCALw_20, List.forall_mem_append.mpr ⟨xCALw_21, List.forall_mem_append.mpr ⟨xCALw_22, List.forall_mem_append.mpr ⟨xCALw_23, xCALw_24⟩⟩⟩⟩⟩⟩⟩⟩⟩⟩⟩⟩⟩⟩⟩⟩⟩⟩⟩⟩⟩⟩⟩⟩
