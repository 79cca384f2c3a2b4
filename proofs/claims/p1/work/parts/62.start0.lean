/-! zx: words of the start -/
set_option maxRecDepth 1000000 in
theorem zx_m240 : Jvm.Cond.stringRef "OperaHouse" 240 "nothing such was wrong" ∈ lw_tbl := by decide +kernel
set_option maxRecDepth 1000000 in
theorem zx_mU : Jvm.Cond.laysStatic Bundle.tN "UNASSIGNED_STACK" Bundle.steD ∈ lw_tbl ∧ Jvm.Cond.laysStatic Bundle.tN "SUPPRESSED_SENTINEL" Bundle.listD ∈ lw_tbl ∧ Jvm.Cond.initialized Bundle.tN ∈ lw_tbl := by decide +kernel
set_option maxRecDepth 1000000 in
theorem zx_mR0 : Jvm.Cond.isRef (.static Bundle.tN "UNASSIGNED_STACK" Bundle.steD) ∈ flatC (Jvm.Cond.and given_1 narrow_1) ∧ Jvm.Cond.isRef (.static Bundle.tN "SUPPRESSED_SENTINEL" Bundle.listD) ∈ flatC (Jvm.Cond.and given_1 narrow_1) := by decide +kernel
