set_option maxRecDepth 1000000 in
theorem vGone_c0 : zg_rk vGK vGf vGm_one vGone.2.1.length vGone.2.2.2.2.1 (none, true) vGone_nd 0 vGs_one = true := by decide +kernel
set_option maxRecDepth 1000000 in
theorem vGone_g1_N : zg_rk vGK vGf vGm_one vGone.2.1.length vGone.2.2.2.2.1 (none, true) [(60, vGone_60_1_N, [(37, (0, 0)), (38, (0, 0)), (39, (0, 0)), (4, (0, 0))], [])] 36 vGone_36_1_N = true := by decide +kernel
set_option maxRecDepth 1000000 in
theorem vGone_g0_N : zg_rk vGK vGf vGm_one vGone.2.1.length vGone.2.2.2.2.1 (none, true) [(60, vGone_60_0_N, [(37, (0, 0)), (38, (0, 0)), (39, (0, 0)), (4, (0, 0))], [])] 36 vGone_36_0_N = true := by decide +kernel
set_option maxRecDepth 1000000 in
theorem vGone_g9_A : zg_rk vGK vGf vGm_one vGone.2.1.length vGone.2.2.2.2.1 (none, true) [(60, vGone_60_9_A, [(37, (0, 0)), (38, (0, 0)), (39, (0, 0)), (4, (0, 0))], [])] 36 vGone_36_9_A = true := by decide +kernel
set_option maxRecDepth 1000000 in
theorem vGone_g9_M : zg_rk vGK vGf vGm_one vGone.2.1.length vGone.2.2.2.2.1 (none, true) [(60, vGone_60_9_M, [(37, (0, 0)), (38, (0, 0)), (39, (0, 0)), (4, (0, 0))], [])] 36 vGone_36_9_M = true := by decide +kernel
