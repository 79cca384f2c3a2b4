/-! zg: one: its runs from 0 -/
noncomputable def vGone_nd : List zg_Nd := [(36, vGone_36_1_N, [(37, (0, 0)), (38, (0, 0)), (39, (0, 0)), (4, (0, 0))], []), (36, vGone_36_0_N, [(37, (0, 0)), (38, (0, 0)), (39, (0, 0)), (4, (0, 0))], []), (36, vGone_36_9_A, [(37, (0, 0)), (38, (0, 0)), (39, (0, 0)), (4, (0, 0))], []), (36, vGone_36_9_M, [(37, (0, 0)), (38, (0, 0)), (39, (0, 0)), (4, (0, 0))], [])]
set_option maxRecDepth 1000000 in
theorem vGone_c1 : zg_rk vGK vGf vGm_one vGone.2.1.length vGone.2.2.2.2.1 (none, true) vGone_nd 0 vGone_0 = true := by decide +kernel
