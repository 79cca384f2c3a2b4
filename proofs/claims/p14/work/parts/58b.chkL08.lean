set_option maxRecDepth 1000000 in
theorem vL_m1027 : zgL_rk 218 vL_cs.2.1 vLK vLf zx_mlw 8 [vL_n23] 1027 vL_cs = true := by decide +kernel
set_option maxRecDepth 1000000 in
theorem vL_k1053 : zgL_rk 218 vL_cs.2.1 vLK vLf zx_mlw 8 [(1095, vL_h1095, [(98, (0, 0)), (99, (0, 0)), (100, (0, 0)), (6, (0, 0))], [])] 1053 vL_cs = true := by decide +kernel
