set_option maxRecDepth 1000000 in
theorem vL_k1102 : zgL_rk 218 vL_cs.2.1 vLK vLf zx_mlw 8 [(1144, vL_h1144, [(98, (0, 0)), (99, (0, 0)), (100, (0, 0)), (6, (0, 0))], [])] 1102 vL_cs = true := by decide +kernel
set_option maxRecDepth 1000000 in
theorem vL_k1151 : zgL_rk 218 vL_cs.2.1 vLK vLf zx_mlw 8 [(1168, vL_cs, [(98, (0, 0)), (99, (0, 0)), (100, (0, 0)), (6, (0, 0))], [])] 1151 vL_cs = true := by decide +kernel
