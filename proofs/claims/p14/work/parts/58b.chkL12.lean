set_option maxRecDepth 1000000 in
theorem vL_k1286 : zgL_rk 218 vL_cs.2.1 vLK vLf zx_mlw 8 [(1316, vL_h1316, [(98, (0, 0)), (99, (0, 0)), (100, (0, 0)), (6, (0, 0))], [])] 1286 vL_cs = true := by decide +kernel
set_option maxRecDepth 1000000 in
theorem vL_k1323 : zgL_rk 218 vL_cs.2.1 vLK vLf zx_mlw 8 [(1365, vL_h1365, [(98, (0, 0)), (99, (0, 0)), (100, (0, 0)), (6, (0, 0))], [])] 1323 vL_cs = true := by decide +kernel
