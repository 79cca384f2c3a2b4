set_option maxRecDepth 1000000 in
theorem vL_k1397 : zgL_rk 218 vL_cs.2.1 vLK vLf zx_mlw 8 [(1403, vL_h1403, [(98, (0, 0)), (99, (0, 0)), (100, (0, 0)), (6, (0, 0))], [])] 1397 vL_cs = true := by decide +kernel
set_option maxRecDepth 1000000 in
theorem vL_k1410 : zgL_rk 218 vL_cs.2.1 vLK vLf zx_mlw 8 [(1421, vL_cs, [(98, (0, 0)), (99, (0, 0)), (100, (0, 0)), (6, (0, 0))], [])] 1410 vL_cs = true := by decide +kernel
