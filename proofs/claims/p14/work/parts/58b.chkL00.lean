set_option maxRecDepth 1000000 in
theorem vL_k466 : zgL_rk 218 vL_cs.2.1 vLK vLf zx_mlw 8 [vL_n23] 466 vL_cs = true := by decide +kernel
set_option maxRecDepth 1000000 in
theorem vL_k503 : zgL_rk 218 vL_cs.2.1 vLK vLf zx_mlw 8 [(521, vL_h521, [(98, (0, 0)), (99, (0, 0)), (100, (0, 0)), (6, (0, 0))], [])] 503 vL_cs = true := by decide +kernel
set_option maxRecDepth 1000000 in
theorem vL_k528 : zgL_rk 218 vL_cs.2.1 vLK vLf zx_mlw 8 [vL_n23] 528 vL_cs = true := by decide +kernel
