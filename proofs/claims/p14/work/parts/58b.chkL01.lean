set_option maxRecDepth 1000000 in
theorem vL_k541 : zgL_rk 218 vL_cs.2.1 vLK vLf zx_mlw 8 [vL_n23] 541 vL_cs = true := by decide +kernel
set_option maxRecDepth 1000000 in
theorem vL_k602 : zgL_rk 218 vL_cs.2.1 vLK vLf zx_mlw 8 [vL_n23] 602 vL_cs = true := by decide +kernel
