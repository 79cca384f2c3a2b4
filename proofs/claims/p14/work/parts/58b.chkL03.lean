set_option maxRecDepth 1000000 in
theorem vL_m775 : zgL_rk 218 vL_cs.2.1 vLK vLf zx_mlw 8 [vL_n23] 775 vL_cs = true := by decide +kernel
