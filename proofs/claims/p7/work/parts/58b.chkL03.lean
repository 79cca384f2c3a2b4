set_option maxRecDepth 1000000 in
theorem vL_k801 : zgL_rk 218 vL_cs.2.1 vLK vLf zx_mlw 8 [vL_n23] 801 vL_cs = true := by decide +kernel
set_option maxRecDepth 1000000 in
theorem vL_k878 : zgL_rk 218 vL_cs.2.1 vLK vLf zx_mlw 8 [vL_n23] 878 vL_cs = true := by decide +kernel
