set_option maxRecDepth 1000000 in
theorem vL_k675 : zgL_rk 218 vL_cs.2.1 vLK vLf zx_mlw 8 [(712, vL_cs, [(98, (0, 0)), (99, (0, 0)), (100, (0, 0)), (6, (0, 0))], [])] 675 vL_cs = true := by decide +kernel
set_option maxRecDepth 1000000 in
theorem vL_m712 : zgL_rk 218 vL_cs.2.1 vLK vLf zx_mlw 8 [vL_n23] 712 vL_cs = true := by decide +kernel
