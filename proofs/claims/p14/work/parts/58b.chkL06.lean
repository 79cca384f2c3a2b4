set_option maxRecDepth 1000000 in
theorem vL_k903 : zgL_rk 218 vL_cs.2.1 vLK vLf zx_mlw 8 [(917, vL_h917, [(98, (0, 0)), (99, (0, 0)), (100, (0, 0)), (6, (0, 0))], [])] 903 vL_cs = true := by decide +kernel
set_option maxRecDepth 1000000 in
theorem vL_k943 : zgL_rk 218 vL_cs.2.1 vLK vLf zx_mlw 8 [(972, vL_cs, [(98, (0, 0)), (99, (0, 0)), (100, (0, 0)), (6, (0, 0))], [])] 943 vL_cs = true := by decide +kernel
