set_option maxRecDepth 1000000 in
theorem vL_c23 : zgL_rk 218 vL_st.2.1 vLK vLf zx_mlw 8 vL_nd0 23 vL_st = true := by decide +kernel
set_option maxRecDepth 1000000 in
theorem vL_rb : zw_T 1 vL_st vL_23e vL_sg = true := by decide +kernel
set_option maxRecDepth 1000000 in
theorem vL_k168 : zgL_rk 218 vL_cs.2.1 vLK vLf zx_mlw 8 [vL_n23] 168 vL_cs = true := by decide +kernel
set_option maxRecDepth 1000000 in
theorem vL_k241 : zgL_rk 218 vL_cs.2.1 vLK vLf zx_mlw 8 [vL_n23] 241 vL_cs = true := by decide +kernel
set_option maxRecDepth 1000000 in
theorem vL_k266 : zgL_rk 218 vL_cs.2.1 vLK vLf zx_mlw 8 [vL_n23] 266 vL_cs = true := by decide +kernel
set_option maxRecDepth 1000000 in
theorem vL_k291 : zgL_rk 218 vL_cs.2.1 vLK vLf zx_mlw 8 [(361, vL_h361, [(98, (0, 0)), (99, (0, 0)), (100, (0, 0)), (6, (0, 0))], [])] 291 vL_cs = true := by decide +kernel
set_option maxRecDepth 1000000 in
theorem vL_k417 : zgL_rk 218 vL_cs.2.1 vLK vLf zx_mlw 8 [vL_n23] 417 vL_cs = true := by decide +kernel
