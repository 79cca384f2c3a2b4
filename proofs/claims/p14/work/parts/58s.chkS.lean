set_option maxRecDepth 1000000 in
theorem vL_k368 : zgL_rk 218 vL_cs.2.1 vLK vLf zx_mlw 8 vL_n368 368 vL_cs = true := by decide +kernel
set_option maxRecDepth 1000000 in
theorem vL_s410_0 : zgL_rk 218 vL_r410_0.2.1 vLK vLf zx_mlw 8 [vL_n23] 410 vL_r410_0 = true := by decide +kernel
set_option maxRecDepth 1000000 in
theorem vL_s410_1 : zgL_rk 218 vL_r410_1.2.1 vLK vLf zx_mlw 8 [vL_n23] 410 vL_r410_1 = true := by decide +kernel
set_option maxRecDepth 1000000 in
theorem vL_s410_2 : zgL_rk 218 vL_r410_2.2.1 vLK vLf zx_mlw 8 [vL_n23] 410 vL_r410_2 = true := by decide +kernel
set_option maxRecDepth 1000000 in
theorem vL_s410_3 : zgL_rk 218 vL_r410_3.2.1 vLK vLf zx_mlw 8 [vL_n23] 410 vL_r410_3 = true := by decide +kernel
set_option maxRecDepth 1000000 in
theorem vL_s410_4 : zgL_rk 218 vL_r410_4.2.1 vLK vLf zx_mlw 8 [vL_n23] 410 vL_r410_4 = true := by decide +kernel
set_option maxRecDepth 1000000 in
theorem vL_s410_5 : zgL_rk 218 vL_r410_5.2.1 vLK vLf zx_mlw 8 [vL_n23] 410 vL_r410_5 = true := by decide +kernel
set_option maxRecDepth 1000000 in
theorem vL_s410_6 : zgL_rk 218 vL_r410_6.2.1 vLK vLf zx_mlw 8 [vL_n23] 410 vL_r410_6 = true := by decide +kernel
set_option maxRecDepth 1000000 in
theorem vL_a410 : zgL_ca 218 [220, 286] vLK vLf zx_mlw 8 [(98, (0, 0)), (99, (0, 0)), (100, (0, 0)), (6, (0, 1))] [(23, vL_23, [(98, (0, 0)), (99, (0, 0)), (100, (0, 0)), (6, (0, 0))], [(([(67, 1)], 0), (([(7, 1)], 0), (6, 6)))])] 410 43 vGsi3 vL_h410 = true := by decide +kernel
set_option maxRecDepth 1000000 in
theorem vL_k752 : zgL_rk 218 vL_cs.2.1 vLK vLf zx_mlw 8 [vL_n23] 752 vL_cs = true := by decide +kernel
