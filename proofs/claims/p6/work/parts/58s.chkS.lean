set_option maxRecDepth 1000000 in
theorem vL_k368 : zgL_rk 218 vL_cs.2.1 vLK vLf zx_mlw 8 vL_n368 368 vL_cs = true := by decide +kernel
set_option maxRecDepth 1000000 in
theorem vL_s409_0 : zgL_rk 218 vL_r409_0.2.1 vLK vLf zx_mlw 8 [vL_n23] 409 vL_r409_0 = true := by decide +kernel
set_option maxRecDepth 1000000 in
theorem vL_s409_1 : zgL_rk 218 vL_r409_1.2.1 vLK vLf zx_mlw 8 [vL_n23] 409 vL_r409_1 = true := by decide +kernel
set_option maxRecDepth 1000000 in
theorem vL_s409_2 : zgL_rk 218 vL_r409_2.2.1 vLK vLf zx_mlw 8 [vL_n23] 409 vL_r409_2 = true := by decide +kernel
set_option maxRecDepth 1000000 in
theorem vL_s409_3 : zgL_rk 218 vL_r409_3.2.1 vLK vLf zx_mlw 8 [vL_n23] 409 vL_r409_3 = true := by decide +kernel
set_option maxRecDepth 1000000 in
theorem vL_s409_4 : zgL_rk 218 vL_r409_4.2.1 vLK vLf zx_mlw 8 [vL_n23] 409 vL_r409_4 = true := by decide +kernel
set_option maxRecDepth 1000000 in
theorem vL_s409_5 : zgL_rk 218 vL_r409_5.2.1 vLK vLf zx_mlw 8 [vL_n23] 409 vL_r409_5 = true := by decide +kernel
set_option maxRecDepth 1000000 in
theorem vL_s409_6 : zgL_rk 218 vL_r409_6.2.1 vLK vLf zx_mlw 8 [vL_n23] 409 vL_r409_6 = true := by decide +kernel
set_option maxRecDepth 1000000 in
theorem vL_a409 : zgL_ca 218 [220, 286] vLK vLf zx_mlw 8 [(98, (0, 0)), (99, (0, 0)), (100, (0, 0)), (6, (0, 1))] [(23, vL_23, [(98, (0, 0)), (99, (0, 0)), (100, (0, 0)), (6, (0, 0))], [(([(67, 1)], 0), (([(7, 1)], 0), (6, 6)))])] 409 43 vGsi3 vL_h409 = true := by decide +kernel
