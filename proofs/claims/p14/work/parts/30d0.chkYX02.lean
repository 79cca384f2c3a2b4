set_option maxRecDepth 1000000 in
theorem vkRy : zv_chk zx_Yt zx_dt zx_rmt zx_Pt vjsX [vER12, vER14, vER41, vER42] vERy vHDy = true := by decide +kernel
set_option maxRecDepth 1000000 in
theorem vkRh_e : zv_ce zx_Yt zx_dt zx_rmt zx_Pt vjsX [vER12, vER14, vER16, vERF] vERh vHDh = true := by decide +kernel
set_option maxRecDepth 1000000 in
theorem vkRh_0 : zv_ch zx_Yt zx_dt zx_rmt zx_Pt vjsX [vER12, vER14, vER16, vERF] vERh vHDh vHDh_0 = true := by decide +kernel
set_option maxRecDepth 1000000 in
theorem vkRh_1 : zv_ch zx_Yt zx_dt zx_rmt zx_Pt vjsX [vER12, vER14, vER16, vERF] vERh vHDh vHDh_1 = true := by decide +kernel
set_option maxRecDepth 1000000 in
theorem vkRh_2 : zv_ch zx_Yt zx_dt zx_rmt zx_Pt vjsX [vER12, vER14, vER16, vERF] vERh vHDh vHDh_2 = true := by decide +kernel
