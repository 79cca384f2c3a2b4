set_option maxRecDepth 1000000 in
theorem vkR43 : zv_chk zx_Yt zx_dt zx_rmt zx_Pt vjsX [vERy] vER43 vHR43 = true := by decide +kernel
set_option maxRecDepth 1000000 in
theorem vkR44 : zv_chk zx_Yt zx_dt zx_rmt zx_Pt vjsX [vERh] vER44 vHR44 = true := by decide +kernel
set_option maxRecDepth 1000000 in
theorem vkR45 : zv_chk zx_Yt zx_dt zx_rmt zx_Pt vjsX [vERh, vERy] vER45 vHR45 = true := by decide +kernel
