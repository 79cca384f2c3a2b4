set_option maxRecDepth 1000000 in
theorem vkR43 : zv_chk zx_Yt zx_dt zx_rmt zx_Pt vjsR [vER12, vER14, vER41, vER42] vER43 vHR43 = true := by decide +kernel
set_option maxRecDepth 1000000 in
theorem vkR44 : zv_chk zx_Yt zx_dt zx_rmt zx_Pt vjsR [vER12, vER14, vER16, vERF] vER44 vHR44 = true := by decide +kernel
