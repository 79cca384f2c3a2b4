set_option maxRecDepth 1000000 in
theorem vkR46 : zv_chk zx_Yt zx_dt zx_rmt zx_Pt vjsR [] vER46 vHR46 = true := by decide +kernel
set_option maxRecDepth 1000000 in
theorem vkR47 : zv_chk zx_Yt zx_dt zx_rmt zx_Pt vjsR [vER13, vER33] vER47 vHR47 = true := by decide +kernel
