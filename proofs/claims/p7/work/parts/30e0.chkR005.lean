set_option maxRecDepth 1000000 in
theorem vkR34 : zv_chk zx_Yt zx_dt zx_rmt zx_Pt vjsR [vER14, vER33] vER34 vHR34 = true := by decide +kernel
set_option maxRecDepth 1000000 in
theorem vkR35 : zv_chk zx_Yt zx_dt zx_rmt zx_Pt vjsR [] vER35 vHR35 = true := by decide +kernel
set_option maxRecDepth 1000000 in
theorem vkR36 : zv_chk zx_Yt zx_dt zx_rmt zx_Pt vjsR [vER14, vER16] vER36 vHR36 = true := by decide +kernel
