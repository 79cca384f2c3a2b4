set_option maxRecDepth 1000000 in
theorem vkR33 : zv_chk zx_Yt zx_dt zx_rmt zx_Pt vjsR [vER16, vER17, vER18, vER19, vER20, vER24, vER25, vER26, vER27, vER28, vER29, vER30, vER31, vER32] vER33 vHR33 = true := by decide +kernel
set_option maxRecDepth 1000000 in
theorem vkR34 : zv_chk zx_Yt zx_dt zx_rmt zx_Pt vjsR [vER14, vER33] vER34 vHR34 = true := by decide +kernel
set_option maxRecDepth 1000000 in
theorem vkR35 : zv_chk zx_Yt zx_dt zx_rmt zx_Pt vjsR [] vER35 vHR35 = true := by decide +kernel
set_option maxRecDepth 1000000 in
theorem vkR36 : zv_chk zx_Yt zx_dt zx_rmt zx_Pt vjsR [vER14, vER16] vER36 vHR36 = true := by decide +kernel
