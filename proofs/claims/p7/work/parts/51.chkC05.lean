set_option maxRecDepth 1000000 in
theorem vkC33 : zv_chk zx_Yt zx_dt zx_rmt zx_Pt vjsC [] vEC33 vHC33 = true := by decide +kernel
set_option maxRecDepth 1000000 in
theorem vkC34 : zv_chk zx_Yt zx_dt zx_rmt zx_Pt vjsC [vEC11] vEC34 vHC34 = true := by decide +kernel
set_option maxRecDepth 1000000 in
theorem vkC35 : zv_chk zx_Yt zx_dt zx_rmt zx_Pt vjsC [] vEC35 vHC35 = true := by decide +kernel
set_option maxRecDepth 1000000 in
theorem vkC36 : zv_chk zx_Yt zx_dt zx_rmt zx_Pt vjsC [] vEC36 vHC36 = true := by decide +kernel
