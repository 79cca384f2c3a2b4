set_option maxRecDepth 1000000 in
theorem vkC53 : zv_chk zx_Yt zx_dt zx_rmt zx_Pt vjsC [] vEC53 vHC53 = true := by decide +kernel
set_option maxRecDepth 1000000 in
theorem vkC55 : zv_chk zx_Yt zx_dt zx_rmt zx_Pt vjsC [vEC51] vEC55 vHC55 = true := by decide +kernel
set_option maxRecDepth 1000000 in
theorem vkC56 : zv_chk zx_Yt zx_dt zx_rmt zx_Pt vjsC [vEC1, vEC51] vEC56 vHC56 = true := by decide +kernel
