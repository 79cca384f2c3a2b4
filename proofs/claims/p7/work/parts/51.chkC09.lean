set_option maxRecDepth 1000000 in
theorem vkC49 : zv_chk zx_Yt zx_dt zx_rmt zx_Pt vjsC [] vEC49 vHC49 = true := by decide +kernel
set_option maxRecDepth 1000000 in
theorem vkC50 : zv_chk zx_Yt zx_dt zx_rmt zx_Pt vjsC [vEC9, vEC49] vEC50 vHC50 = true := by decide +kernel
set_option maxRecDepth 1000000 in
theorem vkC51 : zv_chk zx_Yt zx_dt zx_rmt zx_Pt vjsC [] vEC51 vHC51 = true := by decide +kernel
set_option maxRecDepth 1000000 in
theorem vkC52 : zv_chk zx_Yt zx_dt zx_rmt zx_Pt vjsC [vEC1, vEC9, vEC51] vEC52 vHC52 = true := by decide +kernel
