set_option maxRecDepth 1000000 in
theorem vkC50 : zv_chk zx_Yt zx_dt zx_rmt zx_Pt vjsC [vEC9, vEC17, vEC49] vEC50 vHC50 = true := by decide +kernel
set_option maxRecDepth 1000000 in
theorem vkC51 : zv_chk zx_Yt zx_dt zx_rmt zx_Pt vjsC [vEC9, vEC17, vEC50] vEC51 vHC51 = true := by decide +kernel
set_option maxRecDepth 1000000 in
theorem vkC52 : zv_chk zx_Yt zx_dt zx_rmt zx_Pt vjsC [vEC9, vEC10, vEC17, vEC18, vEC49, vEC51] vEC52 vHC52 = true := by decide +kernel
set_option maxRecDepth 1000000 in
theorem vkC53 : zv_chk zx_Yt zx_dt zx_rmt zx_Pt vjsC [vEC9, vEC17, vEC52] vEC53 vHC53 = true := by decide +kernel
set_option maxRecDepth 1000000 in
theorem vkC54 : zv_chk zx_Yt zx_dt zx_rmt zx_Pt vjsC [vEC9, vEC17, vEC53] vEC54 vHC54 = true := by decide +kernel
set_option maxRecDepth 1000000 in
theorem vkC55 : zv_chk zx_Yt zx_dt zx_rmt zx_Pt vjsC [] vEC55 vHC55 = true := by decide +kernel
set_option maxRecDepth 1000000 in
theorem vkC56 : zv_chk zx_Yt zx_dt zx_rmt zx_Pt vjsC [vEC9, vEC10, vEC54, vEC55] vEC56 vHC56 = true := by decide +kernel
