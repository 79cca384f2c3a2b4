set_option maxRecDepth 1000000 in
theorem vkC41 : zv_chk zx_Yt zx_dt zx_rmt zx_Pt vjsC [vEC35, vEC36, vEC37, vEC39, vEC40] vEC41 vHC41 = true := by decide +kernel
set_option maxRecDepth 1000000 in
theorem vkC42 : zv_chk zx_Yt zx_dt zx_rmt zx_Pt vjsC [vEC10, vEC41] vEC42 vHC42 = true := by decide +kernel
set_option maxRecDepth 1000000 in
theorem vkC43 : zv_chk zx_Yt zx_dt zx_rmt zx_Pt vjsC [vEC26, vEC28, vEC30] vEC43 vHC43 = true := by decide +kernel
set_option maxRecDepth 1000000 in
theorem vkC44 : zv_chk zx_Yt zx_dt zx_rmt zx_Pt vjsC [vEC9, vEC17, vEC18] vEC44 vHC44 = true := by decide +kernel
