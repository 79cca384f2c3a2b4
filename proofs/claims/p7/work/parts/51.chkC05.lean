set_option maxRecDepth 1000000 in
theorem vkC40 : zv_chk zx_Yt zx_dt zx_rmt zx_Pt vjsC [] vEC40 vHC40 = true := by decide +kernel
set_option maxRecDepth 1000000 in
theorem vkC41 : zv_chk zx_Yt zx_dt zx_rmt zx_Pt vjsC [vEC35, vEC36, vEC37, vEC39, vEC40] vEC41 vHC41 = true := by decide +kernel
set_option maxRecDepth 1000000 in
theorem vkC42 : zv_chk zx_Yt zx_dt zx_rmt zx_Pt vjsC [vEC10, vEC41] vEC42 vHC42 = true := by decide +kernel
set_option maxRecDepth 1000000 in
theorem vkC43 : zv_chk zx_Yt zx_dt zx_rmt zx_Pt vjsC [vEC26, vEC28, vEC30] vEC43 vHC43 = true := by decide +kernel
set_option maxRecDepth 1000000 in
theorem vkC44 : zv_chk zx_Yt zx_dt zx_rmt zx_Pt vjsC [vEC9, vEC17, vEC18] vEC44 vHC44 = true := by decide +kernel
set_option maxRecDepth 1000000 in
theorem vkC45 : zv_chk zx_Yt zx_dt zx_rmt zx_Pt vjsC [vEC9, vEC14, vEC15, vEC41] vEC45 vHC45 = true := by decide +kernel
set_option maxRecDepth 1000000 in
theorem vkC46 : zv_chk zx_Yt zx_dt zx_rmt zx_Pt vjsC [vEC10, vEC44, vEC45] vEC46 vHC46 = true := by decide +kernel
set_option maxRecDepth 1000000 in
theorem vkC47 : zv_chk zx_Yt zx_dt zx_rmt zx_Pt vjsC [] vEC47 vHC47 = true := by decide +kernel
