set_option maxRecDepth 1000000 in
theorem vkC45 : zv_chk zx_Yt zx_dt zx_rmt zx_Pt vjsC [vEC9, vEC14, vEC15, vEC41] vEC45 vHC45 = true := by decide +kernel
set_option maxRecDepth 1000000 in
theorem vkC46 : zv_chk zx_Yt zx_dt zx_rmt zx_Pt vjsC [vEC10, vEC44, vEC45] vEC46 vHC46 = true := by decide +kernel
set_option maxRecDepth 1000000 in
theorem vkC47 : zv_chk zx_Yt zx_dt zx_rmt zx_Pt vjsC [] vEC47 vHC47 = true := by decide +kernel
