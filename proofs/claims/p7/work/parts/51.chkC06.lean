set_option maxRecDepth 1000000 in
theorem vkC37 : zv_chk zx_Yt zx_dt zx_rmt zx_Pt vjsC [] vEC37 vHC37 = true := by decide +kernel
set_option maxRecDepth 1000000 in
theorem vkC39 : zv_chk zx_Yt zx_dt zx_rmt zx_Pt vjsC [vEC38] vEC39 vHC39 = true := by decide +kernel
set_option maxRecDepth 1000000 in
theorem vkC40 : zv_chk zx_Yt zx_dt zx_rmt zx_Pt vjsC [] vEC40 vHC40 = true := by decide +kernel
