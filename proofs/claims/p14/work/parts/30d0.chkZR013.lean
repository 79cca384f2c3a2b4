set_option maxRecDepth 1000000 in
theorem vkR49 : zv_chk zx_Yt zx_dt zx_rmt zx_Pt vjsR [] vER49 vHR49 = true := by decide +kernel
set_option maxRecDepth 1000000 in
theorem vkR50 : zv_chk zx_Yt zx_dt zx_rmt zx_Pt vjsR [] vER50 vHR50 = true := by decide +kernel
