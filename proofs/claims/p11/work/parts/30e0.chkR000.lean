set_option maxRecDepth 1000000 in
theorem vkR0 : zv_chk zx_Yt zx_dt zx_rmt zx_Pt vjsR [] vER0 vHR0 = true := by decide +kernel
set_option maxRecDepth 1000000 in
theorem vkR1 : zv_chk zx_Yt zx_dt zx_rmt zx_Pt vjsR [] vER1 vHR1 = true := by decide +kernel
set_option maxRecDepth 1000000 in
theorem vkR2 : zv_chk zx_Yt zx_dt zx_rmt zx_Pt vjsR [] vER2 vHR2 = true := by decide +kernel
set_option maxRecDepth 1000000 in
theorem vkR4 : zv_chk zx_Yt zx_dt zx_rmt zx_Pt vjsR [] vER4 vHR4 = true := by decide +kernel
set_option maxRecDepth 1000000 in
theorem vkR5 : zv_chk zx_Yt zx_dt zx_rmt zx_Pt vjsR [] vER5 vHR5 = true := by decide +kernel
set_option maxRecDepth 1000000 in
theorem vkR6 : zv_chk zx_Yt zx_dt zx_rmt zx_Pt vjsR [] vER6 vHR6 = true := by decide +kernel
set_option maxRecDepth 1000000 in
theorem vkR7 : zv_chk zx_Yt zx_dt zx_rmt zx_Pt vjsR [] vER7 vHR7 = true := by decide +kernel
