set_option maxRecDepth 1000000 in
theorem vkR8 : zv_chk zx_Yt zx_dt zx_rmt zx_Pt vjsR [] vER8 vHR8 = true := by decide +kernel
set_option maxRecDepth 1000000 in
theorem vkR9 : zv_chk zx_Yt zx_dt zx_rmt zx_Pt vjsR [] vER9 vHR9 = true := by decide +kernel
set_option maxRecDepth 1000000 in
theorem vkR10 : zv_chk zx_Yt zx_dt zx_rmt zx_Pt vjsR [] vER10 vHR10 = true := by decide +kernel
set_option maxRecDepth 1000000 in
theorem vkR11 : zv_chk zx_Yt zx_dt zx_rmt zx_Pt vjsR [] vER11 vHR11 = true := by decide +kernel
set_option maxRecDepth 1000000 in
theorem vkR12 : zv_chk zx_Yt zx_dt zx_rmt zx_Pt vjsR [] vER12 vHR12 = true := by decide +kernel
set_option maxRecDepth 1000000 in
theorem vkR13 : zv_chk zx_Yt zx_dt zx_rmt zx_Pt vjsR [vER12] vER13 vHR13 = true := by decide +kernel
set_option maxRecDepth 1000000 in
theorem vkR14 : zv_chk zx_Yt zx_dt zx_rmt zx_Pt vjsR [vER13] vER14 vHR14 = true := by decide +kernel
set_option maxRecDepth 1000000 in
theorem vkR15 : zv_chk zx_Yt zx_dt zx_rmt zx_Pt vjsR [vER14] vER15 vHR15 = true := by decide +kernel
