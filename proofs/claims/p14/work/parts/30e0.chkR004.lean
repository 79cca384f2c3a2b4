set_option maxRecDepth 1000000 in
theorem vkR24 : zv_chk zx_Yt zx_dt zx_rmt zx_Pt vjsR [vER21, vER22, vER23] vER24 vHR24 = true := by decide +kernel
set_option maxRecDepth 1000000 in
theorem vkR25 : zv_chk zx_Yt zx_dt zx_rmt zx_Pt vjsR [] vER25 vHR25 = true := by decide +kernel
set_option maxRecDepth 1000000 in
theorem vkR26 : zv_chk zx_Yt zx_dt zx_rmt zx_Pt vjsR [] vER26 vHR26 = true := by decide +kernel
set_option maxRecDepth 1000000 in
theorem vkR27 : zv_chk zx_Yt zx_dt zx_rmt zx_Pt vjsR [] vER27 vHR27 = true := by decide +kernel
set_option maxRecDepth 1000000 in
theorem vkR28 : zv_chk zx_Yt zx_dt zx_rmt zx_Pt vjsR [] vER28 vHR28 = true := by decide +kernel
set_option maxRecDepth 1000000 in
theorem vkR29 : zv_chk zx_Yt zx_dt zx_rmt zx_Pt vjsR [] vER29 vHR29 = true := by decide +kernel
set_option maxRecDepth 1000000 in
theorem vkR30 : zv_chk zx_Yt zx_dt zx_rmt zx_Pt vjsR [] vER30 vHR30 = true := by decide +kernel
set_option maxRecDepth 1000000 in
theorem vkR31 : zv_chk zx_Yt zx_dt zx_rmt zx_Pt vjsR [] vER31 vHR31 = true := by decide +kernel
set_option maxRecDepth 1000000 in
theorem vkR32 : zv_chk zx_Yt zx_dt zx_rmt zx_Pt vjsR [] vER32 vHR32 = true := by decide +kernel
