set_option maxRecDepth 1000000 in
theorem vkR16 : zv_chk zx_Yt zx_dt zx_rmt zx_Pt vjsR [] vER16 vHR16 = true := by decide +kernel
set_option maxRecDepth 1000000 in
theorem vkR17 : zv_chk zx_Yt zx_dt zx_rmt zx_Pt vjsR [] vER17 vHR17 = true := by decide +kernel
set_option maxRecDepth 1000000 in
theorem vkR18 : zv_chk zx_Yt zx_dt zx_rmt zx_Pt vjsR [] vER18 vHR18 = true := by decide +kernel
set_option maxRecDepth 1000000 in
theorem vkR19 : zv_chk zx_Yt zx_dt zx_rmt zx_Pt vjsR [] vER19 vHR19 = true := by decide +kernel
set_option maxRecDepth 1000000 in
theorem vkR20 : zv_chk zx_Yt zx_dt zx_rmt zx_Pt vjsR [] vER20 vHR20 = true := by decide +kernel
set_option maxRecDepth 1000000 in
theorem vkR21 : zv_chk zx_Yt zx_dt zx_rmt zx_Pt vjsR [] vER21 vHR21 = true := by decide +kernel
set_option maxRecDepth 1000000 in
theorem vkR22 : zv_chk zx_Yt zx_dt zx_rmt zx_Pt vjsR [] vER22 vHR22 = true := by decide +kernel
