set_option maxRecDepth 1000000 in
theorem vkR37 : zv_chk zx_Yt zx_dt zx_rmt zx_Pt vjsR [vER14, vER17] vER37 vHR37 = true := by decide +kernel
set_option maxRecDepth 1000000 in
theorem vkR38 : zv_chk zx_Yt zx_dt zx_rmt zx_Pt vjsR [vER14, vERF] vER38 vHR38 = true := by decide +kernel
set_option maxRecDepth 1000000 in
theorem vkR39 : zv_chk zx_Yt zx_dt zx_rmt zx_Pt vjsR [vER14, vERF] vER39 vHR39 = true := by decide +kernel
set_option maxRecDepth 1000000 in
theorem vkR40 : zv_chk zx_Yt zx_dt zx_rmt zx_Pt vjsR [vER21, vER22, vER23] vER40 vHR40 = true := by decide +kernel
set_option maxRecDepth 1000000 in
theorem vkR41 : zv_chk zx_Yt zx_dt zx_rmt zx_Pt vjsR [] vER41 vHR41 = true := by decide +kernel
