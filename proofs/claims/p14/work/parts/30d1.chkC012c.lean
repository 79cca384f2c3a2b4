set_option maxRecDepth 1000000 in
theorem vkC127 : zv_chk zx_Yt zx_dt zx_rmt zx_Pt vjsC [vEC72, vEC120, vEC126] vEC127 vHC127 = true := by decide +kernel
set_option maxRecDepth 1000000 in
theorem vkC128 : zv_chk zx_Yt zx_dt zx_rmt zx_Pt vjsC [] vEC128 vHC128 = true := by decide +kernel
set_option maxRecDepth 1000000 in
theorem vkC129 : zv_chk zx_Yt zx_dt zx_rmt zx_Pt vjsC [vEC123] vEC129 vHC129 = true := by decide +kernel
set_option maxRecDepth 1000000 in
theorem vkC130 : zv_chk zx_Yt zx_dt zx_rmt zx_Pt vjsC [vEC61, vEC123] vEC130 vHC130 = true := by decide +kernel
set_option maxRecDepth 1000000 in
theorem vkC131 : zv_chk zx_Yt zx_dt zx_rmt zx_Pt vjsC [vEC72, vEC129, vEC130] vEC131 vHC131 = true := by decide +kernel
