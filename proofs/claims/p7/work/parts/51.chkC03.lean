set_option maxRecDepth 1000000 in
theorem vkC24 : zv_chk zx_Yt zx_dt zx_rmt zx_Pt vjsC [] vEC24 vHC24 = true := by decide +kernel
set_option maxRecDepth 1000000 in
theorem vkC25 : zv_chk zx_Yt zx_dt zx_rmt zx_Pt vjsC [] vEC25 vHC25 = true := by decide +kernel
set_option maxRecDepth 1000000 in
theorem vkC26 : zv_chk zx_Yt zx_dt zx_rmt zx_Pt vjsC [] vEC26 vHC26 = true := by decide +kernel
set_option maxRecDepth 1000000 in
theorem vkC27 : zv_chk zx_Yt zx_dt zx_rmt zx_Pt vjsC [] vEC27 vHC27 = true := by decide +kernel
