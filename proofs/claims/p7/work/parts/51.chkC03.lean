set_option maxRecDepth 1000000 in
theorem vkC24 : zv_chk zx_Yt zx_dt zx_rmt zx_Pt vjsC [] vEC24 vHC24 = true := by decide +kernel
set_option maxRecDepth 1000000 in
theorem vkC25 : zv_chk zx_Yt zx_dt zx_rmt zx_Pt vjsC [] vEC25 vHC25 = true := by decide +kernel
set_option maxRecDepth 1000000 in
theorem vkC26 : zv_chk zx_Yt zx_dt zx_rmt zx_Pt vjsC [] vEC26 vHC26 = true := by decide +kernel
set_option maxRecDepth 1000000 in
theorem vkC27 : zv_chk zx_Yt zx_dt zx_rmt zx_Pt vjsC [] vEC27 vHC27 = true := by decide +kernel
set_option maxRecDepth 1000000 in
theorem vkC28 : zv_chk zx_Yt zx_dt zx_rmt zx_Pt vjsC [] vEC28 vHC28 = true := by decide +kernel
set_option maxRecDepth 1000000 in
theorem vkC29 : zv_chk zx_Yt zx_dt zx_rmt zx_Pt vjsC [] vEC29 vHC29 = true := by decide +kernel
set_option maxRecDepth 1000000 in
theorem vkC30 : zv_chk zx_Yt zx_dt zx_rmt zx_Pt vjsC [vEC29] vEC30 vHC30 = true := by decide +kernel
set_option maxRecDepth 1000000 in
theorem vkC31 : zv_chk zx_Yt zx_dt zx_rmt zx_Pt vjsC [vEC26, vEC27, vEC28, vEC30] vEC31 vHC31 = true := by decide +kernel
