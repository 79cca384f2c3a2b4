set_option maxRecDepth 1000000 in
theorem vkC28 : zv_chk zx_Yt zx_dt zx_rmt zx_Pt vjsC [] vEC28 vHC28 = true := by decide +kernel
set_option maxRecDepth 1000000 in
theorem vkC30 : zv_chk zx_Yt zx_dt zx_rmt zx_Pt vjsC [vEC29] vEC30 vHC30 = true := by decide +kernel
set_option maxRecDepth 1000000 in
theorem vkC31 : zv_chk zx_Yt zx_dt zx_rmt zx_Pt vjsC [vEC26, vEC27, vEC28, vEC30] vEC31 vHC31 = true := by decide +kernel
set_option maxRecDepth 1000000 in
theorem vkC32 : zv_chk zx_Yt zx_dt zx_rmt zx_Pt vjsC [vEC17, vEC18, vEC19, vEC20, vEC21, vEC23, vEC24, vEC25, vEC31] vEC32 vHC32 = true := by decide +kernel
