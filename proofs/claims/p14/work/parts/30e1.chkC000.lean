set_option maxRecDepth 1000000 in
theorem vkC0 : zv_chk zx_Yt zx_dt zx_rmt zx_Pt vjsC [] vEC0 vHC0 = true := by decide +kernel
set_option maxRecDepth 1000000 in
theorem vkC1 : zv_chk zx_Yt zx_dt zx_rmt zx_Pt vjsC [] vEC1 vHC1 = true := by decide +kernel
set_option maxRecDepth 1000000 in
theorem vkC2 : zv_chk zx_Yt zx_dt zx_rmt zx_Pt vjsC [] vEC2 vHC2 = true := by decide +kernel
set_option maxRecDepth 1000000 in
theorem vkC3 : zv_chk zx_Yt zx_dt zx_rmt zx_Pt vjsC [] vEC3 vHC3 = true := by decide +kernel
set_option maxRecDepth 1000000 in
theorem vkC4 : zv_chk zx_Yt zx_dt zx_rmt zx_Pt vjsC [vEC3] vEC4 vHC4 = true := by decide +kernel
set_option maxRecDepth 1000000 in
theorem vkC5 : zv_chk zx_Yt zx_dt zx_rmt zx_Pt vjsC [] vEC5 vHC5 = true := by decide +kernel
set_option maxRecDepth 1000000 in
theorem vkC6 : zv_chk zx_Yt zx_dt zx_rmt zx_Pt vjsC [] vEC6 vHC6 = true := by decide +kernel
set_option maxRecDepth 1000000 in
theorem vkC7 : zv_chk zx_Yt zx_dt zx_rmt zx_Pt vjsC [] vEC7 vHC7 = true := by decide +kernel
set_option maxRecDepth 1000000 in
theorem vkC8 : zv_chk zx_Yt zx_dt zx_rmt zx_Pt vjsC [] vEC8 vHC8 = true := by decide +kernel
