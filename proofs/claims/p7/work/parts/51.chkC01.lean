set_option maxRecDepth 1000000 in
theorem vkC8 : zv_chk zx_Yt zx_dt zx_rmt zx_Pt vjsC [] vEC8 vHC8 = true := by decide +kernel
set_option maxRecDepth 1000000 in
theorem vkC9 : zv_chk zx_Yt zx_dt zx_rmt zx_Pt vjsC [] vEC9 vHC9 = true := by decide +kernel
set_option maxRecDepth 1000000 in
theorem vkC10 : zv_chk zx_Yt zx_dt zx_rmt zx_Pt vjsC [vEC3, vEC4, vEC5, vEC6, vEC7, vEC8, vEC9] vEC10 vHC10 = true := by decide +kernel
set_option maxRecDepth 1000000 in
theorem vkC11 : zv_chk zx_Yt zx_dt zx_rmt zx_Pt vjsC [] vEC11 vHC11 = true := by decide +kernel
set_option maxRecDepth 1000000 in
theorem vkC12 : zv_chk zx_Yt zx_dt zx_rmt zx_Pt vjsC [vEC11] vEC12 vHC12 = true := by decide +kernel
set_option maxRecDepth 1000000 in
theorem vkC13 : zv_chk zx_Yt zx_dt zx_rmt zx_Pt vjsC [] vEC13 vHC13 = true := by decide +kernel
set_option maxRecDepth 1000000 in
theorem vkC14 : zv_chk zx_Yt zx_dt zx_rmt zx_Pt vjsC [] vEC14 vHC14 = true := by decide +kernel
set_option maxRecDepth 1000000 in
theorem vkC15 : zv_chk zx_Yt zx_dt zx_rmt zx_Pt vjsC [] vEC15 vHC15 = true := by decide +kernel
