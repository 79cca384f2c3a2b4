set_option maxRecDepth 1000000 in
theorem vkC9 : zv_chk zx_Yt zx_dt zx_rmt zx_Pt vjsC [vEC8, vECF] vEC9 vHC9 = true := by decide +kernel
set_option maxRecDepth 1000000 in
theorem vkC10 : zv_chk zx_Yt zx_dt zx_rmt zx_Pt vjsC [vEC9] vEC10 vHC10 = true := by decide +kernel
set_option maxRecDepth 1000000 in
theorem vkC11 : zv_chk zx_Yt zx_dt zx_rmt zx_Pt vjsC [vEC9, vEC10] vEC11 vHC11 = true := by decide +kernel
