set_option maxRecDepth 1000000 in
theorem vkC16 : zv_chk zx_Yt zx_dt zx_rmt zx_Pt vjsC [vEC14, vEC15] vEC16 vHC16 = true := by decide +kernel
set_option maxRecDepth 1000000 in
theorem vkC17 : zv_chk zx_Yt zx_dt zx_rmt zx_Pt vjsC [vEC12, vEC13, vEC16] vEC17 vHC17 = true := by decide +kernel
set_option maxRecDepth 1000000 in
theorem vkC18 : zv_chk zx_Yt zx_dt zx_rmt zx_Pt vjsC [] vEC18 vHC18 = true := by decide +kernel
set_option maxRecDepth 1000000 in
theorem vkC19 : zv_chk zx_Yt zx_dt zx_rmt zx_Pt vjsC [] vEC19 vHC19 = true := by decide +kernel
set_option maxRecDepth 1000000 in
theorem vkC20 : zv_chk zx_Yt zx_dt zx_rmt zx_Pt vjsC [] vEC20 vHC20 = true := by decide +kernel
set_option maxRecDepth 1000000 in
theorem vkC21 : zv_chk zx_Yt zx_dt zx_rmt zx_Pt vjsC [] vEC21 vHC21 = true := by decide +kernel
set_option maxRecDepth 1000000 in
theorem vkC22 : zv_chk zx_Yt zx_dt zx_rmt zx_Pt vjsC [] vEC22 vHC22 = true := by decide +kernel
set_option maxRecDepth 1000000 in
theorem vkC23 : zv_chk zx_Yt zx_dt zx_rmt zx_Pt vjsC [vEC22] vEC23 vHC23 = true := by decide +kernel
