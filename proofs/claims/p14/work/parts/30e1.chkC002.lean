set_option maxRecDepth 1000000 in
theorem vkC12 : zv_chk zx_Yt zx_dt zx_rmt zx_Pt vjsC [] vEC12 vHC12 = true := by decide +kernel
set_option maxRecDepth 1000000 in
theorem vkC13 : zv_chk zx_Yt zx_dt zx_rmt zx_Pt vjsC [vEC9, vEC10, vEC12] vEC13 vHC13 = true := by decide +kernel
set_option maxRecDepth 1000000 in
theorem vkC14 : zv_chk zx_Yt zx_dt zx_rmt zx_Pt vjsC [] vEC14 vHC14 = true := by decide +kernel
set_option maxRecDepth 1000000 in
theorem vkC15 : zv_chk zx_Yt zx_dt zx_rmt zx_Pt vjsC [vEC14] vEC15 vHC15 = true := by decide +kernel
set_option maxRecDepth 1000000 in
theorem vkC16 : zv_chk zx_Yt zx_dt zx_rmt zx_Pt vjsC [vEC15] vEC16 vHC16 = true := by decide +kernel
set_option maxRecDepth 1000000 in
theorem vkC17 : zv_chk zx_Yt zx_dt zx_rmt zx_Pt vjsC [] vEC17 vHC17 = true := by decide +kernel
set_option maxRecDepth 1000000 in
theorem vkC18 : zv_chk zx_Yt zx_dt zx_rmt zx_Pt vjsC [vEC9, vEC17] vEC18 vHC18 = true := by decide +kernel
set_option maxRecDepth 1000000 in
theorem vkC19 : zv_chk zx_Yt zx_dt zx_rmt zx_Pt vjsC [vEC9, vEC14, vEC16, vEC17, vEC18] vEC19 vHC19 = true := by decide +kernel
set_option maxRecDepth 1000000 in
theorem vkC20 : zv_chk zx_Yt zx_dt zx_rmt zx_Pt vjsC [vEC9, vEC17, vEC19] vEC20 vHC20 = true := by decide +kernel
set_option maxRecDepth 1000000 in
theorem vkC21 : zv_chk zx_Yt zx_dt zx_rmt zx_Pt vjsC [vEC9, vEC17, vEC20] vEC21 vHC21 = true := by decide +kernel
