set_option maxRecDepth 1000000 in
theorem vkC58 : zv_chk zx_Yt zx_dt zx_rmt zx_Pt vjsC [vEC57] vEC58 vHC58 = true := by decide +kernel
set_option maxRecDepth 1000000 in
theorem vkC59 : zv_chk zx_Yt zx_dt zx_rmt zx_Pt vjsC [] vEC59 vHC59 = true := by decide +kernel
set_option maxRecDepth 1000000 in
theorem vkC60 : zv_chk zx_Yt zx_dt zx_rmt zx_Pt vjsC [] vEC60 vHC60 = true := by decide +kernel
set_option maxRecDepth 1000000 in
theorem vkC61 : zv_chk zx_Yt zx_dt zx_rmt zx_Pt vjsC [] vEC61 vHC61 = true := by decide +kernel
