set_option maxRecDepth 1000000 in
theorem vkR33 : zv_chk zx_Yt zx_dt zx_rmt zx_Pt vjsX [vERc, vERw, vER24] vER33 vHR33 = true := by decide +kernel
set_option maxRecDepth 1000000 in
theorem vkR42 : zv_chk zx_Yt zx_dt zx_rmt zx_Pt vjsX [vERw] vER42 vHR42 = true := by decide +kernel
