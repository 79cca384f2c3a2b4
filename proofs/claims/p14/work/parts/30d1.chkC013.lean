set_option maxRecDepth 1000000 in
theorem vkC132 : zv_chk zx_Yt zx_dt zx_rmt zx_Pt vjsC [] vEC132 vHC132 = true := by decide +kernel
