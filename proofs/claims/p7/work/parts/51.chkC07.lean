set_option maxRecDepth 1000000 in
theorem vkC56 : zv_chk zx_Yt zx_dt zx_rmt zx_Pt vjsC [vEC1, vEC51] vEC56 vHC56 = true := by decide +kernel
