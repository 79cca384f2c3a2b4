set_option maxRecDepth 1000000 in
theorem vkC77 : zv_chk zx_Yt zx_dt zx_rmt zx_Pt vjsC [] vEC77 vHC77 = true := by decide +kernel
