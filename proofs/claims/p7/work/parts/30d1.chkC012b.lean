set_option maxRecDepth 1000000 in
theorem vkC126 : zv_chk zx_Yt zx_dt zx_rmt zx_Pt vjsC [vEC98, vEC122, vEC124, vEC125] vEC126 vHC126 = true := by decide +kernel
