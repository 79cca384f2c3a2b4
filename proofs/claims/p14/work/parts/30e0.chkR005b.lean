set_option maxRecDepth 1000000 in
theorem vkR35 : zv_chk zx_Yt zx_dt zx_rmt zx_Pt vjsR [] vER35 vHR35 = true := by decide +kernel
