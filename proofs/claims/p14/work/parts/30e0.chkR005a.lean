set_option maxRecDepth 1000000 in
theorem vkR34 : zv_chk zx_Yt zx_dt zx_rmt zx_Pt vjsR [vER14, vER33] vER34 vHR34 = true := by decide +kernel
