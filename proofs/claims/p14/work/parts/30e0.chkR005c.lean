set_option maxRecDepth 1000000 in
theorem vkR36 : zv_chk zx_Yt zx_dt zx_rmt zx_Pt vjsR [vER14, vER16] vER36 vHR36 = true := by decide +kernel
