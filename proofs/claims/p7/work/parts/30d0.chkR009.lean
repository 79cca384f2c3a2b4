set_option maxRecDepth 1000000 in
theorem vkR45 : zv_chk zx_Yt zx_dt zx_rmt zx_Pt vjsR [vER12, vER14, vER16, vER41, vER42, vERF] vER45 vHR45 = true := by decide +kernel
