set_option maxRecDepth 1000000 in
theorem vkR23_2 : zv_ch zx_Yt zx_dt zx_rmt zx_Pt vjsR [] vER23 vHR23 vHR23_2 = true := by decide +kernel
