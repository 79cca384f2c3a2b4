set_option maxRecDepth 1000000 in
theorem vkR48_47 : zv_ch zx_Yt zx_dt zx_rmt zx_Pt vjsX [vER14, vER33, vER41, vER46, vER47] vER48 vHD48 vHD48_47 = true := by decide +kernel
