set_option maxRecDepth 1000000 in
theorem vkR48_7 : zv_ch zx_Yt zx_dt zx_rmt zx_Pt vjsX [vER14, vER33, vER41, vER46, vER47] vER48 vHD48 vHD48_7 = true := by decide +kernel
set_option maxRecDepth 1000000 in
theorem vkR48_8 : zv_ch zx_Yt zx_dt zx_rmt zx_Pt vjsX [vER14, vER33, vER41, vER46, vER47] vER48 vHD48 vHD48_8 = true := by decide +kernel
set_option maxRecDepth 1000000 in
theorem vkR48_9 : zv_ch zx_Yt zx_dt zx_rmt zx_Pt vjsX [vER14, vER33, vER41, vER46, vER47] vER48 vHD48 vHD48_9 = true := by decide +kernel
set_option maxRecDepth 1000000 in
theorem vkR48_10 : zv_ch zx_Yt zx_dt zx_rmt zx_Pt vjsX [vER14, vER33, vER41, vER46, vER47] vER48 vHD48 vHD48_10 = true := by decide +kernel
set_option maxRecDepth 1000000 in
theorem vkR48_11 : zv_ch zx_Yt zx_dt zx_rmt zx_Pt vjsX [vER14, vER33, vER41, vER46, vER47] vER48 vHD48 vHD48_11 = true := by decide +kernel
set_option maxRecDepth 1000000 in
theorem vkR48_12 : zv_ch zx_Yt zx_dt zx_rmt zx_Pt vjsX [vER14, vER33, vER41, vER46, vER47] vER48 vHD48 vHD48_12 = true := by decide +kernel
set_option maxRecDepth 1000000 in
theorem vkR48_13 : zv_ch zx_Yt zx_dt zx_rmt zx_Pt vjsX [vER14, vER33, vER41, vER46, vER47] vER48 vHD48 vHD48_13 = true := by decide +kernel
set_option maxRecDepth 1000000 in
theorem vkR48_14 : zv_ch zx_Yt zx_dt zx_rmt zx_Pt vjsX [vER14, vER33, vER41, vER46, vER47] vER48 vHD48 vHD48_14 = true := by decide +kernel
