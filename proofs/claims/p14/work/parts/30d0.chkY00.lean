set_option maxRecDepth 1000000 in
theorem vkR48_e : zv_ce zx_Yt zx_dt zx_rmt zx_Pt vjsX [vER14, vER33, vER41, vER46, vER47] vER48 vHD48 = true := by decide +kernel
set_option maxRecDepth 1000000 in
theorem vkR48_0 : zv_ch zx_Yt zx_dt zx_rmt zx_Pt vjsX [vER14, vER33, vER41, vER46, vER47] vER48 vHD48 vHD48_0 = true := by decide +kernel
set_option maxRecDepth 1000000 in
theorem vkR48_1 : zv_ch zx_Yt zx_dt zx_rmt zx_Pt vjsX [vER14, vER33, vER41, vER46, vER47] vER48 vHD48 vHD48_1 = true := by decide +kernel
set_option maxRecDepth 1000000 in
theorem vkR48_2 : zv_ch zx_Yt zx_dt zx_rmt zx_Pt vjsX [vER14, vER33, vER41, vER46, vER47] vER48 vHD48 vHD48_2 = true := by decide +kernel
set_option maxRecDepth 1000000 in
theorem vkR48_3 : zv_ch zx_Yt zx_dt zx_rmt zx_Pt vjsX [vER14, vER33, vER41, vER46, vER47] vER48 vHD48 vHD48_3 = true := by decide +kernel
set_option maxRecDepth 1000000 in
theorem vkR48_4 : zv_ch zx_Yt zx_dt zx_rmt zx_Pt vjsX [vER14, vER33, vER41, vER46, vER47] vER48 vHD48 vHD48_4 = true := by decide +kernel
set_option maxRecDepth 1000000 in
theorem vkR48_5 : zv_ch zx_Yt zx_dt zx_rmt zx_Pt vjsX [vER14, vER33, vER41, vER46, vER47] vER48 vHD48 vHD48_5 = true := by decide +kernel
set_option maxRecDepth 1000000 in
theorem vkR48_6 : zv_ch zx_Yt zx_dt zx_rmt zx_Pt vjsX [vER14, vER33, vER41, vER46, vER47] vER48 vHD48 vHD48_6 = true := by decide +kernel
