set_option maxRecDepth 1000000 in
theorem vkR48_25 : zv_ch zx_Yt zx_dt zx_rmt zx_Pt vjsX [vER14, vER33, vER41, vER46, vER47] vER48 vHD48 vHD48_25 = true := by decide +kernel
set_option maxRecDepth 1000000 in
theorem vkR48_26 : zv_ch zx_Yt zx_dt zx_rmt zx_Pt vjsX [vER14, vER33, vER41, vER46, vER47] vER48 vHD48 vHD48_26 = true := by decide +kernel
set_option maxRecDepth 1000000 in
theorem vkR48_27 : zv_ch zx_Yt zx_dt zx_rmt zx_Pt vjsX [vER14, vER33, vER41, vER46, vER47] vER48 vHD48 vHD48_27 = true := by decide +kernel
set_option maxRecDepth 1000000 in
theorem vkR48_28 : zv_ch zx_Yt zx_dt zx_rmt zx_Pt vjsX [vER14, vER33, vER41, vER46, vER47] vER48 vHD48 vHD48_28 = true := by decide +kernel
set_option maxRecDepth 1000000 in
theorem vkR48_29 : zv_ch zx_Yt zx_dt zx_rmt zx_Pt vjsX [vER14, vER33, vER41, vER46, vER47] vER48 vHD48 vHD48_29 = true := by decide +kernel
set_option maxRecDepth 1000000 in
theorem vkR48_30 : zv_ch zx_Yt zx_dt zx_rmt zx_Pt vjsX [vER14, vER33, vER41, vER46, vER47] vER48 vHD48 vHD48_30 = true := by decide +kernel
set_option maxRecDepth 1000000 in
theorem vkR48_31 : zv_ch zx_Yt zx_dt zx_rmt zx_Pt vjsX [vER14, vER33, vER41, vER46, vER47] vER48 vHD48 vHD48_31 = true := by decide +kernel
set_option maxRecDepth 1000000 in
theorem vkR48_32 : zv_ch zx_Yt zx_dt zx_rmt zx_Pt vjsX [vER14, vER33, vER41, vER46, vER47] vER48 vHD48 vHD48_32 = true := by decide +kernel
