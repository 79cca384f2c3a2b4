set_option maxRecDepth 1000000 in
theorem vkR48_15 : zv_ch zx_Yt zx_dt zx_rmt zx_Pt vjsX [vER14, vER33, vER41, vER46, vER47] vER48 vHD48 vHD48_15 = true := by decide +kernel
set_option maxRecDepth 1000000 in
theorem vkR48_16 : zv_ch zx_Yt zx_dt zx_rmt zx_Pt vjsX [vER14, vER33, vER41, vER46, vER47] vER48 vHD48 vHD48_16 = true := by decide +kernel
set_option maxRecDepth 1000000 in
theorem vkR48_17 : zv_ch zx_Yt zx_dt zx_rmt zx_Pt vjsX [vER14, vER33, vER41, vER46, vER47] vER48 vHD48 vHD48_17 = true := by decide +kernel
set_option maxRecDepth 1000000 in
theorem vkR48_18 : zv_ch zx_Yt zx_dt zx_rmt zx_Pt vjsX [vER14, vER33, vER41, vER46, vER47] vER48 vHD48 vHD48_18 = true := by decide +kernel
set_option maxRecDepth 1000000 in
theorem vkR48_19 : zv_ch zx_Yt zx_dt zx_rmt zx_Pt vjsX [vER14, vER33, vER41, vER46, vER47] vER48 vHD48 vHD48_19 = true := by decide +kernel
set_option maxRecDepth 1000000 in
theorem vkR48_20 : zv_ch zx_Yt zx_dt zx_rmt zx_Pt vjsX [vER14, vER33, vER41, vER46, vER47] vER48 vHD48 vHD48_20 = true := by decide +kernel
set_option maxRecDepth 1000000 in
theorem vkR48_21 : zv_ch zx_Yt zx_dt zx_rmt zx_Pt vjsX [vER14, vER33, vER41, vER46, vER47] vER48 vHD48 vHD48_21 = true := by decide +kernel
set_option maxRecDepth 1000000 in
theorem vkR48_22 : zv_ch zx_Yt zx_dt zx_rmt zx_Pt vjsX [vER14, vER33, vER41, vER46, vER47] vER48 vHD48 vHD48_22 = true := by decide +kernel
set_option maxRecDepth 1000000 in
theorem vkR48_23 : zv_ch zx_Yt zx_dt zx_rmt zx_Pt vjsX [vER14, vER33, vER41, vER46, vER47] vER48 vHD48 vHD48_23 = true := by decide +kernel
set_option maxRecDepth 1000000 in
theorem vkR48_24 : zv_ch zx_Yt zx_dt zx_rmt zx_Pt vjsX [vER14, vER33, vER41, vER46, vER47] vER48 vHD48 vHD48_24 = true := by decide +kernel
