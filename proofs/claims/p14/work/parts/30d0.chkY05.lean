set_option maxRecDepth 1000000 in
theorem vkR48_40 : zv_ch zx_Yt zx_dt zx_rmt zx_Pt vjsX [vER14, vER33, vER41, vER46, vER47] vER48 vHD48 vHD48_40 = true := by decide +kernel
set_option maxRecDepth 1000000 in
theorem vkR48_41 : zv_ch zx_Yt zx_dt zx_rmt zx_Pt vjsX [vER14, vER33, vER41, vER46, vER47] vER48 vHD48 vHD48_41 = true := by decide +kernel
set_option maxRecDepth 1000000 in
theorem vkR48_42 : zv_ch zx_Yt zx_dt zx_rmt zx_Pt vjsX [vER14, vER33, vER41, vER46, vER47] vER48 vHD48 vHD48_42 = true := by decide +kernel
set_option maxRecDepth 1000000 in
theorem vkR48_43 : zv_ch zx_Yt zx_dt zx_rmt zx_Pt vjsX [vER14, vER33, vER41, vER46, vER47] vER48 vHD48 vHD48_43 = true := by decide +kernel
set_option maxRecDepth 1000000 in
theorem vkR48_44 : zv_ch zx_Yt zx_dt zx_rmt zx_Pt vjsX [vER14, vER33, vER41, vER46, vER47] vER48 vHD48 vHD48_44 = true := by decide +kernel
set_option maxRecDepth 1000000 in
theorem vkR48_45 : zv_ch zx_Yt zx_dt zx_rmt zx_Pt vjsX [vER14, vER33, vER41, vER46, vER47] vER48 vHD48 vHD48_45 = true := by decide +kernel
set_option maxRecDepth 1000000 in
theorem vkR48_46 : zv_ch zx_Yt zx_dt zx_rmt zx_Pt vjsX [vER14, vER33, vER41, vER46, vER47] vER48 vHD48 vHD48_46 = true := by decide +kernel
