set_option maxRecDepth 1000000 in
theorem vkR48_33 : zv_ch zx_Yt zx_dt zx_rmt zx_Pt vjsX [vER14, vER33, vER41, vER46, vER47] vER48 vHD48 vHD48_33 = true := by decide +kernel
set_option maxRecDepth 1000000 in
theorem vkR48_34 : zv_ch zx_Yt zx_dt zx_rmt zx_Pt vjsX [vER14, vER33, vER41, vER46, vER47] vER48 vHD48 vHD48_34 = true := by decide +kernel
set_option maxRecDepth 1000000 in
theorem vkR48_35 : zv_ch zx_Yt zx_dt zx_rmt zx_Pt vjsX [vER14, vER33, vER41, vER46, vER47] vER48 vHD48 vHD48_35 = true := by decide +kernel
set_option maxRecDepth 1000000 in
theorem vkR48_36 : zv_ch zx_Yt zx_dt zx_rmt zx_Pt vjsX [vER14, vER33, vER41, vER46, vER47] vER48 vHD48 vHD48_36 = true := by decide +kernel
set_option maxRecDepth 1000000 in
theorem vkR48_37 : zv_ch zx_Yt zx_dt zx_rmt zx_Pt vjsX [vER14, vER33, vER41, vER46, vER47] vER48 vHD48 vHD48_37 = true := by decide +kernel
set_option maxRecDepth 1000000 in
theorem vkR48_38 : zv_ch zx_Yt zx_dt zx_rmt zx_Pt vjsX [vER14, vER33, vER41, vER46, vER47] vER48 vHD48 vHD48_38 = true := by decide +kernel
set_option maxRecDepth 1000000 in
theorem vkR48_39 : zv_ch zx_Yt zx_dt zx_rmt zx_Pt vjsX [vER14, vER33, vER41, vER46, vER47] vER48 vHD48 vHD48_39 = true := by decide +kernel
