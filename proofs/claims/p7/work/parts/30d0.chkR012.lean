set_option maxRecDepth 1000000 in
theorem vkR48_4 : zv_ch zx_Yt zx_dt zx_rmt zx_Pt vjsR [vER14, vER33, vER41, vER46, vER47] vER48 vHR48 vHR48_4 = true := by decide +kernel
set_option maxRecDepth 1000000 in
theorem vkR48_5 : zv_ch zx_Yt zx_dt zx_rmt zx_Pt vjsR [vER14, vER33, vER41, vER46, vER47] vER48 vHR48 vHR48_5 = true := by decide +kernel
set_option maxRecDepth 1000000 in
theorem vkR48_6 : zv_ch zx_Yt zx_dt zx_rmt zx_Pt vjsR [vER14, vER33, vER41, vER46, vER47] vER48 vHR48 vHR48_6 = true := by decide +kernel
set_option maxRecDepth 1000000 in
theorem vkR48_7 : zv_ch zx_Yt zx_dt zx_rmt zx_Pt vjsR [vER14, vER33, vER41, vER46, vER47] vER48 vHR48 vHR48_7 = true := by decide +kernel
set_option maxRecDepth 1000000 in
theorem vkR48_8 : zv_ch zx_Yt zx_dt zx_rmt zx_Pt vjsR [vER14, vER33, vER41, vER46, vER47] vER48 vHR48 vHR48_8 = true := by decide +kernel
set_option maxRecDepth 1000000 in
theorem vkR48_9 : zv_ch zx_Yt zx_dt zx_rmt zx_Pt vjsR [vER14, vER33, vER41, vER46, vER47] vER48 vHR48 vHR48_9 = true := by decide +kernel
set_option maxRecDepth 1000000 in
theorem vkR48_10 : zv_ch zx_Yt zx_dt zx_rmt zx_Pt vjsR [vER14, vER33, vER41, vER46, vER47] vER48 vHR48 vHR48_10 = true := by decide +kernel
set_option maxRecDepth 1000000 in
theorem vkR48_11 : zv_ch zx_Yt zx_dt zx_rmt zx_Pt vjsR [vER14, vER33, vER41, vER46, vER47] vER48 vHR48 vHR48_11 = true := by decide +kernel
set_option maxRecDepth 1000000 in
theorem vkR48_12 : zv_ch zx_Yt zx_dt zx_rmt zx_Pt vjsR [vER14, vER33, vER41, vER46, vER47] vER48 vHR48 vHR48_12 = true := by decide +kernel
set_option maxRecDepth 1000000 in
theorem vkR48_13 : zv_ch zx_Yt zx_dt zx_rmt zx_Pt vjsR [vER14, vER33, vER41, vER46, vER47] vER48 vHR48 vHR48_13 = true := by decide +kernel
set_option maxRecDepth 1000000 in
theorem vkR48_14 : zv_ch zx_Yt zx_dt zx_rmt zx_Pt vjsR [vER14, vER33, vER41, vER46, vER47] vER48 vHR48 vHR48_14 = true := by decide +kernel
set_option maxRecDepth 1000000 in
theorem vkR48_15 : zv_ch zx_Yt zx_dt zx_rmt zx_Pt vjsR [vER14, vER33, vER41, vER46, vER47] vER48 vHR48 vHR48_15 = true := by decide +kernel
set_option maxRecDepth 1000000 in
theorem vkR48_16 : zv_ch zx_Yt zx_dt zx_rmt zx_Pt vjsR [vER14, vER33, vER41, vER46, vER47] vER48 vHR48 vHR48_16 = true := by decide +kernel
set_option maxRecDepth 1000000 in
theorem vkR48_17 : zv_ch zx_Yt zx_dt zx_rmt zx_Pt vjsR [vER14, vER33, vER41, vER46, vER47] vER48 vHR48 vHR48_17 = true := by decide +kernel
set_option maxRecDepth 1000000 in
theorem vkR48_18 : zv_ch zx_Yt zx_dt zx_rmt zx_Pt vjsR [vER14, vER33, vER41, vER46, vER47] vER48 vHR48 vHR48_18 = true := by decide +kernel
set_option maxRecDepth 1000000 in
theorem vkR48_19 : zv_ch zx_Yt zx_dt zx_rmt zx_Pt vjsR [vER14, vER33, vER41, vER46, vER47] vER48 vHR48 vHR48_19 = true := by decide +kernel
set_option maxRecDepth 1000000 in
theorem vkR48_20 : zv_ch zx_Yt zx_dt zx_rmt zx_Pt vjsR [vER14, vER33, vER41, vER46, vER47] vER48 vHR48 vHR48_20 = true := by decide +kernel
set_option maxRecDepth 1000000 in
theorem vkR48_21 : zv_ch zx_Yt zx_dt zx_rmt zx_Pt vjsR [vER14, vER33, vER41, vER46, vER47] vER48 vHR48 vHR48_21 = true := by decide +kernel
set_option maxRecDepth 1000000 in
theorem vkR48_22 : zv_ch zx_Yt zx_dt zx_rmt zx_Pt vjsR [vER14, vER33, vER41, vER46, vER47] vER48 vHR48 vHR48_22 = true := by decide +kernel
set_option maxRecDepth 1000000 in
theorem vkR48_23 : zv_ch zx_Yt zx_dt zx_rmt zx_Pt vjsR [vER14, vER33, vER41, vER46, vER47] vER48 vHR48 vHR48_23 = true := by decide +kernel
set_option maxRecDepth 1000000 in
theorem vkR48_24 : zv_ch zx_Yt zx_dt zx_rmt zx_Pt vjsR [vER14, vER33, vER41, vER46, vER47] vER48 vHR48 vHR48_24 = true := by decide +kernel
set_option maxRecDepth 1000000 in
theorem vkR48_25 : zv_ch zx_Yt zx_dt zx_rmt zx_Pt vjsR [vER14, vER33, vER41, vER46, vER47] vER48 vHR48 vHR48_25 = true := by decide +kernel
set_option maxRecDepth 1000000 in
theorem vkR48_26 : zv_ch zx_Yt zx_dt zx_rmt zx_Pt vjsR [vER14, vER33, vER41, vER46, vER47] vER48 vHR48 vHR48_26 = true := by decide +kernel
set_option maxRecDepth 1000000 in
theorem vkR48_27 : zv_ch zx_Yt zx_dt zx_rmt zx_Pt vjsR [vER14, vER33, vER41, vER46, vER47] vER48 vHR48 vHR48_27 = true := by decide +kernel
