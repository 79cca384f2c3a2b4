set_option maxRecDepth 1000000 in
theorem vkR48_28 : zv_ch zx_Yt zx_dt zx_rmt zx_Pt vjsR [vER14, vER33, vER41, vER46, vER47] vER48 vHR48 vHR48_28 = true := by decide +kernel
set_option maxRecDepth 1000000 in
theorem vkR48_29 : zv_ch zx_Yt zx_dt zx_rmt zx_Pt vjsR [vER14, vER33, vER41, vER46, vER47] vER48 vHR48 vHR48_29 = true := by decide +kernel
set_option maxRecDepth 1000000 in
theorem vkR48_30 : zv_ch zx_Yt zx_dt zx_rmt zx_Pt vjsR [vER14, vER33, vER41, vER46, vER47] vER48 vHR48 vHR48_30 = true := by decide +kernel
set_option maxRecDepth 1000000 in
theorem vkR48_31 : zv_ch zx_Yt zx_dt zx_rmt zx_Pt vjsR [vER14, vER33, vER41, vER46, vER47] vER48 vHR48 vHR48_31 = true := by decide +kernel
set_option maxRecDepth 1000000 in
theorem vkR48_32 : zv_ch zx_Yt zx_dt zx_rmt zx_Pt vjsR [vER14, vER33, vER41, vER46, vER47] vER48 vHR48 vHR48_32 = true := by decide +kernel
set_option maxRecDepth 1000000 in
theorem vkR49 : zv_chk zx_Yt zx_dt zx_rmt zx_Pt vjsR [] vER49 vHR49 = true := by decide +kernel
set_option maxRecDepth 1000000 in
theorem vkR50 : zv_chk zx_Yt zx_dt zx_rmt zx_Pt vjsR [] vER50 vHR50 = true := by decide +kernel
