set_option maxRecDepth 1000000 in
theorem vkC77_e : zv_ce zx_Yt zx_dt zx_rmt zx_Pt vjsC [] vEC77 vHD77 = true := by decide +kernel
set_option maxRecDepth 1000000 in
theorem vkC77_0 : zv_ch zx_Yt zx_dt zx_rmt zx_Pt vjsC [] vEC77 vHD77 vHD77_0 = true := by decide +kernel
set_option maxRecDepth 1000000 in
theorem vkC77_1 : zv_ch zx_Yt zx_dt zx_rmt zx_Pt vjsC [] vEC77 vHD77 vHD77_1 = true := by decide +kernel
set_option maxRecDepth 1000000 in
theorem vkC77_2 : zv_ch zx_Yt zx_dt zx_rmt zx_Pt vjsC [] vEC77 vHD77 vHD77_2 = true := by decide +kernel
set_option maxRecDepth 1000000 in
theorem vkC77_3 : zv_ch zx_Yt zx_dt zx_rmt zx_Pt vjsC [] vEC77 vHD77 vHD77_3 = true := by decide +kernel
