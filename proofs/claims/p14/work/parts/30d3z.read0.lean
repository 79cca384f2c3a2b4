set_option maxRecDepth 1000000 in
theorem vkC57_e : zv_ce zx_Yt zx_dt zx_rmt zx_Pt vjsC [vEC9, vEC11, vEC13, vEC56] vEC57 vHD57 = true := by decide +kernel
set_option maxRecDepth 1000000 in
theorem vkC57_0 : zv_ch zx_Yt zx_dt zx_rmt zx_Pt vjsC [vEC9, vEC11, vEC13, vEC56] vEC57 vHD57 vHD57_0 = true := by decide +kernel
set_option maxRecDepth 1000000 in
theorem vkC57_1 : zv_ch zx_Yt zx_dt zx_rmt zx_Pt vjsC [vEC9, vEC11, vEC13, vEC56] vEC57 vHD57 vHD57_1 = true := by decide +kernel
set_option maxRecDepth 1000000 in
theorem vkC57_2 : zv_ch zx_Yt zx_dt zx_rmt zx_Pt vjsC [vEC9, vEC11, vEC13, vEC56] vEC57 vHD57 vHD57_2 = true := by decide +kernel
set_option maxRecDepth 1000000 in
theorem vkC57_3 : zv_ch zx_Yt zx_dt zx_rmt zx_Pt vjsC [vEC9, vEC11, vEC13, vEC56] vEC57 vHD57 vHD57_3 = true := by decide +kernel
set_option maxRecDepth 1000000 in
theorem vkC57_4 : zv_ch zx_Yt zx_dt zx_rmt zx_Pt vjsC [vEC9, vEC11, vEC13, vEC56] vEC57 vHD57 vHD57_4 = true := by decide +kernel
set_option maxRecDepth 1000000 in
theorem vkC57_5 : zv_ch zx_Yt zx_dt zx_rmt zx_Pt vjsC [vEC9, vEC11, vEC13, vEC56] vEC57 vHD57 vHD57_5 = true := by decide +kernel
set_option maxRecDepth 1000000 in
theorem vkC57_6 : zv_ch zx_Yt zx_dt zx_rmt zx_Pt vjsC [vEC9, vEC11, vEC13, vEC56] vEC57 vHD57 vHD57_6 = true := by decide +kernel
set_option maxRecDepth 1000000 in
theorem vkC57_7 : zv_ch zx_Yt zx_dt zx_rmt zx_Pt vjsC [vEC9, vEC11, vEC13, vEC56] vEC57 vHD57 vHD57_7 = true := by decide +kernel
set_option maxRecDepth 1000000 in
theorem vkC57_8 : zv_ch zx_Yt zx_dt zx_rmt zx_Pt vjsC [vEC9, vEC11, vEC13, vEC56] vEC57 vHD57 vHD57_8 = true := by decide +kernel
set_option maxRecDepth 1000000 in
theorem vkC57_9 : zv_ch zx_Yt zx_dt zx_rmt zx_Pt vjsC [vEC9, vEC11, vEC13, vEC56] vEC57 vHD57 vHD57_9 = true := by decide +kernel
set_option maxRecDepth 1000000 in
theorem vkC57_10 : zv_ch zx_Yt zx_dt zx_rmt zx_Pt vjsC [vEC9, vEC11, vEC13, vEC56] vEC57 vHD57 vHD57_10 = true := by decide +kernel
