set_option maxRecDepth 1000000 in
theorem vkC57_11 : zv_ch zx_Yt zx_dt zx_rmt zx_Pt vjsC [vEC9, vEC11, vEC13, vEC56] vEC57 vHD57 vHD57_11 = true := by decide +kernel
set_option maxRecDepth 1000000 in
theorem vkC57_12 : zv_ch zx_Yt zx_dt zx_rmt zx_Pt vjsC [vEC9, vEC11, vEC13, vEC56] vEC57 vHD57 vHD57_12 = true := by decide +kernel
set_option maxRecDepth 1000000 in
theorem vkC57_13 : zv_ch zx_Yt zx_dt zx_rmt zx_Pt vjsC [vEC9, vEC11, vEC13, vEC56] vEC57 vHD57 vHD57_13 = true := by decide +kernel
set_option maxRecDepth 1000000 in
theorem vkC57_14 : zv_ch zx_Yt zx_dt zx_rmt zx_Pt vjsC [vEC9, vEC11, vEC13, vEC56] vEC57 vHD57 vHD57_14 = true := by decide +kernel
set_option maxRecDepth 1000000 in
theorem vkC57_15 : zv_ch zx_Yt zx_dt zx_rmt zx_Pt vjsC [vEC9, vEC11, vEC13, vEC56] vEC57 vHD57 vHD57_15 = true := by decide +kernel
set_option maxRecDepth 1000000 in
theorem vkC57_16 : zv_ch zx_Yt zx_dt zx_rmt zx_Pt vjsC [vEC9, vEC11, vEC13, vEC56] vEC57 vHD57 vHD57_16 = true := by decide +kernel
set_option maxRecDepth 1000000 in
theorem vkC57_17 : zv_ch zx_Yt zx_dt zx_rmt zx_Pt vjsC [vEC9, vEC11, vEC13, vEC56] vEC57 vHD57 vHD57_17 = true := by decide +kernel
set_option maxRecDepth 1000000 in
theorem vkC57_18 : zv_ch zx_Yt zx_dt zx_rmt zx_Pt vjsC [vEC9, vEC11, vEC13, vEC56] vEC57 vHD57 vHD57_18 = true := by decide +kernel
set_option maxRecDepth 1000000 in
theorem vkC57_19 : zv_ch zx_Yt zx_dt zx_rmt zx_Pt vjsC [vEC9, vEC11, vEC13, vEC56] vEC57 vHD57 vHD57_19 = true := by decide +kernel
set_option maxRecDepth 1000000 in
theorem vkC57_20 : zv_ch zx_Yt zx_dt zx_rmt zx_Pt vjsC [vEC9, vEC11, vEC13, vEC56] vEC57 vHD57 vHD57_20 = true := by decide +kernel
set_option maxRecDepth 1000000 in
theorem vkC57_21 : zv_ch zx_Yt zx_dt zx_rmt zx_Pt vjsC [vEC9, vEC11, vEC13, vEC56] vEC57 vHD57 vHD57_21 = true := by decide +kernel
set_option maxRecDepth 1000000 in
theorem vkC57_22 : zv_ch zx_Yt zx_dt zx_rmt zx_Pt vjsC [vEC9, vEC11, vEC13, vEC56] vEC57 vHD57 vHD57_22 = true := by decide +kernel
