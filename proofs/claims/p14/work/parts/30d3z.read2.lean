set_option maxRecDepth 1000000 in
theorem vkC57_23 : zv_ch zx_Yt zx_dt zx_rmt zx_Pt vjsC [vEC9, vEC11, vEC13, vEC56] vEC57 vHD57 vHD57_23 = true := by decide +kernel
set_option maxRecDepth 1000000 in
theorem vkC57_24 : zv_ch zx_Yt zx_dt zx_rmt zx_Pt vjsC [vEC9, vEC11, vEC13, vEC56] vEC57 vHD57 vHD57_24 = true := by decide +kernel
set_option maxRecDepth 1000000 in
theorem vkC57_25 : zv_ch zx_Yt zx_dt zx_rmt zx_Pt vjsC [vEC9, vEC11, vEC13, vEC56] vEC57 vHD57 vHD57_25 = true := by decide +kernel
set_option maxRecDepth 1000000 in
theorem vkC57_26 : zv_ch zx_Yt zx_dt zx_rmt zx_Pt vjsC [vEC9, vEC11, vEC13, vEC56] vEC57 vHD57 vHD57_26 = true := by decide +kernel
set_option maxRecDepth 1000000 in
theorem vkC57_27 : zv_ch zx_Yt zx_dt zx_rmt zx_Pt vjsC [vEC9, vEC11, vEC13, vEC56] vEC57 vHD57 vHD57_27 = true := by decide +kernel
set_option maxRecDepth 1000000 in
theorem vkC57_28 : zv_ch zx_Yt zx_dt zx_rmt zx_Pt vjsC [vEC9, vEC11, vEC13, vEC56] vEC57 vHD57 vHD57_28 = true := by decide +kernel
set_option maxRecDepth 1000000 in
theorem vkC57_29 : zv_ch zx_Yt zx_dt zx_rmt zx_Pt vjsC [vEC9, vEC11, vEC13, vEC56] vEC57 vHD57 vHD57_29 = true := by decide +kernel
set_option maxRecDepth 1000000 in
theorem vkC57_30 : zv_ch zx_Yt zx_dt zx_rmt zx_Pt vjsC [vEC9, vEC11, vEC13, vEC56] vEC57 vHD57 vHD57_30 = true := by decide +kernel
set_option maxRecDepth 1000000 in
theorem vkC57_31 : zv_ch zx_Yt zx_dt zx_rmt zx_Pt vjsC [vEC9, vEC11, vEC13, vEC56] vEC57 vHD57 vHD57_31 = true := by decide +kernel
set_option maxRecDepth 1000000 in
theorem vkC57_32 : zv_ch zx_Yt zx_dt zx_rmt zx_Pt vjsC [vEC9, vEC11, vEC13, vEC56] vEC57 vHD57 vHD57_32 = true := by decide +kernel
set_option maxRecDepth 1000000 in
theorem vkC57_33 : zv_ch zx_Yt zx_dt zx_rmt zx_Pt vjsC [vEC9, vEC11, vEC13, vEC56] vEC57 vHD57 vHD57_33 = true := by decide +kernel
set_option maxRecDepth 1000000 in
theorem vkC57_34 : zv_ch zx_Yt zx_dt zx_rmt zx_Pt vjsC [vEC9, vEC11, vEC13, vEC56] vEC57 vHD57 vHD57_34 = true := by decide +kernel
