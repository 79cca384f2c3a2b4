set_option maxRecDepth 1000000 in
theorem vkC115 : zv_chk zx_Yt zx_dt zx_rmt zx_Pt vjsC [vEC72, vEC114] vEC115 vHC115 = true := by decide +kernel
set_option maxRecDepth 1000000 in
theorem vkC116 : zv_chk zx_Yt zx_dt zx_rmt zx_Pt vjsC [vEC71, vEC78, vEC79, vEC109] vEC116 vHC116 = true := by decide +kernel
set_option maxRecDepth 1000000 in
theorem vkC117 : zv_chk zx_Yt zx_dt zx_rmt zx_Pt vjsC [vEC72, vEC116] vEC117 vHC117 = true := by decide +kernel
set_option maxRecDepth 1000000 in
theorem vkC118 : zv_chk zx_Yt zx_dt zx_rmt zx_Pt vjsC [vEC72, vEC114, vEC116] vEC118 vHC118 = true := by decide +kernel
set_option maxRecDepth 1000000 in
theorem vkC119 : zv_chk zx_Yt zx_dt zx_rmt zx_Pt vjsC [] vEC119 vHC119 = true := by decide +kernel
set_option maxRecDepth 1000000 in
theorem vkC120 : zv_chk zx_Yt zx_dt zx_rmt zx_Pt vjsC [vEC119] vEC120 vHC120 = true := by decide +kernel
set_option maxRecDepth 1000000 in
theorem vkC121 : zv_chk zx_Yt zx_dt zx_rmt zx_Pt vjsC [] vEC121 vHC121 = true := by decide +kernel
set_option maxRecDepth 1000000 in
theorem vkC122 : zv_chk zx_Yt zx_dt zx_rmt zx_Pt vjsC [vEC71, vEC121] vEC122 vHC122 = true := by decide +kernel
set_option maxRecDepth 1000000 in
theorem vkC123 : zv_chk zx_Yt zx_dt zx_rmt zx_Pt vjsC [] vEC123 vHC123 = true := by decide +kernel
set_option maxRecDepth 1000000 in
theorem vkC124 : zv_chk zx_Yt zx_dt zx_rmt zx_Pt vjsC [vEC61, vEC71, vEC123] vEC124 vHC124 = true := by decide +kernel
set_option maxRecDepth 1000000 in
theorem vkC125 : zv_chk zx_Yt zx_dt zx_rmt zx_Pt vjsC [] vEC125 vHC125 = true := by decide +kernel
