set_option maxRecDepth 1000000 in
theorem vkC32 : zv_chk zx_Yt zx_dt zx_rmt zx_Pt vjsC [vEC17, vEC18, vEC19, vEC20, vEC21, vEC23, vEC24, vEC25, vEC31] vEC32 vHC32 = true := by decide +kernel
set_option maxRecDepth 1000000 in
theorem vkC33 : zv_chk zx_Yt zx_dt zx_rmt zx_Pt vjsC [] vEC33 vHC33 = true := by decide +kernel
set_option maxRecDepth 1000000 in
theorem vkC34 : zv_chk zx_Yt zx_dt zx_rmt zx_Pt vjsC [vEC11] vEC34 vHC34 = true := by decide +kernel
set_option maxRecDepth 1000000 in
theorem vkC35 : zv_chk zx_Yt zx_dt zx_rmt zx_Pt vjsC [] vEC35 vHC35 = true := by decide +kernel
set_option maxRecDepth 1000000 in
theorem vkC36 : zv_chk zx_Yt zx_dt zx_rmt zx_Pt vjsC [] vEC36 vHC36 = true := by decide +kernel
set_option maxRecDepth 1000000 in
theorem vkC37 : zv_chk zx_Yt zx_dt zx_rmt zx_Pt vjsC [] vEC37 vHC37 = true := by decide +kernel
set_option maxRecDepth 1000000 in
theorem vkC38 : zv_chk zx_Yt zx_dt zx_rmt zx_Pt vjsC [] vEC38 vHC38 = true := by decide +kernel
set_option maxRecDepth 1000000 in
theorem vkC39 : zv_chk zx_Yt zx_dt zx_rmt zx_Pt vjsC [vEC38] vEC39 vHC39 = true := by decide +kernel
