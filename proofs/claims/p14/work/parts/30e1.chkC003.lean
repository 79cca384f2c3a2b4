set_option maxRecDepth 1000000 in
theorem vkC22 : zv_chk zx_Yt zx_dt zx_rmt zx_Pt vjsC [vEC9, vEC10, vEC17, vEC18, vEC19, vEC21] vEC22 vHC22 = true := by decide +kernel
set_option maxRecDepth 1000000 in
theorem vkC23 : zv_chk zx_Yt zx_dt zx_rmt zx_Pt vjsC [vEC9, vEC17, vEC22] vEC23 vHC23 = true := by decide +kernel
set_option maxRecDepth 1000000 in
theorem vkC24 : zv_chk zx_Yt zx_dt zx_rmt zx_Pt vjsC [vEC9, vEC17, vEC23] vEC24 vHC24 = true := by decide +kernel
set_option maxRecDepth 1000000 in
theorem vkC25 : zv_chk zx_Yt zx_dt zx_rmt zx_Pt vjsC [vEC9, vEC10, vEC17, vEC18, vEC22, vEC24] vEC25 vHC25 = true := by decide +kernel
set_option maxRecDepth 1000000 in
theorem vkC26 : zv_chk zx_Yt zx_dt zx_rmt zx_Pt vjsC [vEC9, vEC17, vEC25] vEC26 vHC26 = true := by decide +kernel
set_option maxRecDepth 1000000 in
theorem vkC27 : zv_chk zx_Yt zx_dt zx_rmt zx_Pt vjsC [vEC9, vEC17, vEC26] vEC27 vHC27 = true := by decide +kernel
set_option maxRecDepth 1000000 in
theorem vkC28 : zv_chk zx_Yt zx_dt zx_rmt zx_Pt vjsC [vEC9, vEC10, vEC17, vEC18, vEC25, vEC27] vEC28 vHC28 = true := by decide +kernel
set_option maxRecDepth 1000000 in
theorem vkC29 : zv_chk zx_Yt zx_dt zx_rmt zx_Pt vjsC [vEC9, vEC17, vEC28] vEC29 vHC29 = true := by decide +kernel
set_option maxRecDepth 1000000 in
theorem vkC30 : zv_chk zx_Yt zx_dt zx_rmt zx_Pt vjsC [vEC9, vEC17, vEC29] vEC30 vHC30 = true := by decide +kernel
set_option maxRecDepth 1000000 in
theorem vkC31 : zv_chk zx_Yt zx_dt zx_rmt zx_Pt vjsC [vEC9, vEC10, vEC17, vEC18, vEC28, vEC30] vEC31 vHC31 = true := by decide +kernel
set_option maxRecDepth 1000000 in
theorem vkC32 : zv_chk zx_Yt zx_dt zx_rmt zx_Pt vjsC [vEC9, vEC17, vEC31] vEC32 vHC32 = true := by decide +kernel
set_option maxRecDepth 1000000 in
theorem vkC33 : zv_chk zx_Yt zx_dt zx_rmt zx_Pt vjsC [vEC9, vEC17, vEC32] vEC33 vHC33 = true := by decide +kernel
set_option maxRecDepth 1000000 in
theorem vkC34 : zv_chk zx_Yt zx_dt zx_rmt zx_Pt vjsC [vEC9, vEC10, vEC17, vEC18, vEC31, vEC33] vEC34 vHC34 = true := by decide +kernel
set_option maxRecDepth 1000000 in
theorem vkC35 : zv_chk zx_Yt zx_dt zx_rmt zx_Pt vjsC [vEC9, vEC17, vEC34] vEC35 vHC35 = true := by decide +kernel
