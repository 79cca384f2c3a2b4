set_option maxRecDepth 1000000 in
theorem vkC105 : zv_chk zx_Yt zx_dt zx_rmt zx_Pt vjsC [] vEC105 vHC105 = true := by decide +kernel
set_option maxRecDepth 1000000 in
theorem vkC106 : zv_chk zx_Yt zx_dt zx_rmt zx_Pt vjsC [] vEC106 vHC106 = true := by decide +kernel
set_option maxRecDepth 1000000 in
theorem vkC107 : zv_chk zx_Yt zx_dt zx_rmt zx_Pt vjsC [vEC106] vEC107 vHC107 = true := by decide +kernel
set_option maxRecDepth 1000000 in
theorem vkC108 : zv_chk zx_Yt zx_dt zx_rmt zx_Pt vjsC [] vEC108 vHC108 = true := by decide +kernel
set_option maxRecDepth 1000000 in
theorem vkC109 : zv_chk zx_Yt zx_dt zx_rmt zx_Pt vjsC [vEC103, vEC104, vEC105, vEC107, vEC108] vEC109 vHC109 = true := by decide +kernel
set_option maxRecDepth 1000000 in
theorem vkC110 : zv_chk zx_Yt zx_dt zx_rmt zx_Pt vjsC [vEC72, vEC109] vEC110 vHC110 = true := by decide +kernel
set_option maxRecDepth 1000000 in
theorem vkC111 : zv_chk zx_Yt zx_dt zx_rmt zx_Pt vjsC [vEC72, vEC109] vEC111 vHC111 = true := by decide +kernel
set_option maxRecDepth 1000000 in
theorem vkC112 : zv_chk zx_Yt zx_dt zx_rmt zx_Pt vjsC [vEC91, vEC93, vEC96] vEC112 vHC112 = true := by decide +kernel
set_option maxRecDepth 1000000 in
theorem vkC113 : zv_chk zx_Yt zx_dt zx_rmt zx_Pt vjsC [vEC112] vEC113 vHC113 = true := by decide +kernel
set_option maxRecDepth 1000000 in
theorem vkC114 : zv_chk zx_Yt zx_dt zx_rmt zx_Pt vjsC [vEC71, vEC81, vEC82] vEC114 vHC114 = true := by decide +kernel
