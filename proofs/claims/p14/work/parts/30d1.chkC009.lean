set_option maxRecDepth 1000000 in
theorem vkC78 : zv_chk zx_Yt zx_dt zx_rmt zx_Pt vjsC [] vEC78 vHC78 = true := by decide +kernel
set_option maxRecDepth 1000000 in
theorem vkC79 : zv_chk zx_Yt zx_dt zx_rmt zx_Pt vjsC [] vEC79 vHC79 = true := by decide +kernel
set_option maxRecDepth 1000000 in
theorem vkC80 : zv_chk zx_Yt zx_dt zx_rmt zx_Pt vjsC [vEC78, vEC79] vEC80 vHC80 = true := by decide +kernel
set_option maxRecDepth 1000000 in
theorem vkC81 : zv_chk zx_Yt zx_dt zx_rmt zx_Pt vjsC [vEC76, vEC77, vEC80] vEC81 vHC81 = true := by decide +kernel
set_option maxRecDepth 1000000 in
theorem vkC82 : zv_chk zx_Yt zx_dt zx_rmt zx_Pt vjsC [] vEC82 vHC82 = true := by decide +kernel
set_option maxRecDepth 1000000 in
theorem vkC83 : zv_chk zx_Yt zx_dt zx_rmt zx_Pt vjsC [] vEC83 vHC83 = true := by decide +kernel
set_option maxRecDepth 1000000 in
theorem vkC84 : zv_chk zx_Yt zx_dt zx_rmt zx_Pt vjsC [] vEC84 vHC84 = true := by decide +kernel
set_option maxRecDepth 1000000 in
theorem vkC85 : zv_chk zx_Yt zx_dt zx_rmt zx_Pt vjsC [] vEC85 vHC85 = true := by decide +kernel
set_option maxRecDepth 1000000 in
theorem vkC86 : zv_chk zx_Yt zx_dt zx_rmt zx_Pt vjsC [] vEC86 vHC86 = true := by decide +kernel
set_option maxRecDepth 1000000 in
theorem vkC87 : zv_chk zx_Yt zx_dt zx_rmt zx_Pt vjsC [vEC86] vEC87 vHC87 = true := by decide +kernel
