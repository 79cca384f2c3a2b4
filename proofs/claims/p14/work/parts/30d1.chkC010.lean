set_option maxRecDepth 1000000 in
theorem vkC88 : zv_chk zx_Yt zx_dt zx_rmt zx_Pt vjsC [] vEC88 vHC88 = true := by decide +kernel
set_option maxRecDepth 1000000 in
theorem vkC89 : zv_chk zx_Yt zx_dt zx_rmt zx_Pt vjsC [] vEC89 vHC89 = true := by decide +kernel
set_option maxRecDepth 1000000 in
theorem vkC90 : zv_chk zx_Yt zx_dt zx_rmt zx_Pt vjsC [] vEC90 vHC90 = true := by decide +kernel
set_option maxRecDepth 1000000 in
theorem vkC91 : zv_chk zx_Yt zx_dt zx_rmt zx_Pt vjsC [vEC90] vEC91 vHC91 = true := by decide +kernel
set_option maxRecDepth 1000000 in
theorem vkC92 : zv_chk zx_Yt zx_dt zx_rmt zx_Pt vjsC [vEC90] vEC92 vHC92 = true := by decide +kernel
set_option maxRecDepth 1000000 in
theorem vkC93 : zv_chk zx_Yt zx_dt zx_rmt zx_Pt vjsC [] vEC93 vHC93 = true := by decide +kernel
set_option maxRecDepth 1000000 in
theorem vkC94 : zv_chk zx_Yt zx_dt zx_rmt zx_Pt vjsC [vEC90] vEC94 vHC94 = true := by decide +kernel
set_option maxRecDepth 1000000 in
theorem vkC95 : zv_chk zx_Yt zx_dt zx_rmt zx_Pt vjsC [vEC90, vEC94] vEC95 vHC95 = true := by decide +kernel
set_option maxRecDepth 1000000 in
theorem vkC96 : zv_chk zx_Yt zx_dt zx_rmt zx_Pt vjsC [vEC95] vEC96 vHC96 = true := by decide +kernel
set_option maxRecDepth 1000000 in
theorem vkC97 : zv_chk zx_Yt zx_dt zx_rmt zx_Pt vjsC [vEC91, vEC92, vEC93, vEC96] vEC97 vHC97 = true := by decide +kernel
set_option maxRecDepth 1000000 in
theorem vkC98 : zv_chk zx_Yt zx_dt zx_rmt zx_Pt vjsC [vEC81, vEC82, vEC83, vEC84, vEC85, vEC87, vEC88, vEC89, vEC97] vEC98 vHC98 = true := by decide +kernel
set_option maxRecDepth 1000000 in
theorem vkC99 : zv_chk zx_Yt zx_dt zx_rmt zx_Pt vjsC [vEC72, vEC74, vEC98] vEC99 vHC99 = true := by decide +kernel
set_option maxRecDepth 1000000 in
theorem vkC100 : zv_chk zx_Yt zx_dt zx_rmt zx_Pt vjsC [vEC72, vEC79] vEC100 vHC100 = true := by decide +kernel
set_option maxRecDepth 1000000 in
theorem vkC101 : zv_chk zx_Yt zx_dt zx_rmt zx_Pt vjsC [vEC75] vEC101 vHC101 = true := by decide +kernel
set_option maxRecDepth 1000000 in
theorem vkC102 : zv_chk zx_Yt zx_dt zx_rmt zx_Pt vjsC [vEC72, vEC101] vEC102 vHC102 = true := by decide +kernel
set_option maxRecDepth 1000000 in
theorem vkC103 : zv_chk zx_Yt zx_dt zx_rmt zx_Pt vjsC [] vEC103 vHC103 = true := by decide +kernel
set_option maxRecDepth 1000000 in
theorem vkC104 : zv_chk zx_Yt zx_dt zx_rmt zx_Pt vjsC [] vEC104 vHC104 = true := by decide +kernel
