set_option maxRecDepth 1000000 in
theorem vkC62 : zv_chk zx_Yt zx_dt zx_rmt zx_Pt vjsC [vEC61] vEC62 vHC62 = true := by decide +kernel
set_option maxRecDepth 1000000 in
theorem vkC63 : zv_chk zx_Yt zx_dt zx_rmt zx_Pt vjsC [] vEC63 vHC63 = true := by decide +kernel
set_option maxRecDepth 1000000 in
theorem vkC64 : zv_chk zx_Yt zx_dt zx_rmt zx_Pt vjsC [vEC12] vEC64 vHC64 = true := by decide +kernel
set_option maxRecDepth 1000000 in
theorem vkC65 : zv_chk zx_Yt zx_dt zx_rmt zx_Pt vjsC [] vEC65 vHC65 = true := by decide +kernel
set_option maxRecDepth 1000000 in
theorem vkC66 : zv_chk zx_Yt zx_dt zx_rmt zx_Pt vjsC [] vEC66 vHC66 = true := by decide +kernel
set_option maxRecDepth 1000000 in
theorem vkC67 : zv_chk zx_Yt zx_dt zx_rmt zx_Pt vjsC [] vEC67 vHC67 = true := by decide +kernel
set_option maxRecDepth 1000000 in
theorem vkC68 : zv_chk zx_Yt zx_dt zx_rmt zx_Pt vjsC [] vEC68 vHC68 = true := by decide +kernel
set_option maxRecDepth 1000000 in
theorem vkC69 : zv_chk zx_Yt zx_dt zx_rmt zx_Pt vjsC [] vEC69 vHC69 = true := by decide +kernel
set_option maxRecDepth 1000000 in
theorem vkC70 : zv_chk zx_Yt zx_dt zx_rmt zx_Pt vjsC [] vEC70 vHC70 = true := by decide +kernel
set_option maxRecDepth 1000000 in
theorem vkC71 : zv_chk zx_Yt zx_dt zx_rmt zx_Pt vjsC [] vEC71 vHC71 = true := by decide +kernel
set_option maxRecDepth 1000000 in
theorem vkC72 : zv_chk zx_Yt zx_dt zx_rmt zx_Pt vjsC [vEC65, vEC66, vEC67, vEC68, vEC69, vEC70, vEC71] vEC72 vHC72 = true := by decide +kernel
set_option maxRecDepth 1000000 in
theorem vkC73 : zv_chk zx_Yt zx_dt zx_rmt zx_Pt vjsC [vEC72] vEC73 vHC73 = true := by decide +kernel
set_option maxRecDepth 1000000 in
theorem vkC74 : zv_chk zx_Yt zx_dt zx_rmt zx_Pt vjsC [] vEC74 vHC74 = true := by decide +kernel
set_option maxRecDepth 1000000 in
theorem vkC75 : zv_chk zx_Yt zx_dt zx_rmt zx_Pt vjsC [] vEC75 vHC75 = true := by decide +kernel
set_option maxRecDepth 1000000 in
theorem vkC76 : zv_chk zx_Yt zx_dt zx_rmt zx_Pt vjsC [vEC75] vEC76 vHC76 = true := by decide +kernel
