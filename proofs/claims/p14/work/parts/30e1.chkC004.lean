set_option maxRecDepth 1000000 in
theorem vkC36 : zv_chk zx_Yt zx_dt zx_rmt zx_Pt vjsC [vEC9, vEC17, vEC35] vEC36 vHC36 = true := by decide +kernel
set_option maxRecDepth 1000000 in
theorem vkC37 : zv_chk zx_Yt zx_dt zx_rmt zx_Pt vjsC [vEC9, vEC10, vEC17, vEC18, vEC34, vEC36] vEC37 vHC37 = true := by decide +kernel
set_option maxRecDepth 1000000 in
theorem vkC38 : zv_chk zx_Yt zx_dt zx_rmt zx_Pt vjsC [vEC9, vEC17, vEC37] vEC38 vHC38 = true := by decide +kernel
set_option maxRecDepth 1000000 in
theorem vkC39 : zv_chk zx_Yt zx_dt zx_rmt zx_Pt vjsC [vEC9, vEC17, vEC38] vEC39 vHC39 = true := by decide +kernel
set_option maxRecDepth 1000000 in
theorem vkC40 : zv_chk zx_Yt zx_dt zx_rmt zx_Pt vjsC [vEC9, vEC10, vEC17, vEC18, vEC37, vEC39] vEC40 vHC40 = true := by decide +kernel
set_option maxRecDepth 1000000 in
theorem vkC41 : zv_chk zx_Yt zx_dt zx_rmt zx_Pt vjsC [vEC9, vEC17, vEC40] vEC41 vHC41 = true := by decide +kernel
set_option maxRecDepth 1000000 in
theorem vkC42 : zv_chk zx_Yt zx_dt zx_rmt zx_Pt vjsC [vEC9, vEC17, vEC41] vEC42 vHC42 = true := by decide +kernel
set_option maxRecDepth 1000000 in
theorem vkC43 : zv_chk zx_Yt zx_dt zx_rmt zx_Pt vjsC [vEC9, vEC10, vEC17, vEC18, vEC40, vEC42] vEC43 vHC43 = true := by decide +kernel
set_option maxRecDepth 1000000 in
theorem vkC44 : zv_chk zx_Yt zx_dt zx_rmt zx_Pt vjsC [vEC9, vEC17, vEC43] vEC44 vHC44 = true := by decide +kernel
set_option maxRecDepth 1000000 in
theorem vkC45 : zv_chk zx_Yt zx_dt zx_rmt zx_Pt vjsC [vEC9, vEC17, vEC44] vEC45 vHC45 = true := by decide +kernel
set_option maxRecDepth 1000000 in
theorem vkC46 : zv_chk zx_Yt zx_dt zx_rmt zx_Pt vjsC [vEC9, vEC10, vEC17, vEC18, vEC43, vEC45] vEC46 vHC46 = true := by decide +kernel
set_option maxRecDepth 1000000 in
theorem vkC47 : zv_chk zx_Yt zx_dt zx_rmt zx_Pt vjsC [vEC9, vEC17, vEC46] vEC47 vHC47 = true := by decide +kernel
set_option maxRecDepth 1000000 in
theorem vkC48 : zv_chk zx_Yt zx_dt zx_rmt zx_Pt vjsC [vEC9, vEC17, vEC47] vEC48 vHC48 = true := by decide +kernel
set_option maxRecDepth 1000000 in
theorem vkC49 : zv_chk zx_Yt zx_dt zx_rmt zx_Pt vjsC [vEC9, vEC10, vEC17, vEC18, vEC46, vEC48] vEC49 vHC49 = true := by decide +kernel
