set_option maxRecDepth 1000000 in
theorem vkRw : zv_chk zx_Yt zx_dt zx_rmt zx_Pt vjsX [vER16, vER17, vER18, vER19, vER20, vER30, vER31, vER32] vERw vHDw = true := by decide +kernel
set_option maxRecDepth 1000000 in
theorem vkRc : zv_chk zx_Yt zx_dt zx_rmt zx_Pt vjsX [vER25, vER26, vER27, vER28, vER29] vERc vHDc = true := by decide +kernel
