set_option maxRecDepth 1000000 in
theorem vkR42 : zv_chk zx_Yt zx_dt zx_rmt zx_Pt vjsR [vER16, vER17, vER18, vER19, vER20, vER30, vER31, vER32] vER42 vHR42 = true := by decide +kernel
