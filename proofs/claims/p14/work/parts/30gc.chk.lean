set_option maxRecDepth 1000000 in
theorem vkS0 : zv_chk zx_Yt zx_dt zx_rmt zx_Pt vSjs [] vES0 vHS0 = true := by decide +kernel
set_option maxRecDepth 1000000 in
theorem vkS1 : zv_chk zx_Yt zx_dt zx_rmt zx_Pt vSjs [] vES1 vHS1 = true := by decide +kernel
set_option maxRecDepth 1000000 in
theorem vkS2 : zv_chk zx_Yt zx_dt zx_rmt zx_Pt vSjs [] vES2 vHS2 = true := by decide +kernel
theorem vnS2 {l : Launch} : vN l 9 vES2 := vGo (d := 0) vOK_nil (vYI _) vkS2
theorem vnS0 {l : Launch} : vN l 9 vES0 := vGo (d := 0) vOK_nil (vYI _) vkS0
theorem vnS1 {l : Launch} : vN l 9 vES1 := vGo (d := 0) vOK_nil (vYI _) vkS1
theorem vSEok {l : Launch} : vOK l 9 vSE := (vOK_cons vnR18 (by decide) (vOK_cons vnS2 (by decide) (vOK_cons vnR20 (by decide) (vOK_cons vnS0 (by decide) (vOK_cons vnS1 (by decide) vOK_nil)))))
