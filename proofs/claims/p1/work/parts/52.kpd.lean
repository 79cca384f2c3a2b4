/-! zx: kept runs -/
set_option maxRecDepth 1000000 in
theorem zx_kp16 : zx_kp zx_en16 = true := by decide +kernel
set_option maxRecDepth 1000000 in
theorem zx_kp18 : zx_kp zx_en18 = true := by decide +kernel
