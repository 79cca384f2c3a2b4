/-! zx: kept runs -/
set_option maxRecDepth 1000000 in
theorem zx_kp17 : zx_kp zx_en17 = true := by decide +kernel
set_option maxRecDepth 1000000 in
theorem zx_kp19 : zx_kp zx_en19 = true := by decide +kernel
set_option maxRecDepth 1000000 in
theorem zx_kp21 : zx_kp zx_en21 = true := by decide +kernel
set_option maxRecDepth 1000000 in
theorem zx_kp22 : zx_kp zx_en22 = true := by decide +kernel
set_option maxRecDepth 1000000 in
theorem zx_kp23 : zx_kp zx_en23 = true := by decide +kernel
set_option maxRecDepth 1000000 in
theorem zx_kp24 : zx_kp zx_en24 = true := by decide +kernel
set_option maxRecDepth 1000000 in
theorem zx_kp25 : zx_kp zx_en25 = true := by decide +kernel
