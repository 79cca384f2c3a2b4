/-! zx: kept runs -/
set_option maxRecDepth 1000000 in
theorem zx_kp26 : zx_kp zx_en26 = true := by decide +kernel
set_option maxRecDepth 1000000 in
theorem zx_kp27 : zx_kp zx_en27 = true := by decide +kernel
set_option maxRecDepth 1000000 in
theorem zx_kp28 : zx_kp zx_en28 = true := by decide +kernel
set_option maxRecDepth 1000000 in
theorem zx_kp29 : zx_kp zx_en29 = true := by decide +kernel
set_option maxRecDepth 1000000 in
theorem zx_kp30 : zx_kp zx_en30 = true := by decide +kernel
set_option maxRecDepth 1000000 in
theorem zx_kp31 : zx_kp zx_en31 = true := by decide +kernel
set_option maxRecDepth 1000000 in
theorem zx_kp32 : zx_kp zx_en32 = true := by decide +kernel
