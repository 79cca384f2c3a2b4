/-! zx: kept runs -/
set_option maxRecDepth 1000000 in
theorem zx_kp0 : zx_kp zx_en0 = true := by decide +kernel
set_option maxRecDepth 1000000 in
theorem zx_kp1 : zx_kp zx_en1 = true := by decide +kernel
set_option maxRecDepth 1000000 in
theorem zx_kp2 : zx_kp zx_en2 = true := by decide +kernel
set_option maxRecDepth 1000000 in
theorem zx_kp3 : zx_kp zx_en3 = true := by decide +kernel
set_option maxRecDepth 1000000 in
theorem zx_kp4 : zx_kp zx_en4 = true := by decide +kernel
set_option maxRecDepth 1000000 in
theorem zx_kp5 : zx_kp zx_en5 = true := by decide +kernel
set_option maxRecDepth 1000000 in
theorem zx_kp6 : zx_kp zx_en6 = true := by decide +kernel
set_option maxRecDepth 1000000 in
theorem zx_kp7 : zx_kp zx_en7 = true := by decide +kernel
set_option maxRecDepth 1000000 in
theorem zx_kp8 : zx_kp zx_en8 = true := by decide +kernel
set_option maxRecDepth 1000000 in
theorem zx_kp9 : zx_kp zx_en9 = true := by decide +kernel
set_option maxRecDepth 1000000 in
theorem zx_kp10 : zx_kp zx_en10 = true := by decide +kernel
set_option maxRecDepth 1000000 in
theorem zx_kp11 : zx_kp zx_en11 = true := by decide +kernel
set_option maxRecDepth 1000000 in
theorem zx_kp12 : zx_kp zx_en12 = true := by decide +kernel
set_option maxRecDepth 1000000 in
theorem zx_kp13 : zx_kp zx_en13 = true := by decide +kernel
set_option maxRecDepth 1000000 in
theorem zx_kp14 : zx_kp zx_en14 = true := by decide +kernel
set_option maxRecDepth 1000000 in
theorem zx_kp15 : zx_kp zx_en15 = true := by decide +kernel
