/-! zx: kept runs -/
set_option maxRecDepth 1000000 in
theorem zx_kp20 : zx_kp zx_en20 = true := by decide +kernel
set_option maxRecDepth 1000000 in
theorem zx_kp33 : zx_kp zx_en33 = true := by decide +kernel
set_option maxRecDepth 1000000 in
theorem zx_kp34 : zx_kp zx_en34 = true := by decide +kernel
set_option maxRecDepth 1000000 in
theorem zx_kp35 : zx_kp zx_en35 = true := by decide +kernel
