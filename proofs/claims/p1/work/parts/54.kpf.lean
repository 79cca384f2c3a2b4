/-! zx: kept runs -/
set_option maxRecDepth 1000000 in
theorem zx_kp36 : zx_kp zx_en36 = true := by decide +kernel
