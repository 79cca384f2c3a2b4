/-! zx: calls whose two answers are the same by running both -/
set_option maxRecDepth 1000000 in
theorem zx_o168 : zx_lB zx_ft 400 (zx_qA 168 0) = true := by decide +kernel
set_option maxRecDepth 1000000 in
theorem zx_o241 : zx_lB zx_ft 400 (zx_qA 241 1) = true := by decide +kernel
set_option maxRecDepth 1000000 in
theorem zx_o266 : zx_lB zx_ft 400 (zx_qA 266 2) = true := by decide +kernel
set_option maxRecDepth 1000000 in
theorem zx_o291 : zx_lB zx_ft 400 (zx_qA 291 3) = true := by decide +kernel
set_option maxRecDepth 1000000 in
theorem zx_o368 : zx_lB zx_ft 400 (zx_qA 368 4) = true := by decide +kernel
set_option maxRecDepth 1000000 in
theorem zx_o417 : zx_lB zx_ft 400 (zx_qA 417 5) = true := by decide +kernel
set_option maxRecDepth 1000000 in
theorem zx_o466 : zx_lB zx_ft 400 (zx_qA 466 6) = true := by decide +kernel
set_option maxRecDepth 1000000 in
theorem zx_o503 : zx_lB zx_ft 400 (zx_qA 503 7) = true := by decide +kernel
set_option maxRecDepth 1000000 in
theorem zx_o528 : zx_lB zx_ft 400 (zx_qA 528 8) = true := by decide +kernel
set_option maxRecDepth 1000000 in
theorem zx_o541 : zx_lB zx_ft 400 (zx_qA 541 9) = true := by decide +kernel
