/-! zx: calls whose two answers are the same by running both -/
set_option maxRecDepth 1000000 in
theorem zx_o602 : zx_lB zx_ft 400 (zx_qA 602 10) = true := by decide +kernel
set_option maxRecDepth 1000000 in
theorem zx_o675 : zx_lB zx_ft 400 (zx_qA 675 11) = true := by decide +kernel
set_option maxRecDepth 1000000 in
theorem zx_o752 : zx_lB zx_ft 400 (zx_qA 752 12) = true := by decide +kernel
set_option maxRecDepth 1000000 in
theorem zx_o801 : zx_lB zx_ft 400 (zx_qA 801 13) = true := by decide +kernel
set_option maxRecDepth 1000000 in
theorem zx_o971 : zx_lB zx_ft 400 (zx_qA 971 16) = true := by decide +kernel
set_option maxRecDepth 1000000 in
theorem zx_o1032 : zx_lB zx_ft 400 (zx_qA 1032 17) = true := by decide +kernel
set_option maxRecDepth 1000000 in
theorem zx_o1081 : zx_lB zx_ft 400 (zx_qA 1081 18) = true := by decide +kernel
set_option maxRecDepth 1000000 in
theorem zx_o1130 : zx_lB zx_ft 400 (zx_qA 1130 19) = true := by decide +kernel
set_option maxRecDepth 1000000 in
theorem zx_o1216 : zx_lB zx_ft 400 (zx_qA 1216 21) = true := by decide +kernel
set_option maxRecDepth 1000000 in
theorem zx_o1265 : zx_lB zx_ft 400 (zx_qA 1265 22) = true := by decide +kernel
set_option maxRecDepth 1000000 in
theorem zx_o1314 : zx_lB zx_ft 400 (zx_qA 1314 23) = true := by decide +kernel
set_option maxRecDepth 1000000 in
theorem zx_o1351 : zx_lB zx_ft 400 (zx_qA 1351 24) = true := by decide +kernel
set_option maxRecDepth 1000000 in
theorem zx_o1400 : zx_lB zx_ft 400 (zx_qA 1400 25) = true := by decide +kernel
set_option maxRecDepth 1000000 in
theorem zx_o1425 : zx_lB zx_ft 400 (zx_qA 1425 26) = true := by decide +kernel
set_option maxRecDepth 1000000 in
theorem zx_o1438 : zx_lB zx_ft 400 (zx_qA 1438 27) = true := by decide +kernel
