/-! zx: the code of the methods -/
set_option maxRecDepth 1000000 in
theorem zx_bylaw_8 : zx_tbk code (((((((((zx_tblaw.drop 40).drop 40).drop 40).drop 40).drop 40).drop 40).drop 40).drop 40).take 40) = true := by decide +kernel
set_option maxRecDepth 1000000 in
theorem zx_bylaw_9 : zx_tbk code ((((((((((zx_tblaw.drop 40).drop 40).drop 40).drop 40).drop 40).drop 40).drop 40).drop 40).drop 40).take 40) = true := by decide +kernel
set_option maxRecDepth 1000000 in
theorem zx_bylaw_10 : zx_tbk code (((((((((((zx_tblaw.drop 40).drop 40).drop 40).drop 40).drop 40).drop 40).drop 40).drop 40).drop 40).drop 40).take 40) = true := by decide +kernel
set_option maxRecDepth 1000000 in
theorem zx_bylaw_11 : zx_tbk code ((((((((((((zx_tblaw.drop 40).drop 40).drop 40).drop 40).drop 40).drop 40).drop 40).drop 40).drop 40).drop 40).drop 40).take 40) = true := by decide +kernel
set_option maxRecDepth 1000000 in
theorem zx_bylaw_12 : zx_tbk code (((((((((((((zx_tblaw.drop 40).drop 40).drop 40).drop 40).drop 40).drop 40).drop 40).drop 40).drop 40).drop 40).drop 40).drop 40).take 40) = true := by decide +kernel
set_option maxRecDepth 1000000 in
theorem zx_bylaw_13 : zx_tbk code ((((((((((((((zx_tblaw.drop 40).drop 40).drop 40).drop 40).drop 40).drop 40).drop 40).drop 40).drop 40).drop 40).drop 40).drop 40).drop 40).take 40) = true := by decide +kernel
set_option maxRecDepth 1000000 in
theorem zx_bylaw_14 : zx_tbk code (((((((((((((((zx_tblaw.drop 40).drop 40).drop 40).drop 40).drop 40).drop 40).drop 40).drop 40).drop 40).drop 40).drop 40).drop 40).drop 40).drop 40).take 40) = true := by decide +kernel
set_option maxRecDepth 1000000 in
theorem zx_bylaw_15 : zx_tbk code ((((((((((((((((zx_tblaw.drop 40).drop 40).drop 40).drop 40).drop 40).drop 40).drop 40).drop 40).drop 40).drop 40).drop 40).drop 40).drop 40).drop 40).drop 40).take 40) = true := by decide +kernel
