/-! zx: the code of the methods -/
set_option maxRecDepth 1000000 in
theorem zx_bylaw_0 : zx_tbk code (zx_tblaw.take 40) = true := by decide +kernel
set_option maxRecDepth 1000000 in
theorem zx_bylaw_1 : zx_tbk code ((zx_tblaw.drop 40).take 40) = true := by decide +kernel
set_option maxRecDepth 1000000 in
theorem zx_bylaw_2 : zx_tbk code (((zx_tblaw.drop 40).drop 40).take 40) = true := by decide +kernel
set_option maxRecDepth 1000000 in
theorem zx_bylaw_3 : zx_tbk code ((((zx_tblaw.drop 40).drop 40).drop 40).take 40) = true := by decide +kernel
set_option maxRecDepth 1000000 in
theorem zx_bylaw_4 : zx_tbk code (((((zx_tblaw.drop 40).drop 40).drop 40).drop 40).take 40) = true := by decide +kernel
set_option maxRecDepth 1000000 in
theorem zx_bylaw_5 : zx_tbk code ((((((zx_tblaw.drop 40).drop 40).drop 40).drop 40).drop 40).take 40) = true := by decide +kernel
set_option maxRecDepth 1000000 in
theorem zx_bylaw_6 : zx_tbk code (((((((zx_tblaw.drop 40).drop 40).drop 40).drop 40).drop 40).drop 40).take 40) = true := by decide +kernel
set_option maxRecDepth 1000000 in
theorem zx_bylaw_7 : zx_tbk code ((((((((zx_tblaw.drop 40).drop 40).drop 40).drop 40).drop 40).drop 40).drop 40).take 40) = true := by decide +kernel
