/-! zx: the code of the methods -/
set_option maxRecDepth 1000000 in
theorem zx_bylaw_16 : zx_tbk code (((((((((((((((((zx_tblaw.drop 40).drop 40).drop 40).drop 40).drop 40).drop 40).drop 40).drop 40).drop 40).drop 40).drop 40).drop 40).drop 40).drop 40).drop 40).drop 40).take 40) = true := by decide +kernel
set_option maxRecDepth 1000000 in
theorem zx_bylaw_17 : zx_tbk code ((((((((((((((((((zx_tblaw.drop 40).drop 40).drop 40).drop 40).drop 40).drop 40).drop 40).drop 40).drop 40).drop 40).drop 40).drop 40).drop 40).drop 40).drop 40).drop 40).drop 40).take 40) = true := by decide +kernel
set_option maxRecDepth 1000000 in
theorem zx_bylaw_18 : zx_tbk code (((((((((((((((((((zx_tblaw.drop 40).drop 40).drop 40).drop 40).drop 40).drop 40).drop 40).drop 40).drop 40).drop 40).drop 40).drop 40).drop 40).drop 40).drop 40).drop 40).drop 40).drop 40).take 40) = true := by decide +kernel
set_option maxRecDepth 1000000 in
theorem zx_bylaw_19 : zx_tbk code ((((((((((((((((((((zx_tblaw.drop 40).drop 40).drop 40).drop 40).drop 40).drop 40).drop 40).drop 40).drop 40).drop 40).drop 40).drop 40).drop 40).drop 40).drop 40).drop 40).drop 40).drop 40).drop 40).take 40) = true := by decide +kernel
set_option maxRecDepth 1000000 in
theorem zx_bylaw_20 : zx_tbk code (((((((((((((((((((((zx_tblaw.drop 40).drop 40).drop 40).drop 40).drop 40).drop 40).drop 40).drop 40).drop 40).drop 40).drop 40).drop 40).drop 40).drop 40).drop 40).drop 40).drop 40).drop 40).drop 40).drop 40).take 40) = true := by decide +kernel
set_option maxRecDepth 1000000 in
theorem zx_bylaw_21 : zx_tbk code ((((((((((((((((((((((zx_tblaw.drop 40).drop 40).drop 40).drop 40).drop 40).drop 40).drop 40).drop 40).drop 40).drop 40).drop 40).drop 40).drop 40).drop 40).drop 40).drop 40).drop 40).drop 40).drop 40).drop 40).drop 40).take 40) = true := by decide +kernel
set_option maxRecDepth 1000000 in
theorem zx_bylaw_22 : zx_tbk code (((((((((((((((((((((((zx_tblaw.drop 40).drop 40).drop 40).drop 40).drop 40).drop 40).drop 40).drop 40).drop 40).drop 40).drop 40).drop 40).drop 40).drop 40).drop 40).drop 40).drop 40).drop 40).drop 40).drop 40).drop 40).drop 40).take 40) = true := by decide +kernel
set_option maxRecDepth 1000000 in
theorem zx_bylaw_23 : zx_tbk code (((((((((((((((((((((((zx_tblaw.drop 40).drop 40).drop 40).drop 40).drop 40).drop 40).drop 40).drop 40).drop 40).drop 40).drop 40).drop 40).drop 40).drop 40).drop 40).drop 40).drop 40).drop 40).drop 40).drop 40).drop 40).drop 40).drop 40) = true := by decide +kernel
theorem zx_bylaw : zx_tbk code zx_tblaw = true := zx_tbk_cut 40 zx_bylaw_0 (zx_tbk_cut 40 zx_bylaw_1 (zx_tbk_cut 40 zx_bylaw_2 (zx_tbk_cut 40 zx_bylaw_3 (zx_tbk_cut 40 zx_bylaw_4 (zx_tbk_cut 40 zx_bylaw_5 (zx_tbk_cut 40 zx_bylaw_6 (zx_tbk_cut 40 zx_bylaw_7 (zx_tbk_cut 40 zx_bylaw_8 (zx_tbk_cut 40 zx_bylaw_9 (zx_tbk_cut 40 zx_bylaw_10 (zx_tbk_cut 40 zx_bylaw_11 (zx_tbk_cut 40 zx_bylaw_12 (zx_tbk_cut 40 zx_bylaw_13 (zx_tbk_cut 40 zx_bylaw_14 (zx_tbk_cut 40 zx_bylaw_15 (zx_tbk_cut 40 zx_bylaw_16 (zx_tbk_cut 40 zx_bylaw_17 (zx_tbk_cut 40 zx_bylaw_18 (zx_tbk_cut 40 zx_bylaw_19 (zx_tbk_cut 40 zx_bylaw_20 (zx_tbk_cut 40 zx_bylaw_21 (zx_tbk_cut 40 zx_bylaw_22 (zx_bylaw_23)))))))))))))))))))))))
