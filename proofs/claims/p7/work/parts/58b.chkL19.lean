set_option maxRecDepth 1000000 in
theorem vL_a1365 : zgL_ca 218 [238, 240, 241, 242] vLK vLf zx_mlw 8 [] [(23, vL_23, [(98, (0, 0)), (99, (0, 0)), (100, (0, 0)), (6, (0, 0))], [(([(67, 1)], 0), (([(7, 1)], 0), (6, 6)))])] 1365 131 vER48 vL_h1365 = true := by decide +kernel
set_option maxRecDepth 1000000 in
theorem vL_a1403 : zgL_ca 218 [220, 238, 240, 241, 242, 286] vLK vLf zx_mlw 8 [(98, (0, 0)), (99, (0, 0)), (100, (0, 0)), (6, (0, 1))] [(23, vL_23, [(98, (0, 0)), (99, (0, 0)), (100, (0, 0)), (6, (0, 0))], [(([(67, 1)], 0), (([(7, 1)], 0), (6, 6)))])] 1403 139 vGkeep vL_h1403 = true := by decide +kernel
