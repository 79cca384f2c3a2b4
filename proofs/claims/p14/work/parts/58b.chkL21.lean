set_option maxRecDepth 1000000 in
theorem vL_a1365_4 : zgL_cj 4 218 [238, 240, 241, 242] vLK vLf zx_mlw 8 [] [(23, vL_23, [(98, (0, 0)), (99, (0, 0)), (100, (0, 0)), (6, (0, 0))], [(([(67, 1)], 0), (([(7, 1)], 0), (6, 6)))])] 1365 131 (zg_lw 24 vER48) vL_h1365 = true := by decide +kernel
