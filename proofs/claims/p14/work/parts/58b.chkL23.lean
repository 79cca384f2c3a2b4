set_option maxRecDepth 1000000 in
theorem vL_a1365_6 : zgL_cj 6 218 [238, 240, 241, 242] vLK vLf zx_mlw 8 [] [(23, vL_23, [(98, (0, 0)), (99, (0, 0)), (100, (0, 0)), (6, (0, 0))], [(([(67, 1)], 0), (([(7, 1)], 0), (6, 6)))])] 1365 131 (zg_lw 24 vER48) vL_h1365 = true := by decide +kernel
set_option maxRecDepth 1000000 in
theorem vL_a1365_n : zgL_cn 7 218 [238, 240, 241, 242] vLK vLf zx_mlw 8 [] [(23, vL_23, [(98, (0, 0)), (99, (0, 0)), (100, (0, 0)), (6, (0, 0))], [(([(67, 1)], 0), (([(7, 1)], 0), (6, 6)))])] 1365 131 (zg_lw 24 vER48) vL_h1365 = true := by decide +kernel
theorem vL_a1365 : zgL_ca 218 [238, 240, 241, 242] vLK vLf zx_mlw 8 [] [(23, vL_23, [(98, (0, 0)), (99, (0, 0)), (100, (0, 0)), (6, (0, 0))], [(([(67, 1)], 0), (([(7, 1)], 0), (6, 6)))])] 1365 131 (zg_lw 24 vER48) vL_h1365 = true := zgL_ca_of vL_a1365_n (fun j hj => match j, hj with
  | 0, _ => vL_a1365_0
  | 1, _ => vL_a1365_1
  | 2, _ => vL_a1365_2
  | 3, _ => vL_a1365_3
  | 4, _ => vL_a1365_4
  | 5, _ => vL_a1365_5
  | 6, _ => vL_a1365_6
  | j + 7, h => absurd h (by omega))
