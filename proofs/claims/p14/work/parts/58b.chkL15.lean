/-- the reference's call of opera: what the class's fresh nights may be stays told -/
noncomputable def vL_h361x : zx_T := (vL_h361.1 ++ [((0, 66), some ([(30, 1), (70, 6), (16, 1)], 0))], vL_h361.2)
set_option maxRecDepth 1000000 in
theorem vL_m1421 : zgL_rk 218 vL_cs.2.1 vLK vLf zx_mlw 8 [vL_n23] 1421 vL_cs = true := by decide +kernel
set_option maxRecDepth 1000000 in
theorem vL_a361 : zgL_ca 218 [238, 240, 241, 242, 286] vLK vLf zx_mlw 8 [(98, (0, 0)), (99, (0, 0)), (100, (0, 0)), (6, (0, 1))] [(23, vL_23, [(98, (0, 0)), (99, (0, 0)), (100, (0, 0)), (6, (0, 0))], [(([(67, 1)], 0), (([(7, 1)], 0), (6, 6)))])] 361 38 vGopr vL_h361x = true := by decide +kernel
set_option maxRecDepth 1000000 in
theorem vL_k291x : zgL_rk 218 vL_cs.2.1 vLK vLf zx_mlw 8 [(361, vL_h361x, [(98, (0, 0)), (99, (0, 0)), (100, (0, 0)), (6, (0, 0))], [])] 291 vL_cs = true := by decide +kernel
