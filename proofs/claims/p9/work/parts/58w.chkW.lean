noncomputable section
/-! zj: the law's case of contract: checks -/
def vL_nt2 (eu : zx_L) (_ : List zx_C) : List zg_Nd := [(520, vL_t2, [(98, (0, 0)), (99, (0, 0)), (100, (0, 0)), (6, (0, 0)), (2, (0, 0)), (22, (0, 0)), (44, (0, 0))], [(([(77, 1)], 0), (eu, (0, 0)))])]
set_option maxRecDepth 1000000 in
theorem vL_k503 : zgL_rk 218 vL_cs.2.1 vLK vLf zx_mlw 8 [(510, vL_t1, [(98, (0, 0)), (99, (0, 0)), (100, (0, 0)), (6, (0, 0)), (2, (0, 0)), (22, (0, 0)), (44, (0, 0))], [])] 503 vL_cs = true := by decide +kernel
set_option maxRecDepth 1000000 in
theorem vL_m510 : (zx_drop 510 zx_mlw.1).head? = some (510, Instr.invokevirtual 54, 3) := by decide +kernel
set_option maxRecDepth 1000000 in
theorem vL_m520 : (zx_drop 520 zx_mlw.1).head? = some (520, Instr.invokevirtual 57, 3) := by decide +kernel
set_option maxRecDepth 1000000 in
theorem vL_a510 : zj_ca5 0 218 vLK vLK vLf zx_mlw 8 [(98, (0, 0)), (99, (0, 0)), (100, (0, 0)), (6, (0, 0)), (2, (0, 0)), (22, (0, 0)), (44, (0, 0))] vL_nt2 (fun e => e) (fun _ h => h) 510 54 vEC58 vL_t1 = true := by decide +kernel
set_option maxRecDepth 1000000 in
theorem vL_s510 : zgL_as 0 vLK zx_mlw 54 vEC58 vL_t1 = [.inr (.inl ([64], false)), .inl ([(2, 1)], 0)] := by decide +kernel
set_option maxRecDepth 1000000 in
theorem vL_a520 : zj_ca5 218 218 [1, 219, 220, 286] vLK vLf zx_mlw 8 [(98, (0, 0)), (99, (0, 0)), (100, (0, 0)), (6, (0, 1))] (fun _ _ => [vL_n23]) (fun _ => ([(77, 1)], 0)) (fun _ h => h) 520 57 vGctr vL_t2 = true := by decide +kernel
set_option maxRecDepth 1000000 in
theorem vL_s520 : zgL_as 218 [1, 219, 220, 286] zx_mlw 57 vGctr vL_t2 = [.inr (.inl ([282], false)), .inl ([(2, 1)], 0)] := by decide +kernel
set_option maxRecDepth 1000000 in
theorem vL_t1_l : 0 + vEC58.2.2.1.length ≤ vL_t1.2.1.length := by decide +kernel
set_option maxRecDepth 1000000 in
theorem vL_t2_l : 218 + vGctr.2.2.1.length ≤ vL_t2.2.1.length := by decide +kernel
set_option maxRecDepth 1000000 in
theorem vL_t1_c : zg_fe (vL_t1.2.1.drop 0) 10 = some ([(8, 1)], 0) := by decide +kernel
set_option maxRecDepth 1000000 in
theorem vL_t1_r : zg_fe (vL_t1.2.1.drop 218) 2 = some ([(8, 1)], 0) := by decide +kernel
set_option maxRecDepth 1000000 in
theorem vL_t1_s : zg_fe (vL_t1.2.1.drop 3) 1 = some ([(13, 1)], 0) := by decide +kernel
set_option maxRecDepth 1000000 in
theorem vL_t1_z : zg_fe (vL_t1.2.1.drop 218) 22 = some ([(13, 1)], 0) := by decide +kernel
set_option maxRecDepth 1000000 in
theorem vL_t1_f : (zg_fe (vL_t1.2.1.drop 0) 12).isSome = true := by decide +kernel
set_option maxRecDepth 1000000 in
theorem vL_t1_g : (zg_fe (vL_t1.2.1.drop 218) 44).isSome = true := by decide +kernel
set_option maxRecDepth 1000000 in
theorem vL_t1_bt : zg_xb vL_t1.1 ([(8, 1)], 0) 0 340 = true := by decide +kernel
set_option maxRecDepth 1000000 in
theorem vL_t1_bs : zg_xb vL_t1.1 ([(13, 1)], 0) 0 20 = true := by decide +kernel
set_option maxRecDepth 1000000 in
theorem vL_t1_t : vL_t1.2.1[1]? = some (.inr (.inl (0, 340, true, [.inr (0, 255)]))) := rfl
set_option maxRecDepth 1000000 in
theorem vL_t1_ck : zj_ckC vL_t1.2.1 = true := by decide +kernel
set_option maxRecDepth 1000000 in
theorem vL_t2_ck : zj_ckM vL_t2.2.1 = true := by decide +kernel
end
