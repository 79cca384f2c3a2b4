noncomputable section
/-! zm: the law's case of moves: checks -/
def vL_nt2 (eu : zx_L) (_ : List zx_C) : List zg_Nd := [(1180, vL_t2, [(98, (0, 0)), (99, (0, 0)), (100, (0, 0)), (6, (0, 0))], [(([(70, 1)], 0), (eu, (0, 0)))])]
set_option maxRecDepth 1000000 in
theorem vL_k1151 : zgL_rk 218 vL_cs.2.1 vLK vLf zx_mlw 8 [(1164, vL_t1, [(98, (0, 0)), (99, (0, 0)), (100, (0, 0)), (6, (0, 0))], [])] 1151 vL_cs = true := by decide +kernel
set_option maxRecDepth 1000000 in
theorem vL_m1164 : (zx_drop 1164 zx_mlw.1).head? = some (1164, Instr.invokevirtual 112, 3) := by decide +kernel
set_option maxRecDepth 1000000 in
theorem vL_m1180 : (zx_drop 1180 zx_mlw.1).head? = some (1180, Instr.invokevirtual 115, 3) := by decide +kernel
set_option maxRecDepth 1000000 in
theorem vL_a1164 : zj_ca5 0 218 vLK vLK vLf zx_mlw 8 [(98, (0, 0)), (99, (0, 0)), (100, (0, 0)), (6, (0, 0))] vL_nt2 (fun e => e) (fun _ h => h) 1164 112 vEC113 vL_t1 = true := by decide +kernel
set_option maxRecDepth 1000000 in
theorem vL_s1164 : zgL_as 0 vLK zx_mlw 112 vEC113 vL_t1 = [.inr (.inl ([64], false)), .inl ([(2, 1)], 0), .inl ([(3, 1)], 0)] := by decide +kernel
set_option maxRecDepth 1000000 in
theorem vL_a1180 : zj_ca5 218 218 vLK vLK vLf zx_mlw 8 [(98, (0, 0)), (99, (0, 0)), (100, (0, 0)), (6, (0, 0))] (fun _ _ => [vL_n23]) (fun _ => ([(70, 1)], 0)) (fun _ h => h) 1180 115 vER40 vL_t2 = true := by decide +kernel
set_option maxRecDepth 1000000 in
theorem vL_s1180 : zgL_as 218 vLK zx_mlw 115 vER40 vL_t2 = [.inr (.inl ([282], false)), .inl ([(2, 1)], 0), .inl ([(3, 1)], 0)] := by decide +kernel
set_option maxRecDepth 1000000 in
theorem vL_t1_l : 0 + vEC113.2.2.1.length ≤ vL_t1.2.1.length := by decide +kernel
set_option maxRecDepth 1000000 in
theorem vL_t2_l : 218 + vER40.2.2.1.length ≤ vL_t2.2.1.length := by decide +kernel
def zm_ckC (h : List zx_C) : Bool := (zj_ql h 0 10 14 && zj_qs h 0 10 5 (zj_k1 195)) && ((zj_ql h 195 8 3 && (zj_qs h 195 8 0 (zj_k1 196) && (zj_qs h 195 8 1 (zj_k1 197) && zj_qs h 195 8 2 zj_kI))) && (zj_qa h 196 2 625 && zj_qa h 197 0 120))
def zm_ckM (h : List zx_C) : Bool := zj_ql h 218 11 101 && ((zj_qs h 218 11 80 (zj_k1 272) && zj_qs h 218 11 81 (zj_k1 273)) && (zj_qa h 272 2 625 && zj_qa h 273 2 625))
set_option maxRecDepth 1000000 in
theorem vL_t1_ck : zm_ckC vL_t1.2.1 = true := by decide +kernel
set_option maxRecDepth 1000000 in
theorem vL_t2_ck : zm_ckM vL_t2.2.1 = true := by decide +kernel
end
