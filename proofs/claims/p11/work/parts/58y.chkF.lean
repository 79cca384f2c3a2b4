noncomputable section
/-! zq: feed and opera in the law: checks -/
def vL_nF : List zg_Nd := [(234, vL_f2n, [(98, (0, 0)), (99, (0, 0)), (100, (0, 0)), (6, (0, 0)), (2, (0, 0)), (21, (0, 0))], [(([(8, 1)], 0), (([(8, 1)], 0), (0, 0)))]), (234, vL_f2a, [(98, (0, 0)), (99, (0, 0)), (100, (0, 0)), (6, (0, 0)), (2, (0, 0)), (21, (0, 0))], [(([(8, 1)], 0), (([(8, 1)], 0), (0, 0)))])]
def zq_as (n : List Nat) (as : List zx_V) : Bool := (List.range n.length).all (fun i => decide (as[i + 1]? = some (.inl ([((n[i]?).getD 0, 1)], 0))))
set_option maxRecDepth 1000000 in
theorem vL_k168 : zgL_rk 218 vL_cs.2.1 vLK vLf zx_mlw 8 [(199, vL_f1, [(98, (0, 0)), (99, (0, 0)), (100, (0, 0)), (6, (0, 0)), (2, (0, 0)), (21, (0, 0))], [])] 168 vL_cs = true := by decide +kernel
set_option maxRecDepth 1000000 in
theorem vL_m199 : (zx_drop 199 zx_mlw.1).head? = some (199, Instr.invokevirtual 19, 3) := by decide +kernel
set_option maxRecDepth 1000000 in
theorem vL_m234 : (zx_drop 234 zx_mlw.1).head? = some (234, Instr.invokevirtual 23, 3) := by decide +kernel
set_option maxRecDepth 1000000 in
theorem vL_f1_c : zg_fe vL_f1.2.1 10 = some ([(8, 1)], 0) := by decide +kernel
set_option maxRecDepth 1000000 in
theorem vL_f1_r : zg_fe (vL_f1.2.1.drop 218) 2 = some ([(8, 1)], 0) := by decide +kernel
set_option maxRecDepth 1000000 in
theorem vL_f1_l : 0 + vYfeedC.2.2.1.length ≤ vL_f1.2.1.length := by decide +kernel
set_option maxRecDepth 1000000 in
theorem vL_f2n_l : 218 + vYfeedR.2.2.1.length ≤ vL_f2n.2.1.length := by decide +kernel
set_option maxRecDepth 1000000 in
theorem vL_f2a_l : 218 + vYfeedR.2.2.1.length ≤ vL_f2a.2.1.length := by decide +kernel
set_option maxRecDepth 1000000 in
theorem vYfeedC_l : vYfeedC.2.2.1.length = 218 := by decide +kernel
set_option maxRecDepth 1000000 in
theorem vYfeedR_l : vYfeedR.2.2.1.length = 69 := by decide +kernel
set_option maxRecDepth 1000000 in
theorem vL_f2n_b : zg_xb vL_f2n.1 ([(8, 1)], 0) 321 340 = true := by decide +kernel
set_option maxRecDepth 1000000 in
theorem vL_f2a_b : zg_xb vL_f2a.1 ([(8, 1)], 0) 0 320 = true := by decide +kernel
set_option maxRecDepth 1000000 in
theorem vL_a199 : zgL_ca4 0 218 [9, 16, 22, 28, 34, 40, 46, 52, 58, 64, 224, 219, 220, 238, 240, 241, 242, 286] vLK vLf zx_mlw 8 [(98, (0, 0)), (99, (0, 0)), (100, (0, 0)), (6, (0, 0)), (2, (0, 0)), (21, (0, 0))] vL_nF 199 19 vYfeedC vL_f1 = true := by decide +kernel
set_option maxRecDepth 1000000 in
theorem vL_s199 : zq_as [2, 3, 4, 5, 6] (zgL_as 0 [9, 16, 22, 28, 34, 40, 46, 52, 58, 64, 224, 219, 220, 238, 240, 241, 242, 286] zx_mlw 19 vYfeedC vL_f1) = true := by decide +kernel
set_option maxRecDepth 1000000 in
theorem vL_a234n : zgL_ca4 218 218 [9, 16, 22, 28, 34, 40, 46, 52, 58, 64, 224, 1, 220, 238, 240, 241, 242, 286] vLK vLf zx_mlw 8 [(98, (0, 0)), (99, (0, 0)), (100, (0, 0)), (6, (0, 0)), (21, (0, 0))] [(23, vL_23, [(98, (0, 0)), (99, (0, 0)), (100, (0, 0)), (6, (0, 0)), (21, (0, 0))], [(([(67, 1)], 0), (([(7, 1)], 0), (6, 6)))])] 234 23 vYfeedR vL_f2n = true := by decide +kernel
set_option maxRecDepth 1000000 in
theorem vL_s234n : zq_as [2, 3, 4, 5, 6] (zgL_as 218 [9, 16, 22, 28, 34, 40, 46, 52, 58, 64, 224, 1, 220, 238, 240, 241, 242, 286] zx_mlw 23 vYfeedR vL_f2n) = true := by decide +kernel
set_option maxRecDepth 1000000 in
theorem vL_a234a : zgL_ca4 218 218 [9, 16, 22, 28, 34, 40, 46, 52, 58, 64, 224, 1, 220, 238, 240, 241, 242, 286] vLK vLf zx_mlw 8 [(98, (0, 0)), (99, (0, 0)), (100, (0, 0)), (6, (0, 0)), (21, (0, 0))] [(23, vL_23, [(98, (0, 0)), (99, (0, 0)), (100, (0, 0)), (6, (0, 0)), (21, (0, 0))], [(([(67, 1)], 0), (([(7, 1)], 0), (6, 6)))])] 234 23 vYfeedR vL_f2a = true := by decide +kernel
set_option maxRecDepth 1000000 in
theorem vL_s234a : zq_as [2, 3, 4, 5, 6] (zgL_as 218 [9, 16, 22, 28, 34, 40, 46, 52, 58, 64, 224, 1, 220, 238, 240, 241, 242, 286] zx_mlw 23 vYfeedR vL_f2a) = true := by decide +kernel
end
