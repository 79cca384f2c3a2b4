noncomputable section
/-! zj: the law's case of contract: checks -/
def vL_nt2 (_ : zx_L) (uh : List zx_C) : List zg_Nd := match zg_fe uh 12 with
  | some e => if zj_ql uh 0 10 14 = true then [(521, vL_t2, [(98, (0, 0)), (99, (0, 0)), (100, (0, 0)), (6, (0, 0)), (2, (0, 0)), (22, (0, 0)), (44, (0, 0))], [(([(69, 1)], 0), (e, (0, 0)))])] else []
  | none => []
/-- the fault is the class's -/
def zj_flt (_ : zx_L) (h : List zx_C) : List zx_C := match (h[218]? : Option zx_C) with
  | some (.inl (11, ss)) => (match (ss[44]? : Option zx_S) with
    | some (.inl (.inl _)) => h.set 218 (.inl (11, ss.set 44 (.inl (.inl ([(69, 1)], 0)))))
    | _ => h)
  | _ => h
set_option maxRecDepth 1000000 in
theorem vL_k503 : zgL_rk 218 vL_cs.2.1 vLK vLf zx_mlw 8 [(510, vL_t1, [(98, (0, 0)), (99, (0, 0)), (100, (0, 0)), (6, (0, 0)), (2, (0, 0)), (22, (0, 0)), (44, (0, 0))], [])] 503 vL_cs = true := by decide +kernel
set_option maxRecDepth 1000000 in
theorem vL_m510 : (zx_drop 510 zx_mlw.1).head? = some (510, Instr.invokevirtual 54, 3) := by decide +kernel
set_option maxRecDepth 1000000 in
theorem vL_m521 : (zx_drop 521 zx_mlw.1).head? = some (521, Instr.invokevirtual 57, 3) := by decide +kernel
set_option maxRecDepth 1000000 in
theorem vL_a510 : zj_ca5 0 218 vLK vLK vLf zx_mlw 8 [(98, (0, 0)), (99, (0, 0)), (100, (0, 0)), (6, (0, 0)), (2, (0, 0)), (22, (0, 0)), (44, (0, 0))] vL_nt2 (fun e => e) (fun _ h => h) 510 54 vEC58 vL_t1 = true := by decide +kernel
set_option maxRecDepth 1000000 in
theorem vL_s510 : zgL_as 0 vLK zx_mlw 54 vEC58 vL_t1 = [.inr (.inl ([64], false)), .inl ([(2, 1)], 0)] := by decide +kernel
set_option maxRecDepth 1000000 in
theorem vL_a521 : zj_ca5 218 218 [1, 219, 220, 286] vLK vLf zx_mlw 8 [(98, (0, 0)), (99, (0, 0)), (100, (0, 0)), (6, (0, 1))] (fun _ _ => [vL_n23]) (fun e => e) zj_flt 521 57 vGctr vL_t2 = true := by decide +kernel
set_option maxRecDepth 1000000 in
theorem vL_s521 : zgL_as 218 [1, 219, 220, 286] zx_mlw 57 vGctr vL_t2 = [.inr (.inl ([282], false)), .inl ([(2, 1)], 0)] := by decide +kernel
set_option maxRecDepth 1000000 in
theorem vL_t1_l : 0 + vEC58.2.2.1.length ≤ vL_t1.2.1.length := by decide +kernel
set_option maxRecDepth 1000000 in
theorem vL_t2_l : 218 + vGctr.2.2.1.length ≤ vL_t2.2.1.length := by decide +kernel
set_option maxRecDepth 1000000 in
theorem vL_t1_c : zg_fe (vL_t1.2.1.drop 0) 10 = some ([(8, 1)], 0) := by decide +kernel
set_option maxRecDepth 1000000 in
theorem vL_t1_r : zg_fe (vL_t1.2.1.drop 218) 2 = some ([(8, 1)], 0) := by decide +kernel
set_option maxRecDepth 1000000 in
theorem vL_t1_s : zg_fe (vL_t1.2.1.drop 3) 1 = some ([(13, 1)], 0) := by decide +kernel
set_option maxRecDepth 1000000 in
theorem vL_t1_z : zg_fe (vL_t1.2.1.drop 218) 22 = some ([(13, 1)], 0) := by decide +kernel
set_option maxRecDepth 1000000 in
theorem vL_t1_f : zg_fe (vL_t1.2.1.drop 0) 12 = some ([(10, 1)], 0) := by decide +kernel
set_option maxRecDepth 1000000 in
theorem vL_t1_g : zg_fe (vL_t1.2.1.drop 218) 44 = some ([(10, 1)], 0) := by decide +kernel
set_option maxRecDepth 1000000 in
theorem vL_t1_bt : zg_xb vL_t1.1 ([(8, 1)], 0) 0 340 = true := by decide +kernel
set_option maxRecDepth 1000000 in
theorem vL_t1_bs : zg_xb vL_t1.1 ([(13, 1)], 0) 0 20 = true := by decide +kernel
set_option maxRecDepth 1000000 in
theorem vL_t1_t : vL_t1.2.1[1]? = some (.inr (.inl (0, 340, true, [.inr (0, 255)]))) := rfl
set_option maxRecDepth 1000000 in
theorem vL_t1_ck : zj_ckC vL_t1.2.1 = true := by decide +kernel
set_option maxRecDepth 1000000 in
theorem vL_t2_ck : zj_ckM vL_t2.2.1 = true := by decide +kernel
end
