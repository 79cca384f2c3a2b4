noncomputable section
/-! zo: the law's case of opera: checks -/
/-- the state ahead of the reference's call; and what joining had lost of it -/
def vL_t3 : zx_T := (vL_t2.1 ++ [((0, 66), some ([(71, 6), (16, 1), (30, 1)], 0))], vL_t2.2)
def vL_nt2 (eu : zx_L) (uh : List zx_C) : List zg_Nd := match zg_fe (uh.drop 3) 0 with
  | some e => if zj_ql uh 3 2 12 = true then [(360, vL_t3, [(98, (0, 0)), (99, (0, 0)), (100, (0, 0)), (6, (0, 0)), (2, (0, 0)), (21, (0, 0))], [(([(73, 1)], 0), (eu, (0, 0))), (([(70, 1)], 0), (e, (0, 0)))])] else []
  | none => []
/-- how many operas: the class's -/
def zo_flt (_ : zx_L) (h : List zx_C) : List zx_C := match (h[218]? : Option zx_C) with
  | some (.inl (11, ss)) => (match (ss[21]? : Option zx_S) with
    | some (.inl (.inl _)) => h.set 218 (.inl (11, ss.set 21 (.inl (.inl ([(70, 1)], 0)))))
    | _ => h)
  | _ => h
set_option maxRecDepth 1000000 in
theorem vL_k291 : zgL_rk 218 vL_cs.2.1 vLK vLf zx_mlw 8 [(324, vL_t1, [(98, (0, 0)), (99, (0, 0)), (100, (0, 0)), (6, (0, 0)), (2, (0, 0)), (21, (0, 0))], [])] 291 vL_cs = true := by decide +kernel
set_option maxRecDepth 1000000 in
theorem vL_m324 : (zx_drop 324 zx_mlw.1).head? = some (324, Instr.invokevirtual 34, 3) := by decide +kernel
set_option maxRecDepth 1000000 in
theorem vL_m360 : (zx_drop 360 zx_mlw.1).head? = some (360, Instr.invokevirtual 38, 3) := by decide +kernel
set_option maxRecDepth 1000000 in
theorem vL_a324 : zj_ca5 0 218 vLK vLK vLf zx_mlw 8 [(98, (0, 0)), (99, (0, 0)), (100, (0, 0)), (6, (0, 0)), (2, (0, 0)), (21, (0, 0))] vL_nt2 (fun e => e) (fun _ h => h) 324 34 vEC4 vL_t1 = true := by decide +kernel
set_option maxRecDepth 1000000 in
theorem vL_s324 : zgL_as 0 vLK zx_mlw 34 vEC4 vL_t1 = [.inr (.inl ([64], false)), .inl ([(2, 1)], 0), .inl ([(3, 1)], 0), .inl ([(69, 1)], 0), .inl ([(5, 1)], 0)] := by decide +kernel
set_option maxRecDepth 1000000 in
theorem vL_a360 : zj_ca5 218 218 [1, 219, 238, 240, 241, 242, 286] vLK vLf zx_mlw 8 [(98, (0, 0)), (99, (0, 0)), (100, (0, 0)), (6, (0, 1))] (fun _ _ => [vL_n23]) (fun _ => ([(73, 1)], 0)) zo_flt 360 38 vGopr vL_t3 = true := by decide +kernel
set_option maxRecDepth 1000000 in
theorem vL_s360 : zgL_as 218 [1, 219, 238, 240, 241, 242, 286] zx_mlw 38 vGopr vL_t3 = [.inr (.inl ([282], false)), .inl ([(2, 1)], 0), .inl ([(3, 1)], 0), .inl ([(72, 1)], 0), .inl ([(5, 1)], 0)] := by decide +kernel
set_option maxRecDepth 1000000 in
theorem vL_t1_l : 0 + vEC4.2.2.1.length ≤ vL_t1.2.1.length := by decide +kernel
set_option maxRecDepth 1000000 in
theorem vL_t3_l : 218 + vGopr.2.2.1.length ≤ vL_t3.2.1.length := by decide +kernel
set_option maxRecDepth 1000000 in
theorem vL_t1_c : zg_fe (vL_t1.2.1.drop 0) 10 = some ([(8, 1)], 0) := by decide +kernel
set_option maxRecDepth 1000000 in
theorem vL_t1_r : zg_fe (vL_t1.2.1.drop 218) 2 = some ([(8, 1)], 0) := by decide +kernel
set_option maxRecDepth 1000000 in
theorem vL_t1_s : zg_fe (vL_t1.2.1.drop 3) 0 = some ([(12, 1)], 0) := by decide +kernel
set_option maxRecDepth 1000000 in
theorem vL_t1_z : zg_fe (vL_t1.2.1.drop 218) 21 = some ([(12, 1)], 0) := by decide +kernel
set_option maxRecDepth 1000000 in
theorem vL_t1_bt : zg_xb vL_t1.1 ([(8, 1)], 0) 0 340 = true := by decide +kernel
set_option maxRecDepth 1000000 in
theorem vL_t1_bs : zg_xb vL_t1.1 ([(12, 1)], 0) 0 9 = true := by decide +kernel
set_option maxRecDepth 1000000 in
theorem vL_t1_bf : zg_xb vL_t1.1 ([(69, 1)], 0) 0 1 = true := by decide +kernel
set_option maxRecDepth 1000000 in
theorem vL_t1_t : vL_t1.2.1[1]? = some (.inr (.inl (0, 340, true, [.inr (0, 255)]))) := rfl
set_option maxRecDepth 1000000 in
theorem vL_t1_ck : zo_ckC vL_t1.2.1 = true := by decide +kernel
set_option maxRecDepth 1000000 in
theorem vL_t3_ck : zo_ckM vL_t3.2.1 = true := by decide +kernel
end
