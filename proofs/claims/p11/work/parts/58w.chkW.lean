noncomputable section
/-! zl: the law's cases of opera and learn: checks -/
def vL_nt2 (eu : zx_L) (uh : List zx_C) : List zg_Nd := match zg_fe (uh.drop 3) 0 with
  | some e => if (zj_ql uh 3 2 12 && (List.range 9).all (fun k => zj_ql uh (16 + 6 * k) 6 10 && zj_qs uh (16 + 6 * k) 6 3 zj_kI)) = true then [(361, vL_t2, [(98, (0, 0)), (99, (0, 0)), (100, (0, 0)), (6, (0, 0)), (2, (0, 0)), (21, (0, 0))], [(([(70, 1)], 0), (e, (0, 0)))])] else []
  | none => []
def vL_nt3 (eu : zx_L) (uh : List zx_C) : List zg_Nd := if (zj_qa uh 224 0 9 && (zj_ql uh 218 11 101 && zj_qs uh 218 11 21 zj_kI)) = true then [vL_n23] else []
/-- how many operas: the class's -/
def zo_flt (_ : zx_L) (h : List zx_C) : List zx_C := match (h[218]? : Option zx_C) with
  | some (.inl (11, ss)) => (match (ss[21]? : Option zx_S) with
    | some (.inl (.inl _)) => h.set 218 (.inl (11, ss.set 21 (.inl (.inl ([(70, 1)], 0)))))
    | _ => h)
  | _ => h
def vL_nl2 (eu : zx_L) (uh : List zx_C) : List zg_Nd := match zg_fe (uh.drop 178) 9 with
  | some e => if zj_ql uh 178 5 19 = true then [(594, vL_l2, [(98, (0, 0)), (99, (0, 0)), (100, (0, 0)), (6, (0, 0)), (21, (0, 0)), (22, (0, 0)), (67, (0, 0))], [(([(71, 1)], 0), (eu, (0, 0))), (([(69, 1)], 0), (e, (0, 0)))])] else []
  | none => []
/-- how many lessons: the class's -/
def zl_flt (_ : zx_L) (h : List zx_C) : List zx_C := match (h[218]? : Option zx_C) with
  | some (.inl (11, ss)) => (match (ss[67]? : Option zx_S) with
    | some (.inl (.inl _)) => h.set 218 (.inl (11, ss.set 67 (.inl (.inl ([(69, 1)], 0)))))
    | _ => h)
  | _ => h
set_option maxRecDepth 1000000 in
theorem vL_k291 : zgL_rk 218 vL_cs.2.1 vLK vLf zx_mlw 8 [(324, vL_t1, [(98, (0, 0)), (99, (0, 0)), (100, (0, 0)), (6, (0, 0)), (2, (0, 0)), (21, (0, 0))], [])] 291 vL_cs = true := by decide +kernel
set_option maxRecDepth 1000000 in
theorem vL_m324 : (zx_drop 324 zx_mlw.1).head? = some (324, Instr.invokevirtual 34, 3) := by decide +kernel
set_option maxRecDepth 1000000 in
theorem vL_m361 : (zx_drop 361 zx_mlw.1).head? = some (361, Instr.invokevirtual 38, 3) := by decide +kernel
set_option maxRecDepth 1000000 in
theorem vL_m566 : (zx_drop 566 zx_mlw.1).head? = some (566, Instr.invokevirtual 63, 3) := by decide +kernel
set_option maxRecDepth 1000000 in
theorem vL_m594 : (zx_drop 594 zx_mlw.1).head? = some (594, Instr.invokevirtual 67, 3) := by decide +kernel
set_option maxRecDepth 1000000 in
theorem vL_a324 : zj_ca5 0 218 [1, 219, 9, 224, 220, 238, 240, 241, 242, 286] vLK vLf zx_mlw 8 [(98, (0, 0)), (99, (0, 0)), (100, (0, 0)), (6, (0, 0)), (2, (0, 0)), (21, (0, 0))] vL_nt2 (fun e => e) (fun _ h => h) 324 34 vEC4 vL_t1 = true := by decide +kernel
set_option maxRecDepth 1000000 in
theorem vL_s324 : zgL_as 0 [1, 219, 9, 224, 220, 238, 240, 241, 242, 286] zx_mlw 34 vEC4 vL_t1 = [.inr (.inl ([64], false)), .inl ([(2, 1)], 0), .inl ([(3, 1)], 0), .inl ([(69, 1)], 0), .inl ([(5, 1)], 0)] := by decide +kernel
set_option maxRecDepth 1000000 in
theorem vL_a361 : zj_ca5 218 218 [1, 219, 9, 16, 22, 28, 34, 40, 46, 52, 58, 64, 238, 240, 241, 242, 286] vLK vLf zx_mlw 8 [(98, (0, 0)), (99, (0, 0)), (100, (0, 0)), (6, (0, 1))] vL_nt3 (fun e => e) zo_flt 361 38 vGopr vL_t2 = true := by decide +kernel
set_option maxRecDepth 1000000 in
theorem vL_s361 : zgL_as 218 [1, 219, 9, 16, 22, 28, 34, 40, 46, 52, 58, 64, 238, 240, 241, 242, 286] zx_mlw 38 vGopr vL_t2 = [.inr (.inl ([282], false)), .inl ([(2, 1)], 0), .inl ([(3, 1)], 0), .inl ([(72, 1)], 0), .inl ([(5, 1)], 0)] := by decide +kernel
set_option maxRecDepth 1000000 in
theorem vL_k541 : zgL_rk 218 vL_cs.2.1 vLK vLf zx_mlw 8 [(566, vL_l1, [(98, (0, 0)), (99, (0, 0)), (100, (0, 0)), (6, (0, 0)), (21, (0, 0)), (22, (0, 0)), (67, (0, 0))], [])] 541 vL_cs = true := by decide +kernel
set_option maxRecDepth 1000000 in
theorem vL_a566 : zj_ca5 0 218 vLK vLK vLf zx_mlw 8 [(98, (0, 0)), (99, (0, 0)), (100, (0, 0)), (6, (0, 0)), (21, (0, 0)), (22, (0, 0)), (67, (0, 0))] vL_nl2 (fun e => e) (fun _ h => h) 566 63 vEC60 vL_l1 = true := by decide +kernel
set_option maxRecDepth 1000000 in
theorem vL_s566 : zgL_as 0 vLK zx_mlw 63 vEC60 vL_l1 = [.inr (.inl ([64], false)), .inl ([(2, 1)], 0), .inl ([(3, 1)], 0), .inl ([(4, 1)], 0), .inl ([(5, 1)], 0)] := by decide +kernel
set_option maxRecDepth 1000000 in
theorem vL_a594 : zj_ca5 218 218 vLK vLK vLf zx_mlw 8 [(98, (0, 0)), (99, (0, 0)), (100, (0, 0)), (6, (0, 1)), (21, (0, 0))] (fun _ _ => [vL_n23]) (fun _ => ([(71, 1)], 0)) zl_flt 594 67 vER8 vL_l2 = true := by decide +kernel
set_option maxRecDepth 1000000 in
theorem vL_s594 : zgL_as 218 vLK zx_mlw 67 vER8 vL_l2 = [.inr (.inl ([282], false)), .inl ([(2, 1)], 0), .inl ([(3, 1)], 0), .inl ([(4, 1)], 0), .inl ([(5, 1)], 0)] := by decide +kernel
set_option maxRecDepth 1000000 in
theorem vL_t1_l : 0 + vEC4.2.2.1.length ≤ vL_t1.2.1.length := by decide +kernel
set_option maxRecDepth 1000000 in
theorem vL_t2_l : 218 + vGopr.2.2.1.length ≤ vL_t2.2.1.length := by decide +kernel
set_option maxRecDepth 1000000 in
theorem vL_l1_l : 0 + vEC60.2.2.1.length ≤ vL_l1.2.1.length := by decide +kernel
set_option maxRecDepth 1000000 in
theorem vL_l2_l : 218 + vER8.2.2.1.length ≤ vL_l2.2.1.length := by decide +kernel
set_option maxRecDepth 1000000 in
theorem vL_t1_c : zg_fe (vL_t1.2.1.drop 0) 10 = some ([(8, 1)], 0) := by decide +kernel
set_option maxRecDepth 1000000 in
theorem vL_t1_r : zg_fe (vL_t1.2.1.drop 218) 2 = some ([(8, 1)], 0) := by decide +kernel
set_option maxRecDepth 1000000 in
theorem vL_t1_s : zg_fe (vL_t1.2.1.drop 3) 0 = some ([(12, 1)], 0) := by decide +kernel
set_option maxRecDepth 1000000 in
theorem vL_t1_z : zg_fe (vL_t1.2.1.drop 218) 21 = some ([(12, 1)], 0) := by decide +kernel
set_option maxRecDepth 1000000 in
theorem vL_l1_s : zg_fe (vL_l1.2.1.drop 3) 0 = some ([(12, 1)], 0) := by decide +kernel
set_option maxRecDepth 1000000 in
theorem vL_l1_z : zg_fe (vL_l1.2.1.drop 218) 21 = some ([(12, 1)], 0) := by decide +kernel
set_option maxRecDepth 1000000 in
theorem vL_l1_i : zg_fe (vL_l1.2.1.drop 3) 1 = some ([(13, 1)], 0) := by decide +kernel
set_option maxRecDepth 1000000 in
theorem vL_l1_j : zg_fe (vL_l1.2.1.drop 218) 22 = some ([(13, 1)], 0) := by decide +kernel
set_option maxRecDepth 1000000 in
theorem vL_l1_n : zg_fe (vL_l1.2.1.drop 178) 9 = some ([(19, 1)], 0) := by decide +kernel
set_option maxRecDepth 1000000 in
theorem vL_l1_o : zg_fe (vL_l1.2.1.drop 218) 67 = some ([(19, 1)], 0) := by decide +kernel
set_option maxRecDepth 1000000 in
theorem vL_t1_bt : zg_xb vL_t1.1 ([(8, 1)], 0) 0 340 = true := by decide +kernel
set_option maxRecDepth 1000000 in
theorem vL_t1_bs : zg_xb vL_t1.1 ([(12, 1)], 0) 0 9 = true := by decide +kernel
set_option maxRecDepth 1000000 in
theorem vL_t1_bf : zg_xb vL_t1.1 ([(69, 1)], 0) 0 1 = true := by decide +kernel
set_option maxRecDepth 1000000 in
theorem vL_l1_bs : zg_xb vL_l1.1 ([(12, 1)], 0) 0 9 = true := by decide +kernel
set_option maxRecDepth 1000000 in
theorem vL_l1_bi : zg_xb vL_l1.1 ([(13, 1)], 0) 0 20 = true := by decide +kernel
set_option maxRecDepth 1000000 in
theorem vL_l1_bn : zg_xb vL_l1.1 ([(19, 1)], 0) 0 200 = true := by decide +kernel
set_option maxRecDepth 1000000 in
theorem vL_t1_t : vL_t1.2.1[1]? = some (.inr (.inl (0, 340, true, [.inr (0, 255)]))) := rfl
set_option maxRecDepth 1000000 in
theorem vL_t1_f : vL_t1.2.1[224]? = some (.inr (.inl (0, 9, true, [.inr (0, 8)]))) := rfl
set_option maxRecDepth 1000000 in
theorem vL_l1_f : vL_l1.2.1[224]? = some (.inr (.inl (0, 9, true, [.inr (0, 8)]))) := rfl
set_option maxRecDepth 1000000 in
theorem vL_t1_ck : zo_ckC vL_t1.2.1 = true := by decide +kernel
set_option maxRecDepth 1000000 in
theorem vL_t1_c9 : (List.range 9).all (fun k => zo_cko vL_t1.2.1 (80 + 6 * k) && zj_ql vL_t1.2.1 (16 + 6 * k) 6 10) = true := by decide +kernel
set_option maxRecDepth 1000000 in
theorem vL_t2_ck : zo_ckM vL_t2.2.1 = true := by decide +kernel
set_option maxRecDepth 1000000 in
theorem vL_l1_ck : zl_ckC vL_l1.2.1 = true := by decide +kernel
set_option maxRecDepth 1000000 in
theorem vL_l2_ck : zl_ckM vL_l2.2.1 = true := by decide +kernel
end
