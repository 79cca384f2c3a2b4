noncomputable section
set_option maxRecDepth 1000000 in
theorem vL_k291f : zgL_rk 218 (zg_bd vL_cs 12 9 9).2.1 vLK vLf zx_mlw 8 [vL_n23] 291 (zg_bd vL_cs 12 9 9) = true := by decide +kernel
set_option maxRecDepth 1000000 in
theorem vL_k291g : zgL_rk 218 (zg_bd vL_cs 12 0 8).2.1 vLK vLf zx_mlw 8 [(324, vL_o1_0, [(98, (0, 0)), (99, (0, 0)), (100, (0, 0)), (6, (0, 0)), (2, (0, 0))], [])] 291 (zg_bd vL_cs 12 0 8) = true := by decide +kernel
set_option maxRecDepth 1000000 in
theorem vL_m324 : (zx_drop 324 zx_mlw.1).head? = some (324, Instr.invokevirtual 34, 3) := by decide +kernel
set_option maxRecDepth 1000000 in
theorem vL_m360 : (zx_drop 360 zx_mlw.1).head? = some (360, Instr.invokevirtual 38, 3) := by decide +kernel
set_option maxRecDepth 1000000 in
theorem vL_o1_c : zg_fe vL_o1_0.2.1 10 = some ([(8, 1)], 0) := by decide +kernel
set_option maxRecDepth 1000000 in
theorem vL_o1_r : zg_fe (vL_o1_0.2.1.drop 218) 2 = some ([(8, 1)], 0) := by decide +kernel
set_option maxRecDepth 1000000 in
theorem vL_o1_t : vL_o1_0.2.1[1]? = some (.inr (.inl (0, 340, true, [.inr (0, 255)]))) := rfl
set_option maxRecDepth 1000000 in
theorem vL_o1_9 : ∃ tg, 3 ≤ tg ∧ vL_o1_0.2.1[9]? = some (.inr (.inl (tg, 9, true, [.inl (.inr (.inl ([80, 86, 92, 98, 104, 110, 116, 122, 128], false)))]))) := ⟨_, by decide, rfl⟩
set_option maxRecDepth 1000000 in
theorem vL_o1_b : zg_xb vL_o1_0.1 ([(12, 1)], 0) 0 8 = true := by decide +kernel
set_option maxRecDepth 1000000 in
theorem vL_o1_u : vL_o1_0.1[12]? = some ((0, 8), none) := rfl
set_option maxRecDepth 1000000 in
theorem vL_o1_u2 : vL_o1_0.1[2]? = some ((-2147483648, 2147483647), none) := rfl
set_option maxRecDepth 1000000 in
theorem vL_o1_u3 : vL_o1_0.1[3]? = some ((-2147483648, 2147483647), none) := rfl
set_option maxRecDepth 1000000 in
theorem vL_o1_u5 : vL_o1_0.1[5]? = some ((-2147483648, 2147483647), none) := rfl
set_option maxRecDepth 1000000 in
theorem vL_o1_l : 0 + 218 ≤ vL_o1_0.2.1.length := by decide +kernel
set_option maxRecDepth 1000000 in
theorem vL_o2_l : ∀ acc : Bool, 218 + 69 ≤ (vL_o2 acc).2.1.length := by intro acc; cases acc <;> decide +kernel
set_option maxRecDepth 1000000 in
theorem vL_a324_0 : ∀ acc : Bool, zgL_ca4 0 218 [1, 219, 220, 238, 240, 241, 242, 286] vLK vLf zx_mlw 8 [(98, (0, 0)), (99, (0, 0)), (100, (0, 0)), (6, (0, 0)), (2, (0, 0))] (vL_nO acc) 324 34 (zq_sel acc vYo0) (zq_pr vL_o1_0 9 ([(12, 1)], 0) 80) = true := by intro acc; cases acc <;> decide +kernel
set_option maxRecDepth 1000000 in
theorem vL_s324_0 : ∀ acc : Bool, zq_as [2, 3] (zgL_as 0 [1, 219, 220, 238, 240, 241, 242, 286] zx_mlw 34 (zq_sel acc vYo0) (zq_pr vL_o1_0 9 ([(12, 1)], 0) 80)) = true ∧ (zgL_as 0 [1, 219, 220, 238, 240, 241, 242, 286] zx_mlw 34 (zq_sel acc vYo0) (zq_pr vL_o1_0 9 ([(12, 1)], 0) 80))[4]? = some (.inl ([(5, 1)], 0)) := by intro acc; cases acc <;> decide +kernel
set_option maxRecDepth 1000000 in
theorem vYo0_l : ∀ acc : Bool, (zq_sel acc vYo0).2.2.1.length = 218 := by intro acc; cases acc <;> decide +kernel
set_option maxRecDepth 1000000 in
theorem vL_a324_1 : ∀ acc : Bool, zgL_ca4 0 218 [1, 219, 220, 238, 240, 241, 242, 286] vLK vLf zx_mlw 8 [(98, (0, 0)), (99, (0, 0)), (100, (0, 0)), (6, (0, 0)), (2, (0, 0))] (vL_nO acc) 324 34 (zq_sel acc vYo1) (zq_pr vL_o1_0 9 ([(12, 1)], 0) 86) = true := by intro acc; cases acc <;> decide +kernel
set_option maxRecDepth 1000000 in
theorem vL_s324_1 : ∀ acc : Bool, zq_as [2, 3] (zgL_as 0 [1, 219, 220, 238, 240, 241, 242, 286] zx_mlw 34 (zq_sel acc vYo1) (zq_pr vL_o1_0 9 ([(12, 1)], 0) 86)) = true ∧ (zgL_as 0 [1, 219, 220, 238, 240, 241, 242, 286] zx_mlw 34 (zq_sel acc vYo1) (zq_pr vL_o1_0 9 ([(12, 1)], 0) 86))[4]? = some (.inl ([(5, 1)], 0)) := by intro acc; cases acc <;> decide +kernel
set_option maxRecDepth 1000000 in
theorem vYo1_l : ∀ acc : Bool, (zq_sel acc vYo1).2.2.1.length = 218 := by intro acc; cases acc <;> decide +kernel
set_option maxRecDepth 1000000 in
theorem vL_a324_2 : ∀ acc : Bool, zgL_ca4 0 218 [1, 219, 220, 238, 240, 241, 242, 286] vLK vLf zx_mlw 8 [(98, (0, 0)), (99, (0, 0)), (100, (0, 0)), (6, (0, 0)), (2, (0, 0))] (vL_nO acc) 324 34 (zq_sel acc vYo2) (zq_pr vL_o1_0 9 ([(12, 1)], 0) 92) = true := by intro acc; cases acc <;> decide +kernel
set_option maxRecDepth 1000000 in
theorem vL_s324_2 : ∀ acc : Bool, zq_as [2, 3] (zgL_as 0 [1, 219, 220, 238, 240, 241, 242, 286] zx_mlw 34 (zq_sel acc vYo2) (zq_pr vL_o1_0 9 ([(12, 1)], 0) 92)) = true ∧ (zgL_as 0 [1, 219, 220, 238, 240, 241, 242, 286] zx_mlw 34 (zq_sel acc vYo2) (zq_pr vL_o1_0 9 ([(12, 1)], 0) 92))[4]? = some (.inl ([(5, 1)], 0)) := by intro acc; cases acc <;> decide +kernel
set_option maxRecDepth 1000000 in
theorem vYo2_l : ∀ acc : Bool, (zq_sel acc vYo2).2.2.1.length = 218 := by intro acc; cases acc <;> decide +kernel
set_option maxRecDepth 1000000 in
theorem vL_a324_3 : ∀ acc : Bool, zgL_ca4 0 218 [1, 219, 220, 238, 240, 241, 242, 286] vLK vLf zx_mlw 8 [(98, (0, 0)), (99, (0, 0)), (100, (0, 0)), (6, (0, 0)), (2, (0, 0))] (vL_nO acc) 324 34 (zq_sel acc vYo3) (zq_pr vL_o1_0 9 ([(12, 1)], 0) 98) = true := by intro acc; cases acc <;> decide +kernel
set_option maxRecDepth 1000000 in
theorem vL_s324_3 : ∀ acc : Bool, zq_as [2, 3] (zgL_as 0 [1, 219, 220, 238, 240, 241, 242, 286] zx_mlw 34 (zq_sel acc vYo3) (zq_pr vL_o1_0 9 ([(12, 1)], 0) 98)) = true ∧ (zgL_as 0 [1, 219, 220, 238, 240, 241, 242, 286] zx_mlw 34 (zq_sel acc vYo3) (zq_pr vL_o1_0 9 ([(12, 1)], 0) 98))[4]? = some (.inl ([(5, 1)], 0)) := by intro acc; cases acc <;> decide +kernel
set_option maxRecDepth 1000000 in
theorem vYo3_l : ∀ acc : Bool, (zq_sel acc vYo3).2.2.1.length = 218 := by intro acc; cases acc <;> decide +kernel
set_option maxRecDepth 1000000 in
theorem vL_a324_4 : ∀ acc : Bool, zgL_ca4 0 218 [1, 219, 220, 238, 240, 241, 242, 286] vLK vLf zx_mlw 8 [(98, (0, 0)), (99, (0, 0)), (100, (0, 0)), (6, (0, 0)), (2, (0, 0))] (vL_nO acc) 324 34 (zq_sel acc vYo4) (zq_pr vL_o1_0 9 ([(12, 1)], 0) 104) = true := by intro acc; cases acc <;> decide +kernel
set_option maxRecDepth 1000000 in
theorem vL_s324_4 : ∀ acc : Bool, zq_as [2, 3] (zgL_as 0 [1, 219, 220, 238, 240, 241, 242, 286] zx_mlw 34 (zq_sel acc vYo4) (zq_pr vL_o1_0 9 ([(12, 1)], 0) 104)) = true ∧ (zgL_as 0 [1, 219, 220, 238, 240, 241, 242, 286] zx_mlw 34 (zq_sel acc vYo4) (zq_pr vL_o1_0 9 ([(12, 1)], 0) 104))[4]? = some (.inl ([(5, 1)], 0)) := by intro acc; cases acc <;> decide +kernel
set_option maxRecDepth 1000000 in
theorem vYo4_l : ∀ acc : Bool, (zq_sel acc vYo4).2.2.1.length = 218 := by intro acc; cases acc <;> decide +kernel
set_option maxRecDepth 1000000 in
theorem vL_a324_5 : ∀ acc : Bool, zgL_ca4 0 218 [1, 219, 220, 238, 240, 241, 242, 286] vLK vLf zx_mlw 8 [(98, (0, 0)), (99, (0, 0)), (100, (0, 0)), (6, (0, 0)), (2, (0, 0))] (vL_nO acc) 324 34 (zq_sel acc vYo5) (zq_pr vL_o1_0 9 ([(12, 1)], 0) 110) = true := by intro acc; cases acc <;> decide +kernel
set_option maxRecDepth 1000000 in
theorem vL_s324_5 : ∀ acc : Bool, zq_as [2, 3] (zgL_as 0 [1, 219, 220, 238, 240, 241, 242, 286] zx_mlw 34 (zq_sel acc vYo5) (zq_pr vL_o1_0 9 ([(12, 1)], 0) 110)) = true ∧ (zgL_as 0 [1, 219, 220, 238, 240, 241, 242, 286] zx_mlw 34 (zq_sel acc vYo5) (zq_pr vL_o1_0 9 ([(12, 1)], 0) 110))[4]? = some (.inl ([(5, 1)], 0)) := by intro acc; cases acc <;> decide +kernel
set_option maxRecDepth 1000000 in
theorem vYo5_l : ∀ acc : Bool, (zq_sel acc vYo5).2.2.1.length = 218 := by intro acc; cases acc <;> decide +kernel
set_option maxRecDepth 1000000 in
theorem vL_a324_6 : ∀ acc : Bool, zgL_ca4 0 218 [1, 219, 220, 238, 240, 241, 242, 286] vLK vLf zx_mlw 8 [(98, (0, 0)), (99, (0, 0)), (100, (0, 0)), (6, (0, 0)), (2, (0, 0))] (vL_nO acc) 324 34 (zq_sel acc vYo6) (zq_pr vL_o1_0 9 ([(12, 1)], 0) 116) = true := by intro acc; cases acc <;> decide +kernel
set_option maxRecDepth 1000000 in
theorem vL_s324_6 : ∀ acc : Bool, zq_as [2, 3] (zgL_as 0 [1, 219, 220, 238, 240, 241, 242, 286] zx_mlw 34 (zq_sel acc vYo6) (zq_pr vL_o1_0 9 ([(12, 1)], 0) 116)) = true ∧ (zgL_as 0 [1, 219, 220, 238, 240, 241, 242, 286] zx_mlw 34 (zq_sel acc vYo6) (zq_pr vL_o1_0 9 ([(12, 1)], 0) 116))[4]? = some (.inl ([(5, 1)], 0)) := by intro acc; cases acc <;> decide +kernel
set_option maxRecDepth 1000000 in
theorem vYo6_l : ∀ acc : Bool, (zq_sel acc vYo6).2.2.1.length = 218 := by intro acc; cases acc <;> decide +kernel
set_option maxRecDepth 1000000 in
theorem vL_a324_7 : ∀ acc : Bool, zgL_ca4 0 218 [1, 219, 220, 238, 240, 241, 242, 286] vLK vLf zx_mlw 8 [(98, (0, 0)), (99, (0, 0)), (100, (0, 0)), (6, (0, 0)), (2, (0, 0))] (vL_nO acc) 324 34 (zq_sel acc vYo7) (zq_pr vL_o1_0 9 ([(12, 1)], 0) 122) = true := by intro acc; cases acc <;> decide +kernel
set_option maxRecDepth 1000000 in
theorem vL_s324_7 : ∀ acc : Bool, zq_as [2, 3] (zgL_as 0 [1, 219, 220, 238, 240, 241, 242, 286] zx_mlw 34 (zq_sel acc vYo7) (zq_pr vL_o1_0 9 ([(12, 1)], 0) 122)) = true ∧ (zgL_as 0 [1, 219, 220, 238, 240, 241, 242, 286] zx_mlw 34 (zq_sel acc vYo7) (zq_pr vL_o1_0 9 ([(12, 1)], 0) 122))[4]? = some (.inl ([(5, 1)], 0)) := by intro acc; cases acc <;> decide +kernel
set_option maxRecDepth 1000000 in
theorem vYo7_l : ∀ acc : Bool, (zq_sel acc vYo7).2.2.1.length = 218 := by intro acc; cases acc <;> decide +kernel
set_option maxRecDepth 1000000 in
theorem vL_a324_8 : ∀ acc : Bool, zgL_ca4 0 218 [1, 219, 220, 238, 240, 241, 242, 286] vLK vLf zx_mlw 8 [(98, (0, 0)), (99, (0, 0)), (100, (0, 0)), (6, (0, 0)), (2, (0, 0))] (vL_nO acc) 324 34 (zq_sel acc vYo8) (zq_pr vL_o1_0 9 ([(12, 1)], 0) 128) = true := by intro acc; cases acc <;> decide +kernel
set_option maxRecDepth 1000000 in
theorem vL_s324_8 : ∀ acc : Bool, zq_as [2, 3] (zgL_as 0 [1, 219, 220, 238, 240, 241, 242, 286] zx_mlw 34 (zq_sel acc vYo8) (zq_pr vL_o1_0 9 ([(12, 1)], 0) 128)) = true ∧ (zgL_as 0 [1, 219, 220, 238, 240, 241, 242, 286] zx_mlw 34 (zq_sel acc vYo8) (zq_pr vL_o1_0 9 ([(12, 1)], 0) 128))[4]? = some (.inl ([(5, 1)], 0)) := by intro acc; cases acc <;> decide +kernel
set_option maxRecDepth 1000000 in
theorem vYo8_l : ∀ acc : Bool, (zq_sel acc vYo8).2.2.1.length = 218 := by intro acc; cases acc <;> decide +kernel
set_option maxRecDepth 1000000 in
theorem vL_a360 : ∀ acc : Bool, zgL_ca4 218 218 [1, 219, 238, 240, 241, 242, 286] vLK vLf zx_mlw 8 [(98, (0, 0)), (99, (0, 0)), (100, (0, 0)), (6, (0, 1))] [(23, vL_23, [(98, (0, 0)), (99, (0, 0)), (100, (0, 0)), (6, (0, 0))], [(([(67, 1)], 0), (([(7, 1)], 0), (6, 6)))])] 360 38 (zq_sel acc vGop5) (vL_o2 acc) = true := by intro acc; cases acc <;> decide +kernel
set_option maxRecDepth 1000000 in
theorem vL_s360 : ∀ acc : Bool, zq_as [2, 3] (zgL_as 218 [1, 219, 238, 240, 241, 242, 286] zx_mlw 38 (zq_sel acc vGop5) (vL_o2 acc)) = true ∧ (zgL_as 218 [1, 219, 238, 240, 241, 242, 286] zx_mlw 38 (zq_sel acc vGop5) (vL_o2 acc))[4]? = some (.inl ([(5, 1)], 0)) := by intro acc; cases acc <;> decide +kernel
set_option maxRecDepth 1000000 in
theorem vGop5_l : ∀ acc : Bool, (zq_sel acc vGop5).2.2.1.length = 69 := by intro acc; cases acc <;> decide +kernel
end
