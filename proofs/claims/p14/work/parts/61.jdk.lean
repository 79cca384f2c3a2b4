noncomputable section
/-! jt: the JDK's own methods of a text that stands from the start -/
def jb_coder : List (Nat × Instr × Nat) := [(0, .getstatic 38, 3), (3, .ifCond .eq 10, 3), (6, .aload_n 0, 1), (7, .getfield 15, 3), (10, .goto 4, 3), (13, .iconst 1, 1), (14, .ireturn, 1)]
set_option maxRecDepth 1000000 in
theorem jb_coder_ok : zx_tbk prog_22_method_152_code jb_coder = true := by decide +kernel
theorem jd_coder_0 : decode prog_22_method_152_code 0 = .ok (.getstatic 38, 3) := (zx_TB_of (cc := prog_22_method_152_code) (tbl := jb_coder) jb_coder_ok (0, .getstatic 38, 3) (List.mem_of_getElem? (i := 0) rfl)).1
theorem jd_coder_3 : decode prog_22_method_152_code 3 = .ok (.ifCond .eq 10, 3) := (zx_TB_of (cc := prog_22_method_152_code) (tbl := jb_coder) jb_coder_ok (3, .ifCond .eq 10, 3) (List.mem_of_getElem? (i := 1) rfl)).1
theorem jd_coder_6 : decode prog_22_method_152_code 6 = .ok (.aload_n 0, 1) := (zx_TB_of (cc := prog_22_method_152_code) (tbl := jb_coder) jb_coder_ok (6, .aload_n 0, 1) (List.mem_of_getElem? (i := 2) rfl)).1
theorem jd_coder_7 : decode prog_22_method_152_code 7 = .ok (.getfield 15, 3) := (zx_TB_of (cc := prog_22_method_152_code) (tbl := jb_coder) jb_coder_ok (7, .getfield 15, 3) (List.mem_of_getElem? (i := 3) rfl)).1
theorem jd_coder_10 : decode prog_22_method_152_code 10 = .ok (.goto 4, 3) := (zx_TB_of (cc := prog_22_method_152_code) (tbl := jb_coder) jb_coder_ok (10, .goto 4, 3) (List.mem_of_getElem? (i := 4) rfl)).1
theorem jd_coder_13 : decode prog_22_method_152_code 13 = .ok (.iconst 1, 1) := (zx_TB_of (cc := prog_22_method_152_code) (tbl := jb_coder) jb_coder_ok (13, .iconst 1, 1) (List.mem_of_getElem? (i := 5) rfl)).1
theorem jd_coder_14 : decode prog_22_method_152_code 14 = .ok (.ireturn, 1) := (zx_TB_of (cc := prog_22_method_152_code) (tbl := jb_coder) jb_coder_ok (14, .ireturn, 1) (List.mem_of_getElem? (i := 6) rfl)).1
def jb_len : List (Nat × Instr × Nat) := [(0, .aload_n 0, 1), (1, .getfield 9, 3), (4, .arraylength, 1), (5, .aload_n 0, 1), (6, .invokevirtual 335, 3), (9, .ishr, 1), (10, .ireturn, 1)]
set_option maxRecDepth 1000000 in
theorem jb_len_ok : zx_tbk prog_22_method_54_code jb_len = true := by decide +kernel
theorem jd_len_0 : decode prog_22_method_54_code 0 = .ok (.aload_n 0, 1) := (zx_TB_of (cc := prog_22_method_54_code) (tbl := jb_len) jb_len_ok (0, .aload_n 0, 1) (List.mem_of_getElem? (i := 0) rfl)).1
theorem jd_len_1 : decode prog_22_method_54_code 1 = .ok (.getfield 9, 3) := (zx_TB_of (cc := prog_22_method_54_code) (tbl := jb_len) jb_len_ok (1, .getfield 9, 3) (List.mem_of_getElem? (i := 1) rfl)).1
theorem jd_len_4 : decode prog_22_method_54_code 4 = .ok (.arraylength, 1) := (zx_TB_of (cc := prog_22_method_54_code) (tbl := jb_len) jb_len_ok (4, .arraylength, 1) (List.mem_of_getElem? (i := 2) rfl)).1
theorem jd_len_5 : decode prog_22_method_54_code 5 = .ok (.aload_n 0, 1) := (zx_TB_of (cc := prog_22_method_54_code) (tbl := jb_len) jb_len_ok (5, .aload_n 0, 1) (List.mem_of_getElem? (i := 3) rfl)).1
theorem jd_len_6 : decode prog_22_method_54_code 6 = .ok (.invokevirtual 335, 3) := (zx_TB_of (cc := prog_22_method_54_code) (tbl := jb_len) jb_len_ok (6, .invokevirtual 335, 3) (List.mem_of_getElem? (i := 4) rfl)).1
theorem jd_len_9 : decode prog_22_method_54_code 9 = .ok (.ishr, 1) := (zx_TB_of (cc := prog_22_method_54_code) (tbl := jb_len) jb_len_ok (9, .ishr, 1) (List.mem_of_getElem? (i := 5) rfl)).1
theorem jd_len_10 : decode prog_22_method_54_code 10 = .ok (.ireturn, 1) := (zx_TB_of (cc := prog_22_method_54_code) (tbl := jb_len) jb_len_ok (10, .ireturn, 1) (List.mem_of_getElem? (i := 6) rfl)).1
def jb_lat : List (Nat × Instr × Nat) := [(0, .getstatic 38, 3), (3, .ifCond .eq 14, 3), (6, .aload_n 0, 1), (7, .getfield 15, 3), (10, .ifCond .ne 7, 3), (13, .iconst 1, 1), (14, .goto 4, 3), (18, .ireturn, 1)]
set_option maxRecDepth 1000000 in
theorem jb_lat_ok : zx_tbk prog_22_method_154_code jb_lat = true := by decide +kernel
theorem jd_lat_0 : decode prog_22_method_154_code 0 = .ok (.getstatic 38, 3) := (zx_TB_of (cc := prog_22_method_154_code) (tbl := jb_lat) jb_lat_ok (0, .getstatic 38, 3) (List.mem_of_getElem? (i := 0) rfl)).1
theorem jd_lat_3 : decode prog_22_method_154_code 3 = .ok (.ifCond .eq 14, 3) := (zx_TB_of (cc := prog_22_method_154_code) (tbl := jb_lat) jb_lat_ok (3, .ifCond .eq 14, 3) (List.mem_of_getElem? (i := 1) rfl)).1
theorem jd_lat_6 : decode prog_22_method_154_code 6 = .ok (.aload_n 0, 1) := (zx_TB_of (cc := prog_22_method_154_code) (tbl := jb_lat) jb_lat_ok (6, .aload_n 0, 1) (List.mem_of_getElem? (i := 2) rfl)).1
theorem jd_lat_7 : decode prog_22_method_154_code 7 = .ok (.getfield 15, 3) := (zx_TB_of (cc := prog_22_method_154_code) (tbl := jb_lat) jb_lat_ok (7, .getfield 15, 3) (List.mem_of_getElem? (i := 3) rfl)).1
theorem jd_lat_10 : decode prog_22_method_154_code 10 = .ok (.ifCond .ne 7, 3) := (zx_TB_of (cc := prog_22_method_154_code) (tbl := jb_lat) jb_lat_ok (10, .ifCond .ne 7, 3) (List.mem_of_getElem? (i := 4) rfl)).1
theorem jd_lat_13 : decode prog_22_method_154_code 13 = .ok (.iconst 1, 1) := (zx_TB_of (cc := prog_22_method_154_code) (tbl := jb_lat) jb_lat_ok (13, .iconst 1, 1) (List.mem_of_getElem? (i := 5) rfl)).1
theorem jd_lat_14 : decode prog_22_method_154_code 14 = .ok (.goto 4, 3) := (zx_TB_of (cc := prog_22_method_154_code) (tbl := jb_lat) jb_lat_ok (14, .goto 4, 3) (List.mem_of_getElem? (i := 6) rfl)).1
theorem jd_lat_18 : decode prog_22_method_154_code 18 = .ok (.ireturn, 1) := (zx_TB_of (cc := prog_22_method_154_code) (tbl := jb_lat) jb_lat_ok (18, .ireturn, 1) (List.mem_of_getElem? (i := 7) rfl)).1
def jb_pre : List (Nat × Instr × Nat) := [(0, .iload_n 0, 1), (1, .ifCond .lt 8, 3), (4, .iload_n 0, 1), (5, .iload_n 1, 1), (6, .if_icmp .lt 10, 3), (16, .iload_n 0, 1), (17, .ireturn, 1)]
set_option maxRecDepth 1000000 in
theorem jb_pre_ok : zx_tbk prog_31_method_11_code jb_pre = true := by decide +kernel
theorem jd_pre_0 : decode prog_31_method_11_code 0 = .ok (.iload_n 0, 1) := (zx_TB_of (cc := prog_31_method_11_code) (tbl := jb_pre) jb_pre_ok (0, .iload_n 0, 1) (List.mem_of_getElem? (i := 0) rfl)).1
theorem jd_pre_1 : decode prog_31_method_11_code 1 = .ok (.ifCond .lt 8, 3) := (zx_TB_of (cc := prog_31_method_11_code) (tbl := jb_pre) jb_pre_ok (1, .ifCond .lt 8, 3) (List.mem_of_getElem? (i := 1) rfl)).1
theorem jd_pre_4 : decode prog_31_method_11_code 4 = .ok (.iload_n 0, 1) := (zx_TB_of (cc := prog_31_method_11_code) (tbl := jb_pre) jb_pre_ok (4, .iload_n 0, 1) (List.mem_of_getElem? (i := 2) rfl)).1
theorem jd_pre_5 : decode prog_31_method_11_code 5 = .ok (.iload_n 1, 1) := (zx_TB_of (cc := prog_31_method_11_code) (tbl := jb_pre) jb_pre_ok (5, .iload_n 1, 1) (List.mem_of_getElem? (i := 3) rfl)).1
theorem jd_pre_6 : decode prog_31_method_11_code 6 = .ok (.if_icmp .lt 10, 3) := (zx_TB_of (cc := prog_31_method_11_code) (tbl := jb_pre) jb_pre_ok (6, .if_icmp .lt 10, 3) (List.mem_of_getElem? (i := 4) rfl)).1
theorem jd_pre_16 : decode prog_31_method_11_code 16 = .ok (.iload_n 0, 1) := (zx_TB_of (cc := prog_31_method_11_code) (tbl := jb_pre) jb_pre_ok (16, .iload_n 0, 1) (List.mem_of_getElem? (i := 5) rfl)).1
theorem jd_pre_17 : decode prog_31_method_11_code 17 = .ok (.ireturn, 1) := (zx_TB_of (cc := prog_31_method_11_code) (tbl := jb_pre) jb_pre_ok (17, .ireturn, 1) (List.mem_of_getElem? (i := 6) rfl)).1
def jb_chk : List (Nat × Instr × Nat) := [(0, .iload_n 0, 1), (1, .iload_n 1, 1), (2, .getstatic 1053, 3), (5, .invokestatic 1059, 3), (8, .pop, 1), (9, .return_, 1)]
set_option maxRecDepth 1000000 in
theorem jb_chk_ok : zx_tbk prog_22_method_155_code jb_chk = true := by decide +kernel
theorem jd_chk_0 : decode prog_22_method_155_code 0 = .ok (.iload_n 0, 1) := (zx_TB_of (cc := prog_22_method_155_code) (tbl := jb_chk) jb_chk_ok (0, .iload_n 0, 1) (List.mem_of_getElem? (i := 0) rfl)).1
theorem jd_chk_1 : decode prog_22_method_155_code 1 = .ok (.iload_n 1, 1) := (zx_TB_of (cc := prog_22_method_155_code) (tbl := jb_chk) jb_chk_ok (1, .iload_n 1, 1) (List.mem_of_getElem? (i := 1) rfl)).1
theorem jd_chk_2 : decode prog_22_method_155_code 2 = .ok (.getstatic 1053, 3) := (zx_TB_of (cc := prog_22_method_155_code) (tbl := jb_chk) jb_chk_ok (2, .getstatic 1053, 3) (List.mem_of_getElem? (i := 2) rfl)).1
theorem jd_chk_5 : decode prog_22_method_155_code 5 = .ok (.invokestatic 1059, 3) := (zx_TB_of (cc := prog_22_method_155_code) (tbl := jb_chk) jb_chk_ok (5, .invokestatic 1059, 3) (List.mem_of_getElem? (i := 3) rfl)).1
theorem jd_chk_8 : decode prog_22_method_155_code 8 = .ok (.pop, 1) := (zx_TB_of (cc := prog_22_method_155_code) (tbl := jb_chk) jb_chk_ok (8, .pop, 1) (List.mem_of_getElem? (i := 4) rfl)).1
theorem jd_chk_9 : decode prog_22_method_155_code 9 = .ok (.return_, 1) := (zx_TB_of (cc := prog_22_method_155_code) (tbl := jb_chk) jb_chk_ok (9, .return_, 1) (List.mem_of_getElem? (i := 5) rfl)).1
def jb_at1 : List (Nat × Instr × Nat) := [(0, .iload_n 1, 1), (1, .aload_n 0, 1), (2, .arraylength, 1), (3, .invokestatic 9, 3), (6, .aload_n 0, 1), (7, .iload_n 1, 1), (8, .baload, 1), (9, .sipush 255, 3), (12, .iand, 1), (13, .i2c, 1), (14, .ireturn, 1)]
set_option maxRecDepth 1000000 in
theorem jb_at1_ok : zx_tbk prog_23_method_2_code jb_at1 = true := by decide +kernel
theorem jd_at1_0 : decode prog_23_method_2_code 0 = .ok (.iload_n 1, 1) := (zx_TB_of (cc := prog_23_method_2_code) (tbl := jb_at1) jb_at1_ok (0, .iload_n 1, 1) (List.mem_of_getElem? (i := 0) rfl)).1
theorem jd_at1_1 : decode prog_23_method_2_code 1 = .ok (.aload_n 0, 1) := (zx_TB_of (cc := prog_23_method_2_code) (tbl := jb_at1) jb_at1_ok (1, .aload_n 0, 1) (List.mem_of_getElem? (i := 1) rfl)).1
theorem jd_at1_2 : decode prog_23_method_2_code 2 = .ok (.arraylength, 1) := (zx_TB_of (cc := prog_23_method_2_code) (tbl := jb_at1) jb_at1_ok (2, .arraylength, 1) (List.mem_of_getElem? (i := 2) rfl)).1
theorem jd_at1_3 : decode prog_23_method_2_code 3 = .ok (.invokestatic 9, 3) := (zx_TB_of (cc := prog_23_method_2_code) (tbl := jb_at1) jb_at1_ok (3, .invokestatic 9, 3) (List.mem_of_getElem? (i := 3) rfl)).1
theorem jd_at1_6 : decode prog_23_method_2_code 6 = .ok (.aload_n 0, 1) := (zx_TB_of (cc := prog_23_method_2_code) (tbl := jb_at1) jb_at1_ok (6, .aload_n 0, 1) (List.mem_of_getElem? (i := 4) rfl)).1
theorem jd_at1_7 : decode prog_23_method_2_code 7 = .ok (.iload_n 1, 1) := (zx_TB_of (cc := prog_23_method_2_code) (tbl := jb_at1) jb_at1_ok (7, .iload_n 1, 1) (List.mem_of_getElem? (i := 5) rfl)).1
theorem jd_at1_8 : decode prog_23_method_2_code 8 = .ok (.baload, 1) := (zx_TB_of (cc := prog_23_method_2_code) (tbl := jb_at1) jb_at1_ok (8, .baload, 1) (List.mem_of_getElem? (i := 6) rfl)).1
theorem jd_at1_9 : decode prog_23_method_2_code 9 = .ok (.sipush 255, 3) := (zx_TB_of (cc := prog_23_method_2_code) (tbl := jb_at1) jb_at1_ok (9, .sipush 255, 3) (List.mem_of_getElem? (i := 7) rfl)).1
theorem jd_at1_12 : decode prog_23_method_2_code 12 = .ok (.iand, 1) := (zx_TB_of (cc := prog_23_method_2_code) (tbl := jb_at1) jb_at1_ok (12, .iand, 1) (List.mem_of_getElem? (i := 8) rfl)).1
theorem jd_at1_13 : decode prog_23_method_2_code 13 = .ok (.i2c, 1) := (zx_TB_of (cc := prog_23_method_2_code) (tbl := jb_at1) jb_at1_ok (13, .i2c, 1) (List.mem_of_getElem? (i := 9) rfl)).1
theorem jd_at1_14 : decode prog_23_method_2_code 14 = .ok (.ireturn, 1) := (zx_TB_of (cc := prog_23_method_2_code) (tbl := jb_at1) jb_at1_ok (14, .ireturn, 1) (List.mem_of_getElem? (i := 10) rfl)).1
def jb_at : List (Nat × Instr × Nat) := [(0, .aload_n 0, 1), (1, .invokevirtual 492, 3), (4, .ifCond .eq 12, 3), (7, .aload_n 0, 1), (8, .getfield 9, 3), (11, .iload_n 1, 1), (12, .invokestatic 495, 3), (15, .ireturn, 1)]
set_option maxRecDepth 1000000 in
theorem jb_at_ok : zx_tbk prog_22_method_56_code jb_at = true := by decide +kernel
theorem jd_at_0 : decode prog_22_method_56_code 0 = .ok (.aload_n 0, 1) := (zx_TB_of (cc := prog_22_method_56_code) (tbl := jb_at) jb_at_ok (0, .aload_n 0, 1) (List.mem_of_getElem? (i := 0) rfl)).1
theorem jd_at_1 : decode prog_22_method_56_code 1 = .ok (.invokevirtual 492, 3) := (zx_TB_of (cc := prog_22_method_56_code) (tbl := jb_at) jb_at_ok (1, .invokevirtual 492, 3) (List.mem_of_getElem? (i := 1) rfl)).1
theorem jd_at_4 : decode prog_22_method_56_code 4 = .ok (.ifCond .eq 12, 3) := (zx_TB_of (cc := prog_22_method_56_code) (tbl := jb_at) jb_at_ok (4, .ifCond .eq 12, 3) (List.mem_of_getElem? (i := 2) rfl)).1
theorem jd_at_7 : decode prog_22_method_56_code 7 = .ok (.aload_n 0, 1) := (zx_TB_of (cc := prog_22_method_56_code) (tbl := jb_at) jb_at_ok (7, .aload_n 0, 1) (List.mem_of_getElem? (i := 3) rfl)).1
theorem jd_at_8 : decode prog_22_method_56_code 8 = .ok (.getfield 9, 3) := (zx_TB_of (cc := prog_22_method_56_code) (tbl := jb_at) jb_at_ok (8, .getfield 9, 3) (List.mem_of_getElem? (i := 4) rfl)).1
theorem jd_at_11 : decode prog_22_method_56_code 11 = .ok (.iload_n 1, 1) := (zx_TB_of (cc := prog_22_method_56_code) (tbl := jb_at) jb_at_ok (11, .iload_n 1, 1) (List.mem_of_getElem? (i := 5) rfl)).1
theorem jd_at_12 : decode prog_22_method_56_code 12 = .ok (.invokestatic 495, 3) := (zx_TB_of (cc := prog_22_method_56_code) (tbl := jb_at) jb_at_ok (12, .invokestatic 495, 3) (List.mem_of_getElem? (i := 6) rfl)).1
theorem jd_at_15 : decode prog_22_method_56_code 15 = .ok (.ireturn, 1) := (zx_TB_of (cc := prog_22_method_56_code) (tbl := jb_at) jb_at_ok (15, .ireturn, 1) (List.mem_of_getElem? (i := 7) rfl)).1
def jb_find : List (Nat × Instr × Nat) := [(0, .iconst 0, 1), (1, .istore_n 3, 1), (2, .iload_n 3, 1), (3, .getstatic 126, 3), (6, .arraylength, 1), (7, .if_icmp .ge 91, 3), (10, .getstatic 126, 3), (13, .iload_n 3, 1), (14, .aaload, 1), (15, .getfield 115, 3), (18, .astore 4, 2), (20, .iconst 0, 1), (21, .istore 5, 2), (23, .iload 5, 2), (25, .aload 4, 2), (27, .invokevirtual 129, 3), (30, .if_icmp .ge 33, 3), (33, .iload_n 1, 1), (34, .iload 5, 2), (36, .iadd, 1), (37, .iload_n 2, 1), (38, .if_icmp .ge 25, 3), (41, .aload 4, 2), (43, .iload 5, 2), (45, .invokevirtual 135, 3), (48, .aload_n 0, 1), (49, .iload_n 1, 1), (50, .iload 5, 2), (52, .iadd, 1), (53, .iaload, 1), (54, .if_icmp .ne 9, 3), (57, .iinc 5 1, 3), (60, .goto (-37), 3), (63, .iload 5, 2), (65, .ifCond .le 27, 3), (68, .iload 5, 2), (70, .aload 4, 2), (72, .invokevirtual 129, 3), (75, .if_icmp .ne 17, 3), (78, .iload 5, 2), (80, .iload_n 2, 1), (81, .iload_n 1, 1), (82, .isub, 1), (83, .if_icmp .ne 9, 3), (86, .getstatic 126, 3), (89, .iload_n 3, 1), (90, .aaload, 1), (91, .areturn, 1), (92, .iinc 3 1, 3), (95, .goto (-93), 3), (98, .getstatic 93, 3), (101, .areturn, 1)]
set_option maxRecDepth 1000000 in
theorem jb_find_ok : zx_tbk prog_10_method_4_code jb_find = true := by decide +kernel
theorem jd_find_0 : decode prog_10_method_4_code 0 = .ok (.iconst 0, 1) := (zx_TB_of (cc := prog_10_method_4_code) (tbl := jb_find) jb_find_ok (0, .iconst 0, 1) (List.mem_of_getElem? (i := 0) rfl)).1
theorem jd_find_1 : decode prog_10_method_4_code 1 = .ok (.istore_n 3, 1) := (zx_TB_of (cc := prog_10_method_4_code) (tbl := jb_find) jb_find_ok (1, .istore_n 3, 1) (List.mem_of_getElem? (i := 1) rfl)).1
theorem jd_find_2 : decode prog_10_method_4_code 2 = .ok (.iload_n 3, 1) := (zx_TB_of (cc := prog_10_method_4_code) (tbl := jb_find) jb_find_ok (2, .iload_n 3, 1) (List.mem_of_getElem? (i := 2) rfl)).1
theorem jd_find_3 : decode prog_10_method_4_code 3 = .ok (.getstatic 126, 3) := (zx_TB_of (cc := prog_10_method_4_code) (tbl := jb_find) jb_find_ok (3, .getstatic 126, 3) (List.mem_of_getElem? (i := 3) rfl)).1
theorem jd_find_6 : decode prog_10_method_4_code 6 = .ok (.arraylength, 1) := (zx_TB_of (cc := prog_10_method_4_code) (tbl := jb_find) jb_find_ok (6, .arraylength, 1) (List.mem_of_getElem? (i := 4) rfl)).1
theorem jd_find_7 : decode prog_10_method_4_code 7 = .ok (.if_icmp .ge 91, 3) := (zx_TB_of (cc := prog_10_method_4_code) (tbl := jb_find) jb_find_ok (7, .if_icmp .ge 91, 3) (List.mem_of_getElem? (i := 5) rfl)).1
theorem jd_find_10 : decode prog_10_method_4_code 10 = .ok (.getstatic 126, 3) := (zx_TB_of (cc := prog_10_method_4_code) (tbl := jb_find) jb_find_ok (10, .getstatic 126, 3) (List.mem_of_getElem? (i := 6) rfl)).1
theorem jd_find_13 : decode prog_10_method_4_code 13 = .ok (.iload_n 3, 1) := (zx_TB_of (cc := prog_10_method_4_code) (tbl := jb_find) jb_find_ok (13, .iload_n 3, 1) (List.mem_of_getElem? (i := 7) rfl)).1
theorem jd_find_14 : decode prog_10_method_4_code 14 = .ok (.aaload, 1) := (zx_TB_of (cc := prog_10_method_4_code) (tbl := jb_find) jb_find_ok (14, .aaload, 1) (List.mem_of_getElem? (i := 8) rfl)).1
theorem jd_find_15 : decode prog_10_method_4_code 15 = .ok (.getfield 115, 3) := (zx_TB_of (cc := prog_10_method_4_code) (tbl := jb_find) jb_find_ok (15, .getfield 115, 3) (List.mem_of_getElem? (i := 9) rfl)).1
theorem jd_find_18 : decode prog_10_method_4_code 18 = .ok (.astore 4, 2) := (zx_TB_of (cc := prog_10_method_4_code) (tbl := jb_find) jb_find_ok (18, .astore 4, 2) (List.mem_of_getElem? (i := 10) rfl)).1
theorem jd_find_20 : decode prog_10_method_4_code 20 = .ok (.iconst 0, 1) := (zx_TB_of (cc := prog_10_method_4_code) (tbl := jb_find) jb_find_ok (20, .iconst 0, 1) (List.mem_of_getElem? (i := 11) rfl)).1
theorem jd_find_21 : decode prog_10_method_4_code 21 = .ok (.istore 5, 2) := (zx_TB_of (cc := prog_10_method_4_code) (tbl := jb_find) jb_find_ok (21, .istore 5, 2) (List.mem_of_getElem? (i := 12) rfl)).1
theorem jd_find_23 : decode prog_10_method_4_code 23 = .ok (.iload 5, 2) := (zx_TB_of (cc := prog_10_method_4_code) (tbl := jb_find) jb_find_ok (23, .iload 5, 2) (List.mem_of_getElem? (i := 13) rfl)).1
theorem jd_find_25 : decode prog_10_method_4_code 25 = .ok (.aload 4, 2) := (zx_TB_of (cc := prog_10_method_4_code) (tbl := jb_find) jb_find_ok (25, .aload 4, 2) (List.mem_of_getElem? (i := 14) rfl)).1
theorem jd_find_27 : decode prog_10_method_4_code 27 = .ok (.invokevirtual 129, 3) := (zx_TB_of (cc := prog_10_method_4_code) (tbl := jb_find) jb_find_ok (27, .invokevirtual 129, 3) (List.mem_of_getElem? (i := 15) rfl)).1
theorem jd_find_30 : decode prog_10_method_4_code 30 = .ok (.if_icmp .ge 33, 3) := (zx_TB_of (cc := prog_10_method_4_code) (tbl := jb_find) jb_find_ok (30, .if_icmp .ge 33, 3) (List.mem_of_getElem? (i := 16) rfl)).1
theorem jd_find_33 : decode prog_10_method_4_code 33 = .ok (.iload_n 1, 1) := (zx_TB_of (cc := prog_10_method_4_code) (tbl := jb_find) jb_find_ok (33, .iload_n 1, 1) (List.mem_of_getElem? (i := 17) rfl)).1
theorem jd_find_34 : decode prog_10_method_4_code 34 = .ok (.iload 5, 2) := (zx_TB_of (cc := prog_10_method_4_code) (tbl := jb_find) jb_find_ok (34, .iload 5, 2) (List.mem_of_getElem? (i := 18) rfl)).1
theorem jd_find_36 : decode prog_10_method_4_code 36 = .ok (.iadd, 1) := (zx_TB_of (cc := prog_10_method_4_code) (tbl := jb_find) jb_find_ok (36, .iadd, 1) (List.mem_of_getElem? (i := 19) rfl)).1
theorem jd_find_37 : decode prog_10_method_4_code 37 = .ok (.iload_n 2, 1) := (zx_TB_of (cc := prog_10_method_4_code) (tbl := jb_find) jb_find_ok (37, .iload_n 2, 1) (List.mem_of_getElem? (i := 20) rfl)).1
theorem jd_find_38 : decode prog_10_method_4_code 38 = .ok (.if_icmp .ge 25, 3) := (zx_TB_of (cc := prog_10_method_4_code) (tbl := jb_find) jb_find_ok (38, .if_icmp .ge 25, 3) (List.mem_of_getElem? (i := 21) rfl)).1
theorem jd_find_41 : decode prog_10_method_4_code 41 = .ok (.aload 4, 2) := (zx_TB_of (cc := prog_10_method_4_code) (tbl := jb_find) jb_find_ok (41, .aload 4, 2) (List.mem_of_getElem? (i := 22) rfl)).1
theorem jd_find_43 : decode prog_10_method_4_code 43 = .ok (.iload 5, 2) := (zx_TB_of (cc := prog_10_method_4_code) (tbl := jb_find) jb_find_ok (43, .iload 5, 2) (List.mem_of_getElem? (i := 23) rfl)).1
theorem jd_find_45 : decode prog_10_method_4_code 45 = .ok (.invokevirtual 135, 3) := (zx_TB_of (cc := prog_10_method_4_code) (tbl := jb_find) jb_find_ok (45, .invokevirtual 135, 3) (List.mem_of_getElem? (i := 24) rfl)).1
theorem jd_find_48 : decode prog_10_method_4_code 48 = .ok (.aload_n 0, 1) := (zx_TB_of (cc := prog_10_method_4_code) (tbl := jb_find) jb_find_ok (48, .aload_n 0, 1) (List.mem_of_getElem? (i := 25) rfl)).1
theorem jd_find_49 : decode prog_10_method_4_code 49 = .ok (.iload_n 1, 1) := (zx_TB_of (cc := prog_10_method_4_code) (tbl := jb_find) jb_find_ok (49, .iload_n 1, 1) (List.mem_of_getElem? (i := 26) rfl)).1
theorem jd_find_50 : decode prog_10_method_4_code 50 = .ok (.iload 5, 2) := (zx_TB_of (cc := prog_10_method_4_code) (tbl := jb_find) jb_find_ok (50, .iload 5, 2) (List.mem_of_getElem? (i := 27) rfl)).1
theorem jd_find_52 : decode prog_10_method_4_code 52 = .ok (.iadd, 1) := (zx_TB_of (cc := prog_10_method_4_code) (tbl := jb_find) jb_find_ok (52, .iadd, 1) (List.mem_of_getElem? (i := 28) rfl)).1
theorem jd_find_53 : decode prog_10_method_4_code 53 = .ok (.iaload, 1) := (zx_TB_of (cc := prog_10_method_4_code) (tbl := jb_find) jb_find_ok (53, .iaload, 1) (List.mem_of_getElem? (i := 29) rfl)).1
theorem jd_find_54 : decode prog_10_method_4_code 54 = .ok (.if_icmp .ne 9, 3) := (zx_TB_of (cc := prog_10_method_4_code) (tbl := jb_find) jb_find_ok (54, .if_icmp .ne 9, 3) (List.mem_of_getElem? (i := 30) rfl)).1
theorem jd_find_57 : decode prog_10_method_4_code 57 = .ok (.iinc 5 1, 3) := (zx_TB_of (cc := prog_10_method_4_code) (tbl := jb_find) jb_find_ok (57, .iinc 5 1, 3) (List.mem_of_getElem? (i := 31) rfl)).1
theorem jd_find_60 : decode prog_10_method_4_code 60 = .ok (.goto (-37), 3) := (zx_TB_of (cc := prog_10_method_4_code) (tbl := jb_find) jb_find_ok (60, .goto (-37), 3) (List.mem_of_getElem? (i := 32) rfl)).1
theorem jd_find_63 : decode prog_10_method_4_code 63 = .ok (.iload 5, 2) := (zx_TB_of (cc := prog_10_method_4_code) (tbl := jb_find) jb_find_ok (63, .iload 5, 2) (List.mem_of_getElem? (i := 33) rfl)).1
theorem jd_find_65 : decode prog_10_method_4_code 65 = .ok (.ifCond .le 27, 3) := (zx_TB_of (cc := prog_10_method_4_code) (tbl := jb_find) jb_find_ok (65, .ifCond .le 27, 3) (List.mem_of_getElem? (i := 34) rfl)).1
theorem jd_find_68 : decode prog_10_method_4_code 68 = .ok (.iload 5, 2) := (zx_TB_of (cc := prog_10_method_4_code) (tbl := jb_find) jb_find_ok (68, .iload 5, 2) (List.mem_of_getElem? (i := 35) rfl)).1
theorem jd_find_70 : decode prog_10_method_4_code 70 = .ok (.aload 4, 2) := (zx_TB_of (cc := prog_10_method_4_code) (tbl := jb_find) jb_find_ok (70, .aload 4, 2) (List.mem_of_getElem? (i := 36) rfl)).1
theorem jd_find_72 : decode prog_10_method_4_code 72 = .ok (.invokevirtual 129, 3) := (zx_TB_of (cc := prog_10_method_4_code) (tbl := jb_find) jb_find_ok (72, .invokevirtual 129, 3) (List.mem_of_getElem? (i := 37) rfl)).1
theorem jd_find_75 : decode prog_10_method_4_code 75 = .ok (.if_icmp .ne 17, 3) := (zx_TB_of (cc := prog_10_method_4_code) (tbl := jb_find) jb_find_ok (75, .if_icmp .ne 17, 3) (List.mem_of_getElem? (i := 38) rfl)).1
theorem jd_find_78 : decode prog_10_method_4_code 78 = .ok (.iload 5, 2) := (zx_TB_of (cc := prog_10_method_4_code) (tbl := jb_find) jb_find_ok (78, .iload 5, 2) (List.mem_of_getElem? (i := 39) rfl)).1
theorem jd_find_80 : decode prog_10_method_4_code 80 = .ok (.iload_n 2, 1) := (zx_TB_of (cc := prog_10_method_4_code) (tbl := jb_find) jb_find_ok (80, .iload_n 2, 1) (List.mem_of_getElem? (i := 40) rfl)).1
theorem jd_find_81 : decode prog_10_method_4_code 81 = .ok (.iload_n 1, 1) := (zx_TB_of (cc := prog_10_method_4_code) (tbl := jb_find) jb_find_ok (81, .iload_n 1, 1) (List.mem_of_getElem? (i := 41) rfl)).1
theorem jd_find_82 : decode prog_10_method_4_code 82 = .ok (.isub, 1) := (zx_TB_of (cc := prog_10_method_4_code) (tbl := jb_find) jb_find_ok (82, .isub, 1) (List.mem_of_getElem? (i := 42) rfl)).1
theorem jd_find_83 : decode prog_10_method_4_code 83 = .ok (.if_icmp .ne 9, 3) := (zx_TB_of (cc := prog_10_method_4_code) (tbl := jb_find) jb_find_ok (83, .if_icmp .ne 9, 3) (List.mem_of_getElem? (i := 43) rfl)).1
theorem jd_find_86 : decode prog_10_method_4_code 86 = .ok (.getstatic 126, 3) := (zx_TB_of (cc := prog_10_method_4_code) (tbl := jb_find) jb_find_ok (86, .getstatic 126, 3) (List.mem_of_getElem? (i := 44) rfl)).1
theorem jd_find_89 : decode prog_10_method_4_code 89 = .ok (.iload_n 3, 1) := (zx_TB_of (cc := prog_10_method_4_code) (tbl := jb_find) jb_find_ok (89, .iload_n 3, 1) (List.mem_of_getElem? (i := 45) rfl)).1
theorem jd_find_90 : decode prog_10_method_4_code 90 = .ok (.aaload, 1) := (zx_TB_of (cc := prog_10_method_4_code) (tbl := jb_find) jb_find_ok (90, .aaload, 1) (List.mem_of_getElem? (i := 46) rfl)).1
theorem jd_find_91 : decode prog_10_method_4_code 91 = .ok (.areturn, 1) := (zx_TB_of (cc := prog_10_method_4_code) (tbl := jb_find) jb_find_ok (91, .areturn, 1) (List.mem_of_getElem? (i := 47) rfl)).1
theorem jd_find_92 : decode prog_10_method_4_code 92 = .ok (.iinc 3 1, 3) := (zx_TB_of (cc := prog_10_method_4_code) (tbl := jb_find) jb_find_ok (92, .iinc 3 1, 3) (List.mem_of_getElem? (i := 48) rfl)).1
theorem jd_find_95 : decode prog_10_method_4_code 95 = .ok (.goto (-93), 3) := (zx_TB_of (cc := prog_10_method_4_code) (tbl := jb_find) jb_find_ok (95, .goto (-93), 3) (List.mem_of_getElem? (i := 49) rfl)).1
theorem jd_find_98 : decode prog_10_method_4_code 98 = .ok (.getstatic 93, 3) := (zx_TB_of (cc := prog_10_method_4_code) (tbl := jb_find) jb_find_ok (98, .getstatic 93, 3) (List.mem_of_getElem? (i := 50) rfl)).1
theorem jd_find_101 : decode prog_10_method_4_code 101 = .ok (.areturn, 1) := (zx_TB_of (cc := prog_10_method_4_code) (tbl := jb_find) jb_find_ok (101, .areturn, 1) (List.mem_of_getElem? (i := 51) rfl)).1
def jy_coder : MethodName := ⟨"java/lang/String", "coder", "()B"⟩
def jy_len : MethodName := ⟨"java/lang/String", "length", "()I"⟩
def jy_lat : MethodName := ⟨"java/lang/String", "isLatin1", "()Z"⟩
def jy_pre : MethodName := ⟨"jdk/internal/util/Preconditions", "checkIndex", "(IILjava/util/function/BiFunction;)I"⟩
def jy_chk : MethodName := ⟨"java/lang/String", "checkIndex", "(II)V"⟩
def jy_at1 : MethodName := ⟨"java/lang/StringLatin1", "charAt", "([BI)C"⟩
def jy_at : MethodName := ⟨"java/lang/String", "charAt", "(I)C"⟩
def jw_l : List Jvm.Cond := [.fieldLink "java/lang/String" 38 "java/lang/String" "COMPACT_STRINGS" "Z", .fieldLink "java/lang/String" 15 "java/lang/String" "coder" "B", .fieldLink "java/lang/String" 9 "java/lang/String" "value" "[B", .fieldLink "java/lang/String" 1053 "jdk/internal/util/Preconditions" "SIOOBE_FORMATTER" "Ljava/util/function/BiFunction;", .fieldLink "OperaHouse$Token" 126 "OperaHouse$Token" "ALL" "[LOperaHouse$Token;", .fieldLink "OperaHouse$Token" 93 "OperaHouse$Token" "BAD" "LOperaHouse$Token;", .fieldLink "OperaHouse$Token" 115 "OperaHouse$Token" "text" "Ljava/lang/String;", .methodLink "java/lang/String" 335 jy_coder, .initialized "java/lang/String", .code jy_coder prog_22_method_152_code 1 (some .byte), .instanceMethod jy_coder, .selects "java/lang/String" jy_coder jy_coder, .methodLink "java/lang/String" 492 jy_lat, .initialized "java/lang/String", .code jy_lat prog_22_method_154_code 1 (some .boolean), .instanceMethod jy_lat, .selects "java/lang/String" jy_lat jy_lat, .methodLink "java/lang/String" 495 jy_at1, .initialized "java/lang/StringLatin1", .code jy_at1 prog_23_method_2_code 2 (some .char), .static jy_at1, .methodLink "java/lang/StringLatin1" 9 jy_chk, .initialized "java/lang/String", .code jy_chk prog_22_method_155_code 2 (none), .static jy_chk, .methodLink "java/lang/String" 1059 jy_pre, .initialized "jdk/internal/util/Preconditions", .code jy_pre prog_31_method_11_code 3 (some .int), .static jy_pre, .methodLink "OperaHouse$Token" 129 jy_len, .initialized "java/lang/String", .code jy_len prog_22_method_54_code 1 (some .int), .instanceMethod jy_len, .selects "java/lang/String" jy_len jy_len, .methodLink "OperaHouse$Token" 135 jy_at, .initialized "java/lang/String", .code jy_at prog_22_method_56_code 2 (some .char), .instanceMethod jy_at, .selects "java/lang/String" jy_at jy_at]
set_option maxRecDepth 1000000 in
theorem jw_0 : ∀ w ∈ jw_l, w ∈ lw_tbl ∧ goodWord w = true := by decide +kernel
theorem jw (k : Nat) {w : Jvm.Cond} (h : jw_l[k]? = some w) : w ∈ zx_Ts := List.mem_filter.mpr (jw_0 w (List.mem_of_getElem? h))
def jN : Nat → Prop := fun _ => False
abbrev jP (F : State → Heap → Prop) (av : List Value) : Array Value → State → Prop := va_Pc av (fun U => F U U.heap)
abbrev jQ (v : Int32) : Array Value → State → Outcome → State → Prop := va_Qi (fun (r : Int32) (_ : Unit) => r = v) (fun _ _ => True) jN
abbrev jQv : Array Value → State → Outcome → State → Prop := va_Qv (fun (_ : Unit) => True) (fun _ _ => True) jN
def jW (F : State → Heap → Prop) : Prop := (∀ (u U : State) (H : Heap), u.vm.Alike U.vm → F u H → F U H) ∧ ∀ (U : State) (H H1 : Heap), (∀ a : Nat, a < H.size → H1[a]? = H[a]?) → F U H → F U H1
abbrev jM (l : Launch) (y : MethodName) (cc : ByteArray) (maxL : Nat) (ret : Option FieldType) (d : Nat) (F : State → Heap → Prop) (av : List Value) (Q : Array Value → State → Outcome → State → Prop) : Prop := Met l y (Jvm.Cond.code y cc maxL ret :: zx_Ts) ({ frames := d, cells := 0, slots := 0, locals := 100 * d }) (jP F av) Q 0 0 jN
theorem jP_blind {F : State → Heap → Prop} (hF : jW F) {av : List Value} : FrameBlind (jP F av) := fun _ U _ _ h => ⟨h.1, hF.1 U _ _ (Vm.Alike.refl U.vm) h.2⟩
theorem jT_good {w : Jvm.Cond} (h : w ∈ zx_Ts) : w ∈ zx_Ts ∧ ((w.onTables && w.keeps) = true ∨ ∃ ty, w = .arrayClass ty) := ⟨h, good_of_word (List.all_eq_true.mp zx_Ts_good w h)⟩
section JC
variable {p : Program} {l : Launch} {e : Env} {R : Room} {s : State} {m : MethodId} {args : Array Value} {below : List Frame} {meth : Method} {c : Code} {Q : State → Prop} {H : Heap} {locs : List Loc} {cells slots : Nat} {pc : Nat} {ls : Array Slot} {rest : List Value} {A0 : Nat → Prop} {F : State → Heap → Prop}
theorem jV (hF : jW F) {own : String} {cc : ByteArray} {nL : Nat} {y : MethodName} {yc : ByteArray} {maxL d n ix b : Nat} {ret : Option FieldType} {As : List Value} {v : Int32} (hcall : CallFix p m c cc nL s args zx_Ts own) (hM : jM l y yc maxL ret d F (.ref b :: As) (jQ v)) (w1 : Jvm.Cond.methodLink own ix y ∈ zx_Ts) (w2 : Jvm.Cond.initialized y.cls ∈ zx_Ts) (w3 : Jvm.Cond.code y yc maxL ret ∈ zx_Ts) (w4 : Jvm.Cond.instanceMethod y ∈ zx_Ts) (w5 : Jvm.Cond.selects y.cls y y ∈ zx_Ts) (hd : y.cls ≠ "java/lang/invoke/MethodHandle" ∧ y.cls ≠ "java/lang/invoke/VarHandle" ∧ (parseMethodDescriptor y.desc).map (fun d => d.parameters.length) = some n) (hR : d + 1 ≤ R.frames ∧ 8 + (maxL + 11) + 100 * d ≤ R.locals) (hn : As.length = n) (hrcv : ∃ cell : Cell, H[b]? = some cell ∧ cell.vm.isStatics = false ∧ s.vm.findClass y.cls = some cell.cls) (hFs : F s H) (hS : va_S A0 s.heap H locs) (hls : ls.size = nL) (hcat : (rest.map fun v => v.category).sum ≤ 8) (hk : cells ≤ R.cells ∧ slots ≤ R.slots) (hdg : decode cc pc = .ok (.invokevirtual ix, 3))
    (K : ∀ (H1 : Heap) (locs1 : List Loc), H.size ≤ H1.size → (∀ q : Nat, q < H.size → H1[q]? = H[q]?) → va_S A0 s.heap H1 locs1 → W p l e R s m args below meth c H1 locs1 cells slots Q (F0 m (pc + 3) ls (.int v :: rest))) : W p l e R s m args below meth c H locs cells slots Q (F0 m pc ls (As.reverse ++ .ref b :: rest)) := by
  refine va_calli (A0 := A0) (A1 := jN) (va_runV (As := As) (b := b) (rest := rest) (C := y.cls) (own := own) (index := ix) (n := n) hcall hM (cwV n hcall.2.2.2.2 (fun w hw => ?_) rfl rfl rfl ⟨rfl, hd⟩ hR) ⟨jP_blind hF, hrcv, fun U hU hW => ⟨rfl, by show F U U.heap; rw [hU]; exact hF.1 s U H hW.alike hFs⟩⟩ rfl hn hls rfl (lv_room hcat) hdg hk) hS (fun _ _ h => h.elim) (fun _ h => h.elim) (fun r u t H1 locs1 ht hvm hr hB hz1 hk1 hS1 => ?_)
  · rcases List.mem_append.mp hw with hw | hw
    · simp only [List.mem_cons, List.not_mem_nil, or_false] at hw
      rcases hw with rfl | rfl | rfl | rfl
      · exact jT_good w1
      · exact jT_good w4
      · exact jT_good w5
      · exact jT_good w2
    · rcases List.mem_cons.mp hw with rfl | hw
      · exact jT_good w3
      · exact jT_good hw
  · subst hr
    exact K H1 locs1 hz1 (fun q hq => hk1 q hq (fun h => h)) hS1
theorem jS (hF : jW F) {own : String} {cc : ByteArray} {nL : Nat} {y : MethodName} {yc : ByteArray} {maxL d n ix : Nat} {ret : Option FieldType} {As : List Value} {v : Int32} (hcall : CallFix p m c cc nL s args zx_Ts own) (hM : jM l y yc maxL ret d F As (jQ v)) (w1 : Jvm.Cond.methodLink own ix y ∈ zx_Ts) (w2 : Jvm.Cond.initialized y.cls ∈ zx_Ts) (w3 : Jvm.Cond.code y yc maxL ret ∈ zx_Ts) (w4 : Jvm.Cond.static y ∈ zx_Ts) (hd : y.cls ≠ "java/lang/invoke/MethodHandle" ∧ y.cls ≠ "java/lang/invoke/VarHandle" ∧ (parseMethodDescriptor y.desc).map (fun d => d.parameters.length) = some n) (hR : d + 1 ≤ R.frames ∧ 8 + (maxL + 11) + 100 * d ≤ R.locals) (hn : As.length = n) (hFs : F s H) (hS : va_S A0 s.heap H locs) (hls : ls.size = nL) (hcat : (rest.map fun v => v.category).sum ≤ 8) (hk : cells ≤ R.cells ∧ slots ≤ R.slots) (hdg : decode cc pc = .ok (.invokestatic ix, 3))
    (K : ∀ (H1 : Heap) (locs1 : List Loc), H.size ≤ H1.size → (∀ q : Nat, q < H.size → H1[q]? = H[q]?) → va_S A0 s.heap H1 locs1 → W p l e R s m args below meth c H1 locs1 cells slots Q (F0 m (pc + 3) ls (.int v :: rest))) : W p l e R s m args below meth c H locs cells slots Q (F0 m pc ls (As.reverse ++ rest)) := by
  refine va_calli (A0 := A0) (A1 := jN) (va_runS (As := As) (rest := rest) (own := own) (index := ix) (n := n) hcall hM ⟨callB_of n hcall.2.2.2.2 (fun w hw => ?_) rfl rfl rfl (hcall.2.2.2.2 _ w2) (hcall.2.2.2.2 _ w1) hd hR, hcall.2.2.2.2 _ w4⟩ ⟨jP_blind hF, fun U hU hW => ⟨rfl, by show F U U.heap; rw [hU]; exact hF.1 s U H hW.alike hFs⟩⟩ rfl hn hls rfl (lv_room hcat) hdg hk) hS (fun _ _ h => h.elim) (fun _ h => h.elim) (fun r u t H1 locs1 ht hvm hr hB hz1 hk1 hS1 => ?_)
  · rcases List.mem_cons.mp hw with rfl | hw
    · exact jT_good w3
    · exact jT_good hw
  · subst hr
    exact K H1 locs1 hz1 (fun q hq => hk1 q hq (fun h => h)) hS1
theorem jSv (hF : jW F) {own : String} {cc : ByteArray} {nL : Nat} {y : MethodName} {yc : ByteArray} {maxL d n ix : Nat} {ret : Option FieldType} {As : List Value} (hcall : CallFix p m c cc nL s args zx_Ts own) (hM : jM l y yc maxL ret d F As jQv) (w1 : Jvm.Cond.methodLink own ix y ∈ zx_Ts) (w2 : Jvm.Cond.initialized y.cls ∈ zx_Ts) (w3 : Jvm.Cond.code y yc maxL ret ∈ zx_Ts) (w4 : Jvm.Cond.static y ∈ zx_Ts) (hd : y.cls ≠ "java/lang/invoke/MethodHandle" ∧ y.cls ≠ "java/lang/invoke/VarHandle" ∧ (parseMethodDescriptor y.desc).map (fun d => d.parameters.length) = some n) (hR : d + 1 ≤ R.frames ∧ 8 + (maxL + 11) + 100 * d ≤ R.locals) (hn : As.length = n) (hFs : F s H) (hS : va_S A0 s.heap H locs) (hls : ls.size = nL) (hcat : (rest.map fun v => v.category).sum ≤ 8) (hk : cells ≤ R.cells ∧ slots ≤ R.slots) (hdg : decode cc pc = .ok (.invokestatic ix, 3))
    (K : ∀ (H1 : Heap) (locs1 : List Loc), H.size ≤ H1.size → (∀ q : Nat, q < H.size → H1[q]? = H[q]?) → va_S A0 s.heap H1 locs1 → W p l e R s m args below meth c H1 locs1 cells slots Q (F0 m (pc + 3) ls rest)) : W p l e R s m args below meth c H locs cells slots Q (F0 m pc ls (As.reverse ++ rest)) := by
  refine va_callv (A0 := A0) (A1 := jN) (va_runS (As := As) (rest := rest) (own := own) (index := ix) (n := n) hcall hM ⟨callB_of n hcall.2.2.2.2 (fun w hw => ?_) rfl rfl rfl (hcall.2.2.2.2 _ w2) (hcall.2.2.2.2 _ w1) hd hR, hcall.2.2.2.2 _ w4⟩ ⟨jP_blind hF, fun U hU hW => ⟨rfl, by show F U U.heap; rw [hU]; exact hF.1 s U H hW.alike hFs⟩⟩ rfl hn hls rfl (lv_room hcat) hdg hk) hS (fun _ _ h => h.elim) (fun _ h => h.elim) (fun u t H1 locs1 ht hvm hr hB hz1 hk1 hS1 => ?_)
  · rcases List.mem_cons.mp hw with rfl | hw
    · exact jT_good w3
    · exact jT_good hw
  · exact K H1 locs1 hz1 (fun q hq => hk1 q hq (fun h => h)) hS1
end JC
/-- a text: its object, its bytes; what its methods ask beside -/
def jT (aK aV n : Nat) (g : Nat → Int32) (U : State) (H : Heap) : Prop := va_Z "java/lang/String" "COMPACT_STRINGS" "Z" (.int 1) jN U H ∧ (∃ v : Value, v.isRef = true ∧ va_Z "jdk/internal/util/Preconditions" "SIOOBE_FORMATTER" "Ljava/util/function/BiFunction;" v jN U H) ∧ va_O "java/lang/String" aK jN U H ∧ va_OF "java/lang/String" "coder" "B" (.int 0) aK jN U H ∧ va_OF "java/lang/String" "value" "[B" (.ref aV) aK jN U H ∧ va_T .byte aV n (fun k => .int (g k)) jN U H
theorem jT_W {aK aV n : Nat} {g : Nat → Int32} : jW (jT aK aV n g) := by
  refine ⟨fun u U H hvm h => ?_, fun U H H1 hq h => ?_⟩
  · obtain ⟨h1, ⟨v, h2, h3⟩, h4, h5, h6, h7⟩ := h
    exact ⟨va_Z.moved hvm h1, ⟨v, h2, va_Z.moved hvm h3⟩, va_O.moved hvm h4, va_OF.moved hvm h5, va_OF.moved hvm h6, va_T.moved hvm h7⟩
  · obtain ⟨h1, ⟨v, h2, h3⟩, h4, h5, h6, h7⟩ := h
    have hq' : ∀ a : Nat, a < H.size → ¬ jN a → H1[a]? = H[a]? := fun a h _ => hq a h
    exact ⟨h1.kept hq', ⟨v, h2, h3.kept hq'⟩, h4.kept hq', h5.kept hq', h6.kept hq', h7.kept hq'⟩
section JT
variable {l : Launch} {aK aV n : Nat} {g : Nat → Int32}
theorem jt_coder : jM l jy_coder prog_22_method_152_code 1 (some .byte) 1 (jT aK aV n g) ([.ref aK]) (jQ 0) := by
  refine Met.ofW (cc := prog_22_method_152_code) (maxL := 1) (ret := some .byte) (by decide) rfl ?_
  intro p e s m args below meth c s₁ B hml hv
  obtain ⟨rfl, hC, ⟨v9, hv9, hM9⟩, hO, hcd, hvl, hT⟩ := hv
  have hFs : jT aK aV n g s s.heap := ⟨hC, ⟨v9, hv9, hM9⟩, hO, hcd, hvl, hT⟩
  have hx := B.exec
  have hb := B.bytes
  have hr := B.returns
  have hts0 := atoms_spec (ws := Jvm.Cond.code jy_coder prog_22_method_152_code 1 (some .byte) :: zx_Ts) B.pre
  have hts : ∀ w ∈ zx_Ts, w.before ([.ref aK] : List Value).toArray s = true := fun w hw => hts0 w (List.mem_cons_of_mem _ hw)
  have hown : s.vm.findClass "java/lang/String" = some m.cls := findClass_of_methodNamed B.named
  have hlocks := B.notSynchronized
  have hcall : CallFix p m c prog_22_method_152_code 1 s ([.ref aK] : List Value).toArray zx_Ts "java/lang/String" := ⟨hx, hb, hml, hown, hts⟩
  have hS : va_S jN s.heap s.heap [] := va_S.rf
  have hl := lv_entry ([.ref aK] : List Value) (n := 1) (Nat.le_of_ble_eq_true rfl)
  rw [lg_entry_eq]
  generalize (lg_sl ([.ref aK] : List Value) ++ List.replicate (1 - (lg_sl ([.ref aK] : List Value)).length) Slot.unset).toArray = ls at hl ⊢
  have hl : lv_has ls 1 [(0, .ref aK)] := hl
  refine va_gets hx hb hC hS hown (hts _ (jw 0 (w := .fieldLink "java/lang/String" 38 "java/lang/String" "COMPACT_STRINGS" "Z") rfl)) (fun _ h => h) (jd_coder_0) ?_
  refine lv_if_eq (tgt := 13) hx hb (jd_coder_3) (by decide) (fun h => absurd h (by decide)) (fun _ => ?_)
  refine lv_aload_n hx hb (jd_coder_6) rfl (lv_at hl 0 rfl) ?_
  refine vk_getf hx hb hcd hS hown (hts _ (jw 1 (w := .fieldLink "java/lang/String" 15 "java/lang/String" "coder" "B") rfl)) (fun _ h => h) (jd_coder_7) ?_
  refine lv_goto (tgt := 14) hx hb (jd_coder_10) (by decide) ?_
  exact W.zret hx hb hr rfl (fun t ht hW => ⟨⟨0, (), rfl, rfl, trivial⟩, hS.F ht⟩) hS.2.2 (jd_coder_14)
theorem jt_len : jM l jy_len prog_22_method_54_code 1 (some .int) 2 (jT aK aV n g) ([.ref aK]) (jQ (Int32.ofNat n >>> ((0 : Int32) &&& 31))) := by
  refine Met.ofW (cc := prog_22_method_54_code) (maxL := 1) (ret := some .int) (by decide) rfl ?_
  intro p e s m args below meth c s₁ B hml hv
  obtain ⟨rfl, hC, ⟨v9, hv9, hM9⟩, hO, hcd, hvl, hT⟩ := hv
  have hFs : jT aK aV n g s s.heap := ⟨hC, ⟨v9, hv9, hM9⟩, hO, hcd, hvl, hT⟩
  have hx := B.exec
  have hb := B.bytes
  have hr := B.returns
  have hts0 := atoms_spec (ws := Jvm.Cond.code jy_len prog_22_method_54_code 1 (some .int) :: zx_Ts) B.pre
  have hts : ∀ w ∈ zx_Ts, w.before ([.ref aK] : List Value).toArray s = true := fun w hw => hts0 w (List.mem_cons_of_mem _ hw)
  have hown : s.vm.findClass "java/lang/String" = some m.cls := findClass_of_methodNamed B.named
  have hlocks := B.notSynchronized
  have hcall : CallFix p m c prog_22_method_54_code 1 s ([.ref aK] : List Value).toArray zx_Ts "java/lang/String" := ⟨hx, hb, hml, hown, hts⟩
  have hS : va_S jN s.heap s.heap [] := va_S.rf
  have hl := lv_entry ([.ref aK] : List Value) (n := 1) (Nat.le_of_ble_eq_true rfl)
  rw [lg_entry_eq]
  generalize (lg_sl ([.ref aK] : List Value) ++ List.replicate (1 - (lg_sl ([.ref aK] : List Value)).length) Slot.unset).toArray = ls at hl ⊢
  have hl : lv_has ls 1 [(0, .ref aK)] := hl
  refine lv_aload_n hx hb (jd_len_0) rfl (lv_at hl 0 rfl) ?_
  refine vk_getf hx hb hvl hS hown (hts _ (jw 2 (w := .fieldLink "java/lang/String" 9 "java/lang/String" "value" "[B") rfl)) (fun _ h => h) (jd_len_1) ?_
  refine va_tlen hx hb hT hS rfl (jd_len_4) ?_
  refine lv_aload_n hx hb (jd_len_5) rfl (lv_at hl 0 rfl) ?_
  obtain ⟨cell, o1, o2, o3, o4⟩ := hO
  refine jV (n := 0) (As := []) (b := aK) (rest := [.int (Int32.ofNat n)]) jT_W hcall jt_coder (jw 7 (w := .methodLink "java/lang/String" 335 jy_coder) rfl) (jw 8 (w := .initialized "java/lang/String") rfl) (jw 9 (w := .code jy_coder prog_22_method_152_code 1 (some .byte)) rfl) (jw 10 (w := .instanceMethod jy_coder) rfl) (jw 11 (w := .selects "java/lang/String" jy_coder jy_coder) rfl) ⟨by decide, by decide, by decide⟩ ⟨Nat.le_of_ble_eq_true rfl, Nat.le_of_ble_eq_true rfl⟩ rfl ⟨cell, o1, o2, o3⟩ hFs hS hl.1 (Nat.le_of_ble_eq_true rfl) ⟨Nat.zero_le _, Nat.zero_le _⟩ (jd_len_6) (fun H1 locs1 hz hk hS => ?_)
  refine lv_ishr hx hb (jd_len_9) ?_
  exact W.iret hx hb hr (fun t ht hW => ⟨⟨_, (), rfl, rfl, trivial⟩, hS.F ht⟩) hS.2.2 (jd_len_10)
theorem jt_lat : jM l jy_lat prog_22_method_154_code 1 (some .boolean) 1 (jT aK aV n g) ([.ref aK]) (jQ 1) := by
  refine Met.ofW (cc := prog_22_method_154_code) (maxL := 1) (ret := some .boolean) (by decide) rfl ?_
  intro p e s m args below meth c s₁ B hml hv
  obtain ⟨rfl, hC, ⟨v9, hv9, hM9⟩, hO, hcd, hvl, hT⟩ := hv
  have hFs : jT aK aV n g s s.heap := ⟨hC, ⟨v9, hv9, hM9⟩, hO, hcd, hvl, hT⟩
  have hx := B.exec
  have hb := B.bytes
  have hr := B.returns
  have hts0 := atoms_spec (ws := Jvm.Cond.code jy_lat prog_22_method_154_code 1 (some .boolean) :: zx_Ts) B.pre
  have hts : ∀ w ∈ zx_Ts, w.before ([.ref aK] : List Value).toArray s = true := fun w hw => hts0 w (List.mem_cons_of_mem _ hw)
  have hown : s.vm.findClass "java/lang/String" = some m.cls := findClass_of_methodNamed B.named
  have hlocks := B.notSynchronized
  have hcall : CallFix p m c prog_22_method_154_code 1 s ([.ref aK] : List Value).toArray zx_Ts "java/lang/String" := ⟨hx, hb, hml, hown, hts⟩
  have hS : va_S jN s.heap s.heap [] := va_S.rf
  have hl := lv_entry ([.ref aK] : List Value) (n := 1) (Nat.le_of_ble_eq_true rfl)
  rw [lg_entry_eq]
  generalize (lg_sl ([.ref aK] : List Value) ++ List.replicate (1 - (lg_sl ([.ref aK] : List Value)).length) Slot.unset).toArray = ls at hl ⊢
  have hl : lv_has ls 1 [(0, .ref aK)] := hl
  refine va_gets hx hb hC hS hown (hts _ (jw 0 (w := .fieldLink "java/lang/String" 38 "java/lang/String" "COMPACT_STRINGS" "Z") rfl)) (fun _ h => h) (jd_lat_0) ?_
  refine lv_if_eq (tgt := 17) hx hb (jd_lat_3) (by decide) (fun h => absurd h (by decide)) (fun _ => ?_)
  refine lv_aload_n hx hb (jd_lat_6) rfl (lv_at hl 0 rfl) ?_
  refine vk_getf hx hb hcd hS hown (hts _ (jw 1 (w := .fieldLink "java/lang/String" 15 "java/lang/String" "coder" "B") rfl)) (fun _ h => h) (jd_lat_7) ?_
  refine lv_if_ne (tgt := 17) hx hb (jd_lat_10) (by decide) (fun h => absurd rfl h) (fun _ => ?_)
  refine lv_iconst (v := 1) hx hb (jd_lat_13) (by decide) ?_
  refine lv_goto (tgt := 18) hx hb (jd_lat_14) (by decide) ?_
  exact W.zret hx hb hr rfl (fun t ht hW => ⟨⟨1, (), rfl, rfl, trivial⟩, hS.F ht⟩) hS.2.2 (jd_lat_18)
theorem jt_pre {i : Int32} {v : Value} (hn : n < 2 ^ 31) (hi : vp_in i n) (hv : v.isRef = true) : jM l jy_pre prog_31_method_11_code 3 (some .int) 1 (jT aK aV n g) ([.int i, .int (Int32.ofNat n), v]) (jQ i) := by
  obtain ⟨hi1, hi2⟩ := vp_in_iff.mp hi
  have hvc : v = .null ∨ ∃ a, v = .ref a := by
    cases v <;> first | exact Or.inl rfl | exact Or.inr ⟨_, rfl⟩ | cases hv
  have hnn : (Int32.ofNat n).toInt = (n : Int) := nI_toInt hn
  refine Met.ofW (cc := prog_31_method_11_code) (maxL := 3) (ret := some .int) (by decide) rfl ?_
  intro p e s m args below meth c s₁ B hml hv
  obtain ⟨rfl, -⟩ := hv
  have hx := B.exec
  have hb := B.bytes
  have hr := B.returns
  have hlocks := B.notSynchronized
  have hS : va_S jN s.heap s.heap [] := va_S.rf
  have hl := lv_entry ([.int i, .int (Int32.ofNat n), v] : List Value) (n := 3) (by rcases hvc with rfl | ⟨q, rfl⟩ <;> exact Nat.le_of_ble_eq_true rfl)
  rw [lg_entry_eq]
  generalize (lg_sl ([.int i, .int (Int32.ofNat n), v] : List Value) ++ List.replicate (3 - (lg_sl ([.int i, .int (Int32.ofNat n), v] : List Value)).length) Slot.unset).toArray = ls at hl ⊢
  have hl : lv_has ls 3 [(0, .int i), (1, .int (Int32.ofNat n)), (2, v)] := by rcases hvc with rfl | ⟨q, rfl⟩ <;> exact hl
  refine lv_iload_n hx hb (jd_pre_0) rfl (lv_at hl 0 rfl) ?_
  refine lv_if_lt (tgt := 9) hx hb (jd_pre_1) (by decide) (fun h => absurd (Int32.lt_iff_toInt_lt.mp h) (by show ¬ i.toInt < 0; omega)) (fun _ => ?_)
  refine lv_iload_n hx hb (jd_pre_4) rfl (lv_at hl 0 rfl) ?_
  refine lv_iload_n hx hb (jd_pre_5) rfl (lv_at hl 1 rfl) ?_
  refine lv_icmp_lt (tgt := 16) hx hb (jd_pre_6) (by decide) (fun _ => ?_) (fun h => absurd (Int32.lt_iff_toInt_lt.mpr (by rw [hnn]; omega)) h)
  refine lv_iload_n hx hb (jd_pre_16) rfl (lv_at hl 0 rfl) ?_
  exact W.iret hx hb hr (fun t ht hW => ⟨⟨_, (), rfl, rfl, trivial⟩, hS.F ht⟩) hS.2.2 (jd_pre_17)
theorem jt_chk {i : Int32} (hn : n < 2 ^ 31) (hi : vp_in i n) : jM l jy_chk prog_22_method_155_code 2 (none) 2 (jT aK aV n g) ([.int i, .int (Int32.ofNat n)]) jQv := by
  refine Met.ofW (cc := prog_22_method_155_code) (maxL := 2) (ret := none) (by decide) rfl ?_
  intro p e s m args below meth c s₁ B hml hv
  obtain ⟨rfl, hC, ⟨v9, hv9, hM9⟩, hO, hcd, hvl, hT⟩ := hv
  have hFs : jT aK aV n g s s.heap := ⟨hC, ⟨v9, hv9, hM9⟩, hO, hcd, hvl, hT⟩
  have hx := B.exec
  have hb := B.bytes
  have hr := B.returns
  have hts0 := atoms_spec (ws := Jvm.Cond.code jy_chk prog_22_method_155_code 2 (none) :: zx_Ts) B.pre
  have hts : ∀ w ∈ zx_Ts, w.before ([.int i, .int (Int32.ofNat n)] : List Value).toArray s = true := fun w hw => hts0 w (List.mem_cons_of_mem _ hw)
  have hown : s.vm.findClass "java/lang/String" = some m.cls := findClass_of_methodNamed B.named
  have hlocks := B.notSynchronized
  have hcall : CallFix p m c prog_22_method_155_code 2 s ([.int i, .int (Int32.ofNat n)] : List Value).toArray zx_Ts "java/lang/String" := ⟨hx, hb, hml, hown, hts⟩
  have hS : va_S jN s.heap s.heap [] := va_S.rf
  have hl := lv_entry ([.int i, .int (Int32.ofNat n)] : List Value) (n := 2) (Nat.le_of_ble_eq_true rfl)
  rw [lg_entry_eq]
  generalize (lg_sl ([.int i, .int (Int32.ofNat n)] : List Value) ++ List.replicate (2 - (lg_sl ([.int i, .int (Int32.ofNat n)] : List Value)).length) Slot.unset).toArray = ls at hl ⊢
  have hl : lv_has ls 2 [(0, .int i), (1, .int (Int32.ofNat n))] := hl
  refine lv_iload_n hx hb (jd_chk_0) rfl (lv_at hl 0 rfl) ?_
  refine lv_iload_n hx hb (jd_chk_1) rfl (lv_at hl 1 rfl) ?_
  refine va_gets hx hb hM9 hS hown (hts _ (jw 3 (w := .fieldLink "java/lang/String" 1053 "jdk/internal/util/Preconditions" "SIOOBE_FORMATTER" "Ljava/util/function/BiFunction;") rfl)) (fun _ h => h) (jd_chk_2) ?_
  refine jS (n := 3) (As := [.int i, .int (Int32.ofNat n), v9]) (rest := []) jT_W hcall (jt_pre hn hi hv9) (jw 25 (w := .methodLink "java/lang/String" 1059 jy_pre) rfl) (jw 26 (w := .initialized "jdk/internal/util/Preconditions") rfl) (jw 27 (w := .code jy_pre prog_31_method_11_code 3 (some .int)) rfl) (jw 28 (w := .static jy_pre) rfl) ⟨by decide, by decide, by decide⟩ ⟨Nat.le_of_ble_eq_true rfl, Nat.le_of_ble_eq_true rfl⟩ rfl hFs hS hl.1 (Nat.le_of_ble_eq_true rfl) ⟨Nat.zero_le _, Nat.zero_le _⟩ (jd_chk_5) (fun H1 locs1 hz hk hS => ?_)
  refine lv_pop hx hb (jd_chk_8) rfl ?_
  exact W.vret hx hb hr (fun t ht hW => ⟨⟨(), rfl, trivial, trivial⟩, hS.F ht⟩) hS.2.2 (jd_chk_9)
/-- a byte as a letter -/
def jch (x : Int32) : Int32 := ((x &&& 255).toUInt32 % 65536).toInt32
theorem jch_n (x : Int32) : narrow .char (.int (jch x)) = .int (jch x) := by
  show Value.int _ = Value.int _
  congr 1
  unfold jch
  generalize (x &&& 255).toUInt32 = z
  show (z % 65536).toUInt16.toUInt32.toInt32 = (z % 65536).toInt32
  have h : (z % 65536).toUInt16.toUInt32 = z % 65536 := by
    apply UInt32.toNat_inj.mp
    simp
  rw [h]
theorem jt_at1 {i : Int32} (hn : n < 2 ^ 31) (hi : vp_in i n) : jM l jy_at1 prog_23_method_2_code 2 (some .char) 3 (jT aK aV n g) ([.ref aV, .int i]) (jQ (jch (g i.toNatClampNeg))) := by
  refine Met.ofW (cc := prog_23_method_2_code) (maxL := 2) (ret := some .char) (by decide) rfl ?_
  intro p e s m args below meth c s₁ B hml hv
  obtain ⟨rfl, hC, ⟨v9, hv9, hM9⟩, hO, hcd, hvl, hT⟩ := hv
  have hFs : jT aK aV n g s s.heap := ⟨hC, ⟨v9, hv9, hM9⟩, hO, hcd, hvl, hT⟩
  have hx := B.exec
  have hb := B.bytes
  have hr := B.returns
  have hts0 := atoms_spec (ws := Jvm.Cond.code jy_at1 prog_23_method_2_code 2 (some .char) :: zx_Ts) B.pre
  have hts : ∀ w ∈ zx_Ts, w.before ([.ref aV, .int i] : List Value).toArray s = true := fun w hw => hts0 w (List.mem_cons_of_mem _ hw)
  have hown : s.vm.findClass "java/lang/StringLatin1" = some m.cls := findClass_of_methodNamed B.named
  have hlocks := B.notSynchronized
  have hcall : CallFix p m c prog_23_method_2_code 2 s ([.ref aV, .int i] : List Value).toArray zx_Ts "java/lang/StringLatin1" := ⟨hx, hb, hml, hown, hts⟩
  have hS : va_S jN s.heap s.heap [] := va_S.rf
  have hl := lv_entry ([.ref aV, .int i] : List Value) (n := 2) (Nat.le_of_ble_eq_true rfl)
  rw [lg_entry_eq]
  generalize (lg_sl ([.ref aV, .int i] : List Value) ++ List.replicate (2 - (lg_sl ([.ref aV, .int i] : List Value)).length) Slot.unset).toArray = ls at hl ⊢
  have hl : lv_has ls 2 [(0, .ref aV), (1, .int i)] := hl
  refine lv_iload_n hx hb (jd_at1_0) rfl (lv_at hl 1 rfl) ?_
  refine lv_aload_n hx hb (jd_at1_1) rfl (lv_at hl 0 rfl) ?_
  refine va_tlen hx hb hT hS rfl (jd_at1_2) ?_
  refine jSv (n := 2) (As := [.int i, .int (Int32.ofNat n)]) (rest := []) jT_W hcall (jt_chk hn hi) (jw 21 (w := .methodLink "java/lang/StringLatin1" 9 jy_chk) rfl) (jw 8 (w := .initialized "java/lang/String") rfl) (jw 23 (w := .code jy_chk prog_22_method_155_code 2 (none)) rfl) (jw 24 (w := .static jy_chk) rfl) ⟨by decide, by decide, by decide⟩ ⟨Nat.le_of_ble_eq_true rfl, Nat.le_of_ble_eq_true rfl⟩ rfl hFs hS hl.1 (Nat.le_of_ble_eq_true rfl) ⟨Nat.zero_le _, Nat.zero_le _⟩ (jd_at1_3) (fun H1 locs1 hz hk hS => ?_)
  refine lv_aload_n hx hb (jd_at1_6) rfl (lv_at hl 0 rfl) ?_
  refine lv_iload_n hx hb (jd_at1_7) rfl (lv_at hl 1 rfl) ?_
  refine va_tb hx hb hT hS hi rfl (jd_at1_8) ?_
  refine lv_sipush (v := 255) hx hb (jd_at1_9) (by decide) ?_
  refine lv_iand hx hb (jd_at1_12) ?_
  refine lv_i2c (v := jch (g i.toNatClampNeg)) hx hb (jd_at1_13) rfl ?_
  exact W.zret hx hb hr (jch_n _) (fun t ht hW => ⟨⟨_, (), rfl, rfl, trivial⟩, hS.F ht⟩) hS.2.2 (jd_at1_14)
theorem jt_at {i : Int32} (hn : n < 2 ^ 31) (hi : vp_in i n) : jM l jy_at prog_22_method_56_code 2 (some .char) 4 (jT aK aV n g) ([.ref aK, .int i]) (jQ (jch (g i.toNatClampNeg))) := by
  refine Met.ofW (cc := prog_22_method_56_code) (maxL := 2) (ret := some .char) (by decide) rfl ?_
  intro p e s m args below meth c s₁ B hml hv
  obtain ⟨rfl, hC, ⟨v9, hv9, hM9⟩, hO, hcd, hvl, hT⟩ := hv
  have hFs : jT aK aV n g s s.heap := ⟨hC, ⟨v9, hv9, hM9⟩, hO, hcd, hvl, hT⟩
  have hx := B.exec
  have hb := B.bytes
  have hr := B.returns
  have hts0 := atoms_spec (ws := Jvm.Cond.code jy_at prog_22_method_56_code 2 (some .char) :: zx_Ts) B.pre
  have hts : ∀ w ∈ zx_Ts, w.before ([.ref aK, .int i] : List Value).toArray s = true := fun w hw => hts0 w (List.mem_cons_of_mem _ hw)
  have hown : s.vm.findClass "java/lang/String" = some m.cls := findClass_of_methodNamed B.named
  have hlocks := B.notSynchronized
  have hcall : CallFix p m c prog_22_method_56_code 2 s ([.ref aK, .int i] : List Value).toArray zx_Ts "java/lang/String" := ⟨hx, hb, hml, hown, hts⟩
  have hS : va_S jN s.heap s.heap [] := va_S.rf
  have hl := lv_entry ([.ref aK, .int i] : List Value) (n := 2) (Nat.le_of_ble_eq_true rfl)
  rw [lg_entry_eq]
  generalize (lg_sl ([.ref aK, .int i] : List Value) ++ List.replicate (2 - (lg_sl ([.ref aK, .int i] : List Value)).length) Slot.unset).toArray = ls at hl ⊢
  have hl : lv_has ls 2 [(0, .ref aK), (1, .int i)] := hl
  refine lv_aload_n hx hb (jd_at_0) rfl (lv_at hl 0 rfl) ?_
  have hO9 := hO
  obtain ⟨cell, o1, o2, o3, o4⟩ := hO9
  refine jV (n := 0) (As := []) (b := aK) (rest := []) jT_W hcall jt_lat (jw 12 (w := .methodLink "java/lang/String" 492 jy_lat) rfl) (jw 8 (w := .initialized "java/lang/String") rfl) (jw 14 (w := .code jy_lat prog_22_method_154_code 1 (some .boolean)) rfl) (jw 15 (w := .instanceMethod jy_lat) rfl) (jw 16 (w := .selects "java/lang/String" jy_lat jy_lat) rfl) ⟨by decide, by decide, by decide⟩ ⟨Nat.le_of_ble_eq_true rfl, Nat.le_of_ble_eq_true rfl⟩ rfl ⟨cell, o1, o2, o3⟩ hFs hS hl.1 (Nat.le_of_ble_eq_true rfl) ⟨Nat.zero_le _, Nat.zero_le _⟩ (jd_at_1) (fun H1 locs1 hz hk hS => ?_)
  have hFs1 : jT aK aV n g s H1 := jT_W.2 s s.heap H1 hk hFs
  refine lv_if_eq (tgt := 16) hx hb (jd_at_4) (by decide) (fun h => absurd h (by decide)) (fun _ => ?_)
  refine lv_aload_n hx hb (jd_at_7) rfl (lv_at hl 0 rfl) ?_
  refine vk_getf hx hb hvl hS hown (hts _ (jw 2 (w := .fieldLink "java/lang/String" 9 "java/lang/String" "value" "[B") rfl)) (fun _ h => h) (jd_at_8) ?_
  refine lv_iload_n hx hb (jd_at_11) rfl (lv_at hl 1 rfl) ?_
  refine jS (n := 2) (As := [.ref aV, .int i]) (rest := []) jT_W hcall (jt_at1 hn hi) (jw 17 (w := .methodLink "java/lang/String" 495 jy_at1) rfl) (jw 18 (w := .initialized "java/lang/StringLatin1") rfl) (jw 19 (w := .code jy_at1 prog_23_method_2_code 2 (some .char)) rfl) (jw 20 (w := .static jy_at1) rfl) ⟨by decide, by decide, by decide⟩ ⟨Nat.le_of_ble_eq_true rfl, Nat.le_of_ble_eq_true rfl⟩ rfl hFs1 hS hl.1 (Nat.le_of_ble_eq_true rfl) ⟨Nat.zero_le _, Nat.zero_le _⟩ (jd_at_12) (fun H2 locs2 hz2 hk2 hS => ?_)
  exact W.zret hx hb hr (jch_n _) (fun t ht hW => ⟨⟨_, (), rfl, rfl, trivial⟩, hS.F ht⟩) hS.2.2 (jd_at_15)
end JT
end
