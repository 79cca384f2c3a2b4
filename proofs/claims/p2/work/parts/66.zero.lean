noncomputable section
/-! zk: what holds at the start -/
def zk_tk : List (String × Nat × Int × Int) := [("REST", 140, 1, 0), ("DAY", 146, 1, 1), ("WEEK", 149, 1, 2), ("VOICE", 152, 1, 3), ("LEAVE", 155, 0, 0), ("TO", 158, 0, 0), ("FEE", 161, 0, 0), ("IF", 164, 0, 0), ("OR", 167, 0, 0), ("AND", 170, 0, 0), ("NOT", 173, 0, 0), ("IN_ROOM", 176, 2, 0), ("AT_MARKS", 179, 2, 1), ("AT_FULL", 182, 2, 2), ("AT_NIGHT", 185, 2, 3), ("LATE", 188, 2, 4), ("COVER", 191, 2, 5), ("INSTEAD", 194, 2, 6), ("HOURS", 197, 3, 7), ("NTH", 200, 3, 8), ("OVER", 203, 3, 9), ("LESS", 206, 4, 0), ("SAME", 209, 4, 1), ("MORE", 212, 4, 2), ("STOP", 215, 0, 0), ("OPEN", 218, 0, 0), ("CLOSE", 221, 0, 0), ("NUMBER", 224, 0, 0), ("FINISH", 224, 0, 0), ("BAD", 224, 0, 0)]
def zk_q (j : Nat) : String × Nat × Int × Int := zk_tk.getD j ("", 0, 0, 0)
def zk_fl : List Jvm.Cond := flatC (Jvm.Cond.and given_1 narrow_1)
/-- a place of the list -/
def zk_dp (n : Nat) (l : List Jvm.Cond) : List Jvm.Cond := Nat.rec (motive := fun _ => List Jvm.Cond) l (fun _ x => x.tail) n
theorem zk_dpm {l : List Jvm.Cond} {w : Jvm.Cond} : ∀ {n : Nat}, w ∈ zk_dp n l → w ∈ l
  | 0, h => h
  | n + 1, h => zk_dpm (n := n) (List.mem_of_mem_tail (show w ∈ (zk_dp n l).tail from h))
theorem zk_at {n : Nat} {w : Jvm.Cond} (h : (zk_dp n zk_fl).head? = some w) : w ∈ zk_fl := zk_dpm (List.mem_of_mem_head? (by rw [h]; exact rfl))
abbrev zk_st (j : Nat) : Jvm.Term := .static "OperaHouse$Token" (zk_q j).1 "LOperaHouse$Token;"
abbrev zk_sr (j : Nat) : Jvm.Term := .string "OperaHouse$Token" (zk_q j).2.1
abbrev zk_vl (j : Nat) : Jvm.Term := .field (zk_sr j) "java/lang/String" "value" "[B"
abbrev zk_al : Jvm.Term := .static "OperaHouse$Token" "ALL" "[LOperaHouse$Token;"
set_option maxRecDepth 1000000 in
theorem zk_ex_i : ∀ j, j < 30 → (zk_dp ([160, 165, 170, 175, 78, 83, 88, 93, 118, 113, 98, 180, 185, 190, 195, 200, 205, 210, 215, 220, 225, 148, 153, 230, 73, 103, 108, 14, 4, 9].getD j 0) zk_fl).head? = some (Jvm.Cond.exactly (zk_st j) "OperaHouse$Token") := by decide +kernel
theorem zk_ex : ∀ j, j < 30 → Jvm.Cond.exactly (zk_st j) "OperaHouse$Token" ∈ zk_fl := fun j hj => zk_at (zk_ex_i j hj)
set_option maxRecDepth 1000000 in
theorem zk_so_i : ∀ j, j < 30 → (zk_dp ([163, 168, 173, 178, 81, 86, 91, 96, 121, 116, 101, 183, 188, 193, 198, 203, 208, 213, 218, 223, 228, 151, 156, 233, 76, 106, 111, 17, 7, 12].getD j 0) zk_fl).head? = some (Jvm.Cond.eq (.field (zk_st j) "OperaHouse$Token" "sort" "I") (.int (Int32.ofInt (zk_q j).2.2.1))) := by decide +kernel
theorem zk_so : ∀ j, j < 30 → Jvm.Cond.eq (.field (zk_st j) "OperaHouse$Token" "sort" "I") (.int (Int32.ofInt (zk_q j).2.2.1)) ∈ zk_fl := fun j hj => zk_at (zk_so_i j hj)
set_option maxRecDepth 1000000 in
theorem zk_co_i : ∀ j, j < 30 → (zk_dp ([164, 169, 174, 179, 82, 87, 92, 97, 122, 117, 102, 184, 189, 194, 199, 204, 209, 214, 219, 224, 229, 152, 157, 234, 77, 107, 112, 18, 8, 13].getD j 0) zk_fl).head? = some (Jvm.Cond.eq (.field (zk_st j) "OperaHouse$Token" "code" "I") (.int (Int32.ofInt (zk_q j).2.2.2))) := by decide +kernel
theorem zk_co : ∀ j, j < 30 → Jvm.Cond.eq (.field (zk_st j) "OperaHouse$Token" "code" "I") (.int (Int32.ofInt (zk_q j).2.2.2)) ∈ zk_fl := fun j hj => zk_at (zk_co_i j hj)
set_option maxRecDepth 1000000 in
theorem zk_tx_i : ∀ j, j < 30 → (zk_dp ([162, 167, 172, 177, 80, 85, 90, 95, 120, 115, 100, 182, 187, 192, 197, 202, 207, 212, 217, 222, 227, 150, 155, 232, 75, 105, 110, 16, 6, 11].getD j 0) zk_fl).head? = some (Jvm.Cond.eq (.field (zk_st j) "OperaHouse$Token" "text" "Ljava/lang/String;") (zk_sr j)) := by decide +kernel
theorem zk_tx : ∀ j, j < 30 → Jvm.Cond.eq (.field (zk_st j) "OperaHouse$Token" "text" "Ljava/lang/String;") (zk_sr j) ∈ zk_fl := fun j hj => zk_at (zk_tx_i j hj)
set_option maxRecDepth 1000000 in
theorem zk_sx_i : ∀ j, j < 30 → (zk_dp ([381, 389, 396, 404, 313, 322, 328, 335, 365, 358, 341, 413, 421, 430, 438, 447, 455, 464, 475, 484, 491, 371, 376, 499, 308, 348, 353, 304, 304, 304].getD j 0) zk_fl).head? = some (Jvm.Cond.exactly (zk_sr j) "java/lang/String") := by decide +kernel
theorem zk_sx : ∀ j, j < 30 → Jvm.Cond.exactly (zk_sr j) "java/lang/String" ∈ zk_fl := fun j hj => zk_at (zk_sx_i j hj)
set_option maxRecDepth 1000000 in
theorem zk_cd_i : ∀ j, j < 30 → (zk_dp ([382, 390, 397, 405, 314, 323, 329, 336, 366, 359, 342, 414, 422, 431, 439, 448, 456, 465, 476, 485, 492, 372, 377, 500, 309, 349, 354, 305, 305, 305].getD j 0) zk_fl).head? = some (Jvm.Cond.eq (.field (zk_sr j) "java/lang/String" "coder" "B") (.int 0)) := by decide +kernel
theorem zk_cd : ∀ j, j < 30 → Jvm.Cond.eq (.field (zk_sr j) "java/lang/String" "coder" "B") (.int 0) ∈ zk_fl := fun j hj => zk_at (zk_cd_i j hj)
set_option maxRecDepth 1000000 in
theorem zk_ar_i : ∀ j, j < 30 → (zk_dp ([383, 391, 398, 406, 315, 324, 330, 337, 367, 360, 343, 415, 423, 432, 440, 449, 457, 466, 477, 486, 493, 373, 378, 501, 310, 350, 355, 306, 306, 306].getD j 0) zk_fl).head? = some (Jvm.Cond.arrayOf (zk_vl j) .byte) := by decide +kernel
theorem zk_ar : ∀ j, j < 30 → Jvm.Cond.arrayOf (zk_vl j) .byte ∈ zk_fl := fun j hj => zk_at (zk_ar_i j hj)
set_option maxRecDepth 1000000 in
theorem zk_ln_i : ∀ j, j < 30 → (zk_dp ([384, 392, 399, 407, 316, 325, 331, 338, 368, 361, 344, 416, 424, 433, 441, 450, 458, 467, 478, 487, 494, 374, 379, 502, 311, 351, 356, 307, 307, 307].getD j 0) zk_fl).head? = some (Jvm.Cond.eq (.length (zk_vl j)) (.int (Int32.ofNat (zx_txt.getD j []).length))) := by decide +kernel
theorem zk_ln : ∀ j, j < 30 → Jvm.Cond.eq (.length (zk_vl j)) (.int (Int32.ofNat (zx_txt.getD j []).length)) ∈ zk_fl := fun j hj => zk_at (zk_ln_i j hj)
set_option maxRecDepth 1000000 in
theorem zk_ae_i : ∀ j, j < 30 → (zk_dp ([24, 25, 26, 27, 28, 29, 30, 31, 32, 33, 34, 35, 36, 37, 38, 39, 40, 41, 42, 43, 44, 45, 46, 47, 48, 49, 50, 51, 52, 53].getD j 0) zk_fl).head? = some (Jvm.Cond.eq (.elem zk_al (.int (Int32.ofNat j))) (zk_st j)) := by decide +kernel
theorem zk_ae : ∀ j, j < 30 → Jvm.Cond.eq (.elem zk_al (.int (Int32.ofNat j))) (zk_st j) ∈ zk_fl := fun j hj => zk_at (zk_ae_i j hj)
set_option maxRecDepth 1000000 in
theorem zk_el0_i : ∀ k, k < (zx_txt.getD 0 []).length → (zk_dp ([385, 386, 387, 388].getD k 0) zk_fl).head? = some (Jvm.Cond.eq (.elem (zk_vl 0) (.int (Int32.ofNat k))) (.int (Int32.ofNat ((zx_txt.getD 0 []).getD k 0)))) := by decide +kernel
theorem zk_el0 : ∀ k, k < (zx_txt.getD 0 []).length → Jvm.Cond.eq (.elem (zk_vl 0) (.int (Int32.ofNat k))) (.int (Int32.ofNat ((zx_txt.getD 0 []).getD k 0))) ∈ zk_fl := fun k hk => zk_at (zk_el0_i k hk)
set_option maxRecDepth 1000000 in
theorem zk_el1_i : ∀ k, k < (zx_txt.getD 1 []).length → (zk_dp ([393, 394, 395].getD k 0) zk_fl).head? = some (Jvm.Cond.eq (.elem (zk_vl 1) (.int (Int32.ofNat k))) (.int (Int32.ofNat ((zx_txt.getD 1 []).getD k 0)))) := by decide +kernel
theorem zk_el1 : ∀ k, k < (zx_txt.getD 1 []).length → Jvm.Cond.eq (.elem (zk_vl 1) (.int (Int32.ofNat k))) (.int (Int32.ofNat ((zx_txt.getD 1 []).getD k 0))) ∈ zk_fl := fun k hk => zk_at (zk_el1_i k hk)
set_option maxRecDepth 1000000 in
theorem zk_el2_i : ∀ k, k < (zx_txt.getD 2 []).length → (zk_dp ([400, 401, 402, 403].getD k 0) zk_fl).head? = some (Jvm.Cond.eq (.elem (zk_vl 2) (.int (Int32.ofNat k))) (.int (Int32.ofNat ((zx_txt.getD 2 []).getD k 0)))) := by decide +kernel
theorem zk_el2 : ∀ k, k < (zx_txt.getD 2 []).length → Jvm.Cond.eq (.elem (zk_vl 2) (.int (Int32.ofNat k))) (.int (Int32.ofNat ((zx_txt.getD 2 []).getD k 0))) ∈ zk_fl := fun k hk => zk_at (zk_el2_i k hk)
set_option maxRecDepth 1000000 in
theorem zk_el3_i : ∀ k, k < (zx_txt.getD 3 []).length → (zk_dp ([408, 409, 410, 411, 412].getD k 0) zk_fl).head? = some (Jvm.Cond.eq (.elem (zk_vl 3) (.int (Int32.ofNat k))) (.int (Int32.ofNat ((zx_txt.getD 3 []).getD k 0)))) := by decide +kernel
theorem zk_el3 : ∀ k, k < (zx_txt.getD 3 []).length → Jvm.Cond.eq (.elem (zk_vl 3) (.int (Int32.ofNat k))) (.int (Int32.ofNat ((zx_txt.getD 3 []).getD k 0))) ∈ zk_fl := fun k hk => zk_at (zk_el3_i k hk)
set_option maxRecDepth 1000000 in
theorem zk_el4_i : ∀ k, k < (zx_txt.getD 4 []).length → (zk_dp ([317, 318, 319, 320, 321].getD k 0) zk_fl).head? = some (Jvm.Cond.eq (.elem (zk_vl 4) (.int (Int32.ofNat k))) (.int (Int32.ofNat ((zx_txt.getD 4 []).getD k 0)))) := by decide +kernel
theorem zk_el4 : ∀ k, k < (zx_txt.getD 4 []).length → Jvm.Cond.eq (.elem (zk_vl 4) (.int (Int32.ofNat k))) (.int (Int32.ofNat ((zx_txt.getD 4 []).getD k 0))) ∈ zk_fl := fun k hk => zk_at (zk_el4_i k hk)
set_option maxRecDepth 1000000 in
theorem zk_el5_i : ∀ k, k < (zx_txt.getD 5 []).length → (zk_dp ([326, 327].getD k 0) zk_fl).head? = some (Jvm.Cond.eq (.elem (zk_vl 5) (.int (Int32.ofNat k))) (.int (Int32.ofNat ((zx_txt.getD 5 []).getD k 0)))) := by decide +kernel
theorem zk_el5 : ∀ k, k < (zx_txt.getD 5 []).length → Jvm.Cond.eq (.elem (zk_vl 5) (.int (Int32.ofNat k))) (.int (Int32.ofNat ((zx_txt.getD 5 []).getD k 0))) ∈ zk_fl := fun k hk => zk_at (zk_el5_i k hk)
set_option maxRecDepth 1000000 in
theorem zk_el6_i : ∀ k, k < (zx_txt.getD 6 []).length → (zk_dp ([332, 333, 334].getD k 0) zk_fl).head? = some (Jvm.Cond.eq (.elem (zk_vl 6) (.int (Int32.ofNat k))) (.int (Int32.ofNat ((zx_txt.getD 6 []).getD k 0)))) := by decide +kernel
theorem zk_el6 : ∀ k, k < (zx_txt.getD 6 []).length → Jvm.Cond.eq (.elem (zk_vl 6) (.int (Int32.ofNat k))) (.int (Int32.ofNat ((zx_txt.getD 6 []).getD k 0))) ∈ zk_fl := fun k hk => zk_at (zk_el6_i k hk)
set_option maxRecDepth 1000000 in
theorem zk_el7_i : ∀ k, k < (zx_txt.getD 7 []).length → (zk_dp ([339, 340].getD k 0) zk_fl).head? = some (Jvm.Cond.eq (.elem (zk_vl 7) (.int (Int32.ofNat k))) (.int (Int32.ofNat ((zx_txt.getD 7 []).getD k 0)))) := by decide +kernel
theorem zk_el7 : ∀ k, k < (zx_txt.getD 7 []).length → Jvm.Cond.eq (.elem (zk_vl 7) (.int (Int32.ofNat k))) (.int (Int32.ofNat ((zx_txt.getD 7 []).getD k 0))) ∈ zk_fl := fun k hk => zk_at (zk_el7_i k hk)
set_option maxRecDepth 1000000 in
theorem zk_el8_i : ∀ k, k < (zx_txt.getD 8 []).length → (zk_dp ([369, 370].getD k 0) zk_fl).head? = some (Jvm.Cond.eq (.elem (zk_vl 8) (.int (Int32.ofNat k))) (.int (Int32.ofNat ((zx_txt.getD 8 []).getD k 0)))) := by decide +kernel
theorem zk_el8 : ∀ k, k < (zx_txt.getD 8 []).length → Jvm.Cond.eq (.elem (zk_vl 8) (.int (Int32.ofNat k))) (.int (Int32.ofNat ((zx_txt.getD 8 []).getD k 0))) ∈ zk_fl := fun k hk => zk_at (zk_el8_i k hk)
set_option maxRecDepth 1000000 in
theorem zk_el9_i : ∀ k, k < (zx_txt.getD 9 []).length → (zk_dp ([362, 363, 364].getD k 0) zk_fl).head? = some (Jvm.Cond.eq (.elem (zk_vl 9) (.int (Int32.ofNat k))) (.int (Int32.ofNat ((zx_txt.getD 9 []).getD k 0)))) := by decide +kernel
theorem zk_el9 : ∀ k, k < (zx_txt.getD 9 []).length → Jvm.Cond.eq (.elem (zk_vl 9) (.int (Int32.ofNat k))) (.int (Int32.ofNat ((zx_txt.getD 9 []).getD k 0))) ∈ zk_fl := fun k hk => zk_at (zk_el9_i k hk)
set_option maxRecDepth 1000000 in
theorem zk_el10_i : ∀ k, k < (zx_txt.getD 10 []).length → (zk_dp ([345, 346, 347].getD k 0) zk_fl).head? = some (Jvm.Cond.eq (.elem (zk_vl 10) (.int (Int32.ofNat k))) (.int (Int32.ofNat ((zx_txt.getD 10 []).getD k 0)))) := by decide +kernel
theorem zk_el10 : ∀ k, k < (zx_txt.getD 10 []).length → Jvm.Cond.eq (.elem (zk_vl 10) (.int (Int32.ofNat k))) (.int (Int32.ofNat ((zx_txt.getD 10 []).getD k 0))) ∈ zk_fl := fun k hk => zk_at (zk_el10_i k hk)
set_option maxRecDepth 1000000 in
theorem zk_el11_i : ∀ k, k < (zx_txt.getD 11 []).length → (zk_dp ([417, 418, 419, 420].getD k 0) zk_fl).head? = some (Jvm.Cond.eq (.elem (zk_vl 11) (.int (Int32.ofNat k))) (.int (Int32.ofNat ((zx_txt.getD 11 []).getD k 0)))) := by decide +kernel
theorem zk_el11 : ∀ k, k < (zx_txt.getD 11 []).length → Jvm.Cond.eq (.elem (zk_vl 11) (.int (Int32.ofNat k))) (.int (Int32.ofNat ((zx_txt.getD 11 []).getD k 0))) ∈ zk_fl := fun k hk => zk_at (zk_el11_i k hk)
set_option maxRecDepth 1000000 in
theorem zk_el12_i : ∀ k, k < (zx_txt.getD 12 []).length → (zk_dp ([425, 426, 427, 428, 429].getD k 0) zk_fl).head? = some (Jvm.Cond.eq (.elem (zk_vl 12) (.int (Int32.ofNat k))) (.int (Int32.ofNat ((zx_txt.getD 12 []).getD k 0)))) := by decide +kernel
theorem zk_el12 : ∀ k, k < (zx_txt.getD 12 []).length → Jvm.Cond.eq (.elem (zk_vl 12) (.int (Int32.ofNat k))) (.int (Int32.ofNat ((zx_txt.getD 12 []).getD k 0))) ∈ zk_fl := fun k hk => zk_at (zk_el12_i k hk)
set_option maxRecDepth 1000000 in
theorem zk_el13_i : ∀ k, k < (zx_txt.getD 13 []).length → (zk_dp ([434, 435, 436, 437].getD k 0) zk_fl).head? = some (Jvm.Cond.eq (.elem (zk_vl 13) (.int (Int32.ofNat k))) (.int (Int32.ofNat ((zx_txt.getD 13 []).getD k 0)))) := by decide +kernel
theorem zk_el13 : ∀ k, k < (zx_txt.getD 13 []).length → Jvm.Cond.eq (.elem (zk_vl 13) (.int (Int32.ofNat k))) (.int (Int32.ofNat ((zx_txt.getD 13 []).getD k 0))) ∈ zk_fl := fun k hk => zk_at (zk_el13_i k hk)
set_option maxRecDepth 1000000 in
theorem zk_el14_i : ∀ k, k < (zx_txt.getD 14 []).length → (zk_dp ([442, 443, 444, 445, 446].getD k 0) zk_fl).head? = some (Jvm.Cond.eq (.elem (zk_vl 14) (.int (Int32.ofNat k))) (.int (Int32.ofNat ((zx_txt.getD 14 []).getD k 0)))) := by decide +kernel
theorem zk_el14 : ∀ k, k < (zx_txt.getD 14 []).length → Jvm.Cond.eq (.elem (zk_vl 14) (.int (Int32.ofNat k))) (.int (Int32.ofNat ((zx_txt.getD 14 []).getD k 0))) ∈ zk_fl := fun k hk => zk_at (zk_el14_i k hk)
set_option maxRecDepth 1000000 in
theorem zk_el15_i : ∀ k, k < (zx_txt.getD 15 []).length → (zk_dp ([451, 452, 453, 454].getD k 0) zk_fl).head? = some (Jvm.Cond.eq (.elem (zk_vl 15) (.int (Int32.ofNat k))) (.int (Int32.ofNat ((zx_txt.getD 15 []).getD k 0)))) := by decide +kernel
theorem zk_el15 : ∀ k, k < (zx_txt.getD 15 []).length → Jvm.Cond.eq (.elem (zk_vl 15) (.int (Int32.ofNat k))) (.int (Int32.ofNat ((zx_txt.getD 15 []).getD k 0))) ∈ zk_fl := fun k hk => zk_at (zk_el15_i k hk)
set_option maxRecDepth 1000000 in
theorem zk_el16_i : ∀ k, k < (zx_txt.getD 16 []).length → (zk_dp ([459, 460, 461, 462, 463].getD k 0) zk_fl).head? = some (Jvm.Cond.eq (.elem (zk_vl 16) (.int (Int32.ofNat k))) (.int (Int32.ofNat ((zx_txt.getD 16 []).getD k 0)))) := by decide +kernel
theorem zk_el16 : ∀ k, k < (zx_txt.getD 16 []).length → Jvm.Cond.eq (.elem (zk_vl 16) (.int (Int32.ofNat k))) (.int (Int32.ofNat ((zx_txt.getD 16 []).getD k 0))) ∈ zk_fl := fun k hk => zk_at (zk_el16_i k hk)
set_option maxRecDepth 1000000 in
theorem zk_el17_i : ∀ k, k < (zx_txt.getD 17 []).length → (zk_dp ([468, 469, 470, 471, 472, 473, 474].getD k 0) zk_fl).head? = some (Jvm.Cond.eq (.elem (zk_vl 17) (.int (Int32.ofNat k))) (.int (Int32.ofNat ((zx_txt.getD 17 []).getD k 0)))) := by decide +kernel
theorem zk_el17 : ∀ k, k < (zx_txt.getD 17 []).length → Jvm.Cond.eq (.elem (zk_vl 17) (.int (Int32.ofNat k))) (.int (Int32.ofNat ((zx_txt.getD 17 []).getD k 0))) ∈ zk_fl := fun k hk => zk_at (zk_el17_i k hk)
set_option maxRecDepth 1000000 in
theorem zk_el18_i : ∀ k, k < (zx_txt.getD 18 []).length → (zk_dp ([479, 480, 481, 482, 483].getD k 0) zk_fl).head? = some (Jvm.Cond.eq (.elem (zk_vl 18) (.int (Int32.ofNat k))) (.int (Int32.ofNat ((zx_txt.getD 18 []).getD k 0)))) := by decide +kernel
theorem zk_el18 : ∀ k, k < (zx_txt.getD 18 []).length → Jvm.Cond.eq (.elem (zk_vl 18) (.int (Int32.ofNat k))) (.int (Int32.ofNat ((zx_txt.getD 18 []).getD k 0))) ∈ zk_fl := fun k hk => zk_at (zk_el18_i k hk)
set_option maxRecDepth 1000000 in
theorem zk_el19_i : ∀ k, k < (zx_txt.getD 19 []).length → (zk_dp ([488, 489, 490].getD k 0) zk_fl).head? = some (Jvm.Cond.eq (.elem (zk_vl 19) (.int (Int32.ofNat k))) (.int (Int32.ofNat ((zx_txt.getD 19 []).getD k 0)))) := by decide +kernel
theorem zk_el19 : ∀ k, k < (zx_txt.getD 19 []).length → Jvm.Cond.eq (.elem (zk_vl 19) (.int (Int32.ofNat k))) (.int (Int32.ofNat ((zx_txt.getD 19 []).getD k 0))) ∈ zk_fl := fun k hk => zk_at (zk_el19_i k hk)
set_option maxRecDepth 1000000 in
theorem zk_el20_i : ∀ k, k < (zx_txt.getD 20 []).length → (zk_dp ([495, 496, 497, 498].getD k 0) zk_fl).head? = some (Jvm.Cond.eq (.elem (zk_vl 20) (.int (Int32.ofNat k))) (.int (Int32.ofNat ((zx_txt.getD 20 []).getD k 0)))) := by decide +kernel
theorem zk_el20 : ∀ k, k < (zx_txt.getD 20 []).length → Jvm.Cond.eq (.elem (zk_vl 20) (.int (Int32.ofNat k))) (.int (Int32.ofNat ((zx_txt.getD 20 []).getD k 0))) ∈ zk_fl := fun k hk => zk_at (zk_el20_i k hk)
set_option maxRecDepth 1000000 in
theorem zk_el21_i : ∀ k, k < (zx_txt.getD 21 []).length → (zk_dp ([375].getD k 0) zk_fl).head? = some (Jvm.Cond.eq (.elem (zk_vl 21) (.int (Int32.ofNat k))) (.int (Int32.ofNat ((zx_txt.getD 21 []).getD k 0)))) := by decide +kernel
theorem zk_el21 : ∀ k, k < (zx_txt.getD 21 []).length → Jvm.Cond.eq (.elem (zk_vl 21) (.int (Int32.ofNat k))) (.int (Int32.ofNat ((zx_txt.getD 21 []).getD k 0))) ∈ zk_fl := fun k hk => zk_at (zk_el21_i k hk)
set_option maxRecDepth 1000000 in
theorem zk_el22_i : ∀ k, k < (zx_txt.getD 22 []).length → (zk_dp ([380].getD k 0) zk_fl).head? = some (Jvm.Cond.eq (.elem (zk_vl 22) (.int (Int32.ofNat k))) (.int (Int32.ofNat ((zx_txt.getD 22 []).getD k 0)))) := by decide +kernel
theorem zk_el22 : ∀ k, k < (zx_txt.getD 22 []).length → Jvm.Cond.eq (.elem (zk_vl 22) (.int (Int32.ofNat k))) (.int (Int32.ofNat ((zx_txt.getD 22 []).getD k 0))) ∈ zk_fl := fun k hk => zk_at (zk_el22_i k hk)
set_option maxRecDepth 1000000 in
theorem zk_el23_i : ∀ k, k < (zx_txt.getD 23 []).length → (zk_dp ([503].getD k 0) zk_fl).head? = some (Jvm.Cond.eq (.elem (zk_vl 23) (.int (Int32.ofNat k))) (.int (Int32.ofNat ((zx_txt.getD 23 []).getD k 0)))) := by decide +kernel
theorem zk_el23 : ∀ k, k < (zx_txt.getD 23 []).length → Jvm.Cond.eq (.elem (zk_vl 23) (.int (Int32.ofNat k))) (.int (Int32.ofNat ((zx_txt.getD 23 []).getD k 0))) ∈ zk_fl := fun k hk => zk_at (zk_el23_i k hk)
set_option maxRecDepth 1000000 in
theorem zk_el24_i : ∀ k, k < (zx_txt.getD 24 []).length → (zk_dp ([312].getD k 0) zk_fl).head? = some (Jvm.Cond.eq (.elem (zk_vl 24) (.int (Int32.ofNat k))) (.int (Int32.ofNat ((zx_txt.getD 24 []).getD k 0)))) := by decide +kernel
theorem zk_el24 : ∀ k, k < (zx_txt.getD 24 []).length → Jvm.Cond.eq (.elem (zk_vl 24) (.int (Int32.ofNat k))) (.int (Int32.ofNat ((zx_txt.getD 24 []).getD k 0))) ∈ zk_fl := fun k hk => zk_at (zk_el24_i k hk)
set_option maxRecDepth 1000000 in
theorem zk_el25_i : ∀ k, k < (zx_txt.getD 25 []).length → (zk_dp ([352].getD k 0) zk_fl).head? = some (Jvm.Cond.eq (.elem (zk_vl 25) (.int (Int32.ofNat k))) (.int (Int32.ofNat ((zx_txt.getD 25 []).getD k 0)))) := by decide +kernel
theorem zk_el25 : ∀ k, k < (zx_txt.getD 25 []).length → Jvm.Cond.eq (.elem (zk_vl 25) (.int (Int32.ofNat k))) (.int (Int32.ofNat ((zx_txt.getD 25 []).getD k 0))) ∈ zk_fl := fun k hk => zk_at (zk_el25_i k hk)
set_option maxRecDepth 1000000 in
theorem zk_el26_i : ∀ k, k < (zx_txt.getD 26 []).length → (zk_dp ([357].getD k 0) zk_fl).head? = some (Jvm.Cond.eq (.elem (zk_vl 26) (.int (Int32.ofNat k))) (.int (Int32.ofNat ((zx_txt.getD 26 []).getD k 0)))) := by decide +kernel
theorem zk_el26 : ∀ k, k < (zx_txt.getD 26 []).length → Jvm.Cond.eq (.elem (zk_vl 26) (.int (Int32.ofNat k))) (.int (Int32.ofNat ((zx_txt.getD 26 []).getD k 0))) ∈ zk_fl := fun k hk => zk_at (zk_el26_i k hk)
theorem zk_el : ∀ j, j < 30 → ∀ k, k < (zx_txt.getD j []).length → Jvm.Cond.eq (.elem (zk_vl j) (.int (Int32.ofNat k))) (.int (Int32.ofNat ((zx_txt.getD j []).getD k 0))) ∈ zk_fl := by
  intro j hj
  match j, hj with
  | 0, _ => exact zk_el0
  | 1, _ => exact zk_el1
  | 2, _ => exact zk_el2
  | 3, _ => exact zk_el3
  | 4, _ => exact zk_el4
  | 5, _ => exact zk_el5
  | 6, _ => exact zk_el6
  | 7, _ => exact zk_el7
  | 8, _ => exact zk_el8
  | 9, _ => exact zk_el9
  | 10, _ => exact zk_el10
  | 11, _ => exact zk_el11
  | 12, _ => exact zk_el12
  | 13, _ => exact zk_el13
  | 14, _ => exact zk_el14
  | 15, _ => exact zk_el15
  | 16, _ => exact zk_el16
  | 17, _ => exact zk_el17
  | 18, _ => exact zk_el18
  | 19, _ => exact zk_el19
  | 20, _ => exact zk_el20
  | 21, _ => exact zk_el21
  | 22, _ => exact zk_el22
  | 23, _ => exact zk_el23
  | 24, _ => exact zk_el24
  | 25, _ => exact zk_el25
  | 26, _ => exact zk_el26
  | 27, _ => exact fun k hk => absurd hk (Nat.not_lt_zero k)
  | 28, _ => exact fun k hk => absurd hk (Nat.not_lt_zero k)
  | 29, _ => exact fun k hk => absurd hk (Nat.not_lt_zero k)
  | n + 30, hj => omega
set_option maxRecDepth 1000000 in
theorem zk_m : ∀ w ∈ ([.arrayOf zk_al (.object "OperaHouse$Token"), .eq (.length zk_al) (.int 30), .eq (.static "java/lang/String" "COMPACT_STRINGS" "Z") (.int 1), .isRef (.static "jdk/internal/util/Preconditions" "SIOOBE_FORMATTER" "Ljava/util/function/BiFunction;")] : List Jvm.Cond), w ∈ zk_fl := by decide +kernel
set_option maxRecDepth 1000000 in
theorem zk_ly : ∀ j, j < 30 → Jvm.Cond.laysStatic "OperaHouse$Token" (zk_q j).1 "LOperaHouse$Token;" ∈ lw_tbl := by decide +kernel
set_option maxRecDepth 1000000 in
theorem zk_t : ∀ w ∈ ([.initialized "OperaHouse$Token", .laysStatic "OperaHouse$Token" "ALL" "[LOperaHouse$Token;", .laysStatic "java/lang/String" "COMPACT_STRINGS" "Z", .initialized "java/lang/String", .laysStatic "jdk/internal/util/Preconditions" "SIOOBE_FORMATTER" "Ljava/util/function/BiFunction;", .initialized "jdk/internal/util/Preconditions", .initialized "OperaHouse", .laysStatic "OperaHouse" "NEAR" "[I", .laysStatic "OperaHouse" "WORTH" "[I", .laysStatic "OperaHouse" "LIMIT_LEAST" "[I", .laysStatic "OperaHouse" "LIMIT_MOST" "[I"] : List Jvm.Cond), w ∈ lw_tbl := by decide +kernel
set_option maxRecDepth 1000000 in
theorem zk_r1 : (Jvm.Cond.arrayOf (.static "OperaHouse" "NEAR" "[I") .int ∈ zk_fl ∧ Jvm.Cond.eq (.length (.static "OperaHouse" "NEAR" "[I")) (.int 15) ∈ zk_fl) ∧ ∀ j, j < 15 → Jvm.Cond.eq (.elem (.static "OperaHouse" "NEAR" "[I") (.int (Int32.ofNat j))) (.int (Int32.ofInt (([1, 2, 3, 0, 4, (-1), 0, (-1), (-1), 0, 4, (-1), 1, 3, (-1)] : List Int).getD j 0))) ∈ zk_fl := by decide +kernel
set_option maxRecDepth 1000000 in
theorem zk_r2 : (Jvm.Cond.arrayOf (.static "OperaHouse" "WORTH" "[I") .int ∈ zk_fl ∧ Jvm.Cond.eq (.length (.static "OperaHouse" "WORTH" "[I")) (.int 4) ∈ zk_fl) ∧ ∀ j, j < 4 → Jvm.Cond.eq (.elem (.static "OperaHouse" "WORTH" "[I") (.int (Int32.ofNat j))) (.int (Int32.ofInt (([1, 5, 25, 125] : List Int).getD j 0))) ∈ zk_fl := by decide +kernel
set_option maxRecDepth 1000000 in
theorem zk_r3 : (Jvm.Cond.arrayOf (.static "OperaHouse" "LIMIT_LEAST" "[I") .int ∈ zk_fl ∧ Jvm.Cond.eq (.length (.static "OperaHouse" "LIMIT_LEAST" "[I")) (.int 4) ∈ zk_fl) ∧ ∀ j, j < 4 → Jvm.Cond.eq (.elem (.static "OperaHouse" "LIMIT_LEAST" "[I") (.int (Int32.ofNat j))) (.int (Int32.ofInt (([0, 1, 0, 1] : List Int).getD j 0))) ∈ zk_fl := by decide +kernel
set_option maxRecDepth 1000000 in
theorem zk_r4 : (Jvm.Cond.arrayOf (.static "OperaHouse" "LIMIT_MOST" "[I") .int ∈ zk_fl ∧ Jvm.Cond.eq (.length (.static "OperaHouse" "LIMIT_MOST" "[I")) (.int 4) ∈ zk_fl) ∧ ∀ j, j < 4 → Jvm.Cond.eq (.elem (.static "OperaHouse" "LIMIT_MOST" "[I") (.int (Int32.ofNat j))) (.int (Int32.ofInt (([72, 24, 7, 999] : List Int).getD j 0))) ∈ zk_fl := by decide +kernel
theorem zk_eqr {args : Array Value} {s : State} {t u : Term} {a : Nat} (h : (Cond.eq t u).before args s = true) (hu : u.eval args s none [] s = some (.ref a)) : t.eval args s none [] s = some (.ref a) := by
  cases hv : t.eval args s none [] s with
  | none => simp [Cond.before, Cond.holds, Cond.value, hv] at h
  | some w =>
    simp only [Cond.before, Cond.holds, Cond.value, hv, hu] at h
    cases w <;> simp_all
/-- what holds of a token -/
def zk_F (args : Array Value) (s : State) (A : Nat → Prop) (j : Nat) (q : Nat × Nat × Nat) : Prop :=
  (zk_st j).eval args s none [] s = some (.ref q.1) ∧ va_O "OperaHouse$Token" q.1 A s s.heap ∧ va_OF "OperaHouse$Token" "sort" "I" (.int (Int32.ofInt (zk_q j).2.2.1)) q.1 A s s.heap ∧ va_OF "OperaHouse$Token" "code" "I" (.int (Int32.ofInt (zk_q j).2.2.2)) q.1 A s s.heap ∧ va_OF "OperaHouse$Token" "text" "Ljava/lang/String;" (.ref q.2.1) q.1 A s s.heap ∧ va_O "java/lang/String" q.2.1 A s s.heap ∧ va_OF "java/lang/String" "coder" "B" (.int 0) q.2.1 A s s.heap ∧ va_OF "java/lang/String" "value" "[B" (.ref q.2.2) q.2.1 A s s.heap ∧ va_T .byte q.2.2 (zx_txt.getD j []).length (fun k => .int (Int32.ofNat ((zx_txt.getD j []).getD k 0))) A s s.heap
theorem zk_len : ∀ j, j < 30 → (zx_txt.getD j []).length < 2 ^ 31 := by decide
theorem zk_Fok {args : Array Value} {s : State} {A : Nat → Prop} (hs : ∀ w ∈ zk_fl, w.before args s = true) (hA : ∀ a : Nat, a < s.heap.size → ¬ A a) (j : Nat) (hj : j < 30) : ∃ q, zk_F args s A j q := by
  obtain ⟨a, c, cell, k, q1, q2, q3, q4, q5, q6, -⟩ := Cond.exactly_spec (args := args) (first := s) (o := none) (s := s) (idx := []) (t := zk_st j) (cls := "OperaHouse$Token") (hs _ (zk_ex j hj))
  obtain ⟨aK, cK, cellK, kK, r1, r2, r3, r4, r5, r6, -⟩ := Cond.exactly_spec (args := args) (first := s) (o := none) (s := s) (idx := []) (t := zk_sr j) (cls := "java/lang/String") (hs _ (zk_sx j hj))
  obtain ⟨aV, ht, hT⟩ := va_Tof (tm := zk_vl j) (ty := .byte) (N := (zx_txt.getD j []).length) (f := fun k => .int (Int32.ofNat ((zx_txt.getD j []).getD k 0))) (A := A) (zk_len j hj) (hs _ (zk_ar j hj)) (va_eqt (hs _ (zk_ln j hj))) (fun k hk => va_eqt (hs _ (zk_el j hj k hk))) hA
  exact ⟨(a, aK, aV), q1, ⟨cell, q3, q5, by rw [q6]; exact q2, hA a (Array.getElem?_eq_some_iff.mp q3).1⟩, vk_OFof q1 (va_eqt (hs _ (zk_so j hj))) hA, vk_OFof q1 (va_eqt (hs _ (zk_co j hj))) hA, vk_OFof q1 (zk_eqr (hs _ (zk_tx j hj)) r1) hA, ⟨cellK, r3, r5, by rw [r6]; exact r2, hA aK (Array.getElem?_eq_some_iff.mp r3).1⟩, vk_OFof r1 (va_eqt (hs _ (zk_cd j hj))) hA, vk_OFof r1 ht hA, hT⟩
def zk_exl (a1 a2 a3 a4 : Nat) (ad : Nat → Nat) : List Nat := [0, a1, a2, a3, a4, 0, 0, 0, ad 0, ad 1, ad 2, ad 3, ad 4, ad 5, ad 6, ad 7, ad 8, ad 9, ad 10, ad 11, ad 12, ad 13, ad 14, ad 15, ad 16, ad 17, ad 18, ad 19, ad 20, ad 21, ad 22, ad 23, ad 24, ad 25, ad 26, ad 27, ad 28, ad 29]
theorem zk_exg (a1 a2 a3 a4 : Nat) (ad : Nat → Nat) : ∀ j, j < 30 → (zk_exl a1 a2 a3 a4 ad)[8 + j]? = some (ad j) := by
  intro j hj
  match j, hj with
  | 0, _ => rfl
  | 1, _ => rfl
  | 2, _ => rfl
  | 3, _ => rfl
  | 4, _ => rfl
  | 5, _ => rfl
  | 6, _ => rfl
  | 7, _ => rfl
  | 8, _ => rfl
  | 9, _ => rfl
  | 10, _ => rfl
  | 11, _ => rfl
  | 12, _ => rfl
  | 13, _ => rfl
  | 14, _ => rfl
  | 15, _ => rfl
  | 16, _ => rfl
  | 17, _ => rfl
  | 18, _ => rfl
  | 19, _ => rfl
  | 20, _ => rfl
  | 21, _ => rfl
  | 22, _ => rfl
  | 23, _ => rfl
  | 24, _ => rfl
  | 25, _ => rfl
  | 26, _ => rfl
  | 27, _ => rfl
  | 28, _ => rfl
  | 29, _ => rfl
  | n + 30, hj => omega
theorem zk_nm : ∀ q ∈ zx_sts, (∃ j, j < 30 ∧ q = ("OperaHouse$Token", (zk_q j).1, "LOperaHouse$Token;", 8 + j)) ∨ q ∈ [("OperaHouse", "NEAR", "[I", 1), ("OperaHouse", "WORTH", "[I", 2), ("OperaHouse", "LIMIT_LEAST", "[I", 3), ("OperaHouse", "LIMIT_MOST", "[I", 4)] := by decide +kernel
theorem zk_Y : ∀ q ∈ zx_Yt.1, (∃ j, j < 30 ∧ q = (8 + j, [(zk_q j).2.2.1, (zk_q j).2.2.2])) ∨ q ∈ [(1, [1, 2, 3, 0, 4, (-1), 0, (-1), (-1), 0, 4, (-1), 1, 3, (-1)]), (2, [1, 5, 25, 125]), (3, [0, 1, 0, 1]), (4, [72, 24, 7, 999])] := by decide +kernel
theorem zk_sc : ∀ j, j < 30 → (-2147483648 ≤ (zk_q j).2.2.1 ∧ (zk_q j).2.2.1 ≤ 2147483647) ∧ (-2147483648 ≤ (zk_q j).2.2.2 ∧ (zk_q j).2.2.2 ≤ 2147483647) := by decide
set_option maxRecDepth 1000000 in
theorem zx_CX0 {s : State} {args : Array Value} (hts : ∀ w ∈ lw_tbl, w.before args s = true) (hgv : (Jvm.Cond.and given_1 narrow_1).before args s = true) : ∃ ex : List Nat, zx_CX ex (fun q => s.heap.size ≤ q) s s.heap zx_sts zx_Yt := by
  have hs : ∀ w ∈ zk_fl, w.before args s = true := flat_of_before _ hgv
  have hA : ∀ a : Nat, a < s.heap.size → ¬ (fun q : Nat => s.heap.size ≤ q) a := fun a h q => Nat.not_le.mpr h q
  have ht := fun w hw => hts w (zk_t w hw)
  have hini := ht (.initialized "OperaHouse$Token") (by simp)
  have hin2 := ht (.initialized "OperaHouse") (by simp)
  obtain ⟨q, hq⟩ := Classical.axiomOfChoice (r := fun (j : Nat) (q : Nat × Nat × Nat) => j < 30 → zk_F args s (fun q => s.heap.size ≤ q) j q) (fun j => by
    by_cases hj : j < 30
    · obtain ⟨q, h⟩ := zk_Fok (A := fun q => s.heap.size ≤ q) hs hA j hj
      exact ⟨q, fun _ => h⟩
    · exact ⟨(0, 0, 0), fun h => absurd h hj⟩)
  obtain ⟨a1, hE1, hT1⟩ := va_Tof (tm := .static "OperaHouse" "NEAR" "[I") (ty := .int) (N := 15) (f := fun j => .int (Int32.ofInt (([1, 2, 3, 0, 4, (-1), 0, (-1), (-1), 0, 4, (-1), 1, 3, (-1)] : List Int).getD j 0))) (A := fun q => s.heap.size ≤ q) (by decide) (hs _ zk_r1.1.1) (va_eqt (hs _ zk_r1.1.2)) (fun j hj => va_eqt (hs _ (zk_r1.2 j hj))) hA
  have hZ1 := va_Zof (A := fun q => s.heap.size ≤ q) (ht (.laysStatic "OperaHouse" "NEAR" "[I") (by simp)) hin2 hE1 hA
  obtain ⟨a2, hE2, hT2⟩ := va_Tof (tm := .static "OperaHouse" "WORTH" "[I") (ty := .int) (N := 4) (f := fun j => .int (Int32.ofInt (([1, 5, 25, 125] : List Int).getD j 0))) (A := fun q => s.heap.size ≤ q) (by decide) (hs _ zk_r2.1.1) (va_eqt (hs _ zk_r2.1.2)) (fun j hj => va_eqt (hs _ (zk_r2.2 j hj))) hA
  have hZ2 := va_Zof (A := fun q => s.heap.size ≤ q) (ht (.laysStatic "OperaHouse" "WORTH" "[I") (by simp)) hin2 hE2 hA
  obtain ⟨a3, hE3, hT3⟩ := va_Tof (tm := .static "OperaHouse" "LIMIT_LEAST" "[I") (ty := .int) (N := 4) (f := fun j => .int (Int32.ofInt (([0, 1, 0, 1] : List Int).getD j 0))) (A := fun q => s.heap.size ≤ q) (by decide) (hs _ zk_r3.1.1) (va_eqt (hs _ zk_r3.1.2)) (fun j hj => va_eqt (hs _ (zk_r3.2 j hj))) hA
  have hZ3 := va_Zof (A := fun q => s.heap.size ≤ q) (ht (.laysStatic "OperaHouse" "LIMIT_LEAST" "[I") (by simp)) hin2 hE3 hA
  obtain ⟨a4, hE4, hT4⟩ := va_Tof (tm := .static "OperaHouse" "LIMIT_MOST" "[I") (ty := .int) (N := 4) (f := fun j => .int (Int32.ofInt (([72, 24, 7, 999] : List Int).getD j 0))) (A := fun q => s.heap.size ≤ q) (by decide) (hs _ zk_r4.1.1) (va_eqt (hs _ zk_r4.1.2)) (fun j hj => va_eqt (hs _ (zk_r4.2 j hj))) hA
  have hZ4 := va_Zof (A := fun q => s.heap.size ≤ q) (ht (.laysStatic "OperaHouse" "LIMIT_MOST" "[I") (by simp)) hin2 hE4 hA
  have hexg := zk_exg a1 a2 a3 a4 (fun j => (q j).1)
  have hexd : ∀ j, j < 30 → (zk_exl a1 a2 a3 a4 (fun j => (q j).1)).getD (8 + j) 0 = (q j).1 := fun j hj => by
    rw [List.getD_eq_getElem?_getD, hexg j hj]
    rfl
  obtain ⟨aA, hEA, hTA⟩ := va_Tof (tm := zk_al) (ty := .object "OperaHouse$Token") (N := 30) (f := fun j => .ref ((zk_exl a1 a2 a3 a4 (fun j => (q j).1)).getD (8 + j) 0)) (A := fun q => s.heap.size ≤ q) (by decide) (hs _ (zk_m _ (by simp))) (va_eqt (z := 30) (hs _ (zk_m _ (by simp)))) (fun j hj => by
    rw [hexd j hj]
    exact zk_eqr (hs _ (zk_ae j hj)) (hq j hj).1) hA
  refine ⟨zk_exl a1 a2 a3 a4 (fun j => (q j).1), ⟨fun t hm => ?_, ⟨aA, va_Zof (ht (.laysStatic "OperaHouse$Token" "ALL" "[LOperaHouse$Token;") (by simp)) hini hEA hA, hTA⟩, ⟨?_, va_Zof (ht (.laysStatic "java/lang/String" "COMPACT_STRINGS" "Z") (by simp)) (ht (.initialized "java/lang/String") (by simp)) (va_eqt (hs _ (zk_m _ (by simp)))) hA⟩, fun j hj => ?_⟩, fun t hm => ?_⟩
  · rcases zk_nm t hm with ⟨j, hj, rfl⟩ | h
    · exact ⟨(q j).1, hexg j hj, va_Zof (hts _ (zk_ly j hj)) hini (hq j hj).1 hA⟩
    · simp only [List.mem_cons, List.not_mem_nil, or_false] at h
      rcases h with rfl | rfl | rfl | rfl
      · exact ⟨a1, rfl, hZ1⟩
      · exact ⟨a2, rfl, hZ2⟩
      · exact ⟨a3, rfl, hZ3⟩
      · exact ⟨a4, rfl, hZ4⟩
  · rcases va_Zqof (A := fun q => s.heap.size ≤ q) (ht (.laysStatic "jdk/internal/util/Preconditions" "SIOOBE_FORMATTER" "Ljava/util/function/BiFunction;") (by simp)) (ht (.initialized "jdk/internal/util/Preconditions") (by simp)) (hs _ (zk_m _ (by simp))) hA with h | ⟨t, h⟩
    · exact ⟨.null, rfl, h⟩
    · exact ⟨.ref t, rfl, h⟩
  · rw [hexd j hj]
    obtain ⟨-, -, -, -, k1, k2, k3, k4, k5⟩ := hq j hj
    exact ⟨_, _, k1, k2, k3, k4, k5⟩
  · rcases zk_Y t hm with ⟨j, hj, rfl⟩ | h
    · obtain ⟨-, k1, k2, k3, -⟩ := hq j hj
      obtain ⟨⟨z1, z2⟩, z3, z4⟩ := zk_sc j hj
      refine ⟨(q j).1, by show 8 + j < 64; omega, hexg j hj, fun n hn => ?_, ?_⟩
      · simp only [List.mem_cons, List.not_mem_nil, or_false] at hn
        rcases hn with rfl | rfl
        · exact ⟨z1, z2⟩
        · exact ⟨z3, z4⟩
      · rw [if_neg (by show ¬ 8 + j < 8; omega)]
        refine ⟨k1, fun k o n d e1 v e2 => ?_⟩
        match k, e1, e2 with
        | 0, e1, e2 =>
          cases e1
          cases e2
          exact k2
        | 1, e1, e2 =>
          cases e1
          cases e2
          exact k3
        | n + 2, e1, e2 => cases e1
    · simp only [List.mem_cons, List.not_mem_nil, or_false] at h
      rcases h with rfl | rfl | rfl | rfl
      · exact ⟨a1, by decide, rfl, by decide, hT1⟩
      · exact ⟨a2, by decide, rfl, by decide, hT2⟩
      · exact ⟨a3, by decide, rfl, by decide, hT3⟩
      · exact ⟨a4, by decide, rfl, by decide, hT4⟩
theorem zx_inst : ∀ (c : Nat) (q : vw_C), vwCl[c]? = some q → Jvm.Cond.instantiable q.1 q.2.2 ∈ zx_Ts := by
  intro c q h
  match c, h with
  | 0, h => cases h; exact List.mem_filter.mpr ⟨by decide +kernel, rfl⟩
  | 1, h => cases h; exact List.mem_filter.mpr ⟨by decide +kernel, rfl⟩
  | 2, h => cases h; exact List.mem_filter.mpr ⟨by decide +kernel, rfl⟩
  | 3, h => cases h; exact List.mem_filter.mpr ⟨by decide +kernel, rfl⟩
  | 4, h => cases h; exact List.mem_filter.mpr ⟨by decide +kernel, rfl⟩
  | 5, h => cases h; exact List.mem_filter.mpr ⟨by decide +kernel, rfl⟩
  | 6, h => cases h; exact List.mem_filter.mpr ⟨by decide +kernel, rfl⟩
  | 7, h => cases h; exact List.mem_filter.mpr ⟨by decide +kernel, rfl⟩
  | 8, h => cases h; exact List.mem_filter.mpr ⟨by decide +kernel, rfl⟩
  | 9, h => cases h; exact List.mem_filter.mpr ⟨by decide +kernel, rfl⟩
  | 10, h => cases h; exact List.mem_filter.mpr ⟨by decide +kernel, rfl⟩
  | 11, h => cases h; exact List.mem_filter.mpr ⟨by decide +kernel, rfl⟩
  | n + 12, h => simp [vwCl] at h
/-- a number for each place of a list, by a choice for each -/
theorem zx_choose {α β : Type} {P : Nat → α → β → Prop} (d : β) : ∀ (l : List α), (∀ (c : Nat) (q : α), l[c]? = some q → ∃ x, P c q x) → ∃ f : Nat → β, ∀ (c : Nat) (q : α), l[c]? = some q → P c q (f c)
  | [], _ => ⟨fun _ => d, fun c q h => by simp at h⟩
  | a :: r, h => by
    obtain ⟨x, hx⟩ := h 0 a rfl
    obtain ⟨f, hf⟩ := zx_choose (P := fun c => P (c + 1)) d r (fun c q hc => h (c + 1) q (by simpa using hc))
    refine ⟨fun c => match c with
      | 0 => x
      | c + 1 => f c, fun c q hc => ?_⟩
    match c, hc with
    | 0, hc => cases hc; exact hx
    | c + 1, hc => exact hf c q (by simpa using hc)
theorem zx_K0 {s : State} {args : Array Value} (hts : ∀ w ∈ zx_Ts, w.before args s = true) : ∃ D : va_G, va_K D vwCl [] s := by
  obtain ⟨f, hf⟩ := zx_choose (P := fun _ (q : vw_C) (x : ClassId × (Nat → Nat)) => u_Kn s q.1 q.2.1 q.2.2 x.1 x.2) (0, fun _ => 0) vwCl (fun c q hq => by
    obtain ⟨C, T, N⟩ := q
    obtain ⟨cC, iS, h⟩ := u_known (C := C) (T := T) (N := N) hts (zx_CKt c C T N hq).1 (hts _ (zx_inst c _ hq))
    exact ⟨(cC, iS), h⟩)
  exact ⟨(fun k => (f k).1, fun k => (f k).2), fun c q hq => hf c q hq, fun k q h => by simp at h⟩
set_option maxRecDepth 1000000 in
theorem zk_nw : ∀ w ∈ zx_nw, w ∈ lw_tbl ∧ w.onTables = true := by decide +kernel
theorem zx_nw0 {s : State} {args : Array Value} (hts : ∀ w ∈ lw_tbl, w.before args s = true) : ∀ w ∈ zx_nw, va_Nw w s := fun w hw => va_Nw.of (zk_nw w hw).2 (hts w (zk_nw w hw).1)
set_option maxRecDepth 1000000 in
theorem zk_ao : ∀ C ∈ zx_aos, Jvm.Cond.arrayOver (.object C) ∈ lw_tbl := by decide +kernel
theorem zx_ao0 {s : State} {args : Array Value} (hts : ∀ w ∈ lw_tbl, w.before args s = true) : ∀ C ∈ zx_aos, va_AO C s := fun C hC => va_AO.of (hts _ (zk_ao C hC))
/-! zx: words of the start -/
set_option maxRecDepth 1000000 in
theorem zk_s240 : Jvm.Cond.stringRef "OperaHouse" 240 "nothing such was wrong" ∈ lw_tbl := by decide +kernel
set_option maxRecDepth 1000000 in
theorem zx_mU : Jvm.Cond.laysStatic Bundle.tN "UNASSIGNED_STACK" Bundle.steD ∈ lw_tbl ∧ Jvm.Cond.laysStatic Bundle.tN "SUPPRESSED_SENTINEL" Bundle.listD ∈ lw_tbl ∧ Jvm.Cond.initialized Bundle.tN ∈ lw_tbl := by decide +kernel
set_option maxRecDepth 1000000 in
theorem zx_mR0 : Jvm.Cond.isRef (.static Bundle.tN "UNASSIGNED_STACK" Bundle.steD) ∈ flatC (Jvm.Cond.and given_1 narrow_1) ∧ Jvm.Cond.isRef (.static Bundle.tN "SUPPRESSED_SENTINEL" Bundle.listD) ∈ flatC (Jvm.Cond.and given_1 narrow_1) := by decide +kernel
abbrev zx_A0s (s : State) : Nat → Prop := fun q => s.heap.size ≤ q
theorem zx_XE0 {s : State} {D : va_G} {args : Array Value} (hts : ∀ w ∈ lw_tbl, w.before args s = true) (hgv : (Jvm.Cond.and given_1 narrow_1).before args s = true) (hK : va_K D vwCl [] s) : zx_XE (zx_A0s s) s := by
  have hs := flat_of_before _ hgv
  have hA : ∀ a : Nat, a < s.heap.size → ¬ zx_A0s s a := fun a h q => Nat.not_le.mpr h q
  have hcl : s.vm.findClass "OperaHouse" = some (D.1 10) := (hK.1 10 (RX11, TX11, 14) rfl).2.1
  obtain ⟨-, -, -, sa, -, -, -, -, -, hev⟩ := Cond.stringRef_spec (args := args) (first := s) (o := none) (s := s) (idx := []) hcl (hts _ zk_s240)
  exact ⟨fun w hw => va_Nw.of (zx_nx_on w hw) (hts w (zx_nx_l w hw)), ⟨sa, vk_R.of (hts _ zk_s240) hev⟩, vx_Zqof (hts _ zx_mU.1) (hts _ zx_mU.2.2) (hs _ zx_mR0.1) hA, vx_Zqof (hts _ zx_mU.2.1) (hts _ zx_mU.2.2) (hs _ zx_mR0.2) hA⟩
end
