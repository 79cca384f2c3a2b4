/-! zx: the classes -/
set_option maxRecDepth 1000000 in
theorem zx_kW0 : zx_all2 zx_w zx_pW0 (u_ws "OperaHouse$Calls" TX0 8) = true := by decide +kernel
theorem zx_kT0 : (zx_dt[0]?.getD []).length = 8 ∧ ∀ j, j < 8 → (zx_dt[0]?.getD [])[j]? = some (zx_tag (tyX0 j)) ∧ zx_tag (tyX0 j) ≠ 9 := by decide +kernel
set_option maxRecDepth 1000000 in
theorem zx_kW1 : zx_all2 zx_w zx_pW1 (u_ws "OperaHouse$Contract" TX1 9) = true := by decide +kernel
theorem zx_kT1 : (zx_dt[1]?.getD []).length = 9 ∧ ∀ j, j < 9 → (zx_dt[1]?.getD [])[j]? = some (zx_tag (tyX1 j)) ∧ zx_tag (tyX1 j) ≠ 9 := by decide +kernel
set_option maxRecDepth 1000000 in
theorem zx_kW2 : zx_all2 zx_w zx_pW2 (u_ws "OperaHouse$House" TX2 12) = true := by decide +kernel
theorem zx_kT2 : (zx_dt[2]?.getD []).length = 12 ∧ ∀ j, j < 12 → (zx_dt[2]?.getD [])[j]? = some (zx_tag (tyX2 j)) ∧ zx_tag (tyX2 j) ≠ 9 := by decide +kernel
set_option maxRecDepth 1000000 in
theorem zx_kW3 : zx_all2 zx_w zx_pW3 (u_ws "OperaHouse$Judge" TX3 6) = true := by decide +kernel
theorem zx_kT3 : (zx_dt[3]?.getD []).length = 6 ∧ ∀ j, j < 6 → (zx_dt[3]?.getD [])[j]? = some (zx_tag (tyX3 j)) ∧ zx_tag (tyX3 j) ≠ 9 := by decide +kernel
set_option maxRecDepth 1000000 in
theorem zx_kW4 : zx_all2 zx_w zx_pW4 (u_ws "OperaHouse$Layer" TX4 13) = true := by decide +kernel
theorem zx_kT4 : (zx_dt[4]?.getD []).length = 13 ∧ ∀ j, j < 13 → (zx_dt[4]?.getD [])[j]? = some (zx_tag (tyX4 j)) ∧ zx_tag (tyX4 j) ≠ 9 := by decide +kernel
set_option maxRecDepth 1000000 in
theorem zx_kW5 : zx_all2 zx_w zx_pW5 (u_ws "OperaHouse$Ledger" TX5 19) = true := by decide +kernel
theorem zx_kT5 : (zx_dt[5]?.getD []).length = 19 ∧ ∀ j, j < 19 → (zx_dt[5]?.getD [])[j]? = some (zx_tag (tyX5 j)) ∧ zx_tag (tyX5 j) ≠ 9 := by decide +kernel
set_option maxRecDepth 1000000 in
theorem zx_kW6 : zx_all2 zx_w zx_pW6 (u_ws "OperaHouse$Opera" TX6 10) = true := by decide +kernel
theorem zx_kT6 : (zx_dt[6]?.getD []).length = 10 ∧ ∀ j, j < 10 → (zx_dt[6]?.getD [])[j]? = some (zx_tag (tyX6 j)) ∧ zx_tag (tyX6 j) ≠ 9 := by decide +kernel
set_option maxRecDepth 1000000 in
theorem zx_kW7 : zx_all2 zx_w zx_pW7 (u_ws "OperaHouse$Reader" TX7 9) = true := by decide +kernel
theorem zx_kT7 : (zx_dt[7]?.getD []).length = 9 ∧ ∀ j, j < 9 → (zx_dt[7]?.getD [])[j]? = some (zx_tag (tyX7 j)) ∧ zx_tag (tyX7 j) ≠ 9 := by decide +kernel
set_option maxRecDepth 1000000 in
theorem zx_kW8 : zx_all2 zx_w zx_pW8 (u_ws "OperaHouse$Wagons" TX9 3) = true := by decide +kernel
theorem zx_kT8 : (zx_dt[8]?.getD []).length = 3 ∧ ∀ j, j < 3 → (zx_dt[8]?.getD [])[j]? = some (zx_tag (tyX9 j)) ∧ zx_tag (tyX9 j) ≠ 9 := by decide +kernel
set_option maxRecDepth 1000000 in
theorem zx_kW9 : zx_all2 zx_w zx_pW9 (u_ws "OperaHouse$Walk" TX10 9) = true := by decide +kernel
theorem zx_kT9 : (zx_dt[9]?.getD []).length = 9 ∧ ∀ j, j < 9 → (zx_dt[9]?.getD [])[j]? = some (zx_tag (tyX10 j)) ∧ zx_tag (tyX10 j) ≠ 9 := by decide +kernel
set_option maxRecDepth 1000000 in
theorem zx_kW10 : zx_all2 zx_w zx_pW10 (u_ws "OperaHouse" TX11 14) = true := by decide +kernel
theorem zx_kT10 : (zx_dt[10]?.getD []).length = 14 ∧ ∀ j, j < 14 → (zx_dt[10]?.getD [])[j]? = some (zx_tag (tyX11 j)) ∧ zx_tag (tyX11 j) ≠ 9 := by decide +kernel
set_option maxRecDepth 1000000 in
theorem zx_kW11 : zx_all2 zx_w zx_pW11 (u_ws "OperaHouseModel" TX12 101) = true := by decide +kernel
theorem zx_kT11 : (zx_dt[11]?.getD []).length = 101 ∧ ∀ j, j < 101 → (zx_dt[11]?.getD [])[j]? = some (zx_tag (tyX12 j)) ∧ zx_tag (tyX12 j) ≠ 9 := by decide +kernel
theorem zx_CKt : zx_CK vwCl zx_Ts zx_dt := by
  intro ci C T N hc
  match ci, hc with
  | 0, hc => cases hc; exact ⟨fun w hw => by obtain ⟨i, hi⟩ := zx_all2_ok zx_kW0 hw; exact zx_w_ok hi, tyX0, tyX0_ok, nmX0, fun d hd => by cases hd; exact zx_kT0⟩
  | 1, hc => cases hc; exact ⟨fun w hw => by obtain ⟨i, hi⟩ := zx_all2_ok zx_kW1 hw; exact zx_w_ok hi, tyX1, tyX1_ok, nmX1, fun d hd => by cases hd; exact zx_kT1⟩
  | 2, hc => cases hc; exact ⟨fun w hw => by obtain ⟨i, hi⟩ := zx_all2_ok zx_kW2 hw; exact zx_w_ok hi, tyX2, tyX2_ok, nmX2, fun d hd => by cases hd; exact zx_kT2⟩
  | 3, hc => cases hc; exact ⟨fun w hw => by obtain ⟨i, hi⟩ := zx_all2_ok zx_kW3 hw; exact zx_w_ok hi, tyX3, tyX3_ok, nmX3, fun d hd => by cases hd; exact zx_kT3⟩
  | 4, hc => cases hc; exact ⟨fun w hw => by obtain ⟨i, hi⟩ := zx_all2_ok zx_kW4 hw; exact zx_w_ok hi, tyX4, tyX4_ok, nmX4, fun d hd => by cases hd; exact zx_kT4⟩
  | 5, hc => cases hc; exact ⟨fun w hw => by obtain ⟨i, hi⟩ := zx_all2_ok zx_kW5 hw; exact zx_w_ok hi, tyX5, tyX5_ok, nmX5, fun d hd => by cases hd; exact zx_kT5⟩
  | 6, hc => cases hc; exact ⟨fun w hw => by obtain ⟨i, hi⟩ := zx_all2_ok zx_kW6 hw; exact zx_w_ok hi, tyX6, tyX6_ok, nmX6, fun d hd => by cases hd; exact zx_kT6⟩
  | 7, hc => cases hc; exact ⟨fun w hw => by obtain ⟨i, hi⟩ := zx_all2_ok zx_kW7 hw; exact zx_w_ok hi, tyX7, tyX7_ok, nmX7, fun d hd => by cases hd; exact zx_kT7⟩
  | 8, hc => cases hc; exact ⟨fun w hw => by obtain ⟨i, hi⟩ := zx_all2_ok zx_kW8 hw; exact zx_w_ok hi, tyX9, tyX9_ok, nmX9, fun d hd => by cases hd; exact zx_kT8⟩
  | 9, hc => cases hc; exact ⟨fun w hw => by obtain ⟨i, hi⟩ := zx_all2_ok zx_kW9 hw; exact zx_w_ok hi, tyX10, tyX10_ok, nmX10, fun d hd => by cases hd; exact zx_kT9⟩
  | 10, hc => cases hc; exact ⟨fun w hw => by obtain ⟨i, hi⟩ := zx_all2_ok zx_kW10 hw; exact zx_w_ok hi, tyX11, tyX11_ok, nmX11, fun d hd => by cases hd; exact zx_kT10⟩
  | 11, hc => cases hc; exact ⟨fun w hw => by obtain ⟨i, hi⟩ := zx_all2_ok zx_kW11 hw; exact zx_w_ok hi, tyX12, tyX12_ok, nmX12, fun d hd => by cases hd; exact zx_kT11⟩
  | n + 12, hc => simp [vwCl] at hc
