set_option maxRecDepth 1000000 in
theorem vkG0_0 : zv_ch zx_Yt zx_dt zx_rmt zx_Pt vGjs [] vEG0 vHG0 vHG0_0 = true := by decide +kernel
set_option maxRecDepth 1000000 in
theorem vkG0_1 : zv_ch zx_Yt zx_dt zx_rmt zx_Pt vGjs [] vEG0 vHG0 vHG0_1 = true := by decide +kernel
set_option maxRecDepth 1000000 in
theorem vkG0_2 : zv_ch zx_Yt zx_dt zx_rmt zx_Pt vGjs [] vEG0 vHG0 vHG0_2 = true := by decide +kernel
set_option maxRecDepth 1000000 in
theorem vkG0_3 : zv_ch zx_Yt zx_dt zx_rmt zx_Pt vGjs [] vEG0 vHG0 vHG0_3 = true := by decide +kernel
set_option maxRecDepth 1000000 in
theorem vkG0_4 : zv_ch zx_Yt zx_dt zx_rmt zx_Pt vGjs [] vEG0 vHG0 vHG0_4 = true := by decide +kernel
set_option maxRecDepth 1000000 in
theorem vkG0_e : zv_ce zx_Yt zx_dt zx_rmt zx_Pt vGjs [] vEG0 vHG0 = true := by decide +kernel
set_option maxRecDepth 1000000 in
theorem vkG1_e : zv_ce zx_Yt zx_dt zx_rmt zx_Pt vGjs [vEG0] vEG1 vHG1 = true := by decide +kernel
set_option maxRecDepth 1000000 in
theorem vkG2_0 : zv_ch zx_Yt zx_dt zx_rmt zx_Pt vGjs [vEG0] vEG2 vHG2 vHG2_0 = true := by decide +kernel
set_option maxRecDepth 1000000 in
theorem vkG2_1 : zv_ch zx_Yt zx_dt zx_rmt zx_Pt vGjs [vEG0] vEG2 vHG2 vHG2_1 = true := by decide +kernel
set_option maxRecDepth 1000000 in
theorem vkG2_2 : zv_ch zx_Yt zx_dt zx_rmt zx_Pt vGjs [vEG0] vEG2 vHG2 vHG2_2 = true := by decide +kernel
set_option maxRecDepth 1000000 in
theorem vkG2_3 : zv_ch zx_Yt zx_dt zx_rmt zx_Pt vGjs [vEG0] vEG2 vHG2 vHG2_3 = true := by decide +kernel
set_option maxRecDepth 1000000 in
theorem vkG2_4 : zv_ch zx_Yt zx_dt zx_rmt zx_Pt vGjs [vEG0] vEG2 vHG2 vHG2_4 = true := by decide +kernel
set_option maxRecDepth 1000000 in
theorem vkG2_5 : zv_ch zx_Yt zx_dt zx_rmt zx_Pt vGjs [vEG0] vEG2 vHG2 vHG2_5 = true := by decide +kernel
set_option maxRecDepth 1000000 in
theorem vkG2_6 : zv_ch zx_Yt zx_dt zx_rmt zx_Pt vGjs [vEG0] vEG2 vHG2 vHG2_6 = true := by decide +kernel
set_option maxRecDepth 1000000 in
theorem vkG2_7 : zv_ch zx_Yt zx_dt zx_rmt zx_Pt vGjs [vEG0] vEG2 vHG2 vHG2_7 = true := by decide +kernel
set_option maxRecDepth 1000000 in
theorem vkG2_8 : zv_ch zx_Yt zx_dt zx_rmt zx_Pt vGjs [vEG0] vEG2 vHG2 vHG2_8 = true := by decide +kernel
set_option maxRecDepth 1000000 in
theorem vkG2_9 : zv_ch zx_Yt zx_dt zx_rmt zx_Pt vGjs [vEG0] vEG2 vHG2 vHG2_9 = true := by decide +kernel
set_option maxRecDepth 1000000 in
theorem vkG2_10 : zv_ch zx_Yt zx_dt zx_rmt zx_Pt vGjs [vEG0] vEG2 vHG2 vHG2_10 = true := by decide +kernel
set_option maxRecDepth 1000000 in
theorem vkG2_11 : zv_ch zx_Yt zx_dt zx_rmt zx_Pt vGjs [vEG0] vEG2 vHG2 vHG2_11 = true := by decide +kernel
set_option maxRecDepth 1000000 in
theorem vkG2_12 : zv_ch zx_Yt zx_dt zx_rmt zx_Pt vGjs [vEG0] vEG2 vHG2 vHG2_12 = true := by decide +kernel
set_option maxRecDepth 1000000 in
theorem vkG2_13 : zv_ch zx_Yt zx_dt zx_rmt zx_Pt vGjs [vEG0] vEG2 vHG2 vHG2_13 = true := by decide +kernel
set_option maxRecDepth 1000000 in
theorem vkG2_14 : zv_ch zx_Yt zx_dt zx_rmt zx_Pt vGjs [vEG0] vEG2 vHG2 vHG2_14 = true := by decide +kernel
set_option maxRecDepth 1000000 in
theorem vkG2_15 : zv_ch zx_Yt zx_dt zx_rmt zx_Pt vGjs [vEG0] vEG2 vHG2 vHG2_15 = true := by decide +kernel
set_option maxRecDepth 1000000 in
theorem vkG2_e : zv_ce zx_Yt zx_dt zx_rmt zx_Pt vGjs [vEG0] vEG2 vHG2 = true := by decide +kernel
set_option maxRecDepth 1000000 in
theorem vkG3_0 : zv_ch zx_Yt zx_dt zx_rmt zx_Pt vGjs [] vEG3 vHG3 vHG3_0 = true := by decide +kernel
set_option maxRecDepth 1000000 in
theorem vkG3_e : zv_ce zx_Yt zx_dt zx_rmt zx_Pt vGjs [] vEG3 vHG3 = true := by decide +kernel
set_option maxRecDepth 1000000 in
theorem vkG4_e : zv_ce zx_Yt zx_dt zx_rmt zx_Pt vGjs [] vEG4 vHG4 = true := by decide +kernel
theorem vnG0 {l : Launch} : vN l 9 vEG0 := vGo2 (d := 0) (hd := vHG0) vOK_nil (vYI _) vkG0_e (List.forall_mem_cons.mpr ⟨vkG0_0, (List.forall_mem_cons.mpr ⟨vkG0_1, (List.forall_mem_cons.mpr ⟨vkG0_2, (List.forall_mem_cons.mpr ⟨vkG0_3, (List.forall_mem_cons.mpr ⟨vkG0_4, (fun _ h => nomatch h)⟩)⟩)⟩)⟩)⟩)
theorem vnG1 {l : Launch} : vN l 18 vEG1 := vGo2 (d := 9) (hd := vHG1) (vOK_cons vnG0 (by decide) vOK_nil) (vYI _) vkG1_e (fun _ h => nomatch h)
theorem vnG2 {l : Launch} : vN l 18 vEG2 := vGo2 (d := 9) (hd := vHG2) (vOK_cons vnG0 (by decide) vOK_nil) (vYI _) vkG2_e (List.forall_mem_cons.mpr ⟨vkG2_0, (List.forall_mem_cons.mpr ⟨vkG2_1, (List.forall_mem_cons.mpr ⟨vkG2_2, (List.forall_mem_cons.mpr ⟨vkG2_3, (List.forall_mem_cons.mpr ⟨vkG2_4, (List.forall_mem_cons.mpr ⟨vkG2_5, (List.forall_mem_cons.mpr ⟨vkG2_6, (List.forall_mem_cons.mpr ⟨vkG2_7, (List.forall_mem_cons.mpr ⟨vkG2_8, (List.forall_mem_cons.mpr ⟨vkG2_9, (List.forall_mem_cons.mpr ⟨vkG2_10, (List.forall_mem_cons.mpr ⟨vkG2_11, (List.forall_mem_cons.mpr ⟨vkG2_12, (List.forall_mem_cons.mpr ⟨vkG2_13, (List.forall_mem_cons.mpr ⟨vkG2_14, (List.forall_mem_cons.mpr ⟨vkG2_15, (fun _ h => nomatch h)⟩)⟩)⟩)⟩)⟩)⟩)⟩)⟩)⟩)⟩)⟩)⟩)⟩)⟩)⟩)⟩)
theorem vnG3 {l : Launch} : vN l 9 vEG3 := vGo2 (d := 0) (hd := vHG3) vOK_nil (vYI _) vkG3_e (List.forall_mem_cons.mpr ⟨vkG3_0, (fun _ h => nomatch h)⟩)
theorem vnG4 {l : Launch} : vN l 9 vEG4 := vGo2 (d := 0) (hd := vHG4) vOK_nil (vYI _) vkG4_e (fun _ h => nomatch h)
theorem vGEok {l : Launch} : vOK l 18 vGE := (vOK_cons vnG0 (by decide) (vOK_cons vnG1 (by decide) (vOK_cons vnG2 (by decide) (vOK_cons vnG3 (by decide) (vOK_cons vnG4 (by decide) vOK_nil)))))
theorem vGf_ok {l : Launch} (d : Nat) (hd : 18 ≤ d) : zx_FOK l vwCl zx_Ts zx_nw zx_sts (zw_YK zx_Yt vGK false) zx_aos zx_PRt zx_rmt (d + 8) vGf :=
  zv_run_ok (Y := zw_YK zx_Yt vGK false) d (zv_PK_hd zx_PKt) zx_CKt zx_arrs zx_Ts_good zx_nw_kind (vYI vGK) (fun d' j _ => zw_mm_ok (Y := zx_Yt) vGEok (d := d + d' + 1) (by omega) vGK false j) 8
