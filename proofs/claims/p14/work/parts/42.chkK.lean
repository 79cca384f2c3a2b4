set_option maxRecDepth 1000000 in
theorem vkK0_0 : zv_ch zx_Yt zx_dt zx_rmt zx_Pt vKjs [] vEK0 vHK0 vHK0_0 = true := by decide +kernel
set_option maxRecDepth 1000000 in
theorem vkK0_e : zv_ce zx_Yt zx_dt zx_rmt zx_Pt vKjs [] vEK0 vHK0 = true := by decide +kernel
set_option maxRecDepth 1000000 in
theorem vkK1_0 : zv_ch zx_Yt zx_dt zx_rmt zx_Pt vKjs [vEK0] vEK1 vHK1 vHK1_0 = true := by decide +kernel
set_option maxRecDepth 1000000 in
theorem vkK1_1 : zv_ch zx_Yt zx_dt zx_rmt zx_Pt vKjs [vEK0] vEK1 vHK1 vHK1_1 = true := by decide +kernel
set_option maxRecDepth 1000000 in
theorem vkK1_2 : zv_ch zx_Yt zx_dt zx_rmt zx_Pt vKjs [vEK0] vEK1 vHK1 vHK1_2 = true := by decide +kernel
set_option maxRecDepth 1000000 in
theorem vkK1_e : zv_ce zx_Yt zx_dt zx_rmt zx_Pt vKjs [vEK0] vEK1 vHK1 = true := by decide +kernel
set_option maxRecDepth 1000000 in
theorem vkK2_0 : zv_ch zx_Yt zx_dt zx_rmt zx_Pt vKjs [vEK1] vEK2 vHK2 vHK2_0 = true := by decide +kernel
set_option maxRecDepth 1000000 in
theorem vkK2_1 : zv_ch zx_Yt zx_dt zx_rmt zx_Pt vKjs [vEK1] vEK2 vHK2 vHK2_1 = true := by decide +kernel
set_option maxRecDepth 1000000 in
theorem vkK2_e : zv_ce zx_Yt zx_dt zx_rmt zx_Pt vKjs [vEK1] vEK2 vHK2 = true := by decide +kernel
set_option maxRecDepth 1000000 in
theorem vkK3_e : zv_ce zx_Yt zx_dt zx_rmt zx_Pt vKjs [] vEK3 vHK3 = true := by decide +kernel
theorem vnK0 {l : Launch} : vN l 9 vEK0 := vGo2 (d := 0) (hd := vHK0) vOK_nil (vYI _) vkK0_e (List.forall_mem_cons.mpr ⟨vkK0_0, (fun _ h => nomatch h)⟩)
theorem vnK1 {l : Launch} : vN l 18 vEK1 := vGo2 (d := 9) (hd := vHK1) (vOK_cons vnK0 (by decide) vOK_nil) (vYI _) vkK1_e (List.forall_mem_cons.mpr ⟨vkK1_0, (List.forall_mem_cons.mpr ⟨vkK1_1, (List.forall_mem_cons.mpr ⟨vkK1_2, (fun _ h => nomatch h)⟩)⟩)⟩)
theorem vnK2 {l : Launch} : vN l 27 vEK2 := vGo2 (d := 18) (hd := vHK2) (vOK_cons vnK1 (by decide) vOK_nil) (vYI _) vkK2_e (List.forall_mem_cons.mpr ⟨vkK2_0, (List.forall_mem_cons.mpr ⟨vkK2_1, (fun _ h => nomatch h)⟩)⟩)
theorem vnK3 {l : Launch} : vN l 9 vEK3 := vGo2 (d := 0) (hd := vHK3) vOK_nil (vYI _) vkK3_e (fun _ h => nomatch h)
theorem vKEok {l : Launch} : vOK l 27 vKE := (vOK_cons vnK0 (by decide) (vOK_cons vnK1 (by decide) (vOK_cons vnK2 (by decide) (vOK_cons vnK3 (by decide) vOK_nil))))
theorem vKf_ok {l : Launch} (d : Nat) (hd : 27 ≤ d) : zx_FOK l vwCl zx_Ts zx_nw zx_sts (zw_YK zx_Yt vKK false) zx_aos zx_PRt zx_rmt (d + 8) vKf :=
  zv_run_ok (Y := zw_YK zx_Yt vKK false) d (zv_PK_hd zx_PKt) zx_CKt zx_arrs zx_Ts_good zx_nw_kind (vYI vKK) (fun d' j _ => zw_mm_ok (Y := zx_Yt) vKEok (d := d + d' + 1) (by omega) vKK false j) 8
