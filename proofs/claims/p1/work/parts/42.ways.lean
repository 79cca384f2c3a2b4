/-! zx: the law's ways, run -/
def zx_xf0 : zx_Fn := fun _ _ _ _ => none
noncomputable def zx_ft : zx_Fn := zx_run zx_Yt zx_dt zx_rmt zx_Pt zx_xf0 4000 8
theorem zx_ft_ok {l : Launch} : zx_FOK l vwCl zx_Ts zx_nw zx_sts zx_Yt zx_aos zx_PRt zx_rmt 8 zx_ft :=
  zx_run_ok zx_PKt zx_CKt zx_arrs zx_Ts_good zx_nw_kind (by intro d j hP y cc maxL ret rm _ _ G h as os hz; cases hz) 8
noncomputable def zx_SA : Option (List zx_Os) := zx_ex zx_Yt zx_dt zx_rmt zx_stp zx_mlaw zx_ft 400 zx_tlaw zx_G0 [] [(0, .inr (.inr false))] (0, 0) []
