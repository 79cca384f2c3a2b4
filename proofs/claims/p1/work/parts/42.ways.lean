/-! zx: the law's ways, run -/
def zx_xf0 : zx_Fn := fun _ _ _ _ => none
noncomputable def zx_ft : zx_Fn := zx_run zx_Yt zx_dt zx_rmt zx_Pt zx_xf0 4000 8
theorem zx_ft_ok {l : Launch} : zx_FOK l vwCl zx_Ts zx_nw zx_sts zx_Yt zx_aos zx_PRt zx_rmt 8 zx_ft :=
  zx_run_ok zx_PKt zx_CKt zx_arrs zx_Ts_good zx_nw_kind (fun _ _ _ _ _ _ _ _ _ _ _ _ _ _ hz => nomatch hz) 8
noncomputable def zx_SA : Option (List zx_Os) := zx_ex zx_Yt zx_dt zx_rmt zx_stp zx_mlaw zx_ft 400 zx_tlaw zx_G0 [] [(0, .inr (.inr false))] (0, 0) []
/-- the ways that stand apart -/
def zx_spec (t : Nat) : Bool := Nat.beq t 878 || Nat.beq t 903 || Nat.beq t 1179
noncomputable def zx_SB : Bool := match zx_SA with
  | some os => os.all (fun o => match o with
    | .inl o => zx_is1 o
    | .inr q => zx_spec q.1 || zx_lB zx_ft 400 q)
  | none => false
set_option maxRecDepth 1000000 in
theorem zx_SB_ok : zx_SB = true := by decide +kernel
