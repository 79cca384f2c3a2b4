set_option maxRecDepth 1000000 in
theorem zx_test1 : (match zx_run zx_Yt zx_dt zx_rmt zx_Pt (fun _ _ _ _ => none) 3000 8 0 [] [.inl (10, (zx_dt[10]?.getD []).map zx_dv)] [.inr (.inl ([64], false))] with
  | some l => l.length == 1
  | none => false) = true := by decide +kernel
