noncomputable section
theorem vYo3_q : zq_q1 vYo3 0 24 10 = true := by decide +kernel
set_option maxRecDepth 1000000 in
theorem vYo3_s0 : zq_c1s [1] vYo3 0 24 vYm_o (0 * 35) 35 (2 * 35) = true := by decide +kernel
set_option maxRecDepth 1000000 in
theorem vYo3_s1 : zq_c1s [1] vYo3 0 24 vYm_o (1 * 35) 35 (2 * 35) = true := by decide +kernel
theorem vYo3_c : zq_c1 [1] vYo3 0 24 vYm_o = true := zq_c1_of (n := 35) (m := 2) (by decide) (fun i hi => by
  match i, hi with
  | 0, _ => exact vYo3_s0
  | 1, _ => exact vYo3_s1
  | j + 2, h => exact absurd h (by omega))
theorem vYo3_ok {l : Launch} (acc : Bool) : zg_EN l 9 (zq_sel acc vYo3) (zqXo 10 acc) (fun _ _ _ _ => True) := zq_op1 zq_PK (K := [1]) zq_Po (by decide +kernel) (by decide +kernel) (by decide) vYo3_q vYo3_c acc
end
