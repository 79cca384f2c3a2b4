noncomputable section
theorem vYo4_q : zq_q1 vYo4 0 24 10 = true := by decide +kernel
set_option maxRecDepth 1000000 in
theorem vYo4_s0 : zq_c1s [1] vYo4 0 24 vYm_o (0 * 35) 35 (2 * 35) = true := by decide +kernel
set_option maxRecDepth 1000000 in
theorem vYo4_s1 : zq_c1s [1] vYo4 0 24 vYm_o (1 * 35) 35 (2 * 35) = true := by decide +kernel
theorem vYo4_c : zq_c1 [1] vYo4 0 24 vYm_o = true := zq_c1_of (n := 35) (m := 2) (by decide) (fun i hi => by
  match i, hi with
  | 0, _ => exact vYo4_s0
  | 1, _ => exact vYo4_s1
  | j + 2, h => exact absurd h (by omega))
theorem vYo4_ok {l : Launch} (acc : Bool) : zg_EN l 9 (zq_sel acc vYo4) (zqXo 10 acc) (fun _ _ _ _ => True) := zq_op1 zq_PK (K := [1]) zq_Po (by decide +kernel) (by decide +kernel) (by decide) vYo4_q vYo4_c acc
end
