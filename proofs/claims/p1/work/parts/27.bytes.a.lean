/-! zx: the code of the methods -/
theorem zx_tbk_cut {cc : ByteArray} {l : List (Nat × Instr × Nat)} (n : Nat) (h1 : zx_tbk cc (l.take n) = true) (h2 : zx_tbk cc (l.drop n) = true) : zx_tbk cc l = true := by
  unfold zx_tbk at *
  rw [← List.take_append_drop n l, List.all_append, h1, h2]
  rfl
set_option maxRecDepth 1000000 in
theorem zx_by0_0 : zx_tbk prog_1_method_1_code (zx_t0.take 40) = true := by decide +kernel
set_option maxRecDepth 1000000 in
theorem zx_by0_1 : zx_tbk prog_1_method_1_code ((zx_t0.drop 40).take 40) = true := by decide +kernel
set_option maxRecDepth 1000000 in
theorem zx_by0_2 : zx_tbk prog_1_method_1_code ((zx_t0.drop 40).drop 40) = true := by decide +kernel
theorem zx_by0 : zx_tbk prog_1_method_1_code zx_t0 = true := zx_tbk_cut 40 zx_by0_0 (zx_tbk_cut 40 zx_by0_1 (zx_by0_2))
set_option maxRecDepth 1000000 in
theorem zx_by1_0 : zx_tbk prog_4_method_1_code (zx_t1.take 40) = true := by decide +kernel
set_option maxRecDepth 1000000 in
theorem zx_by1_1 : zx_tbk prog_4_method_1_code (zx_t1.drop 40) = true := by decide +kernel
theorem zx_by1 : zx_tbk prog_4_method_1_code zx_t1 = true := zx_tbk_cut 40 zx_by1_0 (zx_by1_1)
set_option maxRecDepth 1000000 in
theorem zx_by2 : zx_tbk prog_3_method_1_code zx_t2 = true := by decide +kernel
set_option maxRecDepth 1000000 in
theorem zx_by3 : zx_tbk prog_3_method_2_code zx_t3 = true := by decide +kernel
set_option maxRecDepth 1000000 in
theorem zx_by4 : zx_tbk prog_8_method_1_code zx_t4 = true := by decide +kernel
set_option maxRecDepth 1000000 in
theorem zx_by5 : zx_tbk prog_2_method_1_code zx_t5 = true := by decide +kernel
set_option maxRecDepth 1000000 in
theorem zx_by6_0 : zx_tbk prog_7_method_1_code (zx_t6.take 40) = true := by decide +kernel
set_option maxRecDepth 1000000 in
theorem zx_by6_1 : zx_tbk prog_7_method_1_code (zx_t6.drop 40) = true := by decide +kernel
theorem zx_by6 : zx_tbk prog_7_method_1_code zx_t6 = true := zx_tbk_cut 40 zx_by6_0 (zx_by6_1)
set_option maxRecDepth 1000000 in
theorem zx_by7 : zx_tbk prog_11_method_1_code zx_t7 = true := by decide +kernel
set_option maxRecDepth 1000000 in
theorem zx_by8 : zx_tbk prog_9_method_1_code zx_t8 = true := by decide +kernel
set_option maxRecDepth 1000000 in
theorem zx_by9 : zx_tbk prog_12_method_1_code zx_t9 = true := by decide +kernel
set_option maxRecDepth 1000000 in
theorem zx_by10 : zx_tbk prog_5_method_1_code zx_t10 = true := by decide +kernel
set_option maxRecDepth 1000000 in
theorem zx_by11 : zx_tbk prog_6_method_1_code zx_t11 = true := by decide +kernel
set_option maxRecDepth 1000000 in
theorem zx_by12 : zx_tbk prog_1_method_2_code zx_t12 = true := by decide +kernel
set_option maxRecDepth 1000000 in
theorem zx_by13 : zx_tbk prog_1_method_3_code zx_t13 = true := by decide +kernel
set_option maxRecDepth 1000000 in
theorem zx_by14 : zx_tbk prog_1_method_4_code zx_t14 = true := by decide +kernel
set_option maxRecDepth 1000000 in
theorem zx_by15 : zx_tbk prog_1_method_6_code zx_t15 = true := by decide +kernel
set_option maxRecDepth 1000000 in
theorem zx_by16_0 : zx_tbk prog_1_method_7_code (zx_t16.take 40) = true := by decide +kernel
set_option maxRecDepth 1000000 in
theorem zx_by16_1 : zx_tbk prog_1_method_7_code (zx_t16.drop 40) = true := by decide +kernel
theorem zx_by16 : zx_tbk prog_1_method_7_code zx_t16 = true := zx_tbk_cut 40 zx_by16_0 (zx_by16_1)
set_option maxRecDepth 1000000 in
theorem zx_by17 : zx_tbk prog_1_method_5_code zx_t17 = true := by decide +kernel
set_option maxRecDepth 1000000 in
theorem zx_by18 : zx_tbk prog_1_method_33_code zx_t18 = true := by decide +kernel
set_option maxRecDepth 1000000 in
theorem zx_by19_0 : zx_tbk prog_8_method_2_code (zx_t19.take 40) = true := by decide +kernel
set_option maxRecDepth 1000000 in
theorem zx_by19_1 : zx_tbk prog_8_method_2_code (zx_t19.drop 40) = true := by decide +kernel
theorem zx_by19 : zx_tbk prog_8_method_2_code zx_t19 = true := zx_tbk_cut 40 zx_by19_0 (zx_by19_1)
set_option maxRecDepth 1000000 in
theorem zx_by20 : zx_tbk prog_1_method_8_code zx_t20 = true := by decide +kernel
set_option maxRecDepth 1000000 in
theorem zx_by21 : zx_tbk prog_1_method_9_code zx_t21 = true := by decide +kernel
set_option maxRecDepth 1000000 in
theorem zx_by22 : zx_tbk prog_1_method_10_code zx_t22 = true := by decide +kernel
set_option maxRecDepth 1000000 in
theorem zx_by23 : zx_tbk prog_1_method_11_code zx_t23 = true := by decide +kernel
set_option maxRecDepth 1000000 in
theorem zx_by24 : zx_tbk prog_4_method_4_code zx_t24 = true := by decide +kernel
set_option maxRecDepth 1000000 in
theorem zx_by25 : zx_tbk prog_1_method_12_code zx_t25 = true := by decide +kernel
set_option maxRecDepth 1000000 in
theorem zx_by26 : zx_tbk prog_1_method_13_code zx_t26 = true := by decide +kernel
set_option maxRecDepth 1000000 in
theorem zx_by27 : zx_tbk prog_4_method_2_code zx_t27 = true := by decide +kernel
set_option maxRecDepth 1000000 in
theorem zx_by28_0 : zx_tbk prog_1_method_14_code (zx_t28.take 40) = true := by decide +kernel
set_option maxRecDepth 1000000 in
theorem zx_by28_1 : zx_tbk prog_1_method_14_code (zx_t28.drop 40) = true := by decide +kernel
theorem zx_by28 : zx_tbk prog_1_method_14_code zx_t28 = true := zx_tbk_cut 40 zx_by28_0 (zx_by28_1)
set_option maxRecDepth 1000000 in
theorem zx_by29 : zx_tbk prog_1_method_15_code zx_t29 = true := by decide +kernel
set_option maxRecDepth 1000000 in
theorem zx_by30 : zx_tbk prog_1_method_32_code zx_t30 = true := by decide +kernel
set_option maxRecDepth 1000000 in
theorem zx_by31 : zx_tbk prog_2_method_2_code zx_t31 = true := by decide +kernel
set_option maxRecDepth 1000000 in
theorem zx_by32 : zx_tbk prog_1_method_16_code zx_t32 = true := by decide +kernel
set_option maxRecDepth 1000000 in
theorem zx_by33 : zx_tbk prog_1_method_17_code zx_t33 = true := by decide +kernel
set_option maxRecDepth 1000000 in
theorem zx_by34_0 : zx_tbk prog_7_method_5_code (zx_t34.take 40) = true := by decide +kernel
set_option maxRecDepth 1000000 in
theorem zx_by34_1 : zx_tbk prog_7_method_5_code ((zx_t34.drop 40).take 40) = true := by decide +kernel
set_option maxRecDepth 1000000 in
theorem zx_by34_2 : zx_tbk prog_7_method_5_code (((zx_t34.drop 40).drop 40).take 40) = true := by decide +kernel
set_option maxRecDepth 1000000 in
theorem zx_by34_3 : zx_tbk prog_7_method_5_code (((zx_t34.drop 40).drop 40).drop 40) = true := by decide +kernel
theorem zx_by34 : zx_tbk prog_7_method_5_code zx_t34 = true := zx_tbk_cut 40 zx_by34_0 (zx_tbk_cut 40 zx_by34_1 (zx_tbk_cut 40 zx_by34_2 (zx_by34_3)))
set_option maxRecDepth 1000000 in
theorem zx_by35 : zx_tbk prog_29_method_103_code zx_t35 = true := by decide +kernel
set_option maxRecDepth 1000000 in
theorem zx_by36 : zx_tbk prog_1_method_18_code zx_t36 = true := by decide +kernel
set_option maxRecDepth 1000000 in
theorem zx_by37 : zx_tbk prog_5_method_2_code zx_t37 = true := by decide +kernel
set_option maxRecDepth 1000000 in
theorem zx_by38_0 : zx_tbk prog_5_method_5_code (zx_t38.take 40) = true := by decide +kernel
set_option maxRecDepth 1000000 in
theorem zx_by38_1 : zx_tbk prog_5_method_5_code ((zx_t38.drop 40).take 40) = true := by decide +kernel
set_option maxRecDepth 1000000 in
theorem zx_by38_2 : zx_tbk prog_5_method_5_code ((zx_t38.drop 40).drop 40) = true := by decide +kernel
theorem zx_by38 : zx_tbk prog_5_method_5_code zx_t38 = true := zx_tbk_cut 40 zx_by38_0 (zx_tbk_cut 40 zx_by38_1 (zx_by38_2))
set_option maxRecDepth 1000000 in
theorem zx_by39 : zx_tbk prog_11_method_2_code zx_t39 = true := by decide +kernel
set_option maxRecDepth 1000000 in
theorem zx_by40 : zx_tbk prog_11_method_3_code zx_t40 = true := by decide +kernel
set_option maxRecDepth 1000000 in
theorem zx_by41 : zx_tbk prog_11_method_4_code zx_t41 = true := by decide +kernel
set_option maxRecDepth 1000000 in
theorem zx_by42 : zx_tbk prog_11_method_5_code zx_t42 = true := by decide +kernel
set_option maxRecDepth 1000000 in
theorem zx_by43 : zx_tbk prog_11_method_7_code zx_t43 = true := by decide +kernel
set_option maxRecDepth 1000000 in
theorem zx_by44 : zx_tbk prog_11_method_6_code zx_t44 = true := by decide +kernel
set_option maxRecDepth 1000000 in
theorem zx_by45 : zx_tbk prog_11_method_8_code zx_t45 = true := by decide +kernel
set_option maxRecDepth 1000000 in
theorem zx_by46_0 : zx_tbk prog_5_method_3_code (zx_t46.take 40) = true := by decide +kernel
set_option maxRecDepth 1000000 in
theorem zx_by46_1 : zx_tbk prog_5_method_3_code ((zx_t46.drop 40).take 40) = true := by decide +kernel
set_option maxRecDepth 1000000 in
theorem zx_by46_2 : zx_tbk prog_5_method_3_code ((zx_t46.drop 40).drop 40) = true := by decide +kernel
theorem zx_by46 : zx_tbk prog_5_method_3_code zx_t46 = true := zx_tbk_cut 40 zx_by46_0 (zx_tbk_cut 40 zx_by46_1 (zx_by46_2))
set_option maxRecDepth 1000000 in
theorem zx_by47 : zx_tbk prog_1_method_20_code zx_t47 = true := by decide +kernel
set_option maxRecDepth 1000000 in
theorem zx_by48 : zx_tbk prog_1_method_21_code zx_t48 = true := by decide +kernel
set_option maxRecDepth 1000000 in
theorem zx_by49 : zx_tbk prog_1_method_22_code zx_t49 = true := by decide +kernel
set_option maxRecDepth 1000000 in
theorem zx_by50 : zx_tbk prog_1_method_23_code zx_t50 = true := by decide +kernel
set_option maxRecDepth 1000000 in
theorem zx_by51 : zx_tbk prog_1_method_24_code zx_t51 = true := by decide +kernel
set_option maxRecDepth 1000000 in
theorem zx_by52 : zx_tbk prog_11_method_10_code zx_t52 = true := by decide +kernel
set_option maxRecDepth 1000000 in
theorem zx_by53 : zx_tbk prog_1_method_25_code zx_t53 = true := by decide +kernel
set_option maxRecDepth 1000000 in
theorem zx_by54 : zx_tbk prog_1_method_26_code zx_t54 = true := by decide +kernel
set_option maxRecDepth 1000000 in
theorem zx_by55 : zx_tbk prog_1_method_27_code zx_t55 = true := by decide +kernel
set_option maxRecDepth 1000000 in
theorem zx_by56 : zx_tbk prog_1_method_28_code zx_t56 = true := by decide +kernel
set_option maxRecDepth 1000000 in
theorem zx_by57 : zx_tbk prog_6_method_2_code zx_t57 = true := by decide +kernel
set_option maxRecDepth 1000000 in
theorem zx_by58_0 : zx_tbk prog_6_method_3_code (zx_t58.take 40) = true := by decide +kernel
set_option maxRecDepth 1000000 in
theorem zx_by58_1 : zx_tbk prog_6_method_3_code (zx_t58.drop 40) = true := by decide +kernel
theorem zx_by58 : zx_tbk prog_6_method_3_code zx_t58 = true := zx_tbk_cut 40 zx_by58_0 (zx_by58_1)
set_option maxRecDepth 1000000 in
theorem zx_by59 : zx_tbk prog_1_method_29_code zx_t59 = true := by decide +kernel
set_option maxRecDepth 1000000 in
theorem zx_by60 : zx_tbk prog_1_method_30_code zx_t60 = true := by decide +kernel
set_option maxRecDepth 1000000 in
theorem zx_by61 : zx_tbk prog_1_method_31_code zx_t61 = true := by decide +kernel
set_option maxRecDepth 1000000 in
theorem zx_by62_0 : zx_tbk prog_14_method_1_code (zx_t62.take 40) = true := by decide +kernel
set_option maxRecDepth 1000000 in
theorem zx_by62_1 : zx_tbk prog_14_method_1_code ((zx_t62.drop 40).take 40) = true := by decide +kernel
set_option maxRecDepth 1000000 in
theorem zx_by62_2 : zx_tbk prog_14_method_1_code (((zx_t62.drop 40).drop 40).take 40) = true := by decide +kernel
set_option maxRecDepth 1000000 in
theorem zx_by62_3 : zx_tbk prog_14_method_1_code ((((zx_t62.drop 40).drop 40).drop 40).take 40) = true := by decide +kernel
set_option maxRecDepth 1000000 in
theorem zx_by62_4 : zx_tbk prog_14_method_1_code (((((zx_t62.drop 40).drop 40).drop 40).drop 40).take 40) = true := by decide +kernel
set_option maxRecDepth 1000000 in
theorem zx_by62_5 : zx_tbk prog_14_method_1_code ((((((zx_t62.drop 40).drop 40).drop 40).drop 40).drop 40).take 40) = true := by decide +kernel
