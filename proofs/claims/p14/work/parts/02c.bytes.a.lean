/-! zx: the code of the methods -/
set_option maxRecDepth 1000000 in
theorem zx_by0_0 : zx_tbk prog_1_method_1_code (zx_tb0.take 40) = true := by decide +kernel
set_option maxRecDepth 1000000 in
theorem zx_by0_1 : zx_tbk prog_1_method_1_code ((zx_tb0.drop 40).take 40) = true := by decide +kernel
set_option maxRecDepth 1000000 in
theorem zx_by0_2 : zx_tbk prog_1_method_1_code ((zx_tb0.drop 40).drop 40) = true := by decide +kernel
theorem zx_by0 : zx_tbk prog_1_method_1_code zx_tb0 = true := zx_tbk_cut 40 zx_by0_0 (zx_tbk_cut 40 zx_by0_1 (zx_by0_2))
set_option maxRecDepth 1000000 in
theorem zx_by1_0 : zx_tbk prog_4_method_1_code (zx_tb1.take 40) = true := by decide +kernel
set_option maxRecDepth 1000000 in
theorem zx_by1_1 : zx_tbk prog_4_method_1_code (zx_tb1.drop 40) = true := by decide +kernel
theorem zx_by1 : zx_tbk prog_4_method_1_code zx_tb1 = true := zx_tbk_cut 40 zx_by1_0 (zx_by1_1)
set_option maxRecDepth 1000000 in
theorem zx_by2 : zx_tbk prog_3_method_1_code zx_tb2 = true := by decide +kernel
set_option maxRecDepth 1000000 in
theorem zx_by3 : zx_tbk prog_3_method_2_code zx_tb3 = true := by decide +kernel
set_option maxRecDepth 1000000 in
theorem zx_by4 : zx_tbk prog_8_method_1_code zx_tb4 = true := by decide +kernel
set_option maxRecDepth 1000000 in
theorem zx_by5 : zx_tbk prog_2_method_1_code zx_tb5 = true := by decide +kernel
set_option maxRecDepth 1000000 in
theorem zx_by6_0 : zx_tbk prog_7_method_1_code (zx_tb6.take 40) = true := by decide +kernel
set_option maxRecDepth 1000000 in
theorem zx_by6_1 : zx_tbk prog_7_method_1_code (zx_tb6.drop 40) = true := by decide +kernel
theorem zx_by6 : zx_tbk prog_7_method_1_code zx_tb6 = true := zx_tbk_cut 40 zx_by6_0 (zx_by6_1)
set_option maxRecDepth 1000000 in
theorem zx_by7 : zx_tbk prog_11_method_1_code zx_tb7 = true := by decide +kernel
set_option maxRecDepth 1000000 in
theorem zx_by8 : zx_tbk prog_9_method_1_code zx_tb8 = true := by decide +kernel
set_option maxRecDepth 1000000 in
theorem zx_by9 : zx_tbk prog_12_method_1_code zx_tb9 = true := by decide +kernel
set_option maxRecDepth 1000000 in
theorem zx_by10 : zx_tbk prog_5_method_1_code zx_tb10 = true := by decide +kernel
set_option maxRecDepth 1000000 in
theorem zx_by11 : zx_tbk prog_6_method_1_code zx_tb11 = true := by decide +kernel
set_option maxRecDepth 1000000 in
theorem zx_by12 : zx_tbk prog_1_method_2_code zx_tb12 = true := by decide +kernel
set_option maxRecDepth 1000000 in
theorem zx_by13 : zx_tbk prog_1_method_3_code zx_tb13 = true := by decide +kernel
set_option maxRecDepth 1000000 in
theorem zx_by14 : zx_tbk prog_1_method_4_code zx_tb14 = true := by decide +kernel
set_option maxRecDepth 1000000 in
theorem zx_by15 : zx_tbk prog_1_method_6_code zx_tb15 = true := by decide +kernel
set_option maxRecDepth 1000000 in
theorem zx_by16_0 : zx_tbk prog_1_method_7_code (zx_tb16.take 40) = true := by decide +kernel
set_option maxRecDepth 1000000 in
theorem zx_by16_1 : zx_tbk prog_1_method_7_code (zx_tb16.drop 40) = true := by decide +kernel
theorem zx_by16 : zx_tbk prog_1_method_7_code zx_tb16 = true := zx_tbk_cut 40 zx_by16_0 (zx_by16_1)
set_option maxRecDepth 1000000 in
theorem zx_by17 : zx_tbk prog_1_method_5_code zx_tb17 = true := by decide +kernel
set_option maxRecDepth 1000000 in
theorem zx_by18 : zx_tbk prog_1_method_33_code zx_tb18 = true := by decide +kernel
set_option maxRecDepth 1000000 in
theorem zx_by19_0 : zx_tbk prog_8_method_2_code (zx_tb19.take 40) = true := by decide +kernel
set_option maxRecDepth 1000000 in
theorem zx_by19_1 : zx_tbk prog_8_method_2_code (zx_tb19.drop 40) = true := by decide +kernel
theorem zx_by19 : zx_tbk prog_8_method_2_code zx_tb19 = true := zx_tbk_cut 40 zx_by19_0 (zx_by19_1)
set_option maxRecDepth 1000000 in
theorem zx_by20_0 : zx_tbk prog_8_method_3_code (zx_tb20.take 40) = true := by decide +kernel
set_option maxRecDepth 1000000 in
theorem zx_by20_1 : zx_tbk prog_8_method_3_code (zx_tb20.drop 40) = true := by decide +kernel
theorem zx_by20 : zx_tbk prog_8_method_3_code zx_tb20 = true := zx_tbk_cut 40 zx_by20_0 (zx_by20_1)
set_option maxRecDepth 1000000 in
theorem zx_by21 : zx_tbk prog_1_method_8_code zx_tb21 = true := by decide +kernel
set_option maxRecDepth 1000000 in
theorem zx_by22 : zx_tbk prog_1_method_9_code zx_tb22 = true := by decide +kernel
set_option maxRecDepth 1000000 in
theorem zx_by23 : zx_tbk prog_1_method_10_code zx_tb23 = true := by decide +kernel
set_option maxRecDepth 1000000 in
theorem zx_by24 : zx_tbk prog_1_method_11_code zx_tb24 = true := by decide +kernel
set_option maxRecDepth 1000000 in
theorem zx_by25 : zx_tbk prog_4_method_4_code zx_tb25 = true := by decide +kernel
set_option maxRecDepth 1000000 in
theorem zx_by26_0 : zx_tbk prog_9_method_2_code (zx_tb26.take 40) = true := by decide +kernel
set_option maxRecDepth 1000000 in
theorem zx_by26_1 : zx_tbk prog_9_method_2_code (zx_tb26.drop 40) = true := by decide +kernel
theorem zx_by26 : zx_tbk prog_9_method_2_code zx_tb26 = true := zx_tbk_cut 40 zx_by26_0 (zx_by26_1)
set_option maxRecDepth 1000000 in
theorem zx_by27_0 : zx_tbk prog_9_method_13_code (zx_tb27.take 40) = true := by decide +kernel
set_option maxRecDepth 1000000 in
theorem zx_by27_1 : zx_tbk prog_9_method_13_code ((zx_tb27.drop 40).take 40) = true := by decide +kernel
set_option maxRecDepth 1000000 in
theorem zx_by27_2 : zx_tbk prog_9_method_13_code ((zx_tb27.drop 40).drop 40) = true := by decide +kernel
theorem zx_by27 : zx_tbk prog_9_method_13_code zx_tb27 = true := zx_tbk_cut 40 zx_by27_0 (zx_tbk_cut 40 zx_by27_1 (zx_by27_2))
set_option maxRecDepth 1000000 in
theorem zx_by28 : zx_tbk prog_9_method_15_code zx_tb28 = true := by decide +kernel
set_option maxRecDepth 1000000 in
theorem zx_by29 : zx_tbk prog_9_method_16_code zx_tb29 = true := by decide +kernel
set_option maxRecDepth 1000000 in
theorem zx_by30 : zx_tbk prog_9_method_14_code zx_tb30 = true := by decide +kernel
set_option maxRecDepth 1000000 in
theorem zx_by31 : zx_tbk prog_9_method_4_code zx_tb31 = true := by decide +kernel
set_option maxRecDepth 1000000 in
theorem zx_by32 : zx_tbk prog_9_method_3_code zx_tb32 = true := by decide +kernel
set_option maxRecDepth 1000000 in
theorem zx_by33 : zx_tbk prog_9_method_11_code zx_tb33 = true := by decide +kernel
set_option maxRecDepth 1000000 in
theorem zx_by34 : zx_tbk prog_9_method_12_code zx_tb34 = true := by decide +kernel
set_option maxRecDepth 1000000 in
theorem zx_by35 : zx_tbk prog_9_method_5_code zx_tb35 = true := by decide +kernel
set_option maxRecDepth 1000000 in
theorem zx_by36 : zx_tbk prog_3_method_3_code zx_tb36 = true := by decide +kernel
set_option maxRecDepth 1000000 in
theorem zx_by37 : zx_tbk prog_1_method_34_code zx_tb37 = true := by decide +kernel
set_option maxRecDepth 1000000 in
theorem zx_by38 : zx_tbk prog_9_method_6_code zx_tb38 = true := by decide +kernel
set_option maxRecDepth 1000000 in
theorem zx_by39 : zx_tbk prog_9_method_7_code zx_tb39 = true := by decide +kernel
set_option maxRecDepth 1000000 in
theorem zx_by40 : zx_tbk prog_9_method_8_code zx_tb40 = true := by decide +kernel
set_option maxRecDepth 1000000 in
theorem zx_by41_0 : zx_tbk prog_9_method_9_code (zx_tb41.take 40) = true := by decide +kernel
set_option maxRecDepth 1000000 in
theorem zx_by41_1 : zx_tbk prog_9_method_9_code ((zx_tb41.drop 40).take 40) = true := by decide +kernel
set_option maxRecDepth 1000000 in
theorem zx_by41_2 : zx_tbk prog_9_method_9_code ((zx_tb41.drop 40).drop 40) = true := by decide +kernel
theorem zx_by41 : zx_tbk prog_9_method_9_code zx_tb41 = true := zx_tbk_cut 40 zx_by41_0 (zx_tbk_cut 40 zx_by41_1 (zx_by41_2))
set_option maxRecDepth 1000000 in
theorem zx_by42 : zx_tbk prog_10_method_5_code zx_tb42 = true := by decide +kernel
set_option maxRecDepth 1000000 in
theorem zx_by43 : zx_tbk prog_3_method_4_code zx_tb43 = true := by decide +kernel
set_option maxRecDepth 1000000 in
theorem zx_by44 : zx_tbk prog_9_method_10_code zx_tb44 = true := by decide +kernel
set_option maxRecDepth 1000000 in
theorem zx_by45 : zx_tbk prog_3_method_5_code zx_tb45 = true := by decide +kernel
set_option maxRecDepth 1000000 in
theorem zx_by46 : zx_tbk prog_1_method_12_code zx_tb46 = true := by decide +kernel
set_option maxRecDepth 1000000 in
theorem zx_by47 : zx_tbk prog_1_method_13_code zx_tb47 = true := by decide +kernel
set_option maxRecDepth 1000000 in
theorem zx_by48 : zx_tbk prog_4_method_3_code zx_tb48 = true := by decide +kernel
set_option maxRecDepth 1000000 in
theorem zx_by49 : zx_tbk prog_4_method_2_code zx_tb49 = true := by decide +kernel
set_option maxRecDepth 1000000 in
theorem zx_by50 : zx_tbk prog_7_method_4_code zx_tb50 = true := by decide +kernel
set_option maxRecDepth 1000000 in
theorem zx_by51_0 : zx_tbk prog_1_method_14_code (zx_tb51.take 40) = true := by decide +kernel
set_option maxRecDepth 1000000 in
theorem zx_by51_1 : zx_tbk prog_1_method_14_code (zx_tb51.drop 40) = true := by decide +kernel
theorem zx_by51 : zx_tbk prog_1_method_14_code zx_tb51 = true := zx_tbk_cut 40 zx_by51_0 (zx_by51_1)
set_option maxRecDepth 1000000 in
theorem zx_by52 : zx_tbk prog_4_method_5_code zx_tb52 = true := by decide +kernel
set_option maxRecDepth 1000000 in
theorem zx_by53_0 : zx_tbk prog_2_method_3_code (zx_tb53.take 40) = true := by decide +kernel
set_option maxRecDepth 1000000 in
theorem zx_by53_1 : zx_tbk prog_2_method_3_code ((zx_tb53.drop 40).take 40) = true := by decide +kernel
set_option maxRecDepth 1000000 in
theorem zx_by53_2 : zx_tbk prog_2_method_3_code ((zx_tb53.drop 40).drop 40) = true := by decide +kernel
theorem zx_by53 : zx_tbk prog_2_method_3_code zx_tb53 = true := zx_tbk_cut 40 zx_by53_0 (zx_tbk_cut 40 zx_by53_1 (zx_by53_2))
set_option maxRecDepth 1000000 in
theorem zx_by54 : zx_tbk prog_1_method_15_code zx_tb54 = true := by decide +kernel
set_option maxRecDepth 1000000 in
theorem zx_by55 : zx_tbk prog_1_method_32_code zx_tb55 = true := by decide +kernel
set_option maxRecDepth 1000000 in
theorem zx_by56 : zx_tbk prog_2_method_2_code zx_tb56 = true := by decide +kernel
set_option maxRecDepth 1000000 in
theorem zx_by57 : zx_tbk prog_7_method_2_code zx_tb57 = true := by decide +kernel
set_option maxRecDepth 1000000 in
theorem zx_by58 : zx_tbk prog_1_method_16_code zx_tb58 = true := by decide +kernel
set_option maxRecDepth 1000000 in
theorem zx_by59 : zx_tbk prog_7_method_3_code zx_tb59 = true := by decide +kernel
set_option maxRecDepth 1000000 in
theorem zx_by60 : zx_tbk prog_1_method_17_code zx_tb60 = true := by decide +kernel
set_option maxRecDepth 1000000 in
theorem zx_by61_0 : zx_tbk prog_7_method_5_code (zx_tb61.take 40) = true := by decide +kernel
set_option maxRecDepth 1000000 in
theorem zx_by61_1 : zx_tbk prog_7_method_5_code ((zx_tb61.drop 40).take 40) = true := by decide +kernel
set_option maxRecDepth 1000000 in
theorem zx_by61_2 : zx_tbk prog_7_method_5_code (((zx_tb61.drop 40).drop 40).take 40) = true := by decide +kernel
set_option maxRecDepth 1000000 in
theorem zx_by61_3 : zx_tbk prog_7_method_5_code (((zx_tb61.drop 40).drop 40).drop 40) = true := by decide +kernel
theorem zx_by61 : zx_tbk prog_7_method_5_code zx_tb61 = true := zx_tbk_cut 40 zx_by61_0 (zx_tbk_cut 40 zx_by61_1 (zx_tbk_cut 40 zx_by61_2 (zx_by61_3)))
set_option maxRecDepth 1000000 in
theorem zx_by62 : zx_tbk prog_29_method_103_code zx_tb62 = true := by decide +kernel
set_option maxRecDepth 1000000 in
theorem zx_by63 : zx_tbk prog_7_method_6_code zx_tb63 = true := by decide +kernel
set_option maxRecDepth 1000000 in
theorem zx_by64 : zx_tbk prog_1_method_18_code zx_tb64 = true := by decide +kernel
set_option maxRecDepth 1000000 in
theorem zx_by65 : zx_tbk prog_5_method_2_code zx_tb65 = true := by decide +kernel
set_option maxRecDepth 1000000 in
theorem zx_by66_0 : zx_tbk prog_5_method_4_code (zx_tb66.take 40) = true := by decide +kernel
set_option maxRecDepth 1000000 in
theorem zx_by66_1 : zx_tbk prog_5_method_4_code ((zx_tb66.drop 40).take 40) = true := by decide +kernel
set_option maxRecDepth 1000000 in
theorem zx_by66_2 : zx_tbk prog_5_method_4_code ((zx_tb66.drop 40).drop 40) = true := by decide +kernel
theorem zx_by66 : zx_tbk prog_5_method_4_code zx_tb66 = true := zx_tbk_cut 40 zx_by66_0 (zx_tbk_cut 40 zx_by66_1 (zx_by66_2))
set_option maxRecDepth 1000000 in
theorem zx_by67 : zx_tbk prog_2_method_7_code zx_tb67 = true := by decide +kernel
set_option maxRecDepth 1000000 in
theorem zx_by68 : zx_tbk prog_2_method_6_code zx_tb68 = true := by decide +kernel
set_option maxRecDepth 1000000 in
theorem zx_by69 : zx_tbk prog_5_method_6_code zx_tb69 = true := by decide +kernel
set_option maxRecDepth 1000000 in
theorem zx_by70 : zx_tbk prog_5_method_7_code zx_tb70 = true := by decide +kernel
set_option maxRecDepth 1000000 in
theorem zx_by71_0 : zx_tbk prog_5_method_8_code (zx_tb71.take 40) = true := by decide +kernel
set_option maxRecDepth 1000000 in
theorem zx_by71_1 : zx_tbk prog_5_method_8_code (zx_tb71.drop 40) = true := by decide +kernel
theorem zx_by71 : zx_tbk prog_5_method_8_code zx_tb71 = true := zx_tbk_cut 40 zx_by71_0 (zx_by71_1)
set_option maxRecDepth 1000000 in
theorem zx_by72 : zx_tbk prog_4_method_8_code zx_tb72 = true := by decide +kernel
set_option maxRecDepth 1000000 in
theorem zx_by73_0 : zx_tbk prog_5_method_9_code (zx_tb73.take 40) = true := by decide +kernel
set_option maxRecDepth 1000000 in
theorem zx_by73_1 : zx_tbk prog_5_method_9_code ((zx_tb73.drop 40).take 40) = true := by decide +kernel
set_option maxRecDepth 1000000 in
theorem zx_by73_2 : zx_tbk prog_5_method_9_code ((zx_tb73.drop 40).drop 40) = true := by decide +kernel
theorem zx_by73 : zx_tbk prog_5_method_9_code zx_tb73 = true := zx_tbk_cut 40 zx_by73_0 (zx_tbk_cut 40 zx_by73_1 (zx_by73_2))
set_option maxRecDepth 1000000 in
theorem zx_by74 : zx_tbk prog_5_method_10_code zx_tb74 = true := by decide +kernel
set_option maxRecDepth 1000000 in
theorem zx_by75 : zx_tbk prog_2_method_5_code zx_tb75 = true := by decide +kernel
set_option maxRecDepth 1000000 in
theorem zx_by76 : zx_tbk prog_2_method_8_code zx_tb76 = true := by decide +kernel
set_option maxRecDepth 1000000 in
theorem zx_by77 : zx_tbk prog_5_method_11_code zx_tb77 = true := by decide +kernel
set_option maxRecDepth 1000000 in
theorem zx_by78_0 : zx_tbk prog_5_method_5_code (zx_tb78.take 40) = true := by decide +kernel
set_option maxRecDepth 1000000 in
theorem zx_by78_1 : zx_tbk prog_5_method_5_code ((zx_tb78.drop 40).take 40) = true := by decide +kernel
set_option maxRecDepth 1000000 in
theorem zx_by78_2 : zx_tbk prog_5_method_5_code ((zx_tb78.drop 40).drop 40) = true := by decide +kernel
theorem zx_by78 : zx_tbk prog_5_method_5_code zx_tb78 = true := zx_tbk_cut 40 zx_by78_0 (zx_tbk_cut 40 zx_by78_1 (zx_by78_2))
set_option maxRecDepth 1000000 in
theorem zx_by79 : zx_tbk prog_11_method_2_code zx_tb79 = true := by decide +kernel
set_option maxRecDepth 1000000 in
theorem zx_by80 : zx_tbk prog_11_method_3_code zx_tb80 = true := by decide +kernel
set_option maxRecDepth 1000000 in
theorem zx_by81 : zx_tbk prog_11_method_4_code zx_tb81 = true := by decide +kernel
set_option maxRecDepth 1000000 in
theorem zx_by82 : zx_tbk prog_11_method_5_code zx_tb82 = true := by decide +kernel
set_option maxRecDepth 1000000 in
theorem zx_by83 : zx_tbk prog_11_method_7_code zx_tb83 = true := by decide +kernel
set_option maxRecDepth 1000000 in
theorem zx_by84 : zx_tbk prog_11_method_6_code zx_tb84 = true := by decide +kernel
set_option maxRecDepth 1000000 in
theorem zx_by85 : zx_tbk prog_11_method_8_code zx_tb85 = true := by decide +kernel
set_option maxRecDepth 1000000 in
theorem zx_by86 : zx_tbk prog_11_method_9_code zx_tb86 = true := by decide +kernel
set_option maxRecDepth 1000000 in
theorem zx_by87_0 : zx_tbk prog_12_method_7_code (zx_tb87.take 40) = true := by decide +kernel
set_option maxRecDepth 1000000 in
theorem zx_by87_1 : zx_tbk prog_12_method_7_code ((zx_tb87.drop 40).take 40) = true := by decide +kernel
set_option maxRecDepth 1000000 in
theorem zx_by87_2 : zx_tbk prog_12_method_7_code ((zx_tb87.drop 40).drop 40) = true := by decide +kernel
theorem zx_by87 : zx_tbk prog_12_method_7_code zx_tb87 = true := zx_tbk_cut 40 zx_by87_0 (zx_tbk_cut 40 zx_by87_1 (zx_by87_2))
set_option maxRecDepth 1000000 in
theorem zx_by88_0 : zx_tbk prog_12_method_8_code (zx_tb88.take 40) = true := by decide +kernel
set_option maxRecDepth 1000000 in
theorem zx_by88_1 : zx_tbk prog_12_method_8_code ((zx_tb88.drop 40).take 40) = true := by decide +kernel
set_option maxRecDepth 1000000 in
theorem zx_by88_2 : zx_tbk prog_12_method_8_code ((zx_tb88.drop 40).drop 40) = true := by decide +kernel
theorem zx_by88 : zx_tbk prog_12_method_8_code zx_tb88 = true := zx_tbk_cut 40 zx_by88_0 (zx_tbk_cut 40 zx_by88_1 (zx_by88_2))
set_option maxRecDepth 1000000 in
theorem zx_by89 : zx_tbk prog_7_method_7_code zx_tb89 = true := by decide +kernel
set_option maxRecDepth 1000000 in
theorem zx_by90 : zx_tbk prog_12_method_4_code zx_tb90 = true := by decide +kernel
set_option maxRecDepth 1000000 in
theorem zx_by91_0 : zx_tbk prog_12_method_9_code (zx_tb91.take 40) = true := by decide +kernel
set_option maxRecDepth 1000000 in
theorem zx_by91_1 : zx_tbk prog_12_method_9_code ((zx_tb91.drop 40).take 40) = true := by decide +kernel
set_option maxRecDepth 1000000 in
theorem zx_by91_2 : zx_tbk prog_12_method_9_code (((zx_tb91.drop 40).drop 40).take 40) = true := by decide +kernel
set_option maxRecDepth 1000000 in
theorem zx_by91_3 : zx_tbk prog_12_method_9_code ((((zx_tb91.drop 40).drop 40).drop 40).take 40) = true := by decide +kernel
set_option maxRecDepth 1000000 in
theorem zx_by91_4 : zx_tbk prog_12_method_9_code ((((zx_tb91.drop 40).drop 40).drop 40).drop 40) = true := by decide +kernel
theorem zx_by91 : zx_tbk prog_12_method_9_code zx_tb91 = true := zx_tbk_cut 40 zx_by91_0 (zx_tbk_cut 40 zx_by91_1 (zx_tbk_cut 40 zx_by91_2 (zx_tbk_cut 40 zx_by91_3 (zx_by91_4))))
set_option maxRecDepth 1000000 in
theorem zx_by92 : zx_tbk prog_7_method_8_code zx_tb92 = true := by decide +kernel
set_option maxRecDepth 1000000 in
theorem zx_by93 : zx_tbk prog_12_method_10_code zx_tb93 = true := by decide +kernel
set_option maxRecDepth 1000000 in
theorem zx_by94 : zx_tbk prog_4_method_7_code zx_tb94 = true := by decide +kernel
set_option maxRecDepth 1000000 in
theorem zx_by95 : zx_tbk prog_4_method_6_code zx_tb95 = true := by decide +kernel
set_option maxRecDepth 1000000 in
theorem zx_by96_0 : zx_tbk prog_12_method_2_code (zx_tb96.take 40) = true := by decide +kernel
set_option maxRecDepth 1000000 in
theorem zx_by96_1 : zx_tbk prog_12_method_2_code (zx_tb96.drop 40) = true := by decide +kernel
theorem zx_by96 : zx_tbk prog_12_method_2_code zx_tb96 = true := zx_tbk_cut 40 zx_by96_0 (zx_by96_1)
set_option maxRecDepth 1000000 in
theorem zx_by97_0 : zx_tbk prog_5_method_3_code (zx_tb97.take 40) = true := by decide +kernel
set_option maxRecDepth 1000000 in
theorem zx_by97_1 : zx_tbk prog_5_method_3_code ((zx_tb97.drop 40).take 40) = true := by decide +kernel
set_option maxRecDepth 1000000 in
theorem zx_by97_2 : zx_tbk prog_5_method_3_code ((zx_tb97.drop 40).drop 40) = true := by decide +kernel
theorem zx_by97 : zx_tbk prog_5_method_3_code zx_tb97 = true := zx_tbk_cut 40 zx_by97_0 (zx_tbk_cut 40 zx_by97_1 (zx_by97_2))
set_option maxRecDepth 1000000 in
theorem zx_by98 : zx_tbk prog_1_method_20_code zx_tb98 = true := by decide +kernel
set_option maxRecDepth 1000000 in
theorem zx_by99 : zx_tbk prog_1_method_21_code zx_tb99 = true := by decide +kernel
set_option maxRecDepth 1000000 in
theorem zx_by100_0 : zx_tbk prog_12_method_3_code (zx_tb100.take 40) = true := by decide +kernel
set_option maxRecDepth 1000000 in
theorem zx_by100_1 : zx_tbk prog_12_method_3_code (zx_tb100.drop 40) = true := by decide +kernel
theorem zx_by100 : zx_tbk prog_12_method_3_code zx_tb100 = true := zx_tbk_cut 40 zx_by100_0 (zx_by100_1)
set_option maxRecDepth 1000000 in
theorem zx_by101 : zx_tbk prog_1_method_22_code zx_tb101 = true := by decide +kernel
set_option maxRecDepth 1000000 in
theorem zx_by102_0 : zx_tbk prog_12_method_5_code (zx_tb102.take 40) = true := by decide +kernel
set_option maxRecDepth 1000000 in
theorem zx_by102_1 : zx_tbk prog_12_method_5_code ((zx_tb102.drop 40).take 40) = true := by decide +kernel
set_option maxRecDepth 1000000 in
theorem zx_by102_2 : zx_tbk prog_12_method_5_code ((zx_tb102.drop 40).drop 40) = true := by decide +kernel
theorem zx_by102 : zx_tbk prog_12_method_5_code zx_tb102 = true := zx_tbk_cut 40 zx_by102_0 (zx_tbk_cut 40 zx_by102_1 (zx_by102_2))
set_option maxRecDepth 1000000 in
theorem zx_by103 : zx_tbk prog_7_method_9_code zx_tb103 = true := by decide +kernel
set_option maxRecDepth 1000000 in
theorem zx_by104 : zx_tbk prog_7_method_10_code zx_tb104 = true := by decide +kernel
set_option maxRecDepth 1000000 in
theorem zx_by105_0 : zx_tbk prog_12_method_6_code (zx_tb105.take 40) = true := by decide +kernel
set_option maxRecDepth 1000000 in
theorem zx_by105_1 : zx_tbk prog_12_method_6_code ((zx_tb105.drop 40).take 40) = true := by decide +kernel
set_option maxRecDepth 1000000 in
theorem zx_by105_2 : zx_tbk prog_12_method_6_code ((zx_tb105.drop 40).drop 40) = true := by decide +kernel
theorem zx_by105 : zx_tbk prog_12_method_6_code zx_tb105 = true := zx_tbk_cut 40 zx_by105_0 (zx_tbk_cut 40 zx_by105_1 (zx_by105_2))
set_option maxRecDepth 1000000 in
theorem zx_by106 : zx_tbk prog_3_method_6_code zx_tb106 = true := by decide +kernel
set_option maxRecDepth 1000000 in
theorem zx_by107 : zx_tbk prog_3_method_7_code zx_tb107 = true := by decide +kernel
set_option maxRecDepth 1000000 in
theorem zx_by108_0 : zx_tbk prog_3_method_8_code (zx_tb108.take 40) = true := by decide +kernel
set_option maxRecDepth 1000000 in
theorem zx_by108_1 : zx_tbk prog_3_method_8_code (zx_tb108.drop 40) = true := by decide +kernel
theorem zx_by108 : zx_tbk prog_3_method_8_code zx_tb108 = true := zx_tbk_cut 40 zx_by108_0 (zx_by108_1)
set_option maxRecDepth 1000000 in
theorem zx_by109 : zx_tbk prog_3_method_9_code zx_tb109 = true := by decide +kernel
set_option maxRecDepth 1000000 in
theorem zx_by110 : zx_tbk prog_1_method_23_code zx_tb110 = true := by decide +kernel
set_option maxRecDepth 1000000 in
theorem zx_by111 : zx_tbk prog_1_method_24_code zx_tb111 = true := by decide +kernel
set_option maxRecDepth 1000000 in
theorem zx_by112 : zx_tbk prog_11_method_10_code zx_tb112 = true := by decide +kernel
set_option maxRecDepth 1000000 in
theorem zx_by113 : zx_tbk prog_1_method_25_code zx_tb113 = true := by decide +kernel
set_option maxRecDepth 1000000 in
theorem zx_by114_0 : zx_tbk prog_12_method_11_code (zx_tb114.take 40) = true := by decide +kernel
set_option maxRecDepth 1000000 in
theorem zx_by114_1 : zx_tbk prog_12_method_11_code ((zx_tb114.drop 40).take 40) = true := by decide +kernel
set_option maxRecDepth 1000000 in
theorem zx_by114_2 : zx_tbk prog_12_method_11_code ((zx_tb114.drop 40).drop 40) = true := by decide +kernel
theorem zx_by114 : zx_tbk prog_12_method_11_code zx_tb114 = true := zx_tbk_cut 40 zx_by114_0 (zx_tbk_cut 40 zx_by114_1 (zx_by114_2))
set_option maxRecDepth 1000000 in
theorem zx_by115 : zx_tbk prog_1_method_26_code zx_tb115 = true := by decide +kernel
set_option maxRecDepth 1000000 in
theorem zx_by116_0 : zx_tbk prog_12_method_12_code (zx_tb116.take 40) = true := by decide +kernel
set_option maxRecDepth 1000000 in
theorem zx_by116_1 : zx_tbk prog_12_method_12_code ((zx_tb116.drop 40).take 40) = true := by decide +kernel
set_option maxRecDepth 1000000 in
theorem zx_by116_2 : zx_tbk prog_12_method_12_code ((zx_tb116.drop 40).drop 40) = true := by decide +kernel
theorem zx_by116 : zx_tbk prog_12_method_12_code zx_tb116 = true := zx_tbk_cut 40 zx_by116_0 (zx_tbk_cut 40 zx_by116_1 (zx_by116_2))
set_option maxRecDepth 1000000 in
theorem zx_by117 : zx_tbk prog_1_method_27_code zx_tb117 = true := by decide +kernel
set_option maxRecDepth 1000000 in
theorem zx_by118 : zx_tbk prog_1_method_28_code zx_tb118 = true := by decide +kernel
set_option maxRecDepth 1000000 in
theorem zx_by119 : zx_tbk prog_6_method_2_code zx_tb119 = true := by decide +kernel
set_option maxRecDepth 1000000 in
theorem zx_by120_0 : zx_tbk prog_6_method_3_code (zx_tb120.take 40) = true := by decide +kernel
set_option maxRecDepth 1000000 in
theorem zx_by120_1 : zx_tbk prog_6_method_3_code (zx_tb120.drop 40) = true := by decide +kernel
theorem zx_by120 : zx_tbk prog_6_method_3_code zx_tb120 = true := zx_tbk_cut 40 zx_by120_0 (zx_by120_1)
set_option maxRecDepth 1000000 in
theorem zx_by121 : zx_tbk prog_2_method_9_code zx_tb121 = true := by decide +kernel
set_option maxRecDepth 1000000 in
theorem zx_by122_0 : zx_tbk prog_6_method_4_code (zx_tb122.take 40) = true := by decide +kernel
set_option maxRecDepth 1000000 in
theorem zx_by122_1 : zx_tbk prog_6_method_4_code ((zx_tb122.drop 40).take 40) = true := by decide +kernel
set_option maxRecDepth 1000000 in
theorem zx_by122_2 : zx_tbk prog_6_method_4_code ((zx_tb122.drop 40).drop 40) = true := by decide +kernel
theorem zx_by122 : zx_tbk prog_6_method_4_code zx_tb122 = true := zx_tbk_cut 40 zx_by122_0 (zx_tbk_cut 40 zx_by122_1 (zx_by122_2))
set_option maxRecDepth 1000000 in
theorem zx_by123 : zx_tbk prog_6_method_10_code zx_tb123 = true := by decide +kernel
set_option maxRecDepth 1000000 in
theorem zx_by124 : zx_tbk prog_2_method_4_code zx_tb124 = true := by decide +kernel
set_option maxRecDepth 1000000 in
theorem zx_by125 : zx_tbk prog_6_method_7_code zx_tb125 = true := by decide +kernel
set_option maxRecDepth 1000000 in
theorem zx_by126 : zx_tbk prog_6_method_8_code zx_tb126 = true := by decide +kernel
set_option maxRecDepth 1000000 in
theorem zx_by127 : zx_tbk prog_6_method_9_code zx_tb127 = true := by decide +kernel
set_option maxRecDepth 1000000 in
theorem zx_by128_0 : zx_tbk prog_6_method_11_code (zx_tb128.take 40) = true := by decide +kernel
set_option maxRecDepth 1000000 in
theorem zx_by128_1 : zx_tbk prog_6_method_11_code (zx_tb128.drop 40) = true := by decide +kernel
theorem zx_by128 : zx_tbk prog_6_method_11_code zx_tb128 = true := zx_tbk_cut 40 zx_by128_0 (zx_by128_1)
set_option maxRecDepth 1000000 in
theorem zx_by129 : zx_tbk prog_6_method_6_code zx_tb129 = true := by decide +kernel
set_option maxRecDepth 1000000 in
theorem zx_by130 : zx_tbk prog_6_method_5_code zx_tb130 = true := by decide +kernel
set_option maxRecDepth 1000000 in
theorem zx_by131 : zx_tbk prog_1_method_29_code zx_tb131 = true := by decide +kernel
