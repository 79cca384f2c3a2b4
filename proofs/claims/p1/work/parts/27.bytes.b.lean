/-! zx: the code of the methods -/
set_option maxRecDepth 1000000 in
theorem zx_by62_6 : zx_tbk prog_14_method_1_code (((((((zx_t62.drop 40).drop 40).drop 40).drop 40).drop 40).drop 40).take 40) = true := by decide +kernel
set_option maxRecDepth 1000000 in
theorem zx_by62_7 : zx_tbk prog_14_method_1_code (((((((zx_t62.drop 40).drop 40).drop 40).drop 40).drop 40).drop 40).drop 40) = true := by decide +kernel
theorem zx_by62 : zx_tbk prog_14_method_1_code zx_t62 = true := zx_tbk_cut 40 zx_by62_0 (zx_tbk_cut 40 zx_by62_1 (zx_tbk_cut 40 zx_by62_2 (zx_tbk_cut 40 zx_by62_3 (zx_tbk_cut 40 zx_by62_4 (zx_tbk_cut 40 zx_by62_5 (zx_tbk_cut 40 zx_by62_6 (zx_by62_7)))))))
set_option maxRecDepth 1000000 in
theorem zx_by63 : zx_tbk prog_14_method_2_code zx_t63 = true := by decide +kernel
set_option maxRecDepth 1000000 in
theorem zx_by64 : zx_tbk prog_14_method_4_code zx_t64 = true := by decide +kernel
set_option maxRecDepth 1000000 in
theorem zx_by65 : zx_tbk prog_14_method_5_code zx_t65 = true := by decide +kernel
set_option maxRecDepth 1000000 in
theorem zx_by66 : zx_tbk prog_14_method_6_code zx_t66 = true := by decide +kernel
set_option maxRecDepth 1000000 in
theorem zx_by67 : zx_tbk prog_14_method_9_code zx_t67 = true := by decide +kernel
set_option maxRecDepth 1000000 in
theorem zx_by68 : zx_tbk prog_14_method_8_code zx_t68 = true := by decide +kernel
set_option maxRecDepth 1000000 in
theorem zx_by69_0 : zx_tbk prog_14_method_10_code (zx_t69.take 40) = true := by decide +kernel
set_option maxRecDepth 1000000 in
theorem zx_by69_1 : zx_tbk prog_14_method_10_code ((zx_t69.drop 40).take 40) = true := by decide +kernel
set_option maxRecDepth 1000000 in
theorem zx_by69_2 : zx_tbk prog_14_method_10_code (((zx_t69.drop 40).drop 40).take 40) = true := by decide +kernel
set_option maxRecDepth 1000000 in
theorem zx_by69_3 : zx_tbk prog_14_method_10_code ((((zx_t69.drop 40).drop 40).drop 40).take 40) = true := by decide +kernel
set_option maxRecDepth 1000000 in
theorem zx_by69_4 : zx_tbk prog_14_method_10_code (((((zx_t69.drop 40).drop 40).drop 40).drop 40).take 40) = true := by decide +kernel
set_option maxRecDepth 1000000 in
theorem zx_by69_5 : zx_tbk prog_14_method_10_code (((((zx_t69.drop 40).drop 40).drop 40).drop 40).drop 40) = true := by decide +kernel
theorem zx_by69 : zx_tbk prog_14_method_10_code zx_t69 = true := zx_tbk_cut 40 zx_by69_0 (zx_tbk_cut 40 zx_by69_1 (zx_tbk_cut 40 zx_by69_2 (zx_tbk_cut 40 zx_by69_3 (zx_tbk_cut 40 zx_by69_4 (zx_by69_5)))))
set_option maxRecDepth 1000000 in
theorem zx_by70 : zx_tbk prog_14_method_7_code zx_t70 = true := by decide +kernel
set_option maxRecDepth 1000000 in
theorem zx_by71_0 : zx_tbk prog_14_method_13_code (zx_t71.take 40) = true := by decide +kernel
set_option maxRecDepth 1000000 in
theorem zx_by71_1 : zx_tbk prog_14_method_13_code (zx_t71.drop 40) = true := by decide +kernel
theorem zx_by71 : zx_tbk prog_14_method_13_code zx_t71 = true := zx_tbk_cut 40 zx_by71_0 (zx_by71_1)
set_option maxRecDepth 1000000 in
theorem zx_by72 : zx_tbk prog_14_method_18_code zx_t72 = true := by decide +kernel
set_option maxRecDepth 1000000 in
theorem zx_by73 : zx_tbk prog_14_method_14_code zx_t73 = true := by decide +kernel
set_option maxRecDepth 1000000 in
theorem zx_by74 : zx_tbk prog_14_method_15_code zx_t74 = true := by decide +kernel
set_option maxRecDepth 1000000 in
theorem zx_by75_0 : zx_tbk prog_14_method_27_code (zx_t75.take 40) = true := by decide +kernel
set_option maxRecDepth 1000000 in
theorem zx_by75_1 : zx_tbk prog_14_method_27_code ((zx_t75.drop 40).take 40) = true := by decide +kernel
set_option maxRecDepth 1000000 in
theorem zx_by75_2 : zx_tbk prog_14_method_27_code (((zx_t75.drop 40).drop 40).take 40) = true := by decide +kernel
set_option maxRecDepth 1000000 in
theorem zx_by75_3 : zx_tbk prog_14_method_27_code ((((zx_t75.drop 40).drop 40).drop 40).take 40) = true := by decide +kernel
set_option maxRecDepth 1000000 in
theorem zx_by75_4 : zx_tbk prog_14_method_27_code (((((zx_t75.drop 40).drop 40).drop 40).drop 40).take 40) = true := by decide +kernel
set_option maxRecDepth 1000000 in
theorem zx_by75_5 : zx_tbk prog_14_method_27_code (((((zx_t75.drop 40).drop 40).drop 40).drop 40).drop 40) = true := by decide +kernel
theorem zx_by75 : zx_tbk prog_14_method_27_code zx_t75 = true := zx_tbk_cut 40 zx_by75_0 (zx_tbk_cut 40 zx_by75_1 (zx_tbk_cut 40 zx_by75_2 (zx_tbk_cut 40 zx_by75_3 (zx_tbk_cut 40 zx_by75_4 (zx_by75_5)))))
set_option maxRecDepth 1000000 in
theorem zx_by76 : zx_tbk prog_14_method_12_code zx_t76 = true := by decide +kernel
set_option maxRecDepth 1000000 in
theorem zx_by77 : zx_tbk prog_14_method_28_code zx_t77 = true := by decide +kernel
set_option maxRecDepth 1000000 in
theorem zx_by78_0 : zx_tbk prog_14_method_42_code (zx_t78.take 40) = true := by decide +kernel
set_option maxRecDepth 1000000 in
theorem zx_by78_1 : zx_tbk prog_14_method_42_code (zx_t78.drop 40) = true := by decide +kernel
theorem zx_by78 : zx_tbk prog_14_method_42_code zx_t78 = true := zx_tbk_cut 40 zx_by78_0 (zx_by78_1)
set_option maxRecDepth 1000000 in
theorem zx_by79_0 : zx_tbk prog_14_method_45_code (zx_t79.take 40) = true := by decide +kernel
set_option maxRecDepth 1000000 in
theorem zx_by79_1 : zx_tbk prog_14_method_45_code (zx_t79.drop 40) = true := by decide +kernel
theorem zx_by79 : zx_tbk prog_14_method_45_code zx_t79 = true := zx_tbk_cut 40 zx_by79_0 (zx_by79_1)
set_option maxRecDepth 1000000 in
theorem zx_by80 : zx_tbk prog_14_method_48_code zx_t80 = true := by decide +kernel
set_option maxRecDepth 1000000 in
theorem zx_by81 : zx_tbk prog_14_method_46_code zx_t81 = true := by decide +kernel
set_option maxRecDepth 1000000 in
theorem zx_by82 : zx_tbk prog_14_method_49_code zx_t82 = true := by decide +kernel
set_option maxRecDepth 1000000 in
theorem zx_by83 : zx_tbk prog_14_method_62_code zx_t83 = true := by decide +kernel
set_option maxRecDepth 1000000 in
theorem zx_by84_0 : zx_tbk prog_14_method_50_code (zx_t84.take 40) = true := by decide +kernel
set_option maxRecDepth 1000000 in
theorem zx_by84_1 : zx_tbk prog_14_method_50_code ((zx_t84.drop 40).take 40) = true := by decide +kernel
set_option maxRecDepth 1000000 in
theorem zx_by84_2 : zx_tbk prog_14_method_50_code ((zx_t84.drop 40).drop 40) = true := by decide +kernel
theorem zx_by84 : zx_tbk prog_14_method_50_code zx_t84 = true := zx_tbk_cut 40 zx_by84_0 (zx_tbk_cut 40 zx_by84_1 (zx_by84_2))
set_option maxRecDepth 1000000 in
theorem zx_by85_0 : zx_tbk prog_14_method_51_code (zx_t85.take 40) = true := by decide +kernel
set_option maxRecDepth 1000000 in
theorem zx_by85_1 : zx_tbk prog_14_method_51_code (zx_t85.drop 40) = true := by decide +kernel
theorem zx_by85 : zx_tbk prog_14_method_51_code zx_t85 = true := zx_tbk_cut 40 zx_by85_0 (zx_by85_1)
set_option maxRecDepth 1000000 in
theorem zx_by86 : zx_tbk prog_14_method_63_code zx_t86 = true := by decide +kernel
set_option maxRecDepth 1000000 in
theorem zx_by87 : zx_tbk prog_14_method_64_code zx_t87 = true := by decide +kernel
set_option maxRecDepth 1000000 in
theorem zx_by88 : zx_tbk prog_14_method_69_code zx_t88 = true := by decide +kernel
set_option maxRecDepth 1000000 in
theorem zx_by89 : zx_tbk prog_14_method_70_code zx_t89 = true := by decide +kernel
set_option maxRecDepth 1000000 in
theorem zx_by90 : zx_tbk prog_14_method_77_code zx_t90 = true := by decide +kernel
set_option maxRecDepth 1000000 in
theorem zx_by91 : zx_tbk prog_14_method_74_code zx_t91 = true := by decide +kernel
set_option maxRecDepth 1000000 in
theorem zx_by92 : zx_tbk prog_14_method_76_code zx_t92 = true := by decide +kernel
set_option maxRecDepth 1000000 in
theorem zx_by93 : zx_tbk prog_14_method_71_code zx_t93 = true := by decide +kernel
set_option maxRecDepth 1000000 in
theorem zx_by94_0 : zx_tbk prog_14_method_75_code (zx_t94.take 40) = true := by decide +kernel
set_option maxRecDepth 1000000 in
theorem zx_by94_1 : zx_tbk prog_14_method_75_code ((zx_t94.drop 40).take 40) = true := by decide +kernel
set_option maxRecDepth 1000000 in
theorem zx_by94_2 : zx_tbk prog_14_method_75_code ((zx_t94.drop 40).drop 40) = true := by decide +kernel
theorem zx_by94 : zx_tbk prog_14_method_75_code zx_t94 = true := zx_tbk_cut 40 zx_by94_0 (zx_tbk_cut 40 zx_by94_1 (zx_by94_2))
set_option maxRecDepth 1000000 in
theorem zx_by95 : zx_tbk prog_14_method_73_code zx_t95 = true := by decide +kernel
set_option maxRecDepth 1000000 in
theorem zx_by96 : zx_tbk prog_14_method_72_code zx_t96 = true := by decide +kernel
set_option maxRecDepth 1000000 in
theorem zx_by97 : zx_tbk prog_14_method_93_code zx_t97 = true := by decide +kernel
set_option maxRecDepth 1000000 in
theorem zx_by98_0 : zx_tbk prog_14_method_91_code (zx_t98.take 40) = true := by decide +kernel
set_option maxRecDepth 1000000 in
theorem zx_by98_1 : zx_tbk prog_14_method_91_code ((zx_t98.drop 40).take 40) = true := by decide +kernel
set_option maxRecDepth 1000000 in
theorem zx_by98_2 : zx_tbk prog_14_method_91_code ((zx_t98.drop 40).drop 40) = true := by decide +kernel
theorem zx_by98 : zx_tbk prog_14_method_91_code zx_t98 = true := zx_tbk_cut 40 zx_by98_0 (zx_tbk_cut 40 zx_by98_1 (zx_by98_2))
set_option maxRecDepth 1000000 in
theorem zx_by99_0 : zx_tbk prog_14_method_78_code (zx_t99.take 40) = true := by decide +kernel
set_option maxRecDepth 1000000 in
theorem zx_by99_1 : zx_tbk prog_14_method_78_code ((zx_t99.drop 40).take 40) = true := by decide +kernel
set_option maxRecDepth 1000000 in
theorem zx_by99_2 : zx_tbk prog_14_method_78_code (((zx_t99.drop 40).drop 40).take 40) = true := by decide +kernel
set_option maxRecDepth 1000000 in
theorem zx_by99_3 : zx_tbk prog_14_method_78_code (((zx_t99.drop 40).drop 40).drop 40) = true := by decide +kernel
theorem zx_by99 : zx_tbk prog_14_method_78_code zx_t99 = true := zx_tbk_cut 40 zx_by99_0 (zx_tbk_cut 40 zx_by99_1 (zx_tbk_cut 40 zx_by99_2 (zx_by99_3)))
set_option maxRecDepth 1000000 in
theorem zx_by100 : zx_tbk prog_14_method_94_code zx_t100 = true := by decide +kernel
set_option maxRecDepth 1000000 in
theorem zx_by101 : zx_tbk prog_14_method_3_code zx_t101 = true := by decide +kernel
set_option maxRecDepth 1000000 in
theorem zx_by102 : zx_tbk prog_14_method_100_code zx_t102 = true := by decide +kernel
set_option maxRecDepth 1000000 in
theorem zx_by103 : zx_tbk prog_14_method_101_code zx_t103 = true := by decide +kernel
set_option maxRecDepth 1000000 in
theorem zx_by104 : zx_tbk prog_14_method_102_code zx_t104 = true := by decide +kernel
set_option maxRecDepth 1000000 in
theorem zx_by105_0 : zx_tbk prog_14_method_105_code (zx_t105.take 40) = true := by decide +kernel
set_option maxRecDepth 1000000 in
theorem zx_by105_1 : zx_tbk prog_14_method_105_code ((zx_t105.drop 40).take 40) = true := by decide +kernel
set_option maxRecDepth 1000000 in
theorem zx_by105_2 : zx_tbk prog_14_method_105_code (((zx_t105.drop 40).drop 40).take 40) = true := by decide +kernel
set_option maxRecDepth 1000000 in
theorem zx_by105_3 : zx_tbk prog_14_method_105_code ((((zx_t105.drop 40).drop 40).drop 40).take 40) = true := by decide +kernel
set_option maxRecDepth 1000000 in
theorem zx_by105_4 : zx_tbk prog_14_method_105_code (((((zx_t105.drop 40).drop 40).drop 40).drop 40).take 40) = true := by decide +kernel
set_option maxRecDepth 1000000 in
theorem zx_by105_5 : zx_tbk prog_14_method_105_code ((((((zx_t105.drop 40).drop 40).drop 40).drop 40).drop 40).take 40) = true := by decide +kernel
set_option maxRecDepth 1000000 in
theorem zx_by105_6 : zx_tbk prog_14_method_105_code ((((((zx_t105.drop 40).drop 40).drop 40).drop 40).drop 40).drop 40) = true := by decide +kernel
theorem zx_by105 : zx_tbk prog_14_method_105_code zx_t105 = true := zx_tbk_cut 40 zx_by105_0 (zx_tbk_cut 40 zx_by105_1 (zx_tbk_cut 40 zx_by105_2 (zx_tbk_cut 40 zx_by105_3 (zx_tbk_cut 40 zx_by105_4 (zx_tbk_cut 40 zx_by105_5 (zx_by105_6))))))
set_option maxRecDepth 1000000 in
theorem zx_by106 : zx_tbk prog_14_method_106_code zx_t106 = true := by decide +kernel
set_option maxRecDepth 1000000 in
theorem zx_by107_0 : zx_tbk prog_14_method_107_code (zx_t107.take 40) = true := by decide +kernel
set_option maxRecDepth 1000000 in
theorem zx_by107_1 : zx_tbk prog_14_method_107_code ((zx_t107.drop 40).take 40) = true := by decide +kernel
set_option maxRecDepth 1000000 in
theorem zx_by107_2 : zx_tbk prog_14_method_107_code (((zx_t107.drop 40).drop 40).take 40) = true := by decide +kernel
set_option maxRecDepth 1000000 in
theorem zx_by107_3 : zx_tbk prog_14_method_107_code (((zx_t107.drop 40).drop 40).drop 40) = true := by decide +kernel
theorem zx_by107 : zx_tbk prog_14_method_107_code zx_t107 = true := zx_tbk_cut 40 zx_by107_0 (zx_tbk_cut 40 zx_by107_1 (zx_tbk_cut 40 zx_by107_2 (zx_by107_3)))
set_option maxRecDepth 1000000 in
theorem zx_by108 : zx_tbk prog_14_method_108_code zx_t108 = true := by decide +kernel
