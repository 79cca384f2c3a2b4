/-! zx: the code of the methods -/
set_option maxRecDepth 1000000 in
theorem zx_by132 : zx_tbk prog_1_method_30_code zx_tb132 = true := by decide +kernel
set_option maxRecDepth 1000000 in
theorem zx_by133 : zx_tbk prog_6_method_12_code zx_tb133 = true := by decide +kernel
set_option maxRecDepth 1000000 in
theorem zx_by134 : zx_tbk prog_6_method_13_code zx_tb134 = true := by decide +kernel
set_option maxRecDepth 1000000 in
theorem zx_by135 : zx_tbk prog_1_method_31_code zx_tb135 = true := by decide +kernel
set_option maxRecDepth 1000000 in
theorem zx_by136_0 : zx_tbk prog_14_method_1_code (zx_tb136.take 40) = true := by decide +kernel
set_option maxRecDepth 1000000 in
theorem zx_by136_1 : zx_tbk prog_14_method_1_code ((zx_tb136.drop 40).take 40) = true := by decide +kernel
set_option maxRecDepth 1000000 in
theorem zx_by136_2 : zx_tbk prog_14_method_1_code (((zx_tb136.drop 40).drop 40).take 40) = true := by decide +kernel
set_option maxRecDepth 1000000 in
theorem zx_by136_3 : zx_tbk prog_14_method_1_code ((((zx_tb136.drop 40).drop 40).drop 40).take 40) = true := by decide +kernel
set_option maxRecDepth 1000000 in
theorem zx_by136_4 : zx_tbk prog_14_method_1_code (((((zx_tb136.drop 40).drop 40).drop 40).drop 40).take 40) = true := by decide +kernel
set_option maxRecDepth 1000000 in
theorem zx_by136_5 : zx_tbk prog_14_method_1_code ((((((zx_tb136.drop 40).drop 40).drop 40).drop 40).drop 40).take 40) = true := by decide +kernel
set_option maxRecDepth 1000000 in
theorem zx_by136_6 : zx_tbk prog_14_method_1_code (((((((zx_tb136.drop 40).drop 40).drop 40).drop 40).drop 40).drop 40).take 40) = true := by decide +kernel
set_option maxRecDepth 1000000 in
theorem zx_by136_7 : zx_tbk prog_14_method_1_code (((((((zx_tb136.drop 40).drop 40).drop 40).drop 40).drop 40).drop 40).drop 40) = true := by decide +kernel
theorem zx_by136 : zx_tbk prog_14_method_1_code zx_tb136 = true := zx_tbk_cut 40 zx_by136_0 (zx_tbk_cut 40 zx_by136_1 (zx_tbk_cut 40 zx_by136_2 (zx_tbk_cut 40 zx_by136_3 (zx_tbk_cut 40 zx_by136_4 (zx_tbk_cut 40 zx_by136_5 (zx_tbk_cut 40 zx_by136_6 (zx_by136_7)))))))
set_option maxRecDepth 1000000 in
theorem zx_by137 : zx_tbk prog_14_method_4_code zx_tb137 = true := by decide +kernel
set_option maxRecDepth 1000000 in
theorem zx_by138 : zx_tbk prog_14_method_5_code zx_tb138 = true := by decide +kernel
set_option maxRecDepth 1000000 in
theorem zx_by139 : zx_tbk prog_14_method_6_code zx_tb139 = true := by decide +kernel
set_option maxRecDepth 1000000 in
theorem zx_by140 : zx_tbk prog_14_method_9_code zx_tb140 = true := by decide +kernel
set_option maxRecDepth 1000000 in
theorem zx_by141 : zx_tbk prog_14_method_8_code zx_tb141 = true := by decide +kernel
set_option maxRecDepth 1000000 in
theorem zx_by142_0 : zx_tbk prog_14_method_10_code (zx_tb142.take 40) = true := by decide +kernel
set_option maxRecDepth 1000000 in
theorem zx_by142_1 : zx_tbk prog_14_method_10_code ((zx_tb142.drop 40).take 40) = true := by decide +kernel
set_option maxRecDepth 1000000 in
theorem zx_by142_2 : zx_tbk prog_14_method_10_code (((zx_tb142.drop 40).drop 40).take 40) = true := by decide +kernel
set_option maxRecDepth 1000000 in
theorem zx_by142_3 : zx_tbk prog_14_method_10_code ((((zx_tb142.drop 40).drop 40).drop 40).take 40) = true := by decide +kernel
set_option maxRecDepth 1000000 in
theorem zx_by142_4 : zx_tbk prog_14_method_10_code (((((zx_tb142.drop 40).drop 40).drop 40).drop 40).take 40) = true := by decide +kernel
set_option maxRecDepth 1000000 in
theorem zx_by142_5 : zx_tbk prog_14_method_10_code (((((zx_tb142.drop 40).drop 40).drop 40).drop 40).drop 40) = true := by decide +kernel
theorem zx_by142 : zx_tbk prog_14_method_10_code zx_tb142 = true := zx_tbk_cut 40 zx_by142_0 (zx_tbk_cut 40 zx_by142_1 (zx_tbk_cut 40 zx_by142_2 (zx_tbk_cut 40 zx_by142_3 (zx_tbk_cut 40 zx_by142_4 (zx_by142_5)))))
set_option maxRecDepth 1000000 in
theorem zx_by143 : zx_tbk prog_14_method_7_code zx_tb143 = true := by decide +kernel
set_option maxRecDepth 1000000 in
theorem zx_by144_0 : zx_tbk prog_14_method_13_code (zx_tb144.take 40) = true := by decide +kernel
set_option maxRecDepth 1000000 in
theorem zx_by144_1 : zx_tbk prog_14_method_13_code (zx_tb144.drop 40) = true := by decide +kernel
theorem zx_by144 : zx_tbk prog_14_method_13_code zx_tb144 = true := zx_tbk_cut 40 zx_by144_0 (zx_by144_1)
set_option maxRecDepth 1000000 in
theorem zx_by145 : zx_tbk prog_14_method_18_code zx_tb145 = true := by decide +kernel
set_option maxRecDepth 1000000 in
theorem zx_by146 : zx_tbk prog_14_method_14_code zx_tb146 = true := by decide +kernel
set_option maxRecDepth 1000000 in
theorem zx_by147 : zx_tbk prog_14_method_15_code zx_tb147 = true := by decide +kernel
set_option maxRecDepth 1000000 in
theorem zx_by148_0 : zx_tbk prog_14_method_27_code (zx_tb148.take 40) = true := by decide +kernel
set_option maxRecDepth 1000000 in
theorem zx_by148_1 : zx_tbk prog_14_method_27_code ((zx_tb148.drop 40).take 40) = true := by decide +kernel
set_option maxRecDepth 1000000 in
theorem zx_by148_2 : zx_tbk prog_14_method_27_code (((zx_tb148.drop 40).drop 40).take 40) = true := by decide +kernel
set_option maxRecDepth 1000000 in
theorem zx_by148_3 : zx_tbk prog_14_method_27_code ((((zx_tb148.drop 40).drop 40).drop 40).take 40) = true := by decide +kernel
set_option maxRecDepth 1000000 in
theorem zx_by148_4 : zx_tbk prog_14_method_27_code (((((zx_tb148.drop 40).drop 40).drop 40).drop 40).take 40) = true := by decide +kernel
set_option maxRecDepth 1000000 in
theorem zx_by148_5 : zx_tbk prog_14_method_27_code (((((zx_tb148.drop 40).drop 40).drop 40).drop 40).drop 40) = true := by decide +kernel
theorem zx_by148 : zx_tbk prog_14_method_27_code zx_tb148 = true := zx_tbk_cut 40 zx_by148_0 (zx_tbk_cut 40 zx_by148_1 (zx_tbk_cut 40 zx_by148_2 (zx_tbk_cut 40 zx_by148_3 (zx_tbk_cut 40 zx_by148_4 (zx_by148_5)))))
set_option maxRecDepth 1000000 in
theorem zx_by149 : zx_tbk prog_14_method_12_code zx_tb149 = true := by decide +kernel
set_option maxRecDepth 1000000 in
theorem zx_by150_0 : zx_tbk prog_14_method_22_code (zx_tb150.take 40) = true := by decide +kernel
set_option maxRecDepth 1000000 in
theorem zx_by150_1 : zx_tbk prog_14_method_22_code ((zx_tb150.drop 40).take 40) = true := by decide +kernel
set_option maxRecDepth 1000000 in
theorem zx_by150_2 : zx_tbk prog_14_method_22_code (((zx_tb150.drop 40).drop 40).take 40) = true := by decide +kernel
set_option maxRecDepth 1000000 in
theorem zx_by150_3 : zx_tbk prog_14_method_22_code ((((zx_tb150.drop 40).drop 40).drop 40).take 40) = true := by decide +kernel
set_option maxRecDepth 1000000 in
theorem zx_by150_4 : zx_tbk prog_14_method_22_code ((((zx_tb150.drop 40).drop 40).drop 40).drop 40) = true := by decide +kernel
theorem zx_by150 : zx_tbk prog_14_method_22_code zx_tb150 = true := zx_tbk_cut 40 zx_by150_0 (zx_tbk_cut 40 zx_by150_1 (zx_tbk_cut 40 zx_by150_2 (zx_tbk_cut 40 zx_by150_3 (zx_by150_4))))
set_option maxRecDepth 1000000 in
theorem zx_by151 : zx_tbk prog_14_method_19_code zx_tb151 = true := by decide +kernel
set_option maxRecDepth 1000000 in
theorem zx_by152 : zx_tbk prog_14_method_20_code zx_tb152 = true := by decide +kernel
set_option maxRecDepth 1000000 in
theorem zx_by153 : zx_tbk prog_14_method_21_code zx_tb153 = true := by decide +kernel
set_option maxRecDepth 1000000 in
theorem zx_by154 : zx_tbk prog_14_method_30_code zx_tb154 = true := by decide +kernel
set_option maxRecDepth 1000000 in
theorem zx_by155 : zx_tbk prog_14_method_24_code zx_tb155 = true := by decide +kernel
set_option maxRecDepth 1000000 in
theorem zx_by156 : zx_tbk prog_14_method_29_code zx_tb156 = true := by decide +kernel
set_option maxRecDepth 1000000 in
theorem zx_by157 : zx_tbk prog_14_method_23_code zx_tb157 = true := by decide +kernel
set_option maxRecDepth 1000000 in
theorem zx_by158_0 : zx_tbk prog_14_method_31_code (zx_tb158.take 40) = true := by decide +kernel
set_option maxRecDepth 1000000 in
theorem zx_by158_1 : zx_tbk prog_14_method_31_code ((zx_tb158.drop 40).take 40) = true := by decide +kernel
set_option maxRecDepth 1000000 in
theorem zx_by158_2 : zx_tbk prog_14_method_31_code ((zx_tb158.drop 40).drop 40) = true := by decide +kernel
theorem zx_by158 : zx_tbk prog_14_method_31_code zx_tb158 = true := zx_tbk_cut 40 zx_by158_0 (zx_tbk_cut 40 zx_by158_1 (zx_by158_2))
set_option maxRecDepth 1000000 in
theorem zx_by159_0 : zx_tbk prog_14_method_32_code (zx_tb159.take 40) = true := by decide +kernel
set_option maxRecDepth 1000000 in
theorem zx_by159_1 : zx_tbk prog_14_method_32_code (zx_tb159.drop 40) = true := by decide +kernel
theorem zx_by159 : zx_tbk prog_14_method_32_code zx_tb159 = true := zx_tbk_cut 40 zx_by159_0 (zx_by159_1)
set_option maxRecDepth 1000000 in
theorem zx_by160_0 : zx_tbk prog_14_method_39_code (zx_tb160.take 40) = true := by decide +kernel
set_option maxRecDepth 1000000 in
theorem zx_by160_1 : zx_tbk prog_14_method_39_code (zx_tb160.drop 40) = true := by decide +kernel
theorem zx_by160 : zx_tbk prog_14_method_39_code zx_tb160 = true := zx_tbk_cut 40 zx_by160_0 (zx_by160_1)
set_option maxRecDepth 1000000 in
theorem zx_by161_0 : zx_tbk prog_14_method_40_code (zx_tb161.take 40) = true := by decide +kernel
set_option maxRecDepth 1000000 in
theorem zx_by161_1 : zx_tbk prog_14_method_40_code ((zx_tb161.drop 40).take 40) = true := by decide +kernel
set_option maxRecDepth 1000000 in
theorem zx_by161_2 : zx_tbk prog_14_method_40_code ((zx_tb161.drop 40).drop 40) = true := by decide +kernel
theorem zx_by161 : zx_tbk prog_14_method_40_code zx_tb161 = true := zx_tbk_cut 40 zx_by161_0 (zx_tbk_cut 40 zx_by161_1 (zx_by161_2))
set_option maxRecDepth 1000000 in
theorem zx_by162_0 : zx_tbk prog_14_method_34_code (zx_tb162.take 40) = true := by decide +kernel
set_option maxRecDepth 1000000 in
theorem zx_by162_1 : zx_tbk prog_14_method_34_code (zx_tb162.drop 40) = true := by decide +kernel
theorem zx_by162 : zx_tbk prog_14_method_34_code zx_tb162 = true := zx_tbk_cut 40 zx_by162_0 (zx_by162_1)
set_option maxRecDepth 1000000 in
theorem zx_by163 : zx_tbk prog_14_method_25_code zx_tb163 = true := by decide +kernel
set_option maxRecDepth 1000000 in
theorem zx_by164 : zx_tbk prog_14_method_37_code zx_tb164 = true := by decide +kernel
set_option maxRecDepth 1000000 in
theorem zx_by165 : zx_tbk prog_14_method_33_code zx_tb165 = true := by decide +kernel
set_option maxRecDepth 1000000 in
theorem zx_by166 : zx_tbk prog_14_method_35_code zx_tb166 = true := by decide +kernel
set_option maxRecDepth 1000000 in
theorem zx_by167 : zx_tbk prog_14_method_36_code zx_tb167 = true := by decide +kernel
set_option maxRecDepth 1000000 in
theorem zx_by168 : zx_tbk prog_14_method_38_code zx_tb168 = true := by decide +kernel
set_option maxRecDepth 1000000 in
theorem zx_by169 : zx_tbk prog_14_method_26_code zx_tb169 = true := by decide +kernel
set_option maxRecDepth 1000000 in
theorem zx_by170 : zx_tbk prog_14_method_28_code zx_tb170 = true := by decide +kernel
set_option maxRecDepth 1000000 in
theorem zx_by171_0 : zx_tbk prog_14_method_42_code (zx_tb171.take 40) = true := by decide +kernel
set_option maxRecDepth 1000000 in
theorem zx_by171_1 : zx_tbk prog_14_method_42_code (zx_tb171.drop 40) = true := by decide +kernel
theorem zx_by171 : zx_tbk prog_14_method_42_code zx_tb171 = true := zx_tbk_cut 40 zx_by171_0 (zx_by171_1)
set_option maxRecDepth 1000000 in
theorem zx_by172 : zx_tbk prog_14_method_11_code zx_tb172 = true := by decide +kernel
set_option maxRecDepth 1000000 in
theorem zx_by173_0 : zx_tbk prog_14_method_45_code (zx_tb173.take 40) = true := by decide +kernel
set_option maxRecDepth 1000000 in
theorem zx_by173_1 : zx_tbk prog_14_method_45_code (zx_tb173.drop 40) = true := by decide +kernel
theorem zx_by173 : zx_tbk prog_14_method_45_code zx_tb173 = true := zx_tbk_cut 40 zx_by173_0 (zx_by173_1)
set_option maxRecDepth 1000000 in
theorem zx_by174 : zx_tbk prog_14_method_43_code zx_tb174 = true := by decide +kernel
set_option maxRecDepth 1000000 in
theorem zx_by175 : zx_tbk prog_14_method_44_code zx_tb175 = true := by decide +kernel
set_option maxRecDepth 1000000 in
theorem zx_by176 : zx_tbk prog_14_method_48_code zx_tb176 = true := by decide +kernel
set_option maxRecDepth 1000000 in
theorem zx_by177 : zx_tbk prog_14_method_46_code zx_tb177 = true := by decide +kernel
set_option maxRecDepth 1000000 in
theorem zx_by178 : zx_tbk prog_14_method_47_code zx_tb178 = true := by decide +kernel
set_option maxRecDepth 1000000 in
theorem zx_by179 : zx_tbk prog_14_method_49_code zx_tb179 = true := by decide +kernel
set_option maxRecDepth 1000000 in
theorem zx_by180 : zx_tbk prog_14_method_62_code zx_tb180 = true := by decide +kernel
set_option maxRecDepth 1000000 in
theorem zx_by181_0 : zx_tbk prog_14_method_50_code (zx_tb181.take 40) = true := by decide +kernel
set_option maxRecDepth 1000000 in
theorem zx_by181_1 : zx_tbk prog_14_method_50_code ((zx_tb181.drop 40).take 40) = true := by decide +kernel
set_option maxRecDepth 1000000 in
theorem zx_by181_2 : zx_tbk prog_14_method_50_code ((zx_tb181.drop 40).drop 40) = true := by decide +kernel
theorem zx_by181 : zx_tbk prog_14_method_50_code zx_tb181 = true := zx_tbk_cut 40 zx_by181_0 (zx_tbk_cut 40 zx_by181_1 (zx_by181_2))
set_option maxRecDepth 1000000 in
theorem zx_by182_0 : zx_tbk prog_14_method_51_code (zx_tb182.take 40) = true := by decide +kernel
set_option maxRecDepth 1000000 in
theorem zx_by182_1 : zx_tbk prog_14_method_51_code (zx_tb182.drop 40) = true := by decide +kernel
theorem zx_by182 : zx_tbk prog_14_method_51_code zx_tb182 = true := zx_tbk_cut 40 zx_by182_0 (zx_by182_1)
set_option maxRecDepth 1000000 in
theorem zx_by183 : zx_tbk prog_14_method_52_code zx_tb183 = true := by decide +kernel
set_option maxRecDepth 1000000 in
theorem zx_by184 : zx_tbk prog_14_method_63_code zx_tb184 = true := by decide +kernel
set_option maxRecDepth 1000000 in
theorem zx_by185_0 : zx_tbk prog_14_method_58_code (zx_tb185.take 40) = true := by decide +kernel
set_option maxRecDepth 1000000 in
theorem zx_by185_1 : zx_tbk prog_14_method_58_code ((zx_tb185.drop 40).take 40) = true := by decide +kernel
set_option maxRecDepth 1000000 in
theorem zx_by185_2 : zx_tbk prog_14_method_58_code ((zx_tb185.drop 40).drop 40) = true := by decide +kernel
theorem zx_by185 : zx_tbk prog_14_method_58_code zx_tb185 = true := zx_tbk_cut 40 zx_by185_0 (zx_tbk_cut 40 zx_by185_1 (zx_by185_2))
set_option maxRecDepth 1000000 in
theorem zx_by186 : zx_tbk prog_14_method_56_code zx_tb186 = true := by decide +kernel
set_option maxRecDepth 1000000 in
theorem zx_by187 : zx_tbk prog_14_method_64_code zx_tb187 = true := by decide +kernel
set_option maxRecDepth 1000000 in
theorem zx_by188_0 : zx_tbk prog_14_method_59_code (zx_tb188.take 40) = true := by decide +kernel
set_option maxRecDepth 1000000 in
theorem zx_by188_1 : zx_tbk prog_14_method_59_code ((zx_tb188.drop 40).take 40) = true := by decide +kernel
set_option maxRecDepth 1000000 in
theorem zx_by188_2 : zx_tbk prog_14_method_59_code (((zx_tb188.drop 40).drop 40).take 40) = true := by decide +kernel
set_option maxRecDepth 1000000 in
theorem zx_by188_3 : zx_tbk prog_14_method_59_code (((zx_tb188.drop 40).drop 40).drop 40) = true := by decide +kernel
theorem zx_by188 : zx_tbk prog_14_method_59_code zx_tb188 = true := zx_tbk_cut 40 zx_by188_0 (zx_tbk_cut 40 zx_by188_1 (zx_tbk_cut 40 zx_by188_2 (zx_by188_3)))
set_option maxRecDepth 1000000 in
theorem zx_by189 : zx_tbk prog_14_method_53_code zx_tb189 = true := by decide +kernel
set_option maxRecDepth 1000000 in
theorem zx_by190 : zx_tbk prog_14_method_69_code zx_tb190 = true := by decide +kernel
set_option maxRecDepth 1000000 in
theorem zx_by191_0 : zx_tbk prog_14_method_68_code (zx_tb191.take 40) = true := by decide +kernel
set_option maxRecDepth 1000000 in
theorem zx_by191_1 : zx_tbk prog_14_method_68_code (zx_tb191.drop 40) = true := by decide +kernel
theorem zx_by191 : zx_tbk prog_14_method_68_code zx_tb191 = true := zx_tbk_cut 40 zx_by191_0 (zx_by191_1)
set_option maxRecDepth 1000000 in
theorem zx_by192 : zx_tbk prog_14_method_54_code zx_tb192 = true := by decide +kernel
set_option maxRecDepth 1000000 in
theorem zx_by193 : zx_tbk prog_14_method_57_code zx_tb193 = true := by decide +kernel
set_option maxRecDepth 1000000 in
theorem zx_by194_0 : zx_tbk prog_14_method_67_code (zx_tb194.take 40) = true := by decide +kernel
set_option maxRecDepth 1000000 in
theorem zx_by194_1 : zx_tbk prog_14_method_67_code ((zx_tb194.drop 40).take 40) = true := by decide +kernel
set_option maxRecDepth 1000000 in
theorem zx_by194_2 : zx_tbk prog_14_method_67_code (((zx_tb194.drop 40).drop 40).take 40) = true := by decide +kernel
set_option maxRecDepth 1000000 in
theorem zx_by194_3 : zx_tbk prog_14_method_67_code ((((zx_tb194.drop 40).drop 40).drop 40).take 40) = true := by decide +kernel
set_option maxRecDepth 1000000 in
theorem zx_by194_4 : zx_tbk prog_14_method_67_code ((((zx_tb194.drop 40).drop 40).drop 40).drop 40) = true := by decide +kernel
theorem zx_by194 : zx_tbk prog_14_method_67_code zx_tb194 = true := zx_tbk_cut 40 zx_by194_0 (zx_tbk_cut 40 zx_by194_1 (zx_tbk_cut 40 zx_by194_2 (zx_tbk_cut 40 zx_by194_3 (zx_by194_4))))
set_option maxRecDepth 1000000 in
theorem zx_by195 : zx_tbk prog_14_method_65_code zx_tb195 = true := by decide +kernel
set_option maxRecDepth 1000000 in
theorem zx_by196 : zx_tbk prog_14_method_55_code zx_tb196 = true := by decide +kernel
set_option maxRecDepth 1000000 in
theorem zx_by197 : zx_tbk prog_14_method_66_code zx_tb197 = true := by decide +kernel
set_option maxRecDepth 1000000 in
theorem zx_by198 : zx_tbk prog_14_method_61_code zx_tb198 = true := by decide +kernel
set_option maxRecDepth 1000000 in
theorem zx_by199 : zx_tbk prog_14_method_60_code zx_tb199 = true := by decide +kernel
set_option maxRecDepth 1000000 in
theorem zx_by200 : zx_tbk prog_14_method_70_code zx_tb200 = true := by decide +kernel
set_option maxRecDepth 1000000 in
theorem zx_by201 : zx_tbk prog_14_method_77_code zx_tb201 = true := by decide +kernel
set_option maxRecDepth 1000000 in
theorem zx_by202 : zx_tbk prog_14_method_74_code zx_tb202 = true := by decide +kernel
set_option maxRecDepth 1000000 in
theorem zx_by203 : zx_tbk prog_14_method_76_code zx_tb203 = true := by decide +kernel
set_option maxRecDepth 1000000 in
theorem zx_by204 : zx_tbk prog_14_method_71_code zx_tb204 = true := by decide +kernel
set_option maxRecDepth 1000000 in
theorem zx_by205_0 : zx_tbk prog_14_method_75_code (zx_tb205.take 40) = true := by decide +kernel
set_option maxRecDepth 1000000 in
theorem zx_by205_1 : zx_tbk prog_14_method_75_code ((zx_tb205.drop 40).take 40) = true := by decide +kernel
set_option maxRecDepth 1000000 in
theorem zx_by205_2 : zx_tbk prog_14_method_75_code ((zx_tb205.drop 40).drop 40) = true := by decide +kernel
theorem zx_by205 : zx_tbk prog_14_method_75_code zx_tb205 = true := zx_tbk_cut 40 zx_by205_0 (zx_tbk_cut 40 zx_by205_1 (zx_by205_2))
set_option maxRecDepth 1000000 in
theorem zx_by206 : zx_tbk prog_14_method_73_code zx_tb206 = true := by decide +kernel
set_option maxRecDepth 1000000 in
theorem zx_by207 : zx_tbk prog_14_method_72_code zx_tb207 = true := by decide +kernel
set_option maxRecDepth 1000000 in
theorem zx_by208 : zx_tbk prog_14_method_93_code zx_tb208 = true := by decide +kernel
set_option maxRecDepth 1000000 in
theorem zx_by209_0 : zx_tbk prog_14_method_91_code (zx_tb209.take 40) = true := by decide +kernel
set_option maxRecDepth 1000000 in
theorem zx_by209_1 : zx_tbk prog_14_method_91_code ((zx_tb209.drop 40).take 40) = true := by decide +kernel
set_option maxRecDepth 1000000 in
theorem zx_by209_2 : zx_tbk prog_14_method_91_code ((zx_tb209.drop 40).drop 40) = true := by decide +kernel
theorem zx_by209 : zx_tbk prog_14_method_91_code zx_tb209 = true := zx_tbk_cut 40 zx_by209_0 (zx_tbk_cut 40 zx_by209_1 (zx_by209_2))
set_option maxRecDepth 1000000 in
theorem zx_by210_0 : zx_tbk prog_14_method_78_code (zx_tb210.take 40) = true := by decide +kernel
set_option maxRecDepth 1000000 in
theorem zx_by210_1 : zx_tbk prog_14_method_78_code ((zx_tb210.drop 40).take 40) = true := by decide +kernel
set_option maxRecDepth 1000000 in
theorem zx_by210_2 : zx_tbk prog_14_method_78_code (((zx_tb210.drop 40).drop 40).take 40) = true := by decide +kernel
set_option maxRecDepth 1000000 in
theorem zx_by210_3 : zx_tbk prog_14_method_78_code (((zx_tb210.drop 40).drop 40).drop 40) = true := by decide +kernel
theorem zx_by210 : zx_tbk prog_14_method_78_code zx_tb210 = true := zx_tbk_cut 40 zx_by210_0 (zx_tbk_cut 40 zx_by210_1 (zx_tbk_cut 40 zx_by210_2 (zx_by210_3)))
set_option maxRecDepth 1000000 in
theorem zx_by211 : zx_tbk prog_14_method_89_code zx_tb211 = true := by decide +kernel
set_option maxRecDepth 1000000 in
theorem zx_by212_0 : zx_tbk prog_14_method_80_code (zx_tb212.take 40) = true := by decide +kernel
set_option maxRecDepth 1000000 in
theorem zx_by212_1 : zx_tbk prog_14_method_80_code (zx_tb212.drop 40) = true := by decide +kernel
theorem zx_by212 : zx_tbk prog_14_method_80_code zx_tb212 = true := zx_tbk_cut 40 zx_by212_0 (zx_by212_1)
set_option maxRecDepth 1000000 in
theorem zx_by213 : zx_tbk prog_14_method_79_code zx_tb213 = true := by decide +kernel
set_option maxRecDepth 1000000 in
theorem zx_by214 : zx_tbk prog_14_method_82_code zx_tb214 = true := by decide +kernel
set_option maxRecDepth 1000000 in
theorem zx_by215 : zx_tbk prog_14_method_81_code zx_tb215 = true := by decide +kernel
set_option maxRecDepth 1000000 in
theorem zx_by216_0 : zx_tbk prog_14_method_83_code (zx_tb216.take 40) = true := by decide +kernel
set_option maxRecDepth 1000000 in
theorem zx_by216_1 : zx_tbk prog_14_method_83_code (zx_tb216.drop 40) = true := by decide +kernel
theorem zx_by216 : zx_tbk prog_14_method_83_code zx_tb216 = true := zx_tbk_cut 40 zx_by216_0 (zx_by216_1)
set_option maxRecDepth 1000000 in
theorem zx_by217 : zx_tbk prog_14_method_84_code zx_tb217 = true := by decide +kernel
set_option maxRecDepth 1000000 in
theorem zx_by218_0 : zx_tbk prog_14_method_85_code (zx_tb218.take 40) = true := by decide +kernel
set_option maxRecDepth 1000000 in
theorem zx_by218_1 : zx_tbk prog_14_method_85_code ((zx_tb218.drop 40).take 40) = true := by decide +kernel
set_option maxRecDepth 1000000 in
theorem zx_by218_2 : zx_tbk prog_14_method_85_code ((zx_tb218.drop 40).drop 40) = true := by decide +kernel
theorem zx_by218 : zx_tbk prog_14_method_85_code zx_tb218 = true := zx_tbk_cut 40 zx_by218_0 (zx_tbk_cut 40 zx_by218_1 (zx_by218_2))
set_option maxRecDepth 1000000 in
theorem zx_by219 : zx_tbk prog_14_method_90_code zx_tb219 = true := by decide +kernel
set_option maxRecDepth 1000000 in
theorem zx_by220_0 : zx_tbk prog_14_method_88_code (zx_tb220.take 40) = true := by decide +kernel
set_option maxRecDepth 1000000 in
theorem zx_by220_1 : zx_tbk prog_14_method_88_code ((zx_tb220.drop 40).take 40) = true := by decide +kernel
set_option maxRecDepth 1000000 in
theorem zx_by220_2 : zx_tbk prog_14_method_88_code (((zx_tb220.drop 40).drop 40).take 40) = true := by decide +kernel
set_option maxRecDepth 1000000 in
theorem zx_by220_3 : zx_tbk prog_14_method_88_code (((zx_tb220.drop 40).drop 40).drop 40) = true := by decide +kernel
theorem zx_by220 : zx_tbk prog_14_method_88_code zx_tb220 = true := zx_tbk_cut 40 zx_by220_0 (zx_tbk_cut 40 zx_by220_1 (zx_tbk_cut 40 zx_by220_2 (zx_by220_3)))
set_option maxRecDepth 1000000 in
theorem zx_by221 : zx_tbk prog_14_method_17_code zx_tb221 = true := by decide +kernel
set_option maxRecDepth 1000000 in
theorem zx_by222 : zx_tbk prog_14_method_16_code zx_tb222 = true := by decide +kernel
set_option maxRecDepth 1000000 in
theorem zx_by223 : zx_tbk prog_14_method_41_code zx_tb223 = true := by decide +kernel
set_option maxRecDepth 1000000 in
theorem zx_by224 : zx_tbk prog_14_method_86_code zx_tb224 = true := by decide +kernel
set_option maxRecDepth 1000000 in
theorem zx_by225 : zx_tbk prog_14_method_87_code zx_tb225 = true := by decide +kernel
set_option maxRecDepth 1000000 in
theorem zx_by226 : zx_tbk prog_14_method_94_code zx_tb226 = true := by decide +kernel
set_option maxRecDepth 1000000 in
theorem zx_by227 : zx_tbk prog_14_method_3_code zx_tb227 = true := by decide +kernel
set_option maxRecDepth 1000000 in
theorem zx_by228 : zx_tbk prog_14_method_100_code zx_tb228 = true := by decide +kernel
set_option maxRecDepth 1000000 in
theorem zx_by229 : zx_tbk prog_14_method_98_code zx_tb229 = true := by decide +kernel
set_option maxRecDepth 1000000 in
theorem zx_by230 : zx_tbk prog_14_method_96_code zx_tb230 = true := by decide +kernel
set_option maxRecDepth 1000000 in
theorem zx_by231_0 : zx_tbk prog_14_method_95_code (zx_tb231.take 40) = true := by decide +kernel
set_option maxRecDepth 1000000 in
theorem zx_by231_1 : zx_tbk prog_14_method_95_code (zx_tb231.drop 40) = true := by decide +kernel
theorem zx_by231 : zx_tbk prog_14_method_95_code zx_tb231 = true := zx_tbk_cut 40 zx_by231_0 (zx_by231_1)
set_option maxRecDepth 1000000 in
theorem zx_by232 : zx_tbk prog_14_method_92_code zx_tb232 = true := by decide +kernel
set_option maxRecDepth 1000000 in
theorem zx_by233 : zx_tbk prog_14_method_97_code zx_tb233 = true := by decide +kernel
set_option maxRecDepth 1000000 in
theorem zx_by234 : zx_tbk prog_14_method_101_code zx_tb234 = true := by decide +kernel
set_option maxRecDepth 1000000 in
theorem zx_by235_0 : zx_tbk prog_14_method_99_code (zx_tb235.take 40) = true := by decide +kernel
set_option maxRecDepth 1000000 in
theorem zx_by235_1 : zx_tbk prog_14_method_99_code ((zx_tb235.drop 40).take 40) = true := by decide +kernel
set_option maxRecDepth 1000000 in
theorem zx_by235_2 : zx_tbk prog_14_method_99_code ((zx_tb235.drop 40).drop 40) = true := by decide +kernel
theorem zx_by235 : zx_tbk prog_14_method_99_code zx_tb235 = true := zx_tbk_cut 40 zx_by235_0 (zx_tbk_cut 40 zx_by235_1 (zx_by235_2))
set_option maxRecDepth 1000000 in
theorem zx_by236 : zx_tbk prog_14_method_102_code zx_tb236 = true := by decide +kernel
set_option maxRecDepth 1000000 in
theorem zx_by237_0 : zx_tbk prog_14_method_105_code (zx_tb237.take 40) = true := by decide +kernel
set_option maxRecDepth 1000000 in
theorem zx_by237_1 : zx_tbk prog_14_method_105_code ((zx_tb237.drop 40).take 40) = true := by decide +kernel
set_option maxRecDepth 1000000 in
theorem zx_by237_2 : zx_tbk prog_14_method_105_code (((zx_tb237.drop 40).drop 40).take 40) = true := by decide +kernel
set_option maxRecDepth 1000000 in
theorem zx_by237_3 : zx_tbk prog_14_method_105_code ((((zx_tb237.drop 40).drop 40).drop 40).take 40) = true := by decide +kernel
set_option maxRecDepth 1000000 in
theorem zx_by237_4 : zx_tbk prog_14_method_105_code (((((zx_tb237.drop 40).drop 40).drop 40).drop 40).take 40) = true := by decide +kernel
set_option maxRecDepth 1000000 in
theorem zx_by237_5 : zx_tbk prog_14_method_105_code ((((((zx_tb237.drop 40).drop 40).drop 40).drop 40).drop 40).take 40) = true := by decide +kernel
set_option maxRecDepth 1000000 in
theorem zx_by237_6 : zx_tbk prog_14_method_105_code ((((((zx_tb237.drop 40).drop 40).drop 40).drop 40).drop 40).drop 40) = true := by decide +kernel
theorem zx_by237 : zx_tbk prog_14_method_105_code zx_tb237 = true := zx_tbk_cut 40 zx_by237_0 (zx_tbk_cut 40 zx_by237_1 (zx_tbk_cut 40 zx_by237_2 (zx_tbk_cut 40 zx_by237_3 (zx_tbk_cut 40 zx_by237_4 (zx_tbk_cut 40 zx_by237_5 (zx_by237_6))))))
set_option maxRecDepth 1000000 in
theorem zx_by238_0 : zx_tbk prog_14_method_103_code (zx_tb238.take 40) = true := by decide +kernel
set_option maxRecDepth 1000000 in
theorem zx_by238_1 : zx_tbk prog_14_method_103_code ((zx_tb238.drop 40).take 40) = true := by decide +kernel
set_option maxRecDepth 1000000 in
theorem zx_by238_2 : zx_tbk prog_14_method_103_code ((zx_tb238.drop 40).drop 40) = true := by decide +kernel
theorem zx_by238 : zx_tbk prog_14_method_103_code zx_tb238 = true := zx_tbk_cut 40 zx_by238_0 (zx_tbk_cut 40 zx_by238_1 (zx_by238_2))
set_option maxRecDepth 1000000 in
theorem zx_by239 : zx_tbk prog_14_method_104_code zx_tb239 = true := by decide +kernel
set_option maxRecDepth 1000000 in
theorem zx_by240 : zx_tbk prog_14_method_106_code zx_tb240 = true := by decide +kernel
set_option maxRecDepth 1000000 in
theorem zx_by241_0 : zx_tbk prog_14_method_107_code (zx_tb241.take 40) = true := by decide +kernel
set_option maxRecDepth 1000000 in
theorem zx_by241_1 : zx_tbk prog_14_method_107_code ((zx_tb241.drop 40).take 40) = true := by decide +kernel
set_option maxRecDepth 1000000 in
theorem zx_by241_2 : zx_tbk prog_14_method_107_code (((zx_tb241.drop 40).drop 40).take 40) = true := by decide +kernel
set_option maxRecDepth 1000000 in
theorem zx_by241_3 : zx_tbk prog_14_method_107_code (((zx_tb241.drop 40).drop 40).drop 40) = true := by decide +kernel
theorem zx_by241 : zx_tbk prog_14_method_107_code zx_tb241 = true := zx_tbk_cut 40 zx_by241_0 (zx_tbk_cut 40 zx_by241_1 (zx_tbk_cut 40 zx_by241_2 (zx_by241_3)))
set_option maxRecDepth 1000000 in
theorem zx_by242 : zx_tbk prog_14_method_108_code zx_tb242 = true := by decide +kernel
