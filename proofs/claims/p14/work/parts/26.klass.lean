/-! zx: class by class, method by method -/
set_option maxRecDepth 1000000 in
theorem zx_kFc0 : zx_mkall zx_oc0 zx_Fc0 zx_pFc0 false zx_Sc0 zx_pSc0 zx_Cc0 zx_pCc0 zx_Ic0 zx_pIc0 zx_Lvc0 zx_pLc0 = true := by decide +kernel
set_option maxRecDepth 1000000 in
theorem zx_kFic0 : zx_mkall zx_oc0 zx_Fic0 zx_pFic0 true zx_Sc0 zx_pSc0 zx_Cc0 zx_pCc0 zx_Ic0 zx_pIc0 zx_Lvc0 zx_pLc0 = true := by decide +kernel
set_option maxRecDepth 1000000 in
theorem zx_kKc0 : zx_all3 (zx_chkK zx_oc0) zx_pKc0 zx_Kc0 = true := by decide +kernel
theorem zx_kLc0 : zx_Lc0 = zx_Lvc0.map Prod.fst := by decide +kernel
set_option maxRecDepth 1000000 in
theorem zx_kFc1 : zx_mkall zx_oc1 zx_Fc1 zx_pFc1 false zx_Sc1 zx_pSc1 zx_Cc1 zx_pCc1 zx_Ic1 zx_pIc1 zx_Lvc1 zx_pLc1 = true := by decide +kernel
set_option maxRecDepth 1000000 in
theorem zx_kFic1 : zx_mkall zx_oc1 zx_Fic1 zx_pFic1 true zx_Sc1 zx_pSc1 zx_Cc1 zx_pCc1 zx_Ic1 zx_pIc1 zx_Lvc1 zx_pLc1 = true := by decide +kernel
set_option maxRecDepth 1000000 in
theorem zx_kKc1 : zx_all3 (zx_chkK zx_oc1) zx_pKc1 zx_Kc1 = true := by decide +kernel
theorem zx_kLc1 : zx_Lc1 = zx_Lvc1.map Prod.fst := by decide +kernel
set_option maxRecDepth 1000000 in
theorem zx_kFc2 : zx_mkall zx_oc2 zx_Fc2 zx_pFc2 false zx_Sc2 zx_pSc2 zx_Cc2 zx_pCc2 zx_Ic2 zx_pIc2 zx_Lvc2 zx_pLc2 = true := by decide +kernel
set_option maxRecDepth 1000000 in
theorem zx_kFic2 : zx_mkall zx_oc2 zx_Fic2 zx_pFic2 true zx_Sc2 zx_pSc2 zx_Cc2 zx_pCc2 zx_Ic2 zx_pIc2 zx_Lvc2 zx_pLc2 = true := by decide +kernel
set_option maxRecDepth 1000000 in
theorem zx_kKc2 : zx_all3 (zx_chkK zx_oc2) zx_pKc2 zx_Kc2 = true := by decide +kernel
theorem zx_kLc2 : zx_Lc2 = zx_Lvc2.map Prod.fst := by decide +kernel
set_option maxRecDepth 1000000 in
theorem zx_kFc3 : zx_mkall zx_oc3 zx_Fc3 zx_pFc3 false zx_Sc3 zx_pSc3 zx_Cc3 zx_pCc3 zx_Ic3 zx_pIc3 zx_Lvc3 zx_pLc3 = true := by decide +kernel
set_option maxRecDepth 1000000 in
theorem zx_kFic3 : zx_mkall zx_oc3 zx_Fic3 zx_pFic3 true zx_Sc3 zx_pSc3 zx_Cc3 zx_pCc3 zx_Ic3 zx_pIc3 zx_Lvc3 zx_pLc3 = true := by decide +kernel
set_option maxRecDepth 1000000 in
theorem zx_kKc3 : zx_all3 (zx_chkK zx_oc3) zx_pKc3 zx_Kc3 = true := by decide +kernel
theorem zx_kLc3 : zx_Lc3 = zx_Lvc3.map Prod.fst := by decide +kernel
set_option maxRecDepth 1000000 in
theorem zx_kFc4 : zx_mkall zx_oc4 zx_Fc4 zx_pFc4 false zx_Sc4 zx_pSc4 zx_Cc4 zx_pCc4 zx_Ic4 zx_pIc4 zx_Lvc4 zx_pLc4 = true := by decide +kernel
set_option maxRecDepth 1000000 in
theorem zx_kFic4 : zx_mkall zx_oc4 zx_Fic4 zx_pFic4 true zx_Sc4 zx_pSc4 zx_Cc4 zx_pCc4 zx_Ic4 zx_pIc4 zx_Lvc4 zx_pLc4 = true := by decide +kernel
set_option maxRecDepth 1000000 in
theorem zx_kKc4 : zx_all3 (zx_chkK zx_oc4) zx_pKc4 zx_Kc4 = true := by decide +kernel
theorem zx_kLc4 : zx_Lc4 = zx_Lvc4.map Prod.fst := by decide +kernel
set_option maxRecDepth 1000000 in
theorem zx_kFc5 : zx_mkall zx_oc5 zx_Fc5 zx_pFc5 false zx_Sc5 zx_pSc5 zx_Cc5 zx_pCc5 zx_Ic5 zx_pIc5 zx_Lvc5 zx_pLc5 = true := by decide +kernel
set_option maxRecDepth 1000000 in
theorem zx_kFic5 : zx_mkall zx_oc5 zx_Fic5 zx_pFic5 true zx_Sc5 zx_pSc5 zx_Cc5 zx_pCc5 zx_Ic5 zx_pIc5 zx_Lvc5 zx_pLc5 = true := by decide +kernel
set_option maxRecDepth 1000000 in
theorem zx_kKc5 : zx_all3 (zx_chkK zx_oc5) zx_pKc5 zx_Kc5 = true := by decide +kernel
theorem zx_kLc5 : zx_Lc5 = zx_Lvc5.map Prod.fst := by decide +kernel
set_option maxRecDepth 1000000 in
theorem zx_kFc6 : zx_mkall zx_oc6 zx_Fc6 zx_pFc6 false zx_Sc6 zx_pSc6 zx_Cc6 zx_pCc6 zx_Ic6 zx_pIc6 zx_Lvc6 zx_pLc6 = true := by decide +kernel
set_option maxRecDepth 1000000 in
theorem zx_kFic6 : zx_mkall zx_oc6 zx_Fic6 zx_pFic6 true zx_Sc6 zx_pSc6 zx_Cc6 zx_pCc6 zx_Ic6 zx_pIc6 zx_Lvc6 zx_pLc6 = true := by decide +kernel
set_option maxRecDepth 1000000 in
theorem zx_kKc6 : zx_all3 (zx_chkK zx_oc6) zx_pKc6 zx_Kc6 = true := by decide +kernel
theorem zx_kLc6 : zx_Lc6 = zx_Lvc6.map Prod.fst := by decide +kernel
set_option maxRecDepth 1000000 in
theorem zx_kFc7 : zx_mkall zx_oc7 zx_Fc7 zx_pFc7 false zx_Sc7 zx_pSc7 zx_Cc7 zx_pCc7 zx_Ic7 zx_pIc7 zx_Lvc7 zx_pLc7 = true := by decide +kernel
set_option maxRecDepth 1000000 in
theorem zx_kFic7 : zx_mkall zx_oc7 zx_Fic7 zx_pFic7 true zx_Sc7 zx_pSc7 zx_Cc7 zx_pCc7 zx_Ic7 zx_pIc7 zx_Lvc7 zx_pLc7 = true := by decide +kernel
set_option maxRecDepth 1000000 in
theorem zx_kKc7 : zx_all3 (zx_chkK zx_oc7) zx_pKc7 zx_Kc7 = true := by decide +kernel
theorem zx_kLc7 : zx_Lc7 = zx_Lvc7.map Prod.fst := by decide +kernel
set_option maxRecDepth 1000000 in
theorem zx_kFc8 : zx_mkall zx_oc8 zx_Fc8 zx_pFc8 false zx_Sc8 zx_pSc8 zx_Cc8 zx_pCc8 zx_Ic8 zx_pIc8 zx_Lvc8 zx_pLc8 = true := by decide +kernel
set_option maxRecDepth 1000000 in
theorem zx_kFic8 : zx_mkall zx_oc8 zx_Fic8 zx_pFic8 true zx_Sc8 zx_pSc8 zx_Cc8 zx_pCc8 zx_Ic8 zx_pIc8 zx_Lvc8 zx_pLc8 = true := by decide +kernel
set_option maxRecDepth 1000000 in
theorem zx_kKc8 : zx_all3 (zx_chkK zx_oc8) zx_pKc8 zx_Kc8 = true := by decide +kernel
theorem zx_kLc8 : zx_Lc8 = zx_Lvc8.map Prod.fst := by decide +kernel
set_option maxRecDepth 1000000 in
theorem zx_kFc9 : zx_mkall zx_oc9 zx_Fc9 zx_pFc9 false zx_Sc9 zx_pSc9 zx_Cc9 zx_pCc9 zx_Ic9 zx_pIc9 zx_Lvc9 zx_pLc9 = true := by decide +kernel
set_option maxRecDepth 1000000 in
theorem zx_kFic9 : zx_mkall zx_oc9 zx_Fic9 zx_pFic9 true zx_Sc9 zx_pSc9 zx_Cc9 zx_pCc9 zx_Ic9 zx_pIc9 zx_Lvc9 zx_pLc9 = true := by decide +kernel
set_option maxRecDepth 1000000 in
theorem zx_kKc9 : zx_all3 (zx_chkK zx_oc9) zx_pKc9 zx_Kc9 = true := by decide +kernel
theorem zx_kLc9 : zx_Lc9 = zx_Lvc9.map Prod.fst := by decide +kernel
set_option maxRecDepth 1000000 in
theorem zx_kFc10 : zx_mkall zx_oc10 zx_Fc10 zx_pFc10 false zx_Sc10 zx_pSc10 zx_Cc10 zx_pCc10 zx_Ic10 zx_pIc10 zx_Lvc10 zx_pLc10 = true := by decide +kernel
set_option maxRecDepth 1000000 in
theorem zx_kFic10 : zx_mkall zx_oc10 zx_Fic10 zx_pFic10 true zx_Sc10 zx_pSc10 zx_Cc10 zx_pCc10 zx_Ic10 zx_pIc10 zx_Lvc10 zx_pLc10 = true := by decide +kernel
set_option maxRecDepth 1000000 in
theorem zx_kKc10 : zx_all3 (zx_chkK zx_oc10) zx_pKc10 zx_Kc10 = true := by decide +kernel
theorem zx_kLc10 : zx_Lc10 = zx_Lvc10.map Prod.fst := by decide +kernel
set_option maxRecDepth 1000000 in
theorem zx_kFc11 : zx_mkall zx_oc11 zx_Fc11 zx_pFc11 false zx_Sc11 zx_pSc11 zx_Cc11 zx_pCc11 zx_Ic11 zx_pIc11 zx_Lvc11 zx_pLc11 = true := by decide +kernel
set_option maxRecDepth 1000000 in
theorem zx_kFic11 : zx_mkall zx_oc11 zx_Fic11 zx_pFic11 true zx_Sc11 zx_pSc11 zx_Cc11 zx_pCc11 zx_Ic11 zx_pIc11 zx_Lvc11 zx_pLc11 = true := by decide +kernel
set_option maxRecDepth 1000000 in
theorem zx_kKc11 : zx_all3 (zx_chkK zx_oc11) zx_pKc11 zx_Kc11 = true := by decide +kernel
theorem zx_kLc11 : zx_Lc11 = zx_Lvc11.map Prod.fst := by decide +kernel
set_option maxRecDepth 1000000 in
theorem zx_kFc12 : zx_mkall zx_oc12 zx_Fc12 zx_pFc12 false zx_Sc12 zx_pSc12 zx_Cc12 zx_pCc12 zx_Ic12 zx_pIc12 zx_Lvc12 zx_pLc12 = true := by decide +kernel
set_option maxRecDepth 1000000 in
theorem zx_kFic12 : zx_mkall zx_oc12 zx_Fic12 zx_pFic12 true zx_Sc12 zx_pSc12 zx_Cc12 zx_pCc12 zx_Ic12 zx_pIc12 zx_Lvc12 zx_pLc12 = true := by decide +kernel
set_option maxRecDepth 1000000 in
theorem zx_kKc12 : zx_all3 (zx_chkK zx_oc12) zx_pKc12 zx_Kc12 = true := by decide +kernel
theorem zx_kLc12 : zx_Lc12 = zx_Lvc12.map Prod.fst := by decide +kernel
set_option maxRecDepth 1000000 in
theorem zx_kFc13 : zx_mkall zx_oc13 zx_Fc13 zx_pFc13 false zx_Sc13 zx_pSc13 zx_Cc13 zx_pCc13 zx_Ic13 zx_pIc13 zx_Lvc13 zx_pLc13 = true := by decide +kernel
set_option maxRecDepth 1000000 in
theorem zx_kFic13 : zx_mkall zx_oc13 zx_Fic13 zx_pFic13 true zx_Sc13 zx_pSc13 zx_Cc13 zx_pCc13 zx_Ic13 zx_pIc13 zx_Lvc13 zx_pLc13 = true := by decide +kernel
set_option maxRecDepth 1000000 in
theorem zx_kKc13 : zx_all3 (zx_chkK zx_oc13) zx_pKc13 zx_Kc13 = true := by decide +kernel
theorem zx_kLc13 : zx_Lc13 = zx_Lvc13.map Prod.fst := by decide +kernel
set_option maxRecDepth 1000000 in
theorem zx_kFc14 : zx_mkall zx_oc14 zx_Fc14 zx_pFc14 false zx_Sc14 zx_pSc14 zx_Cc14 zx_pCc14 zx_Ic14 zx_pIc14 zx_Lvc14 zx_pLc14 = true := by decide +kernel
set_option maxRecDepth 1000000 in
theorem zx_kFic14 : zx_mkall zx_oc14 zx_Fic14 zx_pFic14 true zx_Sc14 zx_pSc14 zx_Cc14 zx_pCc14 zx_Ic14 zx_pIc14 zx_Lvc14 zx_pLc14 = true := by decide +kernel
set_option maxRecDepth 1000000 in
theorem zx_kKc14 : zx_all3 (zx_chkK zx_oc14) zx_pKc14 zx_Kc14 = true := by decide +kernel
theorem zx_kLc14 : zx_Lc14 = zx_Lvc14.map Prod.fst := by decide +kernel
set_option maxRecDepth 1000000 in
theorem zx_Ts_good : zx_Ts.all goodWord = true := List.all_eq_true.mpr (fun _ h => (List.mem_filter.mp h).2)
theorem zx_nw_kind : zx_nw.all zx_nk = true := by decide +kernel
set_option maxRecDepth 1000000 in
theorem zx_arrs : ∀ ty ∈ [FieldType.int, FieldType.byte, FieldType.boolean, FieldType.long], Jvm.Cond.arrayClass ty ∈ zx_Ts := by
  intro ty hty
  refine List.mem_filter.mpr ⟨?_, rfl⟩
  simp only [List.mem_cons, List.not_mem_nil, or_false] at hty
  rcases hty with rfl | rfl | rfl | rfl
  · exact zx_chunk_ok (c := 1) (List.mem_of_getElem? (i := 84) (by decide +kernel))
  · exact zx_chunk_ok (c := 6) (List.mem_of_getElem? (i := 21) (by decide +kernel))
  · exact zx_chunk_ok (c := 2) (List.mem_of_getElem? (i := 76) (by decide +kernel))
  · exact zx_chunk_ok (c := 9) (List.mem_of_getElem? (i := 49) (by decide +kernel))
theorem zx_mem {c i : Nat} {w : Jvm.Cond} (h : (zx_chunk c)[i]? = some w) (hg : goodWord w = true) : w ∈ zx_Ts := List.mem_filter.mpr ⟨zx_chunk_ok (List.mem_of_getElem? h), hg⟩
theorem zx_PRt_len : zx_PRt.length = 244 := by decide +kernel
theorem zx_codes : ∀ (j : Nat) (y : MethodName) (cc : ByteArray) (maxL : Nat) (ret : Option FieldType), zx_PRt[j]? = some (y, cc, maxL, ret) → Jvm.Cond.code y cc maxL ret ∈ zx_Ts := by
  intro j y cc maxL ret h
  match j, h with
  | 0, h => cases h; exact zx_mem (c := 1) (i := 30) rfl rfl
  | 1, h => cases h; exact zx_mem (c := 1) (i := 38) rfl rfl
  | 2, h => cases h; exact zx_mem (c := 1) (i := 44) rfl rfl
  | 3, h => cases h; exact zx_mem (c := 1) (i := 49) rfl rfl
  | 4, h => cases h; exact zx_mem (c := 1) (i := 91) rfl rfl
  | 5, h => cases h; exact zx_mem (c := 1) (i := 195) rfl rfl
  | 6, h => cases h; exact zx_mem (c := 2) (i := 5) rfl rfl
  | 7, h => cases h; exact zx_mem (c := 2) (i := 81) rfl rfl
  | 8, h => cases h; exact zx_mem (c := 2) (i := 97) rfl rfl
  | 9, h => cases h; exact zx_mem (c := 2) (i := 136) rfl rfl
  | 10, h => cases h; exact zx_mem (c := 2) (i := 172) rfl rfl
  | 11, h => cases h; exact zx_mem (c := 2) (i := 199) rfl rfl
  | 12, h => cases h; exact zx_mem (c := 3) (i := 50) rfl rfl
  | 13, h => cases h; exact zx_mem (c := 3) (i := 54) rfl rfl
  | 14, h => cases h; exact zx_mem (c := 3) (i := 58) rfl rfl
  | 15, h => cases h; exact zx_mem (c := 3) (i := 62) rfl rfl
  | 16, h => cases h; exact zx_mem (c := 3) (i := 66) rfl rfl
  | 17, h => cases h; exact zx_mem (c := 3) (i := 70) rfl rfl
  | 18, h => cases h; exact zx_mem (c := 3) (i := 73) rfl rfl
  | 19, h => cases h; exact zx_mem (c := 3) (i := 77) rfl rfl
  | 20, h => cases h; exact zx_mem (c := 3) (i := 81) rfl rfl
  | 21, h => cases h; exact zx_mem (c := 3) (i := 86) rfl rfl
  | 22, h => cases h; exact zx_mem (c := 3) (i := 90) rfl rfl
  | 23, h => cases h; exact zx_mem (c := 3) (i := 94) rfl rfl
  | 24, h => cases h; exact zx_mem (c := 3) (i := 98) rfl rfl
  | 25, h => cases h; exact zx_mem (c := 3) (i := 102) rfl rfl
  | 26, h => cases h; exact zx_mem (c := 3) (i := 106) rfl rfl
  | 27, h => cases h; exact zx_mem (c := 3) (i := 111) rfl rfl
  | 28, h => cases h; exact zx_mem (c := 3) (i := 116) rfl rfl
  | 29, h => cases h; exact zx_mem (c := 3) (i := 119) rfl rfl
  | 30, h => cases h; exact zx_mem (c := 3) (i := 123) rfl rfl
  | 31, h => cases h; exact zx_mem (c := 3) (i := 183) rfl rfl
  | 32, h => cases h; exact zx_mem (c := 3) (i := 187) rfl rfl
  | 33, h => cases h; exact zx_mem (c := 3) (i := 195) rfl rfl
  | 34, h => cases h; exact zx_mem (c := 3) (i := 202) rfl rfl
  | 35, h => cases h; exact zx_mem (c := 3) (i := 208) rfl rfl
  | 36, h => cases h; exact zx_mem (c := 3) (i := 214) rfl rfl
  | 37, h => cases h; exact zx_mem (c := 3) (i := 217) rfl rfl
  | 38, h => cases h; exact zx_mem (c := 3) (i := 223) rfl rfl
  | 39, h => cases h; exact zx_mem (c := 3) (i := 229) rfl rfl
  | 40, h => cases h; exact zx_mem (c := 3) (i := 233) rfl rfl
  | 41, h => cases h; exact zx_mem (c := 3) (i := 237) rfl rfl
  | 42, h => cases h; exact zx_mem (c := 4) (i := 1) rfl rfl
  | 43, h => cases h; exact zx_mem (c := 4) (i := 10) rfl rfl
  | 44, h => cases h; exact zx_mem (c := 4) (i := 17) rfl rfl
  | 45, h => cases h; exact zx_mem (c := 4) (i := 25) rfl rfl
  | 46, h => cases h; exact zx_mem (c := 4) (i := 29) rfl rfl
  | 47, h => cases h; exact zx_mem (c := 4) (i := 33) rfl rfl
  | 48, h => cases h; exact zx_mem (c := 4) (i := 37) rfl rfl
  | 49, h => cases h; exact zx_mem (c := 4) (i := 41) rfl rfl
  | 50, h => cases h; exact zx_mem (c := 4) (i := 45) rfl rfl
  | 51, h => cases h; exact zx_mem (c := 4) (i := 49) rfl rfl
  | 52, h => cases h; exact zx_mem (c := 4) (i := 54) rfl rfl
  | 53, h => cases h; exact zx_mem (c := 4) (i := 58) rfl rfl
  | 54, h => cases h; exact zx_mem (c := 4) (i := 62) rfl rfl
  | 55, h => cases h; exact zx_mem (c := 4) (i := 66) rfl rfl
  | 56, h => cases h; exact zx_mem (c := 4) (i := 70) rfl rfl
  | 57, h => cases h; exact zx_mem (c := 4) (i := 74) rfl rfl
  | 58, h => cases h; exact zx_mem (c := 4) (i := 78) rfl rfl
  | 59, h => cases h; exact zx_mem (c := 4) (i := 82) rfl rfl
  | 60, h => cases h; exact zx_mem (c := 4) (i := 87) rfl rfl
  | 61, h => cases h; exact zx_mem (c := 4) (i := 91) rfl rfl
  | 62, h => cases h; exact zx_mem (c := 4) (i := 94) rfl rfl
  | 63, h => cases h; exact zx_mem (c := 4) (i := 98) rfl rfl
  | 64, h => cases h; exact zx_mem (c := 4) (i := 102) rfl rfl
  | 65, h => cases h; exact zx_mem (c := 4) (i := 106) rfl rfl
  | 66, h => cases h; exact zx_mem (c := 4) (i := 111) rfl rfl
  | 67, h => cases h; exact zx_mem (c := 4) (i := 115) rfl rfl
  | 68, h => cases h; exact zx_mem (c := 4) (i := 119) rfl rfl
  | 69, h => cases h; exact zx_mem (c := 4) (i := 123) rfl rfl
  | 70, h => cases h; exact zx_mem (c := 4) (i := 127) rfl rfl
  | 71, h => cases h; exact zx_mem (c := 4) (i := 134) rfl rfl
  | 72, h => cases h; exact zx_mem (c := 4) (i := 138) rfl rfl
  | 73, h => cases h; exact zx_mem (c := 4) (i := 142) rfl rfl
  | 74, h => cases h; exact zx_mem (c := 4) (i := 146) rfl rfl
  | 75, h => cases h; exact zx_mem (c := 4) (i := 150) rfl rfl
  | 76, h => cases h; exact zx_mem (c := 4) (i := 154) rfl rfl
  | 77, h => cases h; exact zx_mem (c := 4) (i := 158) rfl rfl
  | 78, h => cases h; exact zx_mem (c := 4) (i := 162) rfl rfl
  | 79, h => cases h; exact zx_mem (c := 4) (i := 166) rfl rfl
  | 80, h => cases h; exact zx_mem (c := 4) (i := 170) rfl rfl
  | 81, h => cases h; exact zx_mem (c := 4) (i := 177) rfl rfl
  | 82, h => cases h; exact zx_mem (c := 4) (i := 181) rfl rfl
  | 83, h => cases h; exact zx_mem (c := 4) (i := 184) rfl rfl
  | 84, h => cases h; exact zx_mem (c := 4) (i := 189) rfl rfl
  | 85, h => cases h; exact zx_mem (c := 4) (i := 195) rfl rfl
  | 86, h => cases h; exact zx_mem (c := 4) (i := 199) rfl rfl
  | 87, h => cases h; exact zx_mem (c := 4) (i := 203) rfl rfl
  | 88, h => cases h; exact zx_mem (c := 4) (i := 207) rfl rfl
  | 89, h => cases h; exact zx_mem (c := 4) (i := 211) rfl rfl
  | 90, h => cases h; exact zx_mem (c := 4) (i := 216) rfl rfl
  | 91, h => cases h; exact zx_mem (c := 4) (i := 221) rfl rfl
  | 92, h => cases h; exact zx_mem (c := 4) (i := 229) rfl rfl
  | 93, h => cases h; exact zx_mem (c := 4) (i := 233) rfl rfl
  | 94, h => cases h; exact zx_mem (c := 4) (i := 237) rfl rfl
  | 95, h => cases h; exact zx_mem (c := 5) (i := 1) rfl rfl
  | 96, h => cases h; exact zx_mem (c := 5) (i := 8) rfl rfl
  | 97, h => cases h; exact zx_mem (c := 5) (i := 12) rfl rfl
  | 98, h => cases h; exact zx_mem (c := 5) (i := 16) rfl rfl
  | 99, h => cases h; exact zx_mem (c := 5) (i := 21) rfl rfl
  | 100, h => cases h; exact zx_mem (c := 5) (i := 25) rfl rfl
  | 101, h => cases h; exact zx_mem (c := 5) (i := 29) rfl rfl
  | 102, h => cases h; exact zx_mem (c := 5) (i := 33) rfl rfl
  | 103, h => cases h; exact zx_mem (c := 5) (i := 37) rfl rfl
  | 104, h => cases h; exact zx_mem (c := 5) (i := 42) rfl rfl
  | 105, h => cases h; exact zx_mem (c := 5) (i := 46) rfl rfl
  | 106, h => cases h; exact zx_mem (c := 5) (i := 50) rfl rfl
  | 107, h => cases h; exact zx_mem (c := 5) (i := 54) rfl rfl
  | 108, h => cases h; exact zx_mem (c := 5) (i := 57) rfl rfl
  | 109, h => cases h; exact zx_mem (c := 5) (i := 61) rfl rfl
  | 110, h => cases h; exact zx_mem (c := 5) (i := 69) rfl rfl
  | 111, h => cases h; exact zx_mem (c := 5) (i := 73) rfl rfl
  | 112, h => cases h; exact zx_mem (c := 5) (i := 77) rfl rfl
  | 113, h => cases h; exact zx_mem (c := 5) (i := 84) rfl rfl
  | 114, h => cases h; exact zx_mem (c := 5) (i := 88) rfl rfl
  | 115, h => cases h; exact zx_mem (c := 5) (i := 98) rfl rfl
  | 116, h => cases h; exact zx_mem (c := 5) (i := 102) rfl rfl
  | 117, h => cases h; exact zx_mem (c := 5) (i := 108) rfl rfl
  | 118, h => cases h; exact zx_mem (c := 5) (i := 112) rfl rfl
  | 119, h => cases h; exact zx_mem (c := 5) (i := 116) rfl rfl
  | 120, h => cases h; exact zx_mem (c := 5) (i := 120) rfl rfl
  | 121, h => cases h; exact zx_mem (c := 5) (i := 126) rfl rfl
  | 122, h => cases h; exact zx_mem (c := 5) (i := 130) rfl rfl
  | 123, h => cases h; exact zx_mem (c := 5) (i := 136) rfl rfl
  | 124, h => cases h; exact zx_mem (c := 5) (i := 140) rfl rfl
  | 125, h => cases h; exact zx_mem (c := 5) (i := 145) rfl rfl
  | 126, h => cases h; exact zx_mem (c := 5) (i := 149) rfl rfl
  | 127, h => cases h; exact zx_mem (c := 5) (i := 154) rfl rfl
  | 128, h => cases h; exact zx_mem (c := 5) (i := 158) rfl rfl
  | 129, h => cases h; exact zx_mem (c := 5) (i := 162) rfl rfl
  | 130, h => cases h; exact zx_mem (c := 5) (i := 166) rfl rfl
  | 131, h => cases h; exact zx_mem (c := 5) (i := 170) rfl rfl
  | 132, h => cases h; exact zx_mem (c := 5) (i := 174) rfl rfl
  | 133, h => cases h; exact zx_mem (c := 5) (i := 178) rfl rfl
  | 134, h => cases h; exact zx_mem (c := 5) (i := 182) rfl rfl
  | 135, h => cases h; exact zx_mem (c := 5) (i := 187) rfl rfl
  | 136, h => cases h; exact zx_mem (c := 6) (i := 26) rfl rfl
  | 137, h => cases h; exact zx_mem (c := 7) (i := 95) rfl rfl
  | 138, h => cases h; exact zx_mem (c := 7) (i := 99) rfl rfl
  | 139, h => cases h; exact zx_mem (c := 7) (i := 103) rfl rfl
  | 140, h => cases h; exact zx_mem (c := 7) (i := 107) rfl rfl
  | 141, h => cases h; exact zx_mem (c := 7) (i := 110) rfl rfl
  | 142, h => cases h; exact zx_mem (c := 7) (i := 114) rfl rfl
  | 143, h => cases h; exact zx_mem (c := 7) (i := 118) rfl rfl
  | 144, h => cases h; exact zx_mem (c := 7) (i := 122) rfl rfl
  | 145, h => cases h; exact zx_mem (c := 7) (i := 126) rfl rfl
  | 146, h => cases h; exact zx_mem (c := 7) (i := 130) rfl rfl
  | 147, h => cases h; exact zx_mem (c := 7) (i := 134) rfl rfl
  | 148, h => cases h; exact zx_mem (c := 7) (i := 138) rfl rfl
  | 149, h => cases h; exact zx_mem (c := 7) (i := 142) rfl rfl
  | 150, h => cases h; exact zx_mem (c := 7) (i := 146) rfl rfl
  | 151, h => cases h; exact zx_mem (c := 7) (i := 150) rfl rfl
  | 152, h => cases h; exact zx_mem (c := 7) (i := 153) rfl rfl
  | 153, h => cases h; exact zx_mem (c := 7) (i := 156) rfl rfl
  | 154, h => cases h; exact zx_mem (c := 7) (i := 160) rfl rfl
  | 155, h => cases h; exact zx_mem (c := 7) (i := 165) rfl rfl
  | 156, h => cases h; exact zx_mem (c := 7) (i := 169) rfl rfl
  | 157, h => cases h; exact zx_mem (c := 7) (i := 173) rfl rfl
  | 158, h => cases h; exact zx_mem (c := 7) (i := 181) rfl rfl
  | 159, h => cases h; exact zx_mem (c := 7) (i := 187) rfl rfl
  | 160, h => cases h; exact zx_mem (c := 7) (i := 192) rfl rfl
  | 161, h => cases h; exact zx_mem (c := 7) (i := 196) rfl rfl
  | 162, h => cases h; exact zx_mem (c := 7) (i := 201) rfl rfl
  | 163, h => cases h; exact zx_mem (c := 7) (i := 215) rfl rfl
  | 164, h => cases h; exact zx_mem (c := 7) (i := 219) rfl rfl
  | 165, h => cases h; exact zx_mem (c := 7) (i := 223) rfl rfl
  | 166, h => cases h; exact zx_mem (c := 7) (i := 227) rfl rfl
  | 167, h => cases h; exact zx_mem (c := 7) (i := 230) rfl rfl
  | 168, h => cases h; exact zx_mem (c := 7) (i := 234) rfl rfl
  | 169, h => cases h; exact zx_mem (c := 8) (i := 0) rfl rfl
  | 170, h => cases h; exact zx_mem (c := 8) (i := 4) rfl rfl
  | 171, h => cases h; exact zx_mem (c := 8) (i := 8) rfl rfl
  | 172, h => cases h; exact zx_mem (c := 8) (i := 12) rfl rfl
  | 173, h => cases h; exact zx_mem (c := 8) (i := 16) rfl rfl
  | 174, h => cases h; exact zx_mem (c := 8) (i := 20) rfl rfl
  | 175, h => cases h; exact zx_mem (c := 8) (i := 24) rfl rfl
  | 176, h => cases h; exact zx_mem (c := 8) (i := 28) rfl rfl
  | 177, h => cases h; exact zx_mem (c := 8) (i := 32) rfl rfl
  | 178, h => cases h; exact zx_mem (c := 8) (i := 36) rfl rfl
  | 179, h => cases h; exact zx_mem (c := 8) (i := 40) rfl rfl
  | 180, h => cases h; exact zx_mem (c := 8) (i := 44) rfl rfl
  | 181, h => cases h; exact zx_mem (c := 8) (i := 48) rfl rfl
  | 182, h => cases h; exact zx_mem (c := 8) (i := 52) rfl rfl
  | 183, h => cases h; exact zx_mem (c := 8) (i := 56) rfl rfl
  | 184, h => cases h; exact zx_mem (c := 8) (i := 60) rfl rfl
  | 185, h => cases h; exact zx_mem (c := 8) (i := 64) rfl rfl
  | 186, h => cases h; exact zx_mem (c := 8) (i := 68) rfl rfl
  | 187, h => cases h; exact zx_mem (c := 8) (i := 72) rfl rfl
  | 188, h => cases h; exact zx_mem (c := 8) (i := 76) rfl rfl
  | 189, h => cases h; exact zx_mem (c := 8) (i := 80) rfl rfl
  | 190, h => cases h; exact zx_mem (c := 8) (i := 84) rfl rfl
  | 191, h => cases h; exact zx_mem (c := 8) (i := 88) rfl rfl
  | 192, h => cases h; exact zx_mem (c := 8) (i := 92) rfl rfl
  | 193, h => cases h; exact zx_mem (c := 8) (i := 96) rfl rfl
  | 194, h => cases h; exact zx_mem (c := 8) (i := 100) rfl rfl
  | 195, h => cases h; exact zx_mem (c := 8) (i := 104) rfl rfl
  | 196, h => cases h; exact zx_mem (c := 8) (i := 108) rfl rfl
  | 197, h => cases h; exact zx_mem (c := 8) (i := 112) rfl rfl
  | 198, h => cases h; exact zx_mem (c := 8) (i := 116) rfl rfl
  | 199, h => cases h; exact zx_mem (c := 8) (i := 120) rfl rfl
  | 200, h => cases h; exact zx_mem (c := 8) (i := 124) rfl rfl
  | 201, h => cases h; exact zx_mem (c := 8) (i := 128) rfl rfl
  | 202, h => cases h; exact zx_mem (c := 8) (i := 132) rfl rfl
  | 203, h => cases h; exact zx_mem (c := 8) (i := 136) rfl rfl
  | 204, h => cases h; exact zx_mem (c := 8) (i := 139) rfl rfl
  | 205, h => cases h; exact zx_mem (c := 8) (i := 143) rfl rfl
  | 206, h => cases h; exact zx_mem (c := 8) (i := 146) rfl rfl
  | 207, h => cases h; exact zx_mem (c := 8) (i := 149) rfl rfl
  | 208, h => cases h; exact zx_mem (c := 8) (i := 153) rfl rfl
  | 209, h => cases h; exact zx_mem (c := 8) (i := 157) rfl rfl
  | 210, h => cases h; exact zx_mem (c := 8) (i := 161) rfl rfl
  | 211, h => cases h; exact zx_mem (c := 8) (i := 165) rfl rfl
  | 212, h => cases h; exact zx_mem (c := 8) (i := 169) rfl rfl
  | 213, h => cases h; exact zx_mem (c := 8) (i := 173) rfl rfl
  | 214, h => cases h; exact zx_mem (c := 8) (i := 177) rfl rfl
  | 215, h => cases h; exact zx_mem (c := 8) (i := 181) rfl rfl
  | 216, h => cases h; exact zx_mem (c := 8) (i := 186) rfl rfl
  | 217, h => cases h; exact zx_mem (c := 8) (i := 190) rfl rfl
  | 218, h => cases h; exact zx_mem (c := 8) (i := 194) rfl rfl
  | 219, h => cases h; exact zx_mem (c := 8) (i := 198) rfl rfl
  | 220, h => cases h; exact zx_mem (c := 8) (i := 202) rfl rfl
  | 221, h => cases h; exact zx_mem (c := 8) (i := 206) rfl rfl
  | 222, h => cases h; exact zx_mem (c := 8) (i := 209) rfl rfl
  | 223, h => cases h; exact zx_mem (c := 8) (i := 213) rfl rfl
  | 224, h => cases h; exact zx_mem (c := 8) (i := 217) rfl rfl
  | 225, h => cases h; exact zx_mem (c := 8) (i := 221) rfl rfl
  | 226, h => cases h; exact zx_mem (c := 8) (i := 225) rfl rfl
  | 227, h => cases h; exact zx_mem (c := 8) (i := 229) rfl rfl
  | 228, h => cases h; exact zx_mem (c := 8) (i := 233) rfl rfl
  | 229, h => cases h; exact zx_mem (c := 8) (i := 237) rfl rfl
  | 230, h => cases h; exact zx_mem (c := 9) (i := 1) rfl rfl
  | 231, h => cases h; exact zx_mem (c := 9) (i := 5) rfl rfl
  | 232, h => cases h; exact zx_mem (c := 9) (i := 8) rfl rfl
  | 233, h => cases h; exact zx_mem (c := 9) (i := 12) rfl rfl
  | 234, h => cases h; exact zx_mem (c := 9) (i := 16) rfl rfl
  | 235, h => cases h; exact zx_mem (c := 9) (i := 20) rfl rfl
  | 236, h => cases h; exact zx_mem (c := 9) (i := 24) rfl rfl
  | 237, h => cases h; exact zx_mem (c := 9) (i := 28) rfl rfl
  | 238, h => cases h; exact zx_mem (c := 9) (i := 32) rfl rfl
  | 239, h => cases h; exact zx_mem (c := 9) (i := 36) rfl rfl
  | 240, h => cases h; exact zx_mem (c := 9) (i := 40) rfl rfl
  | 241, h => cases h; exact zx_mem (c := 9) (i := 44) rfl rfl
  | 242, h => cases h; exact zx_mem (c := 9) (i := 48) rfl rfl
  | 243, h => cases h; exact zx_mem (c := 3) (i := 128) rfl rfl
  | n + 244, h => have h1 := (List.getElem?_eq_some_iff.mp h).1; rw [zx_PRt_len] at h1; omega
