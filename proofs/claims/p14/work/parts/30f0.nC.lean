/-! zv: the contracts of side C -/
set_option maxRecDepth 1000000 in
theorem vnC0 {l : Launch} : vN l 9 vEC0 := vGo (d := 0) vOK_nil (vYI _) vkC0
set_option maxRecDepth 1000000 in
theorem vnC1 {l : Launch} : vN l 9 vEC1 := vGo (d := 0) vOK_nil (vYI _) vkC1
set_option maxRecDepth 1000000 in
theorem vnC2 {l : Launch} : vN l 9 vEC2 := vGo (d := 0) vOK_nil (vYI _) vkC2
set_option maxRecDepth 1000000 in
theorem vnC3 {l : Launch} : vN l 9 vEC3 := vGo (d := 0) vOK_nil (vYI _) vkC3
set_option maxRecDepth 1000000 in
theorem vnC4 {l : Launch} : vN l 18 vEC4 := vGo (d := 9) (vOK_cons (vnC3) (by decide) vOK_nil) (vYI _) vkC4
set_option maxRecDepth 1000000 in
theorem vnC5 {l : Launch} : vN l 9 vEC5 := vGo (d := 0) vOK_nil (vYI _) vkC5
set_option maxRecDepth 1000000 in
theorem vnC6 {l : Launch} : vN l 9 vEC6 := vGo (d := 0) vOK_nil (vYI _) vkC6
set_option maxRecDepth 1000000 in
theorem vnC7 {l : Launch} : vN l 9 vEC7 := vGo (d := 0) vOK_nil (vYI _) vkC7
set_option maxRecDepth 1000000 in
theorem vnC8 {l : Launch} : vN l 9 vEC8 := vGo (d := 0) vOK_nil (vYI _) vkC8
set_option maxRecDepth 1000000 in
theorem vnC9 {l : Launch} (hf : vN l 9 vECF) : vN l 18 vEC9 := vGo (d := 9) (vOK_cons (vnC8) (by decide) (vOK_cons hf (by decide) vOK_nil)) (vYI _) vkC9
set_option maxRecDepth 1000000 in
theorem vnC10 {l : Launch} (hf : vN l 9 vECF) : vN l 27 vEC10 := vGo (d := 18) (vOK_cons (vnC9 hf) (by decide) vOK_nil) (vYI _) vkC10
set_option maxRecDepth 1000000 in
theorem vnC11 {l : Launch} (hf : vN l 9 vECF) : vN l 36 vEC11 := vGo (d := 27) (vOK_cons (vnC9 hf) (by decide) (vOK_cons (vnC10 hf) (by decide) vOK_nil)) (vYI _) vkC11
set_option maxRecDepth 1000000 in
theorem vnC12 {l : Launch} : vN l 9 vEC12 := vGo (d := 0) vOK_nil (vYI _) vkC12
set_option maxRecDepth 1000000 in
theorem vnC13 {l : Launch} (hf : vN l 9 vECF) : vN l 36 vEC13 := vGo (d := 27) (vOK_cons (vnC9 hf) (by decide) (vOK_cons (vnC10 hf) (by decide) (vOK_cons (vnC12) (by decide) vOK_nil))) (vYI _) vkC13
set_option maxRecDepth 1000000 in
theorem vnC14 {l : Launch} : vN l 9 vEC14 := vGo (d := 0) vOK_nil (vYI _) vkC14
set_option maxRecDepth 1000000 in
theorem vnC15 {l : Launch} : vN l 18 vEC15 := vGo (d := 9) (vOK_cons (vnC14) (by decide) vOK_nil) (vYI _) vkC15
set_option maxRecDepth 1000000 in
theorem vnC16 {l : Launch} : vN l 27 vEC16 := vGo (d := 18) (vOK_cons (vnC15) (by decide) vOK_nil) (vYI _) vkC16
set_option maxRecDepth 1000000 in
theorem vnC17 {l : Launch} : vN l 9 vEC17 := vGo (d := 0) vOK_nil (vYI _) vkC17
set_option maxRecDepth 1000000 in
theorem vnC18 {l : Launch} (hf : vN l 9 vECF) : vN l 27 vEC18 := vGo (d := 18) (vOK_cons (vnC9 hf) (by decide) (vOK_cons (vnC17) (by decide) vOK_nil)) (vYI _) vkC18
set_option maxRecDepth 1000000 in
theorem vnC19 {l : Launch} (hf : vN l 9 vECF) : vN l 36 vEC19 := vGo (d := 27) (vOK_cons (vnC9 hf) (by decide) (vOK_cons (vnC14) (by decide) (vOK_cons (vnC16) (by decide) (vOK_cons (vnC17) (by decide) (vOK_cons (vnC18 hf) (by decide) vOK_nil))))) (vYI _) vkC19
set_option maxRecDepth 1000000 in
theorem vnC20 {l : Launch} (hf : vN l 9 vECF) : vN l 45 vEC20 := vGo (d := 36) (vOK_cons (vnC9 hf) (by decide) (vOK_cons (vnC17) (by decide) (vOK_cons (vnC19 hf) (by decide) vOK_nil))) (vYI _) vkC20
set_option maxRecDepth 1000000 in
theorem vnC21 {l : Launch} (hf : vN l 9 vECF) : vN l 54 vEC21 := vGo (d := 45) (vOK_cons (vnC9 hf) (by decide) (vOK_cons (vnC17) (by decide) (vOK_cons (vnC20 hf) (by decide) vOK_nil))) (vYI _) vkC21
set_option maxRecDepth 1000000 in
theorem vnC22 {l : Launch} (hf : vN l 9 vECF) : vN l 63 vEC22 := vGo (d := 54) (vOK_cons (vnC9 hf) (by decide) (vOK_cons (vnC10 hf) (by decide) (vOK_cons (vnC17) (by decide) (vOK_cons (vnC18 hf) (by decide) (vOK_cons (vnC19 hf) (by decide) (vOK_cons (vnC21 hf) (by decide) vOK_nil)))))) (vYI _) vkC22
set_option maxRecDepth 1000000 in
theorem vnC23 {l : Launch} (hf : vN l 9 vECF) : vN l 72 vEC23 := vGo (d := 63) (vOK_cons (vnC9 hf) (by decide) (vOK_cons (vnC17) (by decide) (vOK_cons (vnC22 hf) (by decide) vOK_nil))) (vYI _) vkC23
set_option maxRecDepth 1000000 in
theorem vnC24 {l : Launch} (hf : vN l 9 vECF) : vN l 81 vEC24 := vGo (d := 72) (vOK_cons (vnC9 hf) (by decide) (vOK_cons (vnC17) (by decide) (vOK_cons (vnC23 hf) (by decide) vOK_nil))) (vYI _) vkC24
set_option maxRecDepth 1000000 in
theorem vnC25 {l : Launch} (hf : vN l 9 vECF) : vN l 90 vEC25 := vGo (d := 81) (vOK_cons (vnC9 hf) (by decide) (vOK_cons (vnC10 hf) (by decide) (vOK_cons (vnC17) (by decide) (vOK_cons (vnC18 hf) (by decide) (vOK_cons (vnC22 hf) (by decide) (vOK_cons (vnC24 hf) (by decide) vOK_nil)))))) (vYI _) vkC25
set_option maxRecDepth 1000000 in
theorem vnC26 {l : Launch} (hf : vN l 9 vECF) : vN l 99 vEC26 := vGo (d := 90) (vOK_cons (vnC9 hf) (by decide) (vOK_cons (vnC17) (by decide) (vOK_cons (vnC25 hf) (by decide) vOK_nil))) (vYI _) vkC26
set_option maxRecDepth 1000000 in
theorem vnC27 {l : Launch} (hf : vN l 9 vECF) : vN l 108 vEC27 := vGo (d := 99) (vOK_cons (vnC9 hf) (by decide) (vOK_cons (vnC17) (by decide) (vOK_cons (vnC26 hf) (by decide) vOK_nil))) (vYI _) vkC27
set_option maxRecDepth 1000000 in
theorem vnC28 {l : Launch} (hf : vN l 9 vECF) : vN l 117 vEC28 := vGo (d := 108) (vOK_cons (vnC9 hf) (by decide) (vOK_cons (vnC10 hf) (by decide) (vOK_cons (vnC17) (by decide) (vOK_cons (vnC18 hf) (by decide) (vOK_cons (vnC25 hf) (by decide) (vOK_cons (vnC27 hf) (by decide) vOK_nil)))))) (vYI _) vkC28
set_option maxRecDepth 1000000 in
theorem vnC29 {l : Launch} (hf : vN l 9 vECF) : vN l 126 vEC29 := vGo (d := 117) (vOK_cons (vnC9 hf) (by decide) (vOK_cons (vnC17) (by decide) (vOK_cons (vnC28 hf) (by decide) vOK_nil))) (vYI _) vkC29
set_option maxRecDepth 1000000 in
theorem vnC30 {l : Launch} (hf : vN l 9 vECF) : vN l 135 vEC30 := vGo (d := 126) (vOK_cons (vnC9 hf) (by decide) (vOK_cons (vnC17) (by decide) (vOK_cons (vnC29 hf) (by decide) vOK_nil))) (vYI _) vkC30
set_option maxRecDepth 1000000 in
theorem vnC31 {l : Launch} (hf : vN l 9 vECF) : vN l 144 vEC31 := vGo (d := 135) (vOK_cons (vnC9 hf) (by decide) (vOK_cons (vnC10 hf) (by decide) (vOK_cons (vnC17) (by decide) (vOK_cons (vnC18 hf) (by decide) (vOK_cons (vnC28 hf) (by decide) (vOK_cons (vnC30 hf) (by decide) vOK_nil)))))) (vYI _) vkC31
set_option maxRecDepth 1000000 in
theorem vnC32 {l : Launch} (hf : vN l 9 vECF) : vN l 153 vEC32 := vGo (d := 144) (vOK_cons (vnC9 hf) (by decide) (vOK_cons (vnC17) (by decide) (vOK_cons (vnC31 hf) (by decide) vOK_nil))) (vYI _) vkC32
set_option maxRecDepth 1000000 in
theorem vnC33 {l : Launch} (hf : vN l 9 vECF) : vN l 162 vEC33 := vGo (d := 153) (vOK_cons (vnC9 hf) (by decide) (vOK_cons (vnC17) (by decide) (vOK_cons (vnC32 hf) (by decide) vOK_nil))) (vYI _) vkC33
set_option maxRecDepth 1000000 in
theorem vnC34 {l : Launch} (hf : vN l 9 vECF) : vN l 171 vEC34 := vGo (d := 162) (vOK_cons (vnC9 hf) (by decide) (vOK_cons (vnC10 hf) (by decide) (vOK_cons (vnC17) (by decide) (vOK_cons (vnC18 hf) (by decide) (vOK_cons (vnC31 hf) (by decide) (vOK_cons (vnC33 hf) (by decide) vOK_nil)))))) (vYI _) vkC34
set_option maxRecDepth 1000000 in
theorem vnC35 {l : Launch} (hf : vN l 9 vECF) : vN l 180 vEC35 := vGo (d := 171) (vOK_cons (vnC9 hf) (by decide) (vOK_cons (vnC17) (by decide) (vOK_cons (vnC34 hf) (by decide) vOK_nil))) (vYI _) vkC35
set_option maxRecDepth 1000000 in
theorem vnC36 {l : Launch} (hf : vN l 9 vECF) : vN l 189 vEC36 := vGo (d := 180) (vOK_cons (vnC9 hf) (by decide) (vOK_cons (vnC17) (by decide) (vOK_cons (vnC35 hf) (by decide) vOK_nil))) (vYI _) vkC36
set_option maxRecDepth 1000000 in
theorem vnC37 {l : Launch} (hf : vN l 9 vECF) : vN l 198 vEC37 := vGo (d := 189) (vOK_cons (vnC9 hf) (by decide) (vOK_cons (vnC10 hf) (by decide) (vOK_cons (vnC17) (by decide) (vOK_cons (vnC18 hf) (by decide) (vOK_cons (vnC34 hf) (by decide) (vOK_cons (vnC36 hf) (by decide) vOK_nil)))))) (vYI _) vkC37
set_option maxRecDepth 1000000 in
theorem vnC38 {l : Launch} (hf : vN l 9 vECF) : vN l 207 vEC38 := vGo (d := 198) (vOK_cons (vnC9 hf) (by decide) (vOK_cons (vnC17) (by decide) (vOK_cons (vnC37 hf) (by decide) vOK_nil))) (vYI _) vkC38
set_option maxRecDepth 1000000 in
theorem vnC39 {l : Launch} (hf : vN l 9 vECF) : vN l 216 vEC39 := vGo (d := 207) (vOK_cons (vnC9 hf) (by decide) (vOK_cons (vnC17) (by decide) (vOK_cons (vnC38 hf) (by decide) vOK_nil))) (vYI _) vkC39
set_option maxRecDepth 1000000 in
theorem vnC40 {l : Launch} (hf : vN l 9 vECF) : vN l 225 vEC40 := vGo (d := 216) (vOK_cons (vnC9 hf) (by decide) (vOK_cons (vnC10 hf) (by decide) (vOK_cons (vnC17) (by decide) (vOK_cons (vnC18 hf) (by decide) (vOK_cons (vnC37 hf) (by decide) (vOK_cons (vnC39 hf) (by decide) vOK_nil)))))) (vYI _) vkC40
set_option maxRecDepth 1000000 in
theorem vnC41 {l : Launch} (hf : vN l 9 vECF) : vN l 234 vEC41 := vGo (d := 225) (vOK_cons (vnC9 hf) (by decide) (vOK_cons (vnC17) (by decide) (vOK_cons (vnC40 hf) (by decide) vOK_nil))) (vYI _) vkC41
set_option maxRecDepth 1000000 in
theorem vnC42 {l : Launch} (hf : vN l 9 vECF) : vN l 243 vEC42 := vGo (d := 234) (vOK_cons (vnC9 hf) (by decide) (vOK_cons (vnC17) (by decide) (vOK_cons (vnC41 hf) (by decide) vOK_nil))) (vYI _) vkC42
set_option maxRecDepth 1000000 in
theorem vnC43 {l : Launch} (hf : vN l 9 vECF) : vN l 252 vEC43 := vGo (d := 243) (vOK_cons (vnC9 hf) (by decide) (vOK_cons (vnC10 hf) (by decide) (vOK_cons (vnC17) (by decide) (vOK_cons (vnC18 hf) (by decide) (vOK_cons (vnC40 hf) (by decide) (vOK_cons (vnC42 hf) (by decide) vOK_nil)))))) (vYI _) vkC43
set_option maxRecDepth 1000000 in
theorem vnC44 {l : Launch} (hf : vN l 9 vECF) : vN l 261 vEC44 := vGo (d := 252) (vOK_cons (vnC9 hf) (by decide) (vOK_cons (vnC17) (by decide) (vOK_cons (vnC43 hf) (by decide) vOK_nil))) (vYI _) vkC44
set_option maxRecDepth 1000000 in
theorem vnC45 {l : Launch} (hf : vN l 9 vECF) : vN l 270 vEC45 := vGo (d := 261) (vOK_cons (vnC9 hf) (by decide) (vOK_cons (vnC17) (by decide) (vOK_cons (vnC44 hf) (by decide) vOK_nil))) (vYI _) vkC45
set_option maxRecDepth 1000000 in
theorem vnC46 {l : Launch} (hf : vN l 9 vECF) : vN l 279 vEC46 := vGo (d := 270) (vOK_cons (vnC9 hf) (by decide) (vOK_cons (vnC10 hf) (by decide) (vOK_cons (vnC17) (by decide) (vOK_cons (vnC18 hf) (by decide) (vOK_cons (vnC43 hf) (by decide) (vOK_cons (vnC45 hf) (by decide) vOK_nil)))))) (vYI _) vkC46
set_option maxRecDepth 1000000 in
theorem vnC47 {l : Launch} (hf : vN l 9 vECF) : vN l 288 vEC47 := vGo (d := 279) (vOK_cons (vnC9 hf) (by decide) (vOK_cons (vnC17) (by decide) (vOK_cons (vnC46 hf) (by decide) vOK_nil))) (vYI _) vkC47
set_option maxRecDepth 1000000 in
theorem vnC48 {l : Launch} (hf : vN l 9 vECF) : vN l 297 vEC48 := vGo (d := 288) (vOK_cons (vnC9 hf) (by decide) (vOK_cons (vnC17) (by decide) (vOK_cons (vnC47 hf) (by decide) vOK_nil))) (vYI _) vkC48
set_option maxRecDepth 1000000 in
theorem vnC49 {l : Launch} (hf : vN l 9 vECF) : vN l 306 vEC49 := vGo (d := 297) (vOK_cons (vnC9 hf) (by decide) (vOK_cons (vnC10 hf) (by decide) (vOK_cons (vnC17) (by decide) (vOK_cons (vnC18 hf) (by decide) (vOK_cons (vnC46 hf) (by decide) (vOK_cons (vnC48 hf) (by decide) vOK_nil)))))) (vYI _) vkC49
set_option maxRecDepth 1000000 in
theorem vnC50 {l : Launch} (hf : vN l 9 vECF) : vN l 315 vEC50 := vGo (d := 306) (vOK_cons (vnC9 hf) (by decide) (vOK_cons (vnC17) (by decide) (vOK_cons (vnC49 hf) (by decide) vOK_nil))) (vYI _) vkC50
set_option maxRecDepth 1000000 in
theorem vnC51 {l : Launch} (hf : vN l 9 vECF) : vN l 324 vEC51 := vGo (d := 315) (vOK_cons (vnC9 hf) (by decide) (vOK_cons (vnC17) (by decide) (vOK_cons (vnC50 hf) (by decide) vOK_nil))) (vYI _) vkC51
set_option maxRecDepth 1000000 in
theorem vnC52 {l : Launch} (hf : vN l 9 vECF) : vN l 333 vEC52 := vGo (d := 324) (vOK_cons (vnC9 hf) (by decide) (vOK_cons (vnC10 hf) (by decide) (vOK_cons (vnC17) (by decide) (vOK_cons (vnC18 hf) (by decide) (vOK_cons (vnC49 hf) (by decide) (vOK_cons (vnC51 hf) (by decide) vOK_nil)))))) (vYI _) vkC52
set_option maxRecDepth 1000000 in
theorem vnC53 {l : Launch} (hf : vN l 9 vECF) : vN l 342 vEC53 := vGo (d := 333) (vOK_cons (vnC9 hf) (by decide) (vOK_cons (vnC17) (by decide) (vOK_cons (vnC52 hf) (by decide) vOK_nil))) (vYI _) vkC53
set_option maxRecDepth 1000000 in
theorem vnC54 {l : Launch} (hf : vN l 9 vECF) : vN l 351 vEC54 := vGo (d := 342) (vOK_cons (vnC9 hf) (by decide) (vOK_cons (vnC17) (by decide) (vOK_cons (vnC53 hf) (by decide) vOK_nil))) (vYI _) vkC54
set_option maxRecDepth 1000000 in
theorem vnC55 {l : Launch} : vN l 9 vEC55 := vGo (d := 0) vOK_nil (vYI _) vkC55
set_option maxRecDepth 1000000 in
theorem vnC56 {l : Launch} (hf : vN l 9 vECF) : vN l 360 vEC56 := vGo (d := 351) (vOK_cons (vnC9 hf) (by decide) (vOK_cons (vnC10 hf) (by decide) (vOK_cons (vnC54 hf) (by decide) (vOK_cons (vnC55) (by decide) vOK_nil)))) (vYI _) vkC56
set_option maxRecDepth 1000000 in
theorem vnC57 {l : Launch} (hf : vN l 9 vECF) : vN l 369 vEC57 := vGo2 (d := 360) (hd := vHD57) (vOK_cons (vnC9 hf) (by decide) (vOK_cons (vnC11 hf) (by decide) (vOK_cons (vnC13 hf) (by decide) (vOK_cons (vnC56 hf) (by decide) vOK_nil)))) (vYI _) vkC57_e (List.forall_mem_cons.mpr ⟨vkC57_0, (List.forall_mem_cons.mpr ⟨vkC57_1, (List.forall_mem_cons.mpr ⟨vkC57_2, (List.forall_mem_cons.mpr ⟨vkC57_3, (List.forall_mem_cons.mpr ⟨vkC57_4, (List.forall_mem_cons.mpr ⟨vkC57_5, (List.forall_mem_cons.mpr ⟨vkC57_6, (List.forall_mem_cons.mpr ⟨vkC57_7, (List.forall_mem_cons.mpr ⟨vkC57_8, (List.forall_mem_cons.mpr ⟨vkC57_9, (List.forall_mem_cons.mpr ⟨vkC57_10, (List.forall_mem_cons.mpr ⟨vkC57_11, (List.forall_mem_cons.mpr ⟨vkC57_12, (List.forall_mem_cons.mpr ⟨vkC57_13, (List.forall_mem_cons.mpr ⟨vkC57_14, (List.forall_mem_cons.mpr ⟨vkC57_15, (List.forall_mem_cons.mpr ⟨vkC57_16, (List.forall_mem_cons.mpr ⟨vkC57_17, (List.forall_mem_cons.mpr ⟨vkC57_18, (List.forall_mem_cons.mpr ⟨vkC57_19, (List.forall_mem_cons.mpr ⟨vkC57_20, (List.forall_mem_cons.mpr ⟨vkC57_21, (List.forall_mem_cons.mpr ⟨vkC57_22, (List.forall_mem_cons.mpr ⟨vkC57_23, (List.forall_mem_cons.mpr ⟨vkC57_24, (List.forall_mem_cons.mpr ⟨vkC57_25, (List.forall_mem_cons.mpr ⟨vkC57_26, (List.forall_mem_cons.mpr ⟨vkC57_27, (List.forall_mem_cons.mpr ⟨vkC57_28, (List.forall_mem_cons.mpr ⟨vkC57_29, (List.forall_mem_cons.mpr ⟨vkC57_30, (List.forall_mem_cons.mpr ⟨vkC57_31, (List.forall_mem_cons.mpr ⟨vkC57_32, (List.forall_mem_cons.mpr ⟨vkC57_33, (List.forall_mem_cons.mpr ⟨vkC57_34, (fun _ h => nomatch h)⟩)⟩)⟩)⟩)⟩)⟩)⟩)⟩)⟩)⟩)⟩)⟩)⟩)⟩)⟩)⟩)⟩)⟩)⟩)⟩)⟩)⟩)⟩)⟩)⟩)⟩)⟩)⟩)⟩)⟩)⟩)⟩)⟩)⟩)⟩)
set_option maxRecDepth 1000000 in
theorem vnC58 {l : Launch} (hf : vN l 9 vECF) : vN l 378 vEC58 := vGo (d := 369) (vOK_cons (vnC57 hf) (by decide) vOK_nil) (vYI _) vkC58
set_option maxRecDepth 1000000 in
theorem vnC59 {l : Launch} : vN l 9 vEC59 := vGo (d := 0) vOK_nil (vYI _) vkC59
set_option maxRecDepth 1000000 in
theorem vnC60 {l : Launch} : vN l 9 vEC60 := vGo (d := 0) vOK_nil (vYI _) vkC60
set_option maxRecDepth 1000000 in
theorem vnC61 {l : Launch} : vN l 9 vEC61 := vGo (d := 0) vOK_nil (vYI _) vkC61
set_option maxRecDepth 1000000 in
theorem vnC62 {l : Launch} : vN l 18 vEC62 := vGo (d := 9) (vOK_cons (vnC61) (by decide) vOK_nil) (vYI _) vkC62
set_option maxRecDepth 1000000 in
theorem vnC63 {l : Launch} : vN l 9 vEC63 := vGo (d := 0) vOK_nil (vYI _) vkC63
set_option maxRecDepth 1000000 in
theorem vnC64 {l : Launch} : vN l 18 vEC64 := vGo (d := 9) (vOK_cons (vnC12) (by decide) vOK_nil) (vYI _) vkC64
set_option maxRecDepth 1000000 in
theorem vnC65 {l : Launch} : vN l 9 vEC65 := vGo (d := 0) vOK_nil (vYI _) vkC65
set_option maxRecDepth 1000000 in
theorem vnC66 {l : Launch} : vN l 9 vEC66 := vGo (d := 0) vOK_nil (vYI _) vkC66
set_option maxRecDepth 1000000 in
theorem vnC67 {l : Launch} : vN l 9 vEC67 := vGo (d := 0) vOK_nil (vYI _) vkC67
set_option maxRecDepth 1000000 in
theorem vnC68 {l : Launch} : vN l 9 vEC68 := vGo (d := 0) vOK_nil (vYI _) vkC68
set_option maxRecDepth 1000000 in
theorem vnC69 {l : Launch} : vN l 9 vEC69 := vGo (d := 0) vOK_nil (vYI _) vkC69
set_option maxRecDepth 1000000 in
theorem vnC70 {l : Launch} : vN l 9 vEC70 := vGo (d := 0) vOK_nil (vYI _) vkC70
set_option maxRecDepth 1000000 in
theorem vnC71 {l : Launch} : vN l 9 vEC71 := vGo (d := 0) vOK_nil (vYI _) vkC71
set_option maxRecDepth 1000000 in
theorem vnC72 {l : Launch} : vN l 18 vEC72 := vGo (d := 9) (vOK_cons (vnC65) (by decide) (vOK_cons (vnC66) (by decide) (vOK_cons (vnC67) (by decide) (vOK_cons (vnC68) (by decide) (vOK_cons (vnC69) (by decide) (vOK_cons (vnC70) (by decide) (vOK_cons (vnC71) (by decide) vOK_nil))))))) (vYI _) vkC72
set_option maxRecDepth 1000000 in
theorem vnC73 {l : Launch} : vN l 27 vEC73 := vGo (d := 18) (vOK_cons (vnC72) (by decide) vOK_nil) (vYI _) vkC73
set_option maxRecDepth 1000000 in
theorem vnC74 {l : Launch} : vN l 9 vEC74 := vGo (d := 0) vOK_nil (vYI _) vkC74
set_option maxRecDepth 1000000 in
theorem vnC75 {l : Launch} : vN l 9 vEC75 := vGo (d := 0) vOK_nil (vYI _) vkC75
set_option maxRecDepth 1000000 in
theorem vnC76 {l : Launch} : vN l 18 vEC76 := vGo (d := 9) (vOK_cons (vnC75) (by decide) vOK_nil) (vYI _) vkC76
set_option maxRecDepth 1000000 in
theorem vnC77 {l : Launch} : vN l 9 vEC77 := vGo2 (d := 0) (hd := vHD77) vOK_nil (vYI _) vkC77_e (List.forall_mem_cons.mpr ⟨vkC77_0, (List.forall_mem_cons.mpr ⟨vkC77_1, (List.forall_mem_cons.mpr ⟨vkC77_2, (List.forall_mem_cons.mpr ⟨vkC77_3, (fun _ h => nomatch h)⟩)⟩)⟩)⟩)
set_option maxRecDepth 1000000 in
theorem vnC78 {l : Launch} : vN l 9 vEC78 := vGo (d := 0) vOK_nil (vYI _) vkC78
set_option maxRecDepth 1000000 in
theorem vnC79 {l : Launch} : vN l 9 vEC79 := vGo (d := 0) vOK_nil (vYI _) vkC79
set_option maxRecDepth 1000000 in
theorem vnC80 {l : Launch} : vN l 18 vEC80 := vGo (d := 9) (vOK_cons (vnC78) (by decide) (vOK_cons (vnC79) (by decide) vOK_nil)) (vYI _) vkC80
set_option maxRecDepth 1000000 in
theorem vnC81 {l : Launch} : vN l 27 vEC81 := vGo (d := 18) (vOK_cons (vnC76) (by decide) (vOK_cons (vnC77) (by decide) (vOK_cons (vnC80) (by decide) vOK_nil))) (vYI _) vkC81
set_option maxRecDepth 1000000 in
theorem vnC82 {l : Launch} : vN l 9 vEC82 := vGo (d := 0) vOK_nil (vYI _) vkC82
set_option maxRecDepth 1000000 in
theorem vnC83 {l : Launch} : vN l 9 vEC83 := vGo (d := 0) vOK_nil (vYI _) vkC83
set_option maxRecDepth 1000000 in
theorem vnC84 {l : Launch} : vN l 9 vEC84 := vGo (d := 0) vOK_nil (vYI _) vkC84
set_option maxRecDepth 1000000 in
theorem vnC85 {l : Launch} : vN l 9 vEC85 := vGo (d := 0) vOK_nil (vYI _) vkC85
set_option maxRecDepth 1000000 in
theorem vnC86 {l : Launch} : vN l 9 vEC86 := vGo (d := 0) vOK_nil (vYI _) vkC86
set_option maxRecDepth 1000000 in
theorem vnC87 {l : Launch} : vN l 18 vEC87 := vGo (d := 9) (vOK_cons (vnC86) (by decide) vOK_nil) (vYI _) vkC87
set_option maxRecDepth 1000000 in
theorem vnC88 {l : Launch} : vN l 9 vEC88 := vGo (d := 0) vOK_nil (vYI _) vkC88
set_option maxRecDepth 1000000 in
theorem vnC89 {l : Launch} : vN l 9 vEC89 := vGo (d := 0) vOK_nil (vYI _) vkC89
set_option maxRecDepth 1000000 in
theorem vnC90 {l : Launch} : vN l 9 vEC90 := vGo (d := 0) vOK_nil (vYI _) vkC90
set_option maxRecDepth 1000000 in
theorem vnC91 {l : Launch} : vN l 18 vEC91 := vGo (d := 9) (vOK_cons (vnC90) (by decide) vOK_nil) (vYI _) vkC91
set_option maxRecDepth 1000000 in
theorem vnC92 {l : Launch} : vN l 18 vEC92 := vGo (d := 9) (vOK_cons (vnC90) (by decide) vOK_nil) (vYI _) vkC92
set_option maxRecDepth 1000000 in
theorem vnC93 {l : Launch} : vN l 9 vEC93 := vGo (d := 0) vOK_nil (vYI _) vkC93
set_option maxRecDepth 1000000 in
theorem vnC94 {l : Launch} : vN l 18 vEC94 := vGo (d := 9) (vOK_cons (vnC90) (by decide) vOK_nil) (vYI _) vkC94
set_option maxRecDepth 1000000 in
theorem vnC95 {l : Launch} : vN l 27 vEC95 := vGo (d := 18) (vOK_cons (vnC90) (by decide) (vOK_cons (vnC94) (by decide) vOK_nil)) (vYI _) vkC95
set_option maxRecDepth 1000000 in
theorem vnC96 {l : Launch} : vN l 36 vEC96 := vGo (d := 27) (vOK_cons (vnC95) (by decide) vOK_nil) (vYI _) vkC96
set_option maxRecDepth 1000000 in
theorem vnC97 {l : Launch} : vN l 45 vEC97 := vGo (d := 36) (vOK_cons (vnC91) (by decide) (vOK_cons (vnC92) (by decide) (vOK_cons (vnC93) (by decide) (vOK_cons (vnC96) (by decide) vOK_nil)))) (vYI _) vkC97
set_option maxRecDepth 1000000 in
theorem vnC98 {l : Launch} : vN l 54 vEC98 := vGo (d := 45) (vOK_cons (vnC81) (by decide) (vOK_cons (vnC82) (by decide) (vOK_cons (vnC83) (by decide) (vOK_cons (vnC84) (by decide) (vOK_cons (vnC85) (by decide) (vOK_cons (vnC87) (by decide) (vOK_cons (vnC88) (by decide) (vOK_cons (vnC89) (by decide) (vOK_cons (vnC97) (by decide) vOK_nil))))))))) (vYI _) vkC98
set_option maxRecDepth 1000000 in
theorem vnC99 {l : Launch} : vN l 63 vEC99 := vGo (d := 54) (vOK_cons (vnC72) (by decide) (vOK_cons (vnC74) (by decide) (vOK_cons (vnC98) (by decide) vOK_nil))) (vYI _) vkC99
set_option maxRecDepth 1000000 in
theorem vnC100 {l : Launch} : vN l 27 vEC100 := vGo (d := 18) (vOK_cons (vnC72) (by decide) (vOK_cons (vnC79) (by decide) vOK_nil)) (vYI _) vkC100
set_option maxRecDepth 1000000 in
theorem vnC101 {l : Launch} : vN l 18 vEC101 := vGo (d := 9) (vOK_cons (vnC75) (by decide) vOK_nil) (vYI _) vkC101
set_option maxRecDepth 1000000 in
theorem vnC102 {l : Launch} : vN l 27 vEC102 := vGo (d := 18) (vOK_cons (vnC72) (by decide) (vOK_cons (vnC101) (by decide) vOK_nil)) (vYI _) vkC102
set_option maxRecDepth 1000000 in
theorem vnC103 {l : Launch} : vN l 9 vEC103 := vGo (d := 0) vOK_nil (vYI _) vkC103
set_option maxRecDepth 1000000 in
theorem vnC104 {l : Launch} : vN l 9 vEC104 := vGo (d := 0) vOK_nil (vYI _) vkC104
set_option maxRecDepth 1000000 in
theorem vnC105 {l : Launch} : vN l 9 vEC105 := vGo (d := 0) vOK_nil (vYI _) vkC105
set_option maxRecDepth 1000000 in
theorem vnC106 {l : Launch} : vN l 9 vEC106 := vGo (d := 0) vOK_nil (vYI _) vkC106
set_option maxRecDepth 1000000 in
theorem vnC107 {l : Launch} : vN l 18 vEC107 := vGo (d := 9) (vOK_cons (vnC106) (by decide) vOK_nil) (vYI _) vkC107
set_option maxRecDepth 1000000 in
theorem vnC108 {l : Launch} : vN l 9 vEC108 := vGo (d := 0) vOK_nil (vYI _) vkC108
set_option maxRecDepth 1000000 in
theorem vnC109 {l : Launch} : vN l 27 vEC109 := vGo (d := 18) (vOK_cons (vnC103) (by decide) (vOK_cons (vnC104) (by decide) (vOK_cons (vnC105) (by decide) (vOK_cons (vnC107) (by decide) (vOK_cons (vnC108) (by decide) vOK_nil))))) (vYI _) vkC109
set_option maxRecDepth 1000000 in
theorem vnC110 {l : Launch} : vN l 36 vEC110 := vGo (d := 27) (vOK_cons (vnC72) (by decide) (vOK_cons (vnC109) (by decide) vOK_nil)) (vYI _) vkC110
set_option maxRecDepth 1000000 in
theorem vnC111 {l : Launch} : vN l 36 vEC111 := vGo (d := 27) (vOK_cons (vnC72) (by decide) (vOK_cons (vnC109) (by decide) vOK_nil)) (vYI _) vkC111
set_option maxRecDepth 1000000 in
theorem vnC112 {l : Launch} : vN l 45 vEC112 := vGo (d := 36) (vOK_cons (vnC91) (by decide) (vOK_cons (vnC93) (by decide) (vOK_cons (vnC96) (by decide) vOK_nil))) (vYI _) vkC112
set_option maxRecDepth 1000000 in
theorem vnC113 {l : Launch} : vN l 54 vEC113 := vGo (d := 45) (vOK_cons (vnC112) (by decide) vOK_nil) (vYI _) vkC113
set_option maxRecDepth 1000000 in
theorem vnC114 {l : Launch} : vN l 36 vEC114 := vGo (d := 27) (vOK_cons (vnC71) (by decide) (vOK_cons (vnC81) (by decide) (vOK_cons (vnC82) (by decide) vOK_nil))) (vYI _) vkC114
set_option maxRecDepth 1000000 in
theorem vnC115 {l : Launch} : vN l 45 vEC115 := vGo (d := 36) (vOK_cons (vnC72) (by decide) (vOK_cons (vnC114) (by decide) vOK_nil)) (vYI _) vkC115
set_option maxRecDepth 1000000 in
theorem vnC116 {l : Launch} : vN l 36 vEC116 := vGo (d := 27) (vOK_cons (vnC71) (by decide) (vOK_cons (vnC78) (by decide) (vOK_cons (vnC79) (by decide) (vOK_cons (vnC109) (by decide) vOK_nil)))) (vYI _) vkC116
set_option maxRecDepth 1000000 in
theorem vnC117 {l : Launch} : vN l 45 vEC117 := vGo (d := 36) (vOK_cons (vnC72) (by decide) (vOK_cons (vnC116) (by decide) vOK_nil)) (vYI _) vkC117
set_option maxRecDepth 1000000 in
theorem vnC118 {l : Launch} : vN l 45 vEC118 := vGo (d := 36) (vOK_cons (vnC72) (by decide) (vOK_cons (vnC114) (by decide) (vOK_cons (vnC116) (by decide) vOK_nil))) (vYI _) vkC118
set_option maxRecDepth 1000000 in
theorem vnC119 {l : Launch} : vN l 9 vEC119 := vGo (d := 0) vOK_nil (vYI _) vkC119
set_option maxRecDepth 1000000 in
theorem vnC120 {l : Launch} : vN l 18 vEC120 := vGo (d := 9) (vOK_cons (vnC119) (by decide) vOK_nil) (vYI _) vkC120
set_option maxRecDepth 1000000 in
theorem vnC121 {l : Launch} : vN l 9 vEC121 := vGo (d := 0) vOK_nil (vYI _) vkC121
set_option maxRecDepth 1000000 in
theorem vnC122 {l : Launch} : vN l 18 vEC122 := vGo (d := 9) (vOK_cons (vnC71) (by decide) (vOK_cons (vnC121) (by decide) vOK_nil)) (vYI _) vkC122
set_option maxRecDepth 1000000 in
theorem vnC123 {l : Launch} : vN l 9 vEC123 := vGo (d := 0) vOK_nil (vYI _) vkC123
set_option maxRecDepth 1000000 in
theorem vnC124 {l : Launch} : vN l 18 vEC124 := vGo (d := 9) (vOK_cons (vnC61) (by decide) (vOK_cons (vnC71) (by decide) (vOK_cons (vnC123) (by decide) vOK_nil))) (vYI _) vkC124
set_option maxRecDepth 1000000 in
theorem vnC125 {l : Launch} : vN l 9 vEC125 := vGo (d := 0) vOK_nil (vYI _) vkC125
set_option maxRecDepth 1000000 in
theorem vnC126 {l : Launch} : vN l 63 vEC126 := vGo2 (d := 54) (hd := vHD126) (vOK_cons (vnC98) (by decide) (vOK_cons (vnC122) (by decide) (vOK_cons (vnC124) (by decide) (vOK_cons (vnC125) (by decide) vOK_nil)))) (vYI _) vkC126_e (List.forall_mem_cons.mpr ⟨vkC126_0, (List.forall_mem_cons.mpr ⟨vkC126_1, (List.forall_mem_cons.mpr ⟨vkC126_2, (List.forall_mem_cons.mpr ⟨vkC126_3, (List.forall_mem_cons.mpr ⟨vkC126_4, (fun _ h => nomatch h)⟩)⟩)⟩)⟩)⟩)
set_option maxRecDepth 1000000 in
theorem vnC127 {l : Launch} : vN l 72 vEC127 := vGo (d := 63) (vOK_cons (vnC72) (by decide) (vOK_cons (vnC120) (by decide) (vOK_cons (vnC126) (by decide) vOK_nil))) (vYI _) vkC127
set_option maxRecDepth 1000000 in
theorem vnC128 {l : Launch} : vN l 9 vEC128 := vGo (d := 0) vOK_nil (vYI _) vkC128
set_option maxRecDepth 1000000 in
theorem vnC129 {l : Launch} : vN l 18 vEC129 := vGo (d := 9) (vOK_cons (vnC123) (by decide) vOK_nil) (vYI _) vkC129
set_option maxRecDepth 1000000 in
theorem vnC130 {l : Launch} : vN l 18 vEC130 := vGo (d := 9) (vOK_cons (vnC61) (by decide) (vOK_cons (vnC123) (by decide) vOK_nil)) (vYI _) vkC130
set_option maxRecDepth 1000000 in
theorem vnC131 {l : Launch} : vN l 27 vEC131 := vGo (d := 18) (vOK_cons (vnC72) (by decide) (vOK_cons (vnC129) (by decide) (vOK_cons (vnC130) (by decide) vOK_nil))) (vYI _) vkC131
set_option maxRecDepth 1000000 in
theorem vnC132 {l : Launch} : vN l 9 vEC132 := vGo (d := 0) vOK_nil (vYI _) vkC132
