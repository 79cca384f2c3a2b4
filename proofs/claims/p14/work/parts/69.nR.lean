/-! zv: the contracts of side R, from 33 on -/
set_option maxRecDepth 1000000 in
theorem vnRw {l : Launch} : vN l 18 vERw := vGo (d := 9) (vOK_cons (vnR16) (by decide) (vOK_cons (vnR17) (by decide) (vOK_cons (vnR18) (by decide) (vOK_cons (vnR19) (by decide) (vOK_cons (vnR20) (by decide) (vOK_cons (vnR30) (by decide) (vOK_cons (vnR31) (by decide) (vOK_cons (vnR32) (by decide) vOK_nil)))))))) (vYI _) vkRw
set_option maxRecDepth 1000000 in
theorem vnRc {l : Launch} : vN l 18 vERc := vGo (d := 9) (vOK_cons (vnR25) (by decide) (vOK_cons (vnR26) (by decide) (vOK_cons (vnR27) (by decide) (vOK_cons (vnR28) (by decide) (vOK_cons (vnR29) (by decide) vOK_nil))))) (vYI _) vkRc
set_option maxRecDepth 1000000 in
theorem vnR33 {l : Launch} : vN l 36 vER33 := vGo (d := 27) (vOK_cons (vnRc) (by decide) (vOK_cons (vnRw) (by decide) (vOK_cons (vnR24) (by decide) vOK_nil))) (vYI _) vkR33
set_option maxRecDepth 1000000 in
theorem vnR34 {l : Launch} : vN l 45 vER34 := vGo (d := 36) (vOK_cons (vnR14) (by decide) (vOK_cons (vnR33) (by decide) vOK_nil)) (vYI _) vkR34
set_option maxRecDepth 1000000 in
theorem vnR35 {l : Launch} : vN l 9 vER35 := vGo (d := 0) vOK_nil (vYI _) vkR35
set_option maxRecDepth 1000000 in
theorem vnR36 {l : Launch} : vN l 36 vER36 := vGo (d := 27) (vOK_cons (vnR14) (by decide) (vOK_cons (vnR16) (by decide) vOK_nil)) (vYI _) vkR36
set_option maxRecDepth 1000000 in
theorem vnR37 {l : Launch} : vN l 36 vER37 := vGo (d := 27) (vOK_cons (vnR14) (by decide) (vOK_cons (vnR17) (by decide) vOK_nil)) (vYI _) vkR37
set_option maxRecDepth 1000000 in
theorem vnR38 {l : Launch} (hf : vN l 60 vERF) : vN l 69 vER38 := vGo (d := 60) (vOK_cons (vnR14) (by decide) (vOK_cons hf (by decide) vOK_nil)) (vYIt (by decide +kernel)) vkR38
set_option maxRecDepth 1000000 in
theorem vnR39 {l : Launch} (hf : vN l 60 vERF) : vN l 69 vER39 := vGo (d := 60) (vOK_cons (vnR14) (by decide) (vOK_cons hf (by decide) vOK_nil)) (vYIt (by decide +kernel)) vkR39
set_option maxRecDepth 1000000 in
theorem vnR40 {l : Launch} : vN l 27 vER40 := vGo (d := 18) (vOK_cons (vnR21) (by decide) (vOK_cons (vnR22) (by decide) (vOK_cons (vnR23) (by decide) vOK_nil))) (vYI _) vkR40
set_option maxRecDepth 1000000 in
theorem vnR41 {l : Launch} : vN l 9 vER41 := vGo (d := 0) vOK_nil (vYI _) vkR41
set_option maxRecDepth 1000000 in
theorem vnR42 {l : Launch} : vN l 27 vER42 := vGo (d := 18) (vOK_cons (vnRw) (by decide) vOK_nil) (vYI _) vkR42
set_option maxRecDepth 1000000 in
theorem vnRy {l : Launch} : vN l 36 vERy := vGo (d := 27) (vOK_cons (vnR12) (by decide) (vOK_cons (vnR14) (by decide) (vOK_cons (vnR41) (by decide) (vOK_cons (vnR42) (by decide) vOK_nil)))) (vYI _) vkRy
set_option maxRecDepth 1000000 in
theorem vnR43 {l : Launch} : vN l 45 vER43 := vGo (d := 36) (vOK_cons (vnRy) (by decide) vOK_nil) (vYI _) vkR43
set_option maxRecDepth 1000000 in
theorem vnRh {l : Launch} (hf : vN l 60 vERF) : vN l 69 vERh := vGo2 (d := 60) (hd := vHDh) (vOK_cons (vnR12) (by decide) (vOK_cons (vnR14) (by decide) (vOK_cons (vnR16) (by decide) (vOK_cons hf (by decide) vOK_nil)))) (vYIt (by decide +kernel)) vkRh_e (List.forall_mem_cons.mpr ⟨vkRh_0, (List.forall_mem_cons.mpr ⟨vkRh_1, (List.forall_mem_cons.mpr ⟨vkRh_2, (fun _ h => nomatch h)⟩)⟩)⟩)
set_option maxRecDepth 1000000 in
theorem vnR44 {l : Launch} (hf : vN l 60 vERF) : vN l 78 vER44 := vGo (d := 69) (vOK_cons (vnRh hf) (by decide) vOK_nil) (vYIt (by decide +kernel)) vkR44
set_option maxRecDepth 1000000 in
theorem vnR45 {l : Launch} (hf : vN l 60 vERF) : vN l 78 vER45 := vGo (d := 69) (vOK_cons (vnRh hf) (by decide) (vOK_cons (vnRy) (by decide) vOK_nil)) (vYIt (by decide +kernel)) vkR45
set_option maxRecDepth 1000000 in
theorem vnR46 {l : Launch} : vN l 9 vER46 := vGo (d := 0) vOK_nil (vYI _) vkR46
set_option maxRecDepth 1000000 in
theorem vnR47 {l : Launch} : vN l 45 vER47 := vGo (d := 36) (vOK_cons (vnR13) (by decide) (vOK_cons (vnR33) (by decide) vOK_nil)) (vYI _) vkR47
set_option maxRecDepth 1000000 in
theorem vnR48 {l : Launch} : vN l 54 vER48 := vGo2 (d := 45) (hd := vHD48) (vOK_cons (vnR14) (by decide) (vOK_cons (vnR33) (by decide) (vOK_cons (vnR41) (by decide) (vOK_cons (vnR46) (by decide) (vOK_cons (vnR47) (by decide) vOK_nil))))) (vYI _) vkR48_e (List.forall_mem_cons.mpr ⟨vkR48_0, (List.forall_mem_cons.mpr ⟨vkR48_1, (List.forall_mem_cons.mpr ⟨vkR48_2, (List.forall_mem_cons.mpr ⟨vkR48_3, (List.forall_mem_cons.mpr ⟨vkR48_4, (List.forall_mem_cons.mpr ⟨vkR48_5, (List.forall_mem_cons.mpr ⟨vkR48_6, (List.forall_mem_cons.mpr ⟨vkR48_7, (List.forall_mem_cons.mpr ⟨vkR48_8, (List.forall_mem_cons.mpr ⟨vkR48_9, (List.forall_mem_cons.mpr ⟨vkR48_10, (List.forall_mem_cons.mpr ⟨vkR48_11, (List.forall_mem_cons.mpr ⟨vkR48_12, (List.forall_mem_cons.mpr ⟨vkR48_13, (List.forall_mem_cons.mpr ⟨vkR48_14, (List.forall_mem_cons.mpr ⟨vkR48_15, (List.forall_mem_cons.mpr ⟨vkR48_16, (List.forall_mem_cons.mpr ⟨vkR48_17, (List.forall_mem_cons.mpr ⟨vkR48_18, (List.forall_mem_cons.mpr ⟨vkR48_19, (List.forall_mem_cons.mpr ⟨vkR48_20, (List.forall_mem_cons.mpr ⟨vkR48_21, (List.forall_mem_cons.mpr ⟨vkR48_22, (List.forall_mem_cons.mpr ⟨vkR48_23, (List.forall_mem_cons.mpr ⟨vkR48_24, (List.forall_mem_cons.mpr ⟨vkR48_25, (List.forall_mem_cons.mpr ⟨vkR48_26, (List.forall_mem_cons.mpr ⟨vkR48_27, (List.forall_mem_cons.mpr ⟨vkR48_28, (List.forall_mem_cons.mpr ⟨vkR48_29, (List.forall_mem_cons.mpr ⟨vkR48_30, (List.forall_mem_cons.mpr ⟨vkR48_31, (List.forall_mem_cons.mpr ⟨vkR48_32, (List.forall_mem_cons.mpr ⟨vkR48_33, (List.forall_mem_cons.mpr ⟨vkR48_34, (List.forall_mem_cons.mpr ⟨vkR48_35, (List.forall_mem_cons.mpr ⟨vkR48_36, (List.forall_mem_cons.mpr ⟨vkR48_37, (List.forall_mem_cons.mpr ⟨vkR48_38, (List.forall_mem_cons.mpr ⟨vkR48_39, (List.forall_mem_cons.mpr ⟨vkR48_40, (List.forall_mem_cons.mpr ⟨vkR48_41, (List.forall_mem_cons.mpr ⟨vkR48_42, (List.forall_mem_cons.mpr ⟨vkR48_43, (List.forall_mem_cons.mpr ⟨vkR48_44, (List.forall_mem_cons.mpr ⟨vkR48_45, (List.forall_mem_cons.mpr ⟨vkR48_46, (List.forall_mem_cons.mpr ⟨vkR48_47, (fun _ h => nomatch h)⟩)⟩)⟩)⟩)⟩)⟩)⟩)⟩)⟩)⟩)⟩)⟩)⟩)⟩)⟩)⟩)⟩)⟩)⟩)⟩)⟩)⟩)⟩)⟩)⟩)⟩)⟩)⟩)⟩)⟩)⟩)⟩)⟩)⟩)⟩)⟩)⟩)⟩)⟩)⟩)⟩)⟩)⟩)⟩)⟩)⟩)⟩)⟩)
set_option maxRecDepth 1000000 in
theorem vnR49 {l : Launch} : vN l 9 vER49 := vGo (d := 0) vOK_nil (vYI _) vkR49
set_option maxRecDepth 1000000 in
theorem vnR50 {l : Launch} : vN l 9 vER50 := vGo (d := 0) vOK_nil (vYI _) vkR50
