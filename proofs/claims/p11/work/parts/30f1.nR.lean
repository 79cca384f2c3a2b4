/-! zv: the contracts of side R -/
set_option maxRecDepth 1000000 in
theorem vnR0 {l : Launch} : vN l 9 vER0 := vGo (d := 0) vOK_nil (vYI _) vkR0
set_option maxRecDepth 1000000 in
theorem vnR1 {l : Launch} : vN l 9 vER1 := vGo (d := 0) vOK_nil (vYI _) vkR1
set_option maxRecDepth 1000000 in
theorem vnR2 {l : Launch} : vN l 9 vER2 := vGo (d := 0) vOK_nil (vYI _) vkR2
set_option maxRecDepth 1000000 in
theorem vnR4 {l : Launch} : vN l 9 vER4 := vGo (d := 0) vOK_nil (vYI _) vkR4
set_option maxRecDepth 1000000 in
theorem vnR5 {l : Launch} : vN l 9 vER5 := vGo (d := 0) vOK_nil (vYI _) vkR5
set_option maxRecDepth 1000000 in
theorem vnR6 {l : Launch} : vN l 9 vER6 := vGo (d := 0) vOK_nil (vYI _) vkR6
set_option maxRecDepth 1000000 in
theorem vnR7 {l : Launch} : vN l 9 vER7 := vGo (d := 0) vOK_nil (vYI _) vkR7
set_option maxRecDepth 1000000 in
theorem vnR8 {l : Launch} : vN l 9 vER8 := vGo (d := 0) vOK_nil (vYI _) vkR8
set_option maxRecDepth 1000000 in
theorem vnR9 {l : Launch} : vN l 9 vER9 := vGo (d := 0) vOK_nil (vYI _) vkR9
set_option maxRecDepth 1000000 in
theorem vnR10 {l : Launch} : vN l 9 vER10 := vGo (d := 0) vOK_nil (vYI _) vkR10
set_option maxRecDepth 1000000 in
theorem vnR11 {l : Launch} : vN l 9 vER11 := vGo (d := 0) vOK_nil (vYI _) vkR11
set_option maxRecDepth 1000000 in
theorem vnR12 {l : Launch} : vN l 9 vER12 := vGo (d := 0) vOK_nil (vYI _) vkR12
set_option maxRecDepth 1000000 in
theorem vnR13 {l : Launch} : vN l 18 vER13 := vGo (d := 9) (vOK_cons (vnR12) (by decide) vOK_nil) (vYI _) vkR13
set_option maxRecDepth 1000000 in
theorem vnR14 {l : Launch} : vN l 27 vER14 := vGo (d := 18) (vOK_cons (vnR13) (by decide) vOK_nil) (vYI _) vkR14
set_option maxRecDepth 1000000 in
theorem vnR15 {l : Launch} : vN l 36 vER15 := vGo (d := 27) (vOK_cons (vnR14) (by decide) vOK_nil) (vYI _) vkR15
set_option maxRecDepth 1000000 in
theorem vnR16 {l : Launch} : vN l 9 vER16 := vGo (d := 0) vOK_nil (vYI _) vkR16
set_option maxRecDepth 1000000 in
theorem vnR17 {l : Launch} : vN l 9 vER17 := vGo (d := 0) vOK_nil (vYI _) vkR17
set_option maxRecDepth 1000000 in
theorem vnR18 {l : Launch} : vN l 9 vER18 := vGo (d := 0) vOK_nil (vYI _) vkR18
set_option maxRecDepth 1000000 in
theorem vnR19 {l : Launch} : vN l 9 vER19 := vGo (d := 0) vOK_nil (vYI _) vkR19
set_option maxRecDepth 1000000 in
theorem vnR20 {l : Launch} : vN l 9 vER20 := vGo (d := 0) vOK_nil (vYI _) vkR20
set_option maxRecDepth 1000000 in
theorem vnR21 {l : Launch} : vN l 9 vER21 := vGo (d := 0) vOK_nil (vYI _) vkR21
set_option maxRecDepth 1000000 in
theorem vnR22 {l : Launch} : vN l 9 vER22 := vGo (d := 0) vOK_nil (vYI _) vkR22
set_option maxRecDepth 1000000 in
theorem vnRp {l : Launch} : vN l 9 vERp := vGo (d := 0) vOK_nil (vYI _) vkRp
set_option maxRecDepth 1000000 in
theorem vnR23 {l : Launch} : vN l 18 vER23 := vGo2 (d := 9) (hd := vHR23) (vOK_cons (vnRp) (by decide) (vOK_cons (vERm_ok) (by decide) vOK_nil)) (vYI _) vkR23_e (List.forall_mem_cons.mpr ⟨vkR23_0, (List.forall_mem_cons.mpr ⟨vkR23_1, (List.forall_mem_cons.mpr ⟨vkR23_2, (fun _ h => nomatch h)⟩)⟩)⟩)
set_option maxRecDepth 1000000 in
theorem vnR24 {l : Launch} : vN l 27 vER24 := vGo (d := 18) (vOK_cons (vnR21) (by decide) (vOK_cons (vnR22) (by decide) (vOK_cons (vnR23) (by decide) vOK_nil))) (vYI _) vkR24
set_option maxRecDepth 1000000 in
theorem vnR25 {l : Launch} : vN l 9 vER25 := vGo (d := 0) vOK_nil (vYI _) vkR25
set_option maxRecDepth 1000000 in
theorem vnR26 {l : Launch} : vN l 9 vER26 := vGo (d := 0) vOK_nil (vYI _) vkR26
set_option maxRecDepth 1000000 in
theorem vnR27 {l : Launch} : vN l 9 vER27 := vGo (d := 0) vOK_nil (vYI _) vkR27
set_option maxRecDepth 1000000 in
theorem vnR28 {l : Launch} : vN l 9 vER28 := vGo (d := 0) vOK_nil (vYI _) vkR28
set_option maxRecDepth 1000000 in
theorem vnR29 {l : Launch} : vN l 9 vER29 := vGo (d := 0) vOK_nil (vYI _) vkR29
set_option maxRecDepth 1000000 in
theorem vnR30 {l : Launch} : vN l 9 vER30 := vGo (d := 0) vOK_nil (vYI _) vkR30
set_option maxRecDepth 1000000 in
theorem vnR31 {l : Launch} : vN l 9 vER31 := vGo (d := 0) vOK_nil (vYI _) vkR31
set_option maxRecDepth 1000000 in
theorem vnR32 {l : Launch} : vN l 9 vER32 := vGo (d := 0) vOK_nil (vYI _) vkR32
