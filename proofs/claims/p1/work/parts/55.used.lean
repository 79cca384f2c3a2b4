/-! zx: the kept runs, used -/
theorem zx_fk_ok {l : Launch} : zx_FOK l vwCl zx_Ts zx_nw zx_sts zx_Yt zx_aos zx_PRt zx_rmt 4 zx_fk := by
  unfold zx_fk
  rw [zy_run_eq]
  exact zx_run_ok zx_PKt zx_CKt zx_arrs zx_Ts_good zx_nw_kind (by intro d j hP y cc maxL ret rm _ _ G h as os hz; cases hz) 4
theorem zx_kp_ok {l : Launch} {en : zx_En} (h : zx_kp en = true) : ∃ (d : Nat) (f : zx_Fn), d ≤ 4 ∧ zx_FJ l vwCl zx_Ts zx_nw zx_sts zx_Yt zx_aos zx_PRt zx_rmt d f en.1 ∧ f en.1 [] en.2.1 en.2.2.1 = some [([], en.2.2.2.1, en.2.2.2.2)] ∧ en.2.2.2.1.length = en.2.1.length := by
  unfold zx_kp at h
  rw [Bool.and_eq_true] at h
  exact ⟨4, zx_fk, Nat.le_refl _, zx_fk_ok en.1, zx_eqO_ok h.1, Nat.eq_of_beq_eq_true h.2⟩
def zx_E : List zx_En := [zx_en0, zx_en1, zx_en2, zx_en3, zx_en4, zx_en5, zx_en6, zx_en7, zx_en8, zx_en9, zx_en10, zx_en11, zx_en12, zx_en13, zx_en14, zx_en15, zx_en16, zx_en17, zx_en18, zx_en19, zx_en20, zx_en21, zx_en22, zx_en23, zx_en24, zx_en25, zx_en26, zx_en27, zx_en28, zx_en29, zx_en30, zx_en31, zx_en32, zx_en33, zx_en34, zx_en35, zx_en36]
theorem zx_E_ok {l : Launch} : zx_EOK l vwCl zx_Ts zx_nw zx_sts zx_Yt zx_aos zx_PRt zx_rmt 4 zx_E := by
  intro en hen
  simp only [zx_E, List.mem_cons, List.not_mem_nil, or_false] at hen
  rcases hen with rfl | rfl | rfl | rfl | rfl | rfl | rfl | rfl | rfl | rfl | rfl | rfl | rfl | rfl | rfl | rfl | rfl | rfl | rfl | rfl | rfl | rfl | rfl | rfl | rfl | rfl | rfl | rfl | rfl | rfl | rfl | rfl | rfl | rfl | rfl | rfl | rfl
  · exact zx_kp_ok zx_kp0
  · exact zx_kp_ok zx_kp1
  · exact zx_kp_ok zx_kp2
  · exact zx_kp_ok zx_kp3
  · exact zx_kp_ok zx_kp4
  · exact zx_kp_ok zx_kp5
  · exact zx_kp_ok zx_kp6
  · exact zx_kp_ok zx_kp7
  · exact zx_kp_ok zx_kp8
  · exact zx_kp_ok zx_kp9
  · exact zx_kp_ok zx_kp10
  · exact zx_kp_ok zx_kp11
  · exact zx_kp_ok zx_kp12
  · exact zx_kp_ok zx_kp13
  · exact zx_kp_ok zx_kp14
  · exact zx_kp_ok zx_kp15
  · exact zx_kp_ok zx_kp16
  · exact zx_kp_ok zx_kp17
  · exact zx_kp_ok zx_kp18
  · exact zx_kp_ok zx_kp19
  · exact zx_kp_ok zx_kp20
  · exact zx_kp_ok zx_kp21
  · exact zx_kp_ok zx_kp22
  · exact zx_kp_ok zx_kp23
  · exact zx_kp_ok zx_kp24
  · exact zx_kp_ok zx_kp25
  · exact zx_kp_ok zx_kp26
  · exact zx_kp_ok zx_kp27
  · exact zx_kp_ok zx_kp28
  · exact zx_kp_ok zx_kp29
  · exact zx_kp_ok zx_kp30
  · exact zx_kp_ok zx_kp31
  · exact zx_kp_ok zx_kp32
  · exact zx_kp_ok zx_kp33
  · exact zx_kp_ok zx_kp34
  · exact zx_kp_ok zx_kp35
  · exact zx_kp_ok zx_kp36
noncomputable def zx_fm : zx_Fn := zy_rm zx_Yt zx_dt zx_rmt zx_Pt (zx_mm zx_E) 20000 8
theorem zx_fm_ok {l : Launch} : zx_FOK l vwCl zx_Ts zx_nw zx_sts zx_Yt zx_aos zx_PRt zx_rmt 12 zx_fm := by
  unfold zx_fm
  rw [zy_rm_eq]
  exact zx_rm_ok (d0 := 4) zx_PKt zx_CKt zx_arrs zx_Ts_good zx_nw_kind (fun d j hd => zx_mm_ok zx_E_ok hd j) 8
set_option maxRecDepth 1000000 in
theorem zx_o878 : zx_lB zx_fm 400 (zx_qA 878 14) = true := by decide +kernel
set_option maxRecDepth 1000000 in
theorem zx_o1179 : zx_lB zx_fm 400 (zx_qA 1179 20) = true := by decide +kernel
