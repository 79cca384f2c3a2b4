/-! zv: contracts, one out of others -/
abbrev vN (l : Launch) (d : Nat) (en : zw_En) : Prop := zw_EN l vwCl zx_Ts zx_nw zx_sts (zw_YK zx_Yt (zv_K en) (zv_fl en)) zx_aos zx_PRt zx_rmt d en.1 en.2.1 en.2.2.1 en.2.2.2.1 en.2.2.2.2.1
abbrev vOK (l : Launch) (d : Nat) (E : List zw_En) : Prop := zw_EOK l vwCl zx_Ts zx_nw zx_sts zx_Yt zx_aos zx_PRt zx_rmt d E
section VUS
variable {l : Launch} {d d0 : Nat} {en : zw_En} {E : List zw_En} {js : List Nat} {hd : zw_Hd}
theorem vN_up (h : vN l d en) (hd : d ≤ d0) : vN l d0 en := zw_EN_mono h hd
theorem vOK_nil : vOK l d [] := fun _ h => nomatch h
theorem vOK_cons (h : vN l d0 en) (hd : d0 ≤ d) (hr : vOK l d E) : vOK l d (en :: E) := fun e he => by
  rcases List.mem_cons.mp he with q | q
  · subst q; exact ⟨d0, hd, h⟩
  · exact hr e q
theorem vYI (K : List Nat) : zx_YI (zw_YK zx_Yt K false) := fun _ _ _ _ => trivial
theorem vYIt {K : List Nat} (h : [24, 22, 23, 20].all (fun i => zx_wk0.zx_hs K i) = true) : zx_YI (zw_YK zx_Yt K true) := by
  intro ws ws' hk hp
  obtain ⟨a1, a2, a3, a4, c1, c2, c3, c4, n1, n2, n3, n4, fS, fF, fT, fN, h1, h2, h3, h4, h5⟩ := hp
  have hm : ∀ i ∈ [24, 22, 23, 20], i ∈ K := fun i hi => zx_hs_yes (List.all_eq_true.mp h i hi)
  exact ⟨a1, a2, a3, a4, c1, c2, c3, c4, n1, n2, n3, n4, fS, fF, fT, fN, hk.2 _ (hm _ (by decide)) _ h1, hk.2 _ (hm _ (by decide)) _ h2, hk.2 _ (hm _ (by decide)) _ h3, hk.2 _ (hm _ (by decide)) _ h4, h5⟩
theorem vGo (hE : vOK l d E) (hI : zx_YI (zw_YK zx_Yt (zv_K en) (zv_fl en))) (h : zv_chk zx_Yt zx_dt zx_rmt zx_Pt js E en hd = true) : vN l (d + 9) en :=
  zv_chk_ok zx_PKt zx_CKt zx_arrs zx_Ts_good zx_nw_kind hE hI h
theorem vGo2 (hE : vOK l d E) (hI : zx_YI (zw_YK zx_Yt (zv_K en) (zv_fl en))) (h : zv_ce zx_Yt zx_dt zx_rmt zx_Pt js E en hd = true) (hh : ∀ t ∈ hd, zv_ch zx_Yt zx_dt zx_rmt zx_Pt js E en hd t = true) : vN l (d + 9) en :=
  zv_chk_of zx_PKt zx_CKt zx_arrs zx_Ts_good zx_nw_kind hE hI h hh
end VUS
/-! bounds that stand often -/
abbrev zb_0_0 : zx_b := ((0, 0), none)
abbrev zb_0_1 : zx_b := ((0, 1), none)
abbrev zb_0_100 : zx_b := ((0, 100), none)
abbrev zb_0_120 : zx_b := ((0, 120), none)
abbrev zb_0_168 : zx_b := ((0, 168), none)
abbrev zb_0_18 : zx_b := ((0, 18), none)
abbrev zb_0_19 : zx_b := ((0, 19), none)
abbrev zb_0_20 : zx_b := ((0, 20), none)
abbrev zb_0_200 : zx_b := ((0, 200), none)
abbrev zb_0_23 : zx_b := ((0, 23), none)
abbrev zb_0_24 : zx_b := ((0, 24), none)
abbrev zb_0_29 : zx_b := ((0, 29), none)
abbrev zb_0_299 : zx_b := ((0, 299), none)
abbrev zb_0_3 : zx_b := ((0, 3), none)
abbrev zb_0_339 : zx_b := ((0, 339), none)
abbrev zb_0_340 : zx_b := ((0, 340), none)
abbrev zb_0_39 : zx_b := ((0, 39), none)
abbrev zb_0_4 : zx_b := ((0, 4), none)
abbrev zb_0_40 : zx_b := ((0, 40), none)
abbrev zb_0_400 : zx_b := ((0, 400), none)
abbrev zb_0_4200 : zx_b := ((0, 4200), none)
abbrev zb_0_5 : zx_b := ((0, 5), none)
abbrev zb_0_5148 : zx_b := ((0, 5148), none)
abbrev zb_0_5200 : zx_b := ((0, 5200), none)
abbrev zb_0_54 : zx_b := ((0, 54), none)
abbrev zb_0_55 : zx_b := ((0, 55), none)
abbrev zb_0_56 : zx_b := ((0, 56), none)
abbrev zb_0_57 : zx_b := ((0, 57), none)
abbrev zb_0_59 : zx_b := ((0, 59), none)
abbrev zb_0_6 : zx_b := ((0, 6), none)
abbrev zb_0_60 : zx_b := ((0, 60), none)
abbrev zb_0_600 : zx_b := ((0, 600), none)
abbrev zb_0_63 : zx_b := ((0, 63), none)
abbrev zb_0_64 : zx_b := ((0, 64), none)
abbrev zb_0_65 : zx_b := ((0, 65), none)
abbrev zb_0_66 : zx_b := ((0, 66), none)
abbrev zb_0_7 : zx_b := ((0, 7), none)
abbrev zb_0_78 : zx_b := ((0, 78), none)
abbrev zb_0_79 : zx_b := ((0, 79), none)
abbrev zb_0_8 : zx_b := ((0, 8), none)
abbrev zb_0_9 : zx_b := ((0, 9), none)
abbrev zb_0_N : zx_b := ((0, 2147483647), none)
abbrev zb_1_1 : zx_b := ((1, 1), none)
abbrev zb_1_20 : zx_b := ((1, 20), none)
abbrev zb_1_29 : zx_b := ((1, 29), none)
abbrev zb_1_3 : zx_b := ((1, 3), none)
abbrev zb_1_30 : zx_b := ((1, 30), none)
abbrev zb_1_340 : zx_b := ((1, 340), none)
abbrev zb_1_4 : zx_b := ((1, 4), none)
abbrev zb_1_40 : zx_b := ((1, 40), none)
abbrev zb_1_400 : zx_b := ((1, 400), none)
abbrev zb_1_6 : zx_b := ((1, 6), none)
abbrev zb_1_60 : zx_b := ((1, 60), none)
abbrev zb_1_66 : zx_b := ((1, 66), none)
abbrev zb_1_9 : zx_b := ((1, 9), none)
abbrev zb_2_29 : zx_b := ((2, 29), none)
abbrev zb_3_29 : zx_b := ((3, 29), none)
abbrev zb_3_3 : zx_b := ((3, 3), none)
abbrev zb_4_4 : zx_b := ((4, 4), none)
abbrev zb_5_5 : zx_b := ((5, 5), none)
abbrev zb_6_6 : zx_b := ((6, 6), none)
abbrev zb_8_36 : zx_b := ((8, 36), none)
abbrev zb_m1_19 : zx_b := (((-1), 19), none)
abbrev zb_m1_29 : zx_b := (((-1), 29), none)
abbrev zb_m1_59 : zx_b := (((-1), 59), none)
abbrev zb_m1_600 : zx_b := (((-1), 600), none)
abbrev zb_mN_29 : zx_b := (((-2147483648), 29), none)
abbrev zb_mN_N : zx_b := (((-2147483648), 2147483647), none)
