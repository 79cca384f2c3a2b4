/-! zv: contracts, one out of others -/
abbrev vN (l : Launch) (d : Nat) (en : zw_En) : Prop := zw_EN l vwCl zx_Ts zx_nw zx_sts (zw_YK zx_Yt (zv_K en) (zv_fl en)) zx_aos zx_PRt zx_rmt d en.1 en.2.1 en.2.2.1 en.2.2.2.1 en.2.2.2.2.1
abbrev vOK (l : Launch) (d : Nat) (E : List zw_En) : Prop := zw_EOK l vwCl zx_Ts zx_nw zx_sts zx_Yt zx_aos zx_PRt zx_rmt d E
section VUS
variable {l : Launch} {d d0 : Nat} {en : zw_En} {E : List zw_En} {js : List Nat} {hd : zw_Hd}
theorem vN_up (h : vN l d en) (hd : d ≤ d0) : vN l d0 en := zw_EN_mono h hd
theorem vOK_nil : vOK l d [] := fun _ h => nomatch h
theorem vOK_cons (h : vN l d0 en) (hd : d0 ≤ d) (hr : vOK l d E) : vOK l d (en :: E) := fun e he => by
  rcases List.mem_cons.mp he with q | q
  · subst q; exact ⟨d0, hd, h⟩
  · exact hr e q
theorem vYI (K : List Nat) : zx_YI (zw_YK zx_Yt K false) := fun _ _ _ _ => trivial
theorem vYIt {K : List Nat} (h : [24, 22, 23, 20].all (fun i => zx_wk0.zx_hs K i) = true) : zx_YI (zw_YK zx_Yt K true) := by
  intro ws ws' hk hp
  obtain ⟨a1, a2, a3, a4, c1, c2, c3, c4, n1, n2, n3, n4, fS, fF, fT, fN, h1, h2, h3, h4, h5⟩ := hp
  have hm : ∀ i ∈ [24, 22, 23, 20], i ∈ K := fun i hi => zx_hs_yes (List.all_eq_true.mp h i hi)
  exact ⟨a1, a2, a3, a4, c1, c2, c3, c4, n1, n2, n3, n4, fS, fF, fT, fN, hk.2 _ (hm _ (by decide)) _ h1, hk.2 _ (hm _ (by decide)) _ h2, hk.2 _ (hm _ (by decide)) _ h3, hk.2 _ (hm _ (by decide)) _ h4, h5⟩
theorem vGo (hE : vOK l d E) (hI : zx_YI (zw_YK zx_Yt (zv_K en) (zv_fl en))) (h : zv_chk zx_Yt zx_dt zx_rmt zx_Pt js E en hd = true) : vN l (d + 9) en :=
  zv_chk_ok zx_PKt zx_CKt zx_arrs zx_Ts_good zx_nw_kind hE hI h
theorem vGo2 (hE : vOK l d E) (hI : zx_YI (zw_YK zx_Yt (zv_K en) (zv_fl en))) (h : zv_ce zx_Yt zx_dt zx_rmt zx_Pt js E en hd = true) (hh : ∀ t ∈ hd, zv_ch zx_Yt zx_dt zx_rmt zx_Pt js E en hd t = true) : vN l (d + 9) en :=
  zv_chk_of zx_PKt zx_CKt zx_arrs zx_Ts_good zx_nw_kind hE hI h hh
end VUS
