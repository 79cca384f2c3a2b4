/-! zgL: the contracts that the law's loop runs with; what is by hand is given -/
set_option maxRecDepth 1000000 in
theorem vLEok {l : Launch} (hf : vN l 9 vECF) : vOK l 378 vLE := (vOK_cons (vnC0) (by decide) (vOK_cons (vnC1) (by decide) (vOK_cons (vnC2) (by decide) (vOK_cons (vnC4) (by decide) (vOK_cons (vnC6) (by decide) (vOK_cons (vnC7) (by decide) (vOK_cons (vnC58 hf) (by decide) (vOK_cons (vnC59) (by decide) (vOK_cons (vnC60) (by decide) (vOK_cons (vnC62) (by decide) (vOK_cons (vnC63) (by decide) (vOK_cons (vnC73) (by decide) (vOK_cons (vnC99) (by decide) (vOK_cons (vnC100) (by decide) (vOK_cons (vnC102) (by decide) (vOK_cons (vnC110) (by decide) (vOK_cons (vnC111) (by decide) (vOK_cons (vnC113) (by decide) (vOK_cons (vnC115) (by decide) (vOK_cons (vnC117) (by decide) (vOK_cons (vnC118) (by decide) (vOK_cons (vnC127) (by decide) (vOK_cons (vnC128) (by decide) (vOK_cons (vnC131) (by decide) (vOK_cons (vnC132) (by decide) (vOK_cons (vnR0) (by decide) (vOK_cons (vnR1) (by decide) (vOK_cons (vnR2) (by decide) (vOK_cons (vnR5) (by decide) (vOK_cons (vnR6) (by decide) (vOK_cons (vnR7) (by decide) (vOK_cons (vnR8) (by decide) (vOK_cons (vnR9) (by decide) (vOK_cons (vnR10) (by decide) (vOK_cons (vnR15) (by decide) (vOK_cons (vnR34) (by decide) (vOK_cons (vnR36) (by decide) (vOK_cons (vnR37) (by decide) (vOK_cons (vnR40) (by decide) (vOK_cons (vnR43) (by decide) (vOK_cons (vnR49) (by decide) (vOK_cons (vnR50) (by decide) vOK_nil))))))))))))))))))))))))))))))))))))))))))
theorem vLf_ok {l : Launch} (hf : vN l 9 vECF) (d : Nat) (hd : 378 ≤ d) : zx_FOK l vwCl zx_Ts zx_nw zx_sts (zw_YK zx_Yt vLK false) zx_aos zx_PRt zx_rmt (d + 8) vLf :=
  zv_run_ok (Y := zw_YK zx_Yt vLK false) d (zv_PK_hd zx_PKt) zx_CKt zx_arrs zx_Ts_good zx_nw_kind (vYI vLK) (fun d' j _ => zw_mm_ok (Y := zx_Yt) (vLEok hf) (d := d + d' + 1) (by omega) vLK false j) 8
theorem vL_fee {l : Launch} (hf : vN l 60 vERF) : zg_EN l 378 (zg_nf vER38) (fun _ ws => zx_PF ws) (fun _ _ _ _ => True) := zg_EN_mono (zg_ofP (vnR38 hf)) (by decide)
theorem vL_pay {l : Launch} (hf : vN l 60 vERF) : zg_EN l 378 (zg_nf vER39) (fun _ ws => zx_PF ws) (fun _ _ _ _ => True) := zg_EN_mono (zg_ofP (vnR39 hf)) (by decide)
theorem vL_harm {l : Launch} (hf : vN l 60 vERF) : zg_EN l 378 (zg_nf vER44) (fun _ ws => zx_PF ws) (fun _ _ _ _ => True) := zg_EN_mono (zg_ofP (vnR44 hf)) (by decide)
theorem vL_instead {l : Launch} (hf : vN l 60 vERF) : zg_EN l 378 (zg_nf vER45) (fun _ ws => zx_PF ws) (fun _ _ _ _ => True) := zg_EN_mono (zg_ofP (vnR45 hf)) (by decide)
/-- as zgP, where the number of nights is known by its bounds -/
noncomputable def zgPw (o : zx_Ou) : Bool := match zg_fe o.2.1 98, zg_fe o.2.1 99, zg_fe o.2.1 6, zg_fe o.2.1 100 with
  | some lm, some lh, some t, some lt => (match zv_rng o.1 lm with
    | some u => zg_xb o.1 (zx_sub t lt) 0 10000 && ((zgPr o.2.1 68 && zgPr o.2.1 2) && (List.range u.2.toNat).all (fun k => zgP2 o.1 o.2.1 lh k (zg_rw o.2.1 68)))
    | none => false)
  | _, _, _, _ => false
theorem zgPw_ok {b : Nat} {ex : List Nat} {ρ : List Int} {tys : List (ClassId × FieldType)} {ws : va_W} {o : zx_Ou} (hp : zgPw o = true) (hG : zx_ok ρ o.1) (hh : zx_F2 (fun c q => zx_RC vwCl b ex ρ (zx_as ws) tys c q.2) o.2.1 ws) : zgR1e ws := by
  unfold zgPw at hp
  split at hp
  case h_2 => cases hp
  rename_i lm lh t lt e1 e2 e3 e4
  split at hp
  case h_2 => cases hp
  rename_i u hu
  simp only [Bool.and_eq_true] at hp
  obtain ⟨h2, ⟨h3, h4⟩, h5⟩ := hp
  obtain ⟨lmv, f1, g1⟩ := zg_fe_ok hh e1
  obtain ⟨lhv, f2, g2⟩ := zg_fe_ok hh e2
  obtain ⟨tv, f3, g3⟩ := zg_fe_ok hh e3
  obtain ⟨ltv, f4, g4⟩ := zg_fe_ok hh e4
  obtain ⟨fW, r1⟩ := zgPr_ok hh h3
  obtain ⟨fH, r2⟩ := zgPr_ok hh h4
  have hb := zg_xb_ok hG h2 (zx_sub_ev g3 g4)
  have hl := zv_rng_ok hG hu g1
  refine ⟨fW, fH, lmv, lhv, tv, ltv, r1, r2, f1, f2, f3, f4, by omega, fun _ k hk => ?_⟩
  exact zgP2_ok hG hh r1 r2 g2 (fun _ h => h) (List.all_eq_true.mp h5 k (List.mem_range.mpr (by omega)))
set_option maxRecDepth 1000000 in
theorem vL_layP : vER48.2.2.2.2.1.all zgPw = true := by decide +kernel
theorem vL_lay {l : Launch} : zg_EN l 378 (zg_lw 24 vER48) (fun _ _ => True) (fun _ _ _ ws => zgR1e ws) := zg_EN_mono (zg_EN_lw (zg_ofO vnR48 rfl vL_layP (fun _ _ _ _ _ _ hp hG hh => zgPw_ok hp hG hh))) (by decide)
