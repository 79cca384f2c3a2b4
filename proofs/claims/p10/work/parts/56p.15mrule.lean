noncomputable section
/-! zj: the reference's rules -/
theorem zj_isIn_W {l : Launch} {M : zj_M} {ws0 : va_W} {x lo hi : Int32} : zj_W l 1 141 (zj_MX M [.int x, .int lo, .int hi] ws0) (fun _ _ _ v ws' => ws0 = ws' ∧ ((v = some (.int 1) ∧ (lo.toInt ≤ x.toInt ∧ x.toInt ≤ hi.toInt)) ∨ (v = some (.int 0) ∧ ¬ (lo.toInt ≤ x.toInt ∧ x.toInt ≤ hi.toInt)))) := by
  refine zj_enterO (md := zx_m141) (ow := zx_oc13) rfl rfl rfl ?_ ?_
  · rintro ex tys av ws ⟨-, rfl, -⟩
    exact Nat.le_of_ble_eq_true rfl
  intro p e R s mi args below meth c Q D A ex nL own cc tys ws av hX C hnL hown KRi KRv KRa
  subst hnL
  obtain ⟨h2, h3, h4⟩ := hX
  subst h2
  subst h3
  subst h4
  refine zj_iload_n C (List.mem_of_getElem? (i := 0) rfl) rfl rfl rfl ?_
  refine zj_iload_n C (List.mem_of_getElem? (i := 1) rfl) rfl rfl rfl ?_
  refine zj_icmp_lt (tgt := 14) C (List.mem_of_getElem? (i := 2) rfl) rfl (by decide) (fun hb => ?_) (fun hb => ?_)
  · have hb := Int32.lt_iff_toInt_lt.mp hb
    refine zj_iconst (v := 0) C (List.mem_of_getElem? (i := 8) rfl) rfl (by decide) ?_
    exact KRi 15 _ _ _ (List.mem_of_getElem? (i := 9) rfl) (by decide) (Or.inr ⟨rfl, Or.inl rfl⟩) rfl ⟨rfl, Or.inr ⟨rfl, fun h => by omega⟩⟩
  have hb : ¬ x.toInt < lo.toInt := fun h => hb (Int32.lt_iff_toInt_lt.mpr h)
  refine zj_iload_n C (List.mem_of_getElem? (i := 3) rfl) rfl rfl rfl ?_
  refine zj_iload_n C (List.mem_of_getElem? (i := 4) rfl) rfl rfl rfl ?_
  refine zj_icmp_gt (tgt := 14) C (List.mem_of_getElem? (i := 5) rfl) rfl (by decide) (fun hb2 => ?_) (fun hb2 => ?_)
  · have hb2 := Int32.lt_iff_toInt_lt.mp hb2
    refine zj_iconst (v := 0) C (List.mem_of_getElem? (i := 8) rfl) rfl (by decide) ?_
    exact KRi 15 _ _ _ (List.mem_of_getElem? (i := 9) rfl) (by decide) (Or.inr ⟨rfl, Or.inl rfl⟩) rfl ⟨rfl, Or.inr ⟨rfl, fun h => by omega⟩⟩
  have hb2 : ¬ hi.toInt < x.toInt := fun h => hb2 (Int32.lt_iff_toInt_lt.mpr h)
  refine zj_iconst (v := 1) C (List.mem_of_getElem? (i := 6) rfl) rfl (by decide) ?_
  refine zj_goto (tgt := 15) C (List.mem_of_getElem? (i := 7) rfl) (by decide) ?_
  exact KRi 15 _ _ _ (List.mem_of_getElem? (i := 9) rfl) (by decide) (Or.inr ⟨rfl, Or.inr rfl⟩) rfl ⟨rfl, Or.inl ⟨rfl, by omega, by omega⟩⟩
set_option maxHeartbeats 4000000 in
theorem zj_once_W {l : Launch} {M : zj_M} {ws0 : va_W} {lo hi : Int32} {k : Nat} {tk : zj_T} {d1 l1 f1 o1 st : Nat} {c0 : zj_C} {n1 : Nat} {x1 : Int} {k1 : Nat} (hB : zj_Mok M) (h0 : zj_mr false M ws0 tk d1 l1 f1 o1 st [] 0) (r0 : zj_R (zj_gM M) M.t c0 (0, tk, n1, d1, l1, f1, o1, [], x1, k1)) (hk : k < 4) (htk : tk.1 = k) (hlo : lo.toInt = zj_lo k) (hhi : hi.toInt = zj_hi k) : zj_W l 3 156 (zj_MX M [.ref M.aM, .int (nI k), .int lo, .int hi] ws0) (zj_Zm false M c0 (fun tk' d' l' f' o' st' P' => zj_cnt d' + l' + f' = zj_cnt d1 + l1 + f1 + 1 ∧ ∃ x' k', zj_R (zj_gM M) M.t c0 (9, tk', n1, d', l', f', o', [], x', k'))) := by
  refine zj_enterO (md := zx_m156) (ow := zx_oc13) rfl rfl rfl ?_ ?_
  · rintro ex tys av ws ⟨-, rfl, -⟩
    exact Nat.le_of_ble_eq_true rfl
  intro p e R s mi args below meth c Q D A ex nL own cc tys ws av hX C hnL hown KRi KRv KRa
  subst hnL
  obtain ⟨h2, h3, h4⟩ := hX
  subst h2
  subst h3
  subst h4
  have h0b := h0
  obtain ⟨⟨tok, sp, nu, fa, pm, wd, fv, fe, pf, hM, ht, hv6, he9, hpk⟩, hbd, hbe, hbf⟩ := h0
  have hbit := zj_bit d1 hbe.1 k hk
  refine zj_aload_n C (List.mem_of_getElem? (i := 0) rfl) rfl rfl rfl ?_
  refine zj_getM C (List.mem_of_getElem? (i := 1) rfl) rfl rfl rfl hM rfl ?_
  refine zj_iload_n C (List.mem_of_getElem? (i := 2) rfl) rfl rfl rfl ?_
  refine zj_ishr (v := _) C (List.mem_of_getElem? (i := 3) rfl) rfl rfl ?_
  refine zj_iconst (v := 1) C (List.mem_of_getElem? (i := 4) rfl) rfl (by decide) ?_
  refine zj_iand (v := _) C (List.mem_of_getElem? (i := 5) rfl) rfl rfl ?_
  refine zj_iconst (v := 1) C (List.mem_of_getElem? (i := 6) rfl) rfl (by decide) ?_
  refine zj_icmp_ne (tgt := 18) C (List.mem_of_getElem? (i := 7) rfl) rfl (by decide) (fun hb => ?_) (fun hb => ?_)
  rotate_left
  · have hb := hbit.mp hb
    refine zj_aload_n C (List.mem_of_getElem? (i := 8) rfl) rfl rfl rfl ?_
    refine zj_iconst (v := 3) C (List.mem_of_getElem? (i := 9) rfl) rfl (by decide) ?_
    have hO := hM
    obtain ⟨⟨fsO, hO0, -⟩, -⟩ := hO
    refine zj_callV (As := [.int (nI 3)]) (rest := []) C (List.mem_of_getElem? (i := 10) rfl) rfl rfl rfl (by decide) (zj_W_mono (zj_badM_W (k := 3) h0b) (by decide)) rfl rfl hO0 rfl (Nat.le_of_ble_eq_true rfl) rfl ⟨rfl, rfl, rfl⟩ (fun v wf hwfA hwfZ => ?_)
    obtain ⟨hv, h9⟩ := hwfZ
    subst hv
    exact KRi 17 _ _ _ (List.mem_of_getElem? (i := 11) rfl) (by decide) (Or.inr ⟨rfl, Or.inl rfl⟩) hwfA (Or.inr ⟨rfl, tk, 3, h9, zj_R_tr r0 (zj_R_st (by rw [zj_st, if_neg (by omega), if_pos (by omega), if_pos (by rw [htk]; exact hb)]))⟩)
  have hb : d1.testBit k = false := by
    cases hq : d1.testBit k with
    | false => rfl
    | true => exact absurd (hbit.mpr hq) hb
  obtain ⟨hbv, hb16⟩ := zj_bit2 d1 hbe.1 k hk hb
  have hpo := zj_cnt_s d1 hbe.1 k hk hb
  refine zj_aload_n C (List.mem_of_getElem? (i := 12) rfl) rfl rfl rfl ?_
  refine zj_aload_n C (List.mem_of_getElem? (i := 13) rfl) rfl rfl rfl ?_
  refine zj_getM C (List.mem_of_getElem? (i := 14) rfl) rfl rfl rfl hM rfl ?_
  refine zj_iconst (v := 1) C (List.mem_of_getElem? (i := 15) rfl) rfl (by decide) ?_
  refine zj_iload_n C (List.mem_of_getElem? (i := 16) rfl) rfl rfl rfl ?_
  refine zj_ishl (v := _) C (List.mem_of_getElem? (i := 17) rfl) rfl rfl ?_
  refine zj_ior (v := (nI (d1 + 2 ^ k))) C (List.mem_of_getElem? (i := 18) rfl) rfl hbv ?_
  refine zj_putM (L' := (zj_ML M (nI M.t) (nI tk.2.2.2) tok (nI tk.2.2.1) sp nu wd 0 fa (nI (d1 + 2 ^ k)) (nI o1) (nI st) pm)) C (List.mem_of_getElem? (i := 19) rfl) rfl rfl rfl hM (Nat.le_of_ble_eq_true rfl) (by decide) rfl (zj_fit_i rfl _) (by unfold zj_ML; repeat first | exact zj_sub_nil | refine zj_sub_cons rfl ?_) (fun w2 hw2M hw2A => ?_)
  have h2 : zj_mr false M w2 tk (d1 + 2 ^ k) l1 f1 o1 st [] 0 := ⟨⟨tok, sp, nu, fa, pm, wd, fv, fe, pf, hw2M, ht, hv6, he9, trivial⟩, hbd, ⟨hb16, hbe.2⟩, hbf⟩
  have r1 := zj_R_tr r0 (zj_R_st (c' := (1, (zj_nm M tk), n1, d1, l1, f1, o1, [], x1, k)) (by rw [zj_st, if_neg (by omega), if_pos (by omega), if_neg (by rw [htk, hb]; decide), htk]; rfl))
  refine zj_aload_n C (List.mem_of_getElem? (i := 20) rfl) rfl rfl rfl ?_
  have hO := hw2M
  obtain ⟨⟨fsO, hO0, -⟩, -⟩ := hO
  refine zj_callV (As := []) (rest := []) C (List.mem_of_getElem? (i := 21) rfl) rfl rfl rfl (by decide) (zj_W_mono (zj_next_m hB h2) (by decide)) rfl rfl hO0 rfl (Nat.le_of_ble_eq_true rfl) rfl ⟨rfl, rfl, rfl⟩ (fun v w3 hw3A hw3Z => ?_)
  obtain ⟨hv, h3⟩ := hw3Z
  subst hv
  generalize zj_nm M tk = tk3 at h3 r1
  have h3b := h3
  obtain ⟨⟨tok3, sp3, nu3, fa3, pm3, wd3, fv3, fe3, pf3, hM3, ht3, hv63, he93, hpk3⟩, hbd3, hbe3, hbf3⟩ := h3
  refine zj_aload_n C (List.mem_of_getElem? (i := 22) rfl) rfl rfl rfl ?_
  refine zj_getM C (List.mem_of_getElem? (i := 23) rfl) rfl rfl rfl hM3 rfl ?_
  refine zj_iconst (v := 2) C (List.mem_of_getElem? (i := 24) rfl) rfl (by decide) ?_
  refine zj_icmp_eq (tgt := 48) C (List.mem_of_getElem? (i := 25) rfl) rfl (by decide) (fun hn => ?_) (fun hn => ?_)
  rotate_left
  · have hn : tk3.1 ≠ 27 := fun h => hn (ht3.2.2.1.mpr h)
    refine zj_aload_n C (List.mem_of_getElem? (i := 26) rfl) rfl rfl rfl ?_
    refine zj_iconst (v := 1) C (List.mem_of_getElem? (i := 27) rfl) rfl (by decide) ?_
    have hO := hM3
    obtain ⟨⟨fsO, hO0, -⟩, -⟩ := hO
    refine zj_callV (As := [.int (nI 1)]) (rest := []) C (List.mem_of_getElem? (i := 28) rfl) rfl rfl rfl (by decide) (zj_W_mono (zj_badM_W (k := 1) h3b) (by decide)) rfl rfl hO0 rfl (Nat.le_of_ble_eq_true rfl) rfl ⟨rfl, rfl, rfl⟩ (fun v wn hwnA hwnZ => ?_)
    obtain ⟨hv, h9⟩ := hwnZ
    subst hv
    exact KRi 47 _ _ _ (List.mem_of_getElem? (i := 29) rfl) (by decide) (Or.inr ⟨rfl, Or.inl rfl⟩) (hwnA.trans (hw3A.trans hw2A)) (Or.inr ⟨rfl, tk3, 1, h9, zj_R_tr r1 (zj_R_st (by rw [zj_st, if_neg hn]))⟩)
  have hnum3 : tk3.1 = 27 := ht3.2.2.1.mp hn
  have hval3 := ht3.2.2.2.2 hnum3
  refine zj_aload_n C (List.mem_of_getElem? (i := 30) rfl) rfl rfl rfl ?_
  refine zj_getM C (List.mem_of_getElem? (i := 31) rfl) rfl rfl rfl hM3 rfl ?_
  refine zj_iload_n C (List.mem_of_getElem? (i := 32) rfl) rfl rfl rfl ?_
  refine zj_iload_n C (List.mem_of_getElem? (i := 33) rfl) rfl rfl rfl ?_
  refine zj_callS (As := [.int nu3, .int lo, .int hi]) (rest := []) C (List.mem_of_getElem? (i := 34) rfl) rfl rfl (Or.inl rfl) (zj_W_mono (zj_isIn_W (M := M) (ws0 := w3) (x := nu3) (lo := lo) (hi := hi)) (by decide)) rfl rfl (Nat.le_of_ble_eq_true rfl) rfl ⟨rfl, rfl, rfl⟩ (fun v w4 hw4A hw4Z => ?_)
  obtain ⟨hw4e, hv⟩ := hw4Z
  subst hw4e
  rw [hval3, hlo, hhi] at hv
  rcases hv with ⟨hv, hc⟩ | ⟨hv, hc⟩
  rotate_left
  · subst hv
    refine zj_if_ne (tgt := 66) C (List.mem_of_getElem? (i := 35) rfl) rfl (by decide) (fun hd => ?_) (fun hd => ?_)
    · exact absurd rfl hd
    refine zj_aload_n C (List.mem_of_getElem? (i := 36) rfl) rfl rfl rfl ?_
    refine zj_iconst (v := 2) C (List.mem_of_getElem? (i := 37) rfl) rfl (by decide) ?_
    have hO := hM3
    obtain ⟨⟨fsO, hO0, -⟩, -⟩ := hO
    refine zj_callV (As := [.int (nI 2)]) (rest := []) C (List.mem_of_getElem? (i := 38) rfl) rfl rfl rfl (by decide) (zj_W_mono (zj_badM_W (k := 2) h3b) (by decide)) rfl rfl hO0 rfl (Nat.le_of_ble_eq_true rfl) rfl ⟨rfl, rfl, rfl⟩ (fun v wf hwfA hwfZ => ?_)
    obtain ⟨hv, h9⟩ := hwfZ
    subst hv
    exact KRi 65 _ _ _ (List.mem_of_getElem? (i := 39) rfl) (by decide) (Or.inr ⟨rfl, Or.inl rfl⟩) (hwfA.trans (hw3A.trans hw2A)) (Or.inr ⟨rfl, tk3, 2, h9, zj_R_tr r1 (zj_R_st (by rw [zj_st, if_pos hnum3, if_neg hc]))⟩)
  subst hv
  refine zj_if_ne (tgt := 66) C (List.mem_of_getElem? (i := 35) rfl) rfl (by decide) (fun hd => ?_) (fun hd => ?_)
  rotate_left
  · exact absurd hd (by decide)
  have r2 := zj_R_tr r1 (zj_R_st (c' := (9, (zj_nm M tk3), n1, (d1 + 2 ^ k), l1, f1, o1, [], x1, k)) (by rw [zj_st, if_pos hnum3, if_pos hc]; rfl))
  refine zj_aload_n C (List.mem_of_getElem? (i := 40) rfl) rfl rfl rfl ?_
  refine zj_getM C (List.mem_of_getElem? (i := 41) rfl) rfl rfl rfl hM3 rfl ?_
  refine zj_bipush (v := 80) C (List.mem_of_getElem? (i := 42) rfl) rfl (by decide) ?_
  refine zj_iload_n C (List.mem_of_getElem? (i := 43) rfl) rfl rfl rfl ?_
  refine zj_iadd (v := (nI (80 + k))) C (List.mem_of_getElem? (i := 44) rfl) rfl (nI_add 80 k) ?_
  refine zj_aload_n C (List.mem_of_getElem? (i := 45) rfl) rfl rfl rfl ?_
  refine zj_getM C (List.mem_of_getElem? (i := 46) rfl) rfl rfl rfl hM3 rfl ?_
  refine zj_iasM (k := 25) (pl := 234) (N := 84) C (List.mem_of_getElem? (i := 47) rfl) rfl (by decide) hM3 (vp_in_nI (by omega) (by decide)) (fun w5 hw5M hw5A => ?_)
  have h5 : zj_mr false M w5 tk3 (d1 + 2 ^ k) l1 f1 o1 st [] 0 := ⟨⟨tok3, sp3, nu3, fa3, pm3, wd3, fv3, fe3, pf3, hw5M, ht3, hv63, he93, trivial⟩, hbd3, hbe3, hbf3⟩
  refine zj_aload_n C (List.mem_of_getElem? (i := 48) rfl) rfl rfl rfl ?_
  have hO := hw5M
  obtain ⟨⟨fsO, hO0, -⟩, -⟩ := hO
  refine zj_callV (As := []) (rest := []) C (List.mem_of_getElem? (i := 49) rfl) rfl rfl rfl (by decide) (zj_W_mono (zj_next_m hB h5) (by decide)) rfl rfl hO0 rfl (Nat.le_of_ble_eq_true rfl) rfl ⟨rfl, rfl, rfl⟩ (fun v w6 hw6A hw6Z => ?_)
  obtain ⟨hv, h6⟩ := hw6Z
  subst hv
  generalize zj_nm M tk3 = tk6 at h6 r2
  refine zj_iconst (v := 1) C (List.mem_of_getElem? (i := 50) rfl) rfl (by decide) ?_
  exact KRi 84 _ _ _ (List.mem_of_getElem? (i := 51) rfl) (by decide) (Or.inr ⟨rfl, Or.inr rfl⟩) (hw6A.trans (hw5A.trans (hw3A.trans hw2A))) (Or.inl ⟨rfl, tk6, _, _, _, _, _, _, h6, by omega, _, _, r2⟩)
set_option maxHeartbeats 4000000 in
theorem zj_leaveM_W {l : Launch} {M : zj_M} {ws0 : va_W} {tk : zj_T} {d1 l1 f1 o1 st : Nat} {c0 : zj_C} {n1 : Nat} {x1 : Int} {k1 : Nat} (hB : zj_Mok M) (h0 : zj_mr false M ws0 tk d1 l1 f1 o1 st [] 0) (r0 : zj_R (zj_gM M) M.t c0 (0, tk, n1, d1, l1, f1, o1, [], x1, k1)) (htk : tk.1 = 4) : zj_W l 3 158 (zj_MX M [.ref M.aM] ws0) (zj_Zm false M c0 (fun tk' d' l' f' o' st' P' => zj_cnt d' + l' + f' = zj_cnt d1 + l1 + f1 + 1 ∧ ∃ x' k', zj_R (zj_gM M) M.t c0 (9, tk', n1, d', l', f', o', [], x', k'))) := by
  refine zj_enterO (md := zx_m158) (ow := zx_oc13) rfl rfl rfl ?_ ?_
  · rintro ex tys av ws ⟨-, rfl, -⟩
    exact Nat.le_of_ble_eq_true rfl
  intro p e R s mi args below meth c Q D A ex nL own cc tys ws av hX C hnL hown KRi KRv KRa
  subst hnL
  obtain ⟨h2, h3, h4⟩ := hX
  subst h2
  subst h3
  subst h4
  have h0b := h0
  obtain ⟨⟨tok, sp, nu, fa, pm, wd, fv, fe, pf, hM, ht, hv6, he9, hpk⟩, hbd, hbe, hbf⟩ := h0
  refine zj_aload_n C (List.mem_of_getElem? (i := 0) rfl) rfl rfl rfl ?_
  refine zj_getM C (List.mem_of_getElem? (i := 1) rfl) rfl rfl rfl hM rfl ?_
  refine zj_bipush (v := 20) C (List.mem_of_getElem? (i := 2) rfl) rfl (by decide) ?_
  refine zj_iald (v := (nI l1)) C (List.mem_of_getElem? (i := 3) rfl) rfl hM.2.2.1 (vp_in_nI (n := 20) (by decide) (by decide)) hv6 ?_
  refine zj_bipush (v := 6) C (List.mem_of_getElem? (i := 4) rfl) rfl (by decide) ?_
  refine zj_icmp_ne (tgt := 18) C (List.mem_of_getElem? (i := 5) rfl) rfl (by decide) (fun hb => ?_) (fun hb => ?_)
  rotate_left
  · have hb : l1 = 6 := zj_nI_eq (by omega) (by decide) hb
    refine zj_aload_n C (List.mem_of_getElem? (i := 6) rfl) rfl rfl rfl ?_
    refine zj_iconst (v := 3) C (List.mem_of_getElem? (i := 7) rfl) rfl (by decide) ?_
    have hO := hM
    obtain ⟨⟨fsO, hO0, -⟩, -⟩ := hO
    refine zj_callV (As := [.int (nI 3)]) (rest := []) C (List.mem_of_getElem? (i := 8) rfl) rfl rfl rfl (by decide) (zj_W_mono (zj_badM_W (k := 3) h0b) (by decide)) rfl rfl hO0 rfl (Nat.le_of_ble_eq_true rfl) rfl ⟨rfl, rfl, rfl⟩ (fun v wf hwfA hwfZ => ?_)
    obtain ⟨hv, h9⟩ := hwfZ
    subst hv
    exact KRi 17 _ _ _ (List.mem_of_getElem? (i := 9) rfl) (by decide) (Or.inr ⟨rfl, Or.inl rfl⟩) hwfA (Or.inr ⟨rfl, tk, 3, h9, zj_R_tr r0 (zj_R_st (by rw [zj_st, if_neg (by omega), if_neg (by omega), if_pos htk, if_pos hb]))⟩)
  have hb : l1 ≠ 6 := fun h => hb (by rw [h]; rfl)
  have r1 := zj_R_tr r0 (zj_R_st (c' := (2, (zj_nm M tk), n1, d1, l1, f1, o1, [], x1, k1)) (by rw [zj_st, if_neg (by omega), if_neg (by omega), if_pos htk, if_neg hb]; rfl))
  refine zj_aload_n C (List.mem_of_getElem? (i := 10) rfl) rfl rfl rfl ?_
  have hO := hM
  obtain ⟨⟨fsO, hO0, -⟩, -⟩ := hO
  refine zj_callV (As := []) (rest := []) C (List.mem_of_getElem? (i := 11) rfl) rfl rfl rfl (by decide) (zj_W_mono (zj_next_m hB h0b) (by decide)) rfl rfl hO0 rfl (Nat.le_of_ble_eq_true rfl) rfl ⟨rfl, rfl, rfl⟩ (fun v w3 hw3A hw3Z => ?_)
  obtain ⟨hv, h3⟩ := hw3Z
  subst hv
  generalize zj_nm M tk = tk3 at h3 r1
  have h3b := h3
  obtain ⟨⟨tok3, sp3, nu3, fa3, pm3, wd3, fv3, fe3, pf3, hM3, ht3, hv63, he93, hpk3⟩, hbd3, hbe3, hbf3⟩ := h3
  refine zj_aload_n C (List.mem_of_getElem? (i := 12) rfl) rfl rfl rfl ?_
  refine zj_getM C (List.mem_of_getElem? (i := 13) rfl) rfl rfl rfl hM3 rfl ?_
  refine zj_iconst (v := 2) C (List.mem_of_getElem? (i := 14) rfl) rfl (by decide) ?_
  refine zj_icmp_eq (tgt := 36) C (List.mem_of_getElem? (i := 15) rfl) rfl (by decide) (fun hn => ?_) (fun hn => ?_)
  rotate_left
  · have hn : tk3.1 ≠ 27 := fun h => hn (ht3.2.2.1.mpr h)
    refine zj_aload_n C (List.mem_of_getElem? (i := 16) rfl) rfl rfl rfl ?_
    refine zj_iconst (v := 1) C (List.mem_of_getElem? (i := 17) rfl) rfl (by decide) ?_
    have hO := hM3
    obtain ⟨⟨fsO, hO0, -⟩, -⟩ := hO
    refine zj_callV (As := [.int (nI 1)]) (rest := []) C (List.mem_of_getElem? (i := 18) rfl) rfl rfl rfl (by decide) (zj_W_mono (zj_badM_W (k := 1) h3b) (by decide)) rfl rfl hO0 rfl (Nat.le_of_ble_eq_true rfl) rfl ⟨rfl, rfl, rfl⟩ (fun v wn hwnA hwnZ => ?_)
    obtain ⟨hv, h9⟩ := hwnZ
    subst hv
    exact KRi 35 _ _ _ (List.mem_of_getElem? (i := 19) rfl) (by decide) (Or.inr ⟨rfl, Or.inl rfl⟩) (hwnA.trans hw3A) (Or.inr ⟨rfl, tk3, 1, h9, zj_R_tr r1 (zj_R_st (by rw [zj_st, if_neg hn]))⟩)
  have hnum3 : tk3.1 = 27 := ht3.2.2.1.mp hn
  have hval3 := ht3.2.2.2.2 hnum3
  have hnn := hbd3.2.2.2 hnum3
  refine zj_aload_n C (List.mem_of_getElem? (i := 20) rfl) rfl rfl rfl ?_
  refine zj_getM C (List.mem_of_getElem? (i := 21) rfl) rfl rfl rfl hM3 rfl ?_
  refine zj_bipush (v := 29) C (List.mem_of_getElem? (i := 22) rfl) rfl (by decide) ?_
  refine zj_icmp_le (tgt := 51) C (List.mem_of_getElem? (i := 23) rfl) rfl (by decide) (fun h29 => ?_) (fun h29 => ?_)
  rotate_left
  · have h29 : ¬ tk3.2.1 ≤ 29 := fun h => h29 (Int32.le_iff_toInt_le.mpr (by rw [hval3]; exact h))
    refine zj_aload_n C (List.mem_of_getElem? (i := 24) rfl) rfl rfl rfl ?_
    refine zj_iconst (v := 2) C (List.mem_of_getElem? (i := 25) rfl) rfl (by decide) ?_
    have hO := hM3
    obtain ⟨⟨fsO, hO0, -⟩, -⟩ := hO
    refine zj_callV (As := [.int (nI 2)]) (rest := []) C (List.mem_of_getElem? (i := 26) rfl) rfl rfl rfl (by decide) (zj_W_mono (zj_badM_W (k := 2) h3b) (by decide)) rfl rfl hO0 rfl (Nat.le_of_ble_eq_true rfl) rfl ⟨rfl, rfl, rfl⟩ (fun v wf hwfA hwfZ => ?_)
    obtain ⟨hv, h9⟩ := hwfZ
    subst hv
    exact KRi 50 _ _ _ (List.mem_of_getElem? (i := 27) rfl) (by decide) (Or.inr ⟨rfl, Or.inl rfl⟩) (hwfA.trans hw3A) (Or.inr ⟨rfl, tk3, 2, h9, zj_R_tr r1 (zj_R_st (by rw [zj_st, if_pos hnum3, if_neg (fun h => h29 h.2)]))⟩)
  have h29 : tk3.2.1 ≤ 29 := by
    have h1 := Int32.le_iff_toInt_le.mp h29
    rw [hval3] at h1
    exact h1
  have r2 := zj_R_tr r1 (zj_R_st (c' := (3, (zj_nm M tk3), n1, d1, l1, f1, o1, [], tk3.2.1, k1)) (by rw [zj_st, if_pos hnum3, if_pos ⟨hnn, h29⟩]; rfl))
  refine zj_aload_n C (List.mem_of_getElem? (i := 28) rfl) rfl rfl rfl ?_
  refine zj_getM C (List.mem_of_getElem? (i := 29) rfl) rfl rfl rfl hM3 rfl ?_
  refine zj_istore_n C (List.mem_of_getElem? (i := 30) rfl) rfl rfl (by decide) rfl ?_
  refine zj_aload_n C (List.mem_of_getElem? (i := 31) rfl) rfl rfl rfl ?_
  have hO := hM3
  obtain ⟨⟨fsO, hO0, -⟩, -⟩ := hO
  refine zj_callV (As := []) (rest := []) C (List.mem_of_getElem? (i := 32) rfl) rfl rfl rfl (by decide) (zj_W_mono (zj_next_m hB h3b) (by decide)) rfl rfl hO0 rfl (Nat.le_of_ble_eq_true rfl) rfl ⟨rfl, rfl, rfl⟩ (fun v w4 hw4A hw4Z => ?_)
  obtain ⟨hv, h4⟩ := hw4Z
  subst hv
  generalize zj_nm M tk3 = tk4 at h4 r2
  have h4b := h4
  obtain ⟨⟨tok4, sp4, nu4, fa4, pm4, wd4, fv4, fe4, pf4, hM4, ht4, hv64, he94, hpk4⟩, hbd4, hbe4, hbf4⟩ := h4
  refine zj_aload_n C (List.mem_of_getElem? (i := 33) rfl) rfl rfl rfl ?_
  refine zj_ldc2 (v := zj_wc 5) C (List.mem_of_getElem? (i := 34) rfl) rfl (zj_long hown (k := 5) (ix := 354) (by decide)) ?_
  have hO := hM4
  obtain ⟨⟨fsO, hO0, -⟩, -⟩ := hO
  refine zj_callV (As := [.long (zj_wc 5)]) (rest := []) C (List.mem_of_getElem? (i := 35) rfl) rfl rfl rfl (by decide) (zj_W_mono (zj_isWord_W (k := 5) h4b (by decide)) (by decide)) rfl rfl hO0 rfl (Nat.le_of_ble_eq_true rfl) rfl ⟨rfl, rfl, rfl⟩ (fun v w5 hw5A hw5Z => ?_)
  obtain ⟨hw, hv⟩ := hw5Z
  subst hw
  rcases hv with ⟨hv, hc5⟩ | ⟨hv, hc5⟩
  rotate_left
  · subst hv
    refine zj_if_ne (tgt := 76) C (List.mem_of_getElem? (i := 36) rfl) rfl (by decide) (fun hd => ?_) (fun hd => ?_)
    · exact absurd rfl hd
    refine zj_aload_n C (List.mem_of_getElem? (i := 37) rfl) rfl rfl rfl ?_
    refine zj_iconst (v := 1) C (List.mem_of_getElem? (i := 38) rfl) rfl (by decide) ?_
    have hO := hM4
    obtain ⟨⟨fsO, hO0, -⟩, -⟩ := hO
    refine zj_callV (As := [.int (nI 1)]) (rest := []) C (List.mem_of_getElem? (i := 39) rfl) rfl rfl rfl (by decide) (zj_W_mono (zj_badM_W (k := 1) h4b) (by decide)) rfl rfl hO0 rfl (Nat.le_of_ble_eq_true rfl) rfl ⟨rfl, rfl, rfl⟩ (fun v wf hwfA hwfZ => ?_)
    obtain ⟨hv, h9⟩ := hwfZ
    subst hv
    exact KRi 75 _ _ _ (List.mem_of_getElem? (i := 40) rfl) (by decide) (Or.inr ⟨rfl, Or.inl rfl⟩) (hwfA.trans (hw4A.trans hw3A)) (Or.inr ⟨rfl, tk4, 1, h9, zj_R_tr r2 (zj_R_st (by rw [zj_st, if_neg hc5]))⟩)
  subst hv
  refine zj_if_ne (tgt := 76) C (List.mem_of_getElem? (i := 36) rfl) rfl (by decide) (fun hd => ?_) (fun hd => ?_)
  rotate_left
  · exact absurd hd (by decide)
  have r3 := zj_R_tr r2 (zj_R_st (c' := (4, (zj_nm M tk4), n1, d1, l1, f1, o1, [], tk3.2.1, k1)) (by rw [zj_st, if_pos hc5]; rfl))
  refine zj_aload_n C (List.mem_of_getElem? (i := 41) rfl) rfl rfl rfl ?_
  have hO := hM4
  obtain ⟨⟨fsO, hO0, -⟩, -⟩ := hO
  refine zj_callV (As := []) (rest := []) C (List.mem_of_getElem? (i := 42) rfl) rfl rfl rfl (by decide) (zj_W_mono (zj_next_m hB h4b) (by decide)) rfl rfl hO0 rfl (Nat.le_of_ble_eq_true rfl) rfl ⟨rfl, rfl, rfl⟩ (fun v w6 hw6A hw6Z => ?_)
  obtain ⟨hv, h6⟩ := hw6Z
  subst hv
  generalize zj_nm M tk4 = tk6 at h6 r3
  have h6b := h6
  obtain ⟨⟨tok6, sp6, nu6, fa6, pm6, wd6, fv6, fe6, pf6, hM6, ht6, hv66, he96, hpk6⟩, hbd6, hbe6, hbf6⟩ := h6
  refine zj_aload_n C (List.mem_of_getElem? (i := 43) rfl) rfl rfl rfl ?_
  refine zj_getM C (List.mem_of_getElem? (i := 44) rfl) rfl rfl rfl hM6 rfl ?_
  refine zj_iconst (v := 2) C (List.mem_of_getElem? (i := 45) rfl) rfl (by decide) ?_
  refine zj_icmp_eq (tgt := 94) C (List.mem_of_getElem? (i := 46) rfl) rfl (by decide) (fun hn => ?_) (fun hn => ?_)
  rotate_left
  · have hn : tk6.1 ≠ 27 := fun h => hn (ht6.2.2.1.mpr h)
    refine zj_aload_n C (List.mem_of_getElem? (i := 47) rfl) rfl rfl rfl ?_
    refine zj_iconst (v := 1) C (List.mem_of_getElem? (i := 48) rfl) rfl (by decide) ?_
    have hO := hM6
    obtain ⟨⟨fsO, hO0, -⟩, -⟩ := hO
    refine zj_callV (As := [.int (nI 1)]) (rest := []) C (List.mem_of_getElem? (i := 49) rfl) rfl rfl rfl (by decide) (zj_W_mono (zj_badM_W (k := 1) h6b) (by decide)) rfl rfl hO0 rfl (Nat.le_of_ble_eq_true rfl) rfl ⟨rfl, rfl, rfl⟩ (fun v wn hwnA hwnZ => ?_)
    obtain ⟨hv, h9⟩ := hwnZ
    subst hv
    exact KRi 93 _ _ _ (List.mem_of_getElem? (i := 50) rfl) (by decide) (Or.inr ⟨rfl, Or.inl rfl⟩) (hwnA.trans (hw6A.trans (hw4A.trans hw3A))) (Or.inr ⟨rfl, tk6, 1, h9, zj_R_tr r3 (zj_R_st (by rw [zj_st, if_neg hn]))⟩)
  have hnum6 : tk6.1 = 27 := ht6.2.2.1.mp hn
  have hval6 := ht6.2.2.2.2 hnum6
  refine zj_aload_n C (List.mem_of_getElem? (i := 51) rfl) rfl rfl rfl ?_
  refine zj_getM C (List.mem_of_getElem? (i := 52) rfl) rfl rfl rfl hM6 rfl ?_
  refine zj_iload_n C (List.mem_of_getElem? (i := 53) rfl) rfl rfl rfl ?_
  refine zj_icmp_lt (tgt := 111) C (List.mem_of_getElem? (i := 54) rfl) rfl (by decide) (fun hlt => ?_) (fun hlt => ?_)
  · have hlt : tk6.2.1 < tk3.2.1 := by
      have h1 := Int32.lt_iff_toInt_lt.mp hlt
      rw [hval6, hval3] at h1
      exact h1
    refine zj_aload_n C (List.mem_of_getElem? (i := 59) rfl) rfl rfl rfl ?_
    refine zj_iconst (v := 2) C (List.mem_of_getElem? (i := 60) rfl) rfl (by decide) ?_
    have hO := hM6
    obtain ⟨⟨fsO, hO0, -⟩, -⟩ := hO
    refine zj_callV (As := [.int (nI 2)]) (rest := []) C (List.mem_of_getElem? (i := 61) rfl) rfl rfl rfl (by decide) (zj_W_mono (zj_badM_W (k := 2) h6b) (by decide)) rfl rfl hO0 rfl (Nat.le_of_ble_eq_true rfl) rfl ⟨rfl, rfl, rfl⟩ (fun v wf hwfA hwfZ => ?_)
    obtain ⟨hv, h9⟩ := hwfZ
    subst hv
    exact KRi 116 _ _ _ (List.mem_of_getElem? (i := 62) rfl) (by decide) (Or.inr ⟨rfl, Or.inl rfl⟩) (hwfA.trans (hw6A.trans (hw4A.trans hw3A))) (Or.inr ⟨rfl, tk6, 2, h9, zj_R_tr r3 (zj_R_st (by rw [zj_st, if_pos hnum6, if_neg (fun h => by omega)]))⟩)
  have hlt : ¬ tk6.2.1 < tk3.2.1 := fun h => hlt (Int32.lt_iff_toInt_lt.mpr (by rw [hval6, hval3]; exact h))
  refine zj_aload_n C (List.mem_of_getElem? (i := 55) rfl) rfl rfl rfl ?_
  refine zj_getM C (List.mem_of_getElem? (i := 56) rfl) rfl rfl rfl hM6 rfl ?_
  refine zj_bipush (v := 29) C (List.mem_of_getElem? (i := 57) rfl) rfl (by decide) ?_
  refine zj_icmp_le (tgt := 117) C (List.mem_of_getElem? (i := 58) rfl) rfl (by decide) (fun h30 => ?_) (fun h30 => ?_)
  rotate_left
  · have h30 : ¬ tk6.2.1 ≤ 29 := fun h => h30 (Int32.le_iff_toInt_le.mpr (by rw [hval6]; exact h))
    refine zj_aload_n C (List.mem_of_getElem? (i := 59) rfl) rfl rfl rfl ?_
    refine zj_iconst (v := 2) C (List.mem_of_getElem? (i := 60) rfl) rfl (by decide) ?_
    have hO := hM6
    obtain ⟨⟨fsO, hO0, -⟩, -⟩ := hO
    refine zj_callV (As := [.int (nI 2)]) (rest := []) C (List.mem_of_getElem? (i := 61) rfl) rfl rfl rfl (by decide) (zj_W_mono (zj_badM_W (k := 2) h6b) (by decide)) rfl rfl hO0 rfl (Nat.le_of_ble_eq_true rfl) rfl ⟨rfl, rfl, rfl⟩ (fun v wf hwfA hwfZ => ?_)
    obtain ⟨hv, h9⟩ := hwfZ
    subst hv
    exact KRi 116 _ _ _ (List.mem_of_getElem? (i := 62) rfl) (by decide) (Or.inr ⟨rfl, Or.inl rfl⟩) (hwfA.trans (hw6A.trans (hw4A.trans hw3A))) (Or.inr ⟨rfl, tk6, 2, h9, zj_R_tr r3 (zj_R_st (by rw [zj_st, if_pos hnum6, if_neg (fun h => h30 h.2)]))⟩)
  have h30 : tk6.2.1 ≤ 29 := by
    have h1 := Int32.le_iff_toInt_le.mp h30
    rw [hval6] at h1
    exact h1
  have r4 := zj_R_tr r3 (zj_R_st (c' := (9, (zj_nm M tk6), n1, d1, (l1 + 1), f1, o1, [], tk3.2.1, k1)) (by rw [zj_st, if_pos hnum6, if_pos ⟨by omega, h30⟩]; rfl))
  refine zj_aload_n C (List.mem_of_getElem? (i := 63) rfl) rfl rfl rfl ?_
  refine zj_getM C (List.mem_of_getElem? (i := 64) rfl) rfl rfl rfl hM6 rfl ?_
  refine zj_bipush (v := 120) C (List.mem_of_getElem? (i := 65) rfl) rfl (by decide) ?_
  refine zj_aload_n C (List.mem_of_getElem? (i := 66) rfl) rfl rfl rfl ?_
  refine zj_getM C (List.mem_of_getElem? (i := 67) rfl) rfl rfl rfl hM6 rfl ?_
  refine zj_bipush (v := 20) C (List.mem_of_getElem? (i := 68) rfl) rfl (by decide) ?_
  refine zj_iald (v := (nI l1)) C (List.mem_of_getElem? (i := 69) rfl) rfl hM6.2.2.1 (vp_in_nI (n := 20) (by decide) (by decide)) hv66 ?_
  refine zj_iadd (v := (nI (120 + l1))) C (List.mem_of_getElem? (i := 70) rfl) rfl (nI_add 120 l1) ?_
  refine zj_iload_n C (List.mem_of_getElem? (i := 71) rfl) rfl rfl rfl ?_
  refine zj_iasM (k := 27) (pl := 236) (N := 126) C (List.mem_of_getElem? (i := 72) rfl) rfl (by decide) hM6 (vp_in_nI (by omega) (by decide)) (fun w7 hw7M hw7A => ?_)
  refine zj_aload_n C (List.mem_of_getElem? (i := 73) rfl) rfl rfl rfl ?_
  refine zj_getM C (List.mem_of_getElem? (i := 74) rfl) rfl rfl rfl hw7M rfl ?_
  refine zj_bipush (v := 120) C (List.mem_of_getElem? (i := 75) rfl) rfl (by decide) ?_
  refine zj_aload_n C (List.mem_of_getElem? (i := 76) rfl) rfl rfl rfl ?_
  refine zj_getM C (List.mem_of_getElem? (i := 77) rfl) rfl rfl rfl hw7M rfl ?_
  refine zj_bipush (v := 20) C (List.mem_of_getElem? (i := 78) rfl) rfl (by decide) ?_
  refine zj_iald (v := (nI l1)) C (List.mem_of_getElem? (i := 79) rfl) rfl hw7M.2.2.1 (vp_in_nI (n := 20) (by decide) (by decide)) hv66 ?_
  refine zj_iadd (v := (nI (120 + l1))) C (List.mem_of_getElem? (i := 80) rfl) rfl (nI_add 120 l1) ?_
  refine zj_aload_n C (List.mem_of_getElem? (i := 81) rfl) rfl rfl rfl ?_
  refine zj_getM C (List.mem_of_getElem? (i := 82) rfl) rfl rfl rfl hw7M rfl ?_
  refine zj_iasM (k := 28) (pl := 237) (N := 126) C (List.mem_of_getElem? (i := 83) rfl) rfl (by decide) hw7M (vp_in_nI (by omega) (by decide)) (fun w8 hw8M hw8A => ?_)
  refine zj_aload_n C (List.mem_of_getElem? (i := 84) rfl) rfl rfl rfl ?_
  refine zj_getM C (List.mem_of_getElem? (i := 85) rfl) rfl rfl rfl hw8M rfl ?_
  refine zj_bipush (v := 20) C (List.mem_of_getElem? (i := 86) rfl) rfl (by decide) ?_
  refine zj_dup2 C (List.mem_of_getElem? (i := 87) rfl) rfl rfl rfl ?_
  refine zj_iald (v := (nI l1)) C (List.mem_of_getElem? (i := 88) rfl) rfl hw8M.2.2.1 (vp_in_nI (n := 20) (by decide) (by decide)) hv66 ?_
  refine zj_iconst (v := 1) C (List.mem_of_getElem? (i := 89) rfl) rfl (by decide) ?_
  refine zj_iadd (v := (nI (l1 + 1))) C (List.mem_of_getElem? (i := 90) rfl) rfl (nI_1 _) ?_
  refine zj_iasV C (List.mem_of_getElem? (i := 91) rfl) rfl hw8M (vp_in_nI (n := 20) (by decide) (by decide)) (fun w9 hw9M hw9A => ?_)
  have h9 : zj_mr false M w9 tk6 d1 (l1 + 1) f1 o1 st [] 0 := ⟨⟨tok6, sp6, nu6, fa6, pm6, wd6, _, fe6, pf6, hw9M, ht6, if_pos rfl, he96, trivial⟩, hbd6, ⟨hbe6.1, by omega, hbe6.2.2⟩, hbf6⟩
  refine zj_aload_n C (List.mem_of_getElem? (i := 92) rfl) rfl rfl rfl ?_
  have hO := hw9M
  obtain ⟨⟨fsO, hO0, -⟩, -⟩ := hO
  refine zj_callV (As := []) (rest := []) C (List.mem_of_getElem? (i := 93) rfl) rfl rfl rfl (by decide) (zj_W_mono (zj_next_m hB h9) (by decide)) rfl rfl hO0 rfl (Nat.le_of_ble_eq_true rfl) rfl ⟨rfl, rfl, rfl⟩ (fun v wa hwaA hwaZ => ?_)
  obtain ⟨hv, ha⟩ := hwaZ
  subst hv
  generalize zj_nm M tk6 = tka at ha r4
  refine zj_iconst (v := 1) C (List.mem_of_getElem? (i := 94) rfl) rfl (by decide) ?_
  exact KRi 168 _ _ _ (List.mem_of_getElem? (i := 95) rfl) (by decide) (Or.inr ⟨rfl, Or.inr rfl⟩) (hwaA.trans (hw9A.trans (hw8A.trans (hw7A.trans (hw6A.trans (hw4A.trans hw3A)))))) (Or.inl ⟨rfl, tka, _, _, _, _, _, _, ha, by omega, _, _, r4⟩)
set_option maxHeartbeats 4000000 in
theorem zj_feeM_W {l : Launch} {M : zj_M} {ws0 : va_W} {tk : zj_T} {d1 l1 f1 o1 st : Nat} {c0 : zj_C} {n1 : Nat} {x1 : Int} {k1 : Nat} (hB : zj_Mok M) (h0 : zj_mr false M ws0 tk d1 l1 f1 o1 st [] 0) (r0 : zj_R (zj_gM M) M.t c0 (0, tk, n1, d1, l1, f1, o1, [], x1, k1)) (htk : tk.1 = 6) : zj_W l 7 159 (zj_MX M [.ref M.aM] ws0) (zj_Zm false M c0 (fun tk' d' l' f' o' st' P' => zj_cnt d' + l' + f' = zj_cnt d1 + l1 + f1 + 1 ∧ ∃ x' k', zj_R (zj_gM M) M.t c0 (9, tk', n1, d', l', f', o', [], x', k'))) := by
  refine zj_enterO (md := zx_m159) (ow := zx_oc13) rfl rfl rfl ?_ ?_
  · rintro ex tys av ws ⟨-, rfl, -⟩
    exact Nat.le_of_ble_eq_true rfl
  intro p e R s mi args below meth c Q D A ex nL own cc tys ws av hX C hnL hown KRi KRv KRa
  subst hnL
  obtain ⟨h2, h3, h4⟩ := hX
  subst h2
  subst h3
  subst h4
  have h0b := h0
  obtain ⟨⟨tok, sp, nu, fa, pm, wd, fv, fe, pf, hM, ht, hv6, he9, hpk⟩, hbd, hbe, hbf⟩ := h0
  refine zj_aload_n C (List.mem_of_getElem? (i := 0) rfl) rfl rfl rfl ?_
  refine zj_getM C (List.mem_of_getElem? (i := 1) rfl) rfl rfl rfl hM rfl ?_
  refine zj_bipush (v := 20) C (List.mem_of_getElem? (i := 2) rfl) rfl (by decide) ?_
  refine zj_iald (v := (nI f1)) C (List.mem_of_getElem? (i := 3) rfl) rfl hM.2.2.2.1 (vp_in_nI (n := 20) (by decide) (by decide)) he9 ?_
  refine zj_bipush (v := 8) C (List.mem_of_getElem? (i := 4) rfl) rfl (by decide) ?_
  refine zj_icmp_ne (tgt := 18) C (List.mem_of_getElem? (i := 5) rfl) rfl (by decide) (fun hb => ?_) (fun hb => ?_)
  rotate_left
  · have hb : f1 = 8 := zj_nI_eq (by omega) (by decide) hb
    refine zj_aload_n C (List.mem_of_getElem? (i := 6) rfl) rfl rfl rfl ?_
    refine zj_iconst (v := 3) C (List.mem_of_getElem? (i := 7) rfl) rfl (by decide) ?_
    have hO := hM
    obtain ⟨⟨fsO, hO0, -⟩, -⟩ := hO
    refine zj_callV (As := [.int (nI 3)]) (rest := []) C (List.mem_of_getElem? (i := 8) rfl) rfl rfl rfl (by decide) (zj_W_mono (zj_badM_W (k := 3) h0b) (by decide)) rfl rfl hO0 rfl (Nat.le_of_ble_eq_true rfl) rfl ⟨rfl, rfl, rfl⟩ (fun v wf hwfA hwfZ => ?_)
    obtain ⟨hv, h9⟩ := hwfZ
    subst hv
    exact KRi 17 _ _ _ (List.mem_of_getElem? (i := 9) rfl) (by decide) (Or.inr ⟨rfl, Or.inl rfl⟩) hwfA (Or.inr ⟨rfl, tk, 3, h9, zj_R_tr r0 (zj_R_st (by rw [zj_st, if_neg (by omega), if_neg (by omega), if_neg (by omega), if_pos htk, if_pos hb]))⟩)
  have hb : f1 ≠ 8 := fun h => hb (by rw [h]; rfl)
  have r1 := zj_R_tr r0 (zj_R_st (c' := (5, (zj_nm M tk), n1, d1, l1, f1, o1, [], x1, k1)) (by rw [zj_st, if_neg (by omega), if_neg (by omega), if_neg (by omega), if_pos htk, if_neg hb]; rfl))
  refine zj_aload_n C (List.mem_of_getElem? (i := 10) rfl) rfl rfl rfl ?_
  have hO := hM
  obtain ⟨⟨fsO, hO0, -⟩, -⟩ := hO
  refine zj_callV (As := []) (rest := []) C (List.mem_of_getElem? (i := 11) rfl) rfl rfl rfl (by decide) (zj_W_mono (zj_next_m hB h0b) (by decide)) rfl rfl hO0 rfl (Nat.le_of_ble_eq_true rfl) rfl ⟨rfl, rfl, rfl⟩ (fun v w3 hw3A hw3Z => ?_)
  obtain ⟨hv, h3⟩ := hw3Z
  subst hv
  generalize zj_nm M tk = tk3 at h3 r1
  have h3b := h3
  obtain ⟨⟨tok3, sp3, nu3, fa3, pm3, wd3, fv3, fe3, pf3, hM3, ht3, hv63, he93, hpk3⟩, hbd3, hbe3, hbf3⟩ := h3
  refine zj_aload_n C (List.mem_of_getElem? (i := 12) rfl) rfl rfl rfl ?_
  refine zj_getM C (List.mem_of_getElem? (i := 13) rfl) rfl rfl rfl hM3 rfl ?_
  refine zj_iconst (v := 2) C (List.mem_of_getElem? (i := 14) rfl) rfl (by decide) ?_
  refine zj_icmp_eq (tgt := 36) C (List.mem_of_getElem? (i := 15) rfl) rfl (by decide) (fun hn => ?_) (fun hn => ?_)
  rotate_left
  · have hn : tk3.1 ≠ 27 := fun h => hn (ht3.2.2.1.mpr h)
    refine zj_aload_n C (List.mem_of_getElem? (i := 16) rfl) rfl rfl rfl ?_
    refine zj_iconst (v := 1) C (List.mem_of_getElem? (i := 17) rfl) rfl (by decide) ?_
    have hO := hM3
    obtain ⟨⟨fsO, hO0, -⟩, -⟩ := hO
    refine zj_callV (As := [.int (nI 1)]) (rest := []) C (List.mem_of_getElem? (i := 18) rfl) rfl rfl rfl (by decide) (zj_W_mono (zj_badM_W (k := 1) h3b) (by decide)) rfl rfl hO0 rfl (Nat.le_of_ble_eq_true rfl) rfl ⟨rfl, rfl, rfl⟩ (fun v wn hwnA hwnZ => ?_)
    obtain ⟨hv, h9⟩ := hwnZ
    subst hv
    exact KRi 35 _ _ _ (List.mem_of_getElem? (i := 19) rfl) (by decide) (Or.inr ⟨rfl, Or.inl rfl⟩) (hwnA.trans hw3A) (Or.inr ⟨rfl, tk3, 1, h9, zj_R_tr r1 (zj_R_st (by rw [zj_st, if_neg hn]))⟩)
  have hnum3 : tk3.1 = 27 := ht3.2.2.1.mp hn
  have hval3 := ht3.2.2.2.2 hnum3
  have r2 := zj_R_tr r1 (zj_R_st (c' := (6, (zj_nm M tk3), n1, d1, l1, f1, o1, [], x1, k1)) (by rw [zj_st, if_pos hnum3]; rfl))
  refine zj_sipush (v := 160) C (List.mem_of_getElem? (i := 20) rfl) rfl (by decide) ?_
  refine zj_aload_n C (List.mem_of_getElem? (i := 21) rfl) rfl rfl rfl ?_
  refine zj_getM C (List.mem_of_getElem? (i := 22) rfl) rfl rfl rfl hM3 rfl ?_
  refine zj_bipush (v := 20) C (List.mem_of_getElem? (i := 23) rfl) rfl (by decide) ?_
  refine zj_iald (v := (nI f1)) C (List.mem_of_getElem? (i := 24) rfl) rfl hM3.2.2.2.1 (vp_in_nI (n := 20) (by decide) (by decide)) he93 ?_
  refine zj_iadd (v := (nI (160 + f1))) C (List.mem_of_getElem? (i := 25) rfl) rfl (nI_add 160 f1) ?_
  refine zj_istore_n C (List.mem_of_getElem? (i := 26) rfl) rfl rfl (by decide) rfl ?_
  refine zj_aload_n C (List.mem_of_getElem? (i := 27) rfl) rfl rfl rfl ?_
  refine zj_getM C (List.mem_of_getElem? (i := 28) rfl) rfl rfl rfl hM3 rfl ?_
  refine zj_iload_n C (List.mem_of_getElem? (i := 29) rfl) rfl rfl rfl ?_
  refine zj_aload_n C (List.mem_of_getElem? (i := 30) rfl) rfl rfl rfl ?_
  refine zj_getM C (List.mem_of_getElem? (i := 31) rfl) rfl rfl rfl hM3 rfl ?_
  refine zj_iasM (k := 30) (pl := 239) (N := 168) C (List.mem_of_getElem? (i := 32) rfl) rfl (by decide) hM3 (vp_in_nI (by omega) (by decide)) (fun w4 hw4M hw4A => ?_)
  refine zj_aload_n C (List.mem_of_getElem? (i := 33) rfl) rfl rfl rfl ?_
  refine zj_getM C (List.mem_of_getElem? (i := 34) rfl) rfl rfl rfl hw4M rfl ?_
  refine zj_iload_n C (List.mem_of_getElem? (i := 35) rfl) rfl rfl rfl ?_
  refine zj_aload_n C (List.mem_of_getElem? (i := 36) rfl) rfl rfl rfl ?_
  refine zj_getM C (List.mem_of_getElem? (i := 37) rfl) rfl rfl rfl hw4M rfl ?_
  refine zj_iasM (k := 31) (pl := 240) (N := 168) C (List.mem_of_getElem? (i := 38) rfl) rfl (by decide) hw4M (vp_in_nI (by omega) (by decide)) (fun w5 hw5M hw5A => ?_)
  have h5 : zj_mr false M w5 tk3 d1 l1 f1 o1 st [] 0 := ⟨⟨tok3, sp3, nu3, fa3, pm3, wd3, fv3, fe3, pf3, hw5M, ht3, hv63, he93, trivial⟩, hbd3, hbe3, hbf3⟩
  refine zj_aload_n C (List.mem_of_getElem? (i := 39) rfl) rfl rfl rfl ?_
  have hO := hw5M
  obtain ⟨⟨fsO, hO0, -⟩, -⟩ := hO
  refine zj_callV (As := []) (rest := []) C (List.mem_of_getElem? (i := 40) rfl) rfl rfl rfl (by decide) (zj_W_mono (zj_next_m hB h5) (by decide)) rfl rfl hO0 rfl (Nat.le_of_ble_eq_true rfl) rfl ⟨rfl, rfl, rfl⟩ (fun v w6 hw6A hw6Z => ?_)
  obtain ⟨hv, h6⟩ := hw6Z
  subst hv
  generalize zj_nm M tk3 = tk6 at h6 r2
  have hA6 := hw6A.trans (hw5A.trans (hw4A.trans hw3A))
  have fin : ∀ (tk7 : zj_T) (o7 st7 : Nat) (ws7 : va_W), zj_mr false M ws7 tk7 d1 l1 f1 o7 st7 [] 0 → zx_as ws7 = zx_as ws → zj_R (zj_gM M) M.t c0 (9, tk7, n1, d1, l1, (f1 + 1), o7, [], x1, k1) → zj_go p l e R s mi args below meth c Q D A (zx_mV zx_m159.2.1) 95 [(1, .int (nI (160 + f1))), (0, .ref M.aM)] [] ws7 := by
    intro tk7 o7 st7 ws7 h7 hA7 r7
    have h7b := h7
    obtain ⟨⟨tok7, sp7, nu7, fa7, pm7, wd7, fv7, fe7, pf7, hM7, ht7, hv67, he97, hpk7⟩, hbd7, hbe7, hbf7⟩ := h7
    refine zj_aload_n C (List.mem_of_getElem? (i := 52) rfl) rfl rfl rfl ?_
    refine zj_getM C (List.mem_of_getElem? (i := 53) rfl) rfl rfl rfl hM7 rfl ?_
    refine zj_iload_n C (List.mem_of_getElem? (i := 54) rfl) rfl rfl rfl ?_
    refine zj_aload_n C (List.mem_of_getElem? (i := 55) rfl) rfl rfl rfl ?_
    refine zj_getM C (List.mem_of_getElem? (i := 56) rfl) rfl rfl rfl hM7 rfl ?_
    refine zj_iasM (k := 32) (pl := 241) (N := 168) C (List.mem_of_getElem? (i := 57) rfl) rfl (by decide) hM7 (vp_in_nI (by omega) (by decide)) (fun w8 hw8M hw8A => ?_)
    refine zj_aload_n C (List.mem_of_getElem? (i := 58) rfl) rfl rfl rfl ?_
    refine zj_getM C (List.mem_of_getElem? (i := 59) rfl) rfl rfl rfl hw8M rfl ?_
    refine zj_bipush (v := 20) C (List.mem_of_getElem? (i := 60) rfl) rfl (by decide) ?_
    refine zj_dup2 C (List.mem_of_getElem? (i := 61) rfl) rfl rfl rfl ?_
    refine zj_iald (v := (nI f1)) C (List.mem_of_getElem? (i := 62) rfl) rfl hw8M.2.2.2.1 (vp_in_nI (n := 20) (by decide) (by decide)) he97 ?_
    refine zj_iconst (v := 1) C (List.mem_of_getElem? (i := 63) rfl) rfl (by decide) ?_
    refine zj_iadd (v := (nI (f1 + 1))) C (List.mem_of_getElem? (i := 64) rfl) rfl (nI_1 _) ?_
    refine zj_iasE C (List.mem_of_getElem? (i := 65) rfl) rfl hw8M (vp_in_nI (n := 20) (by decide) (by decide)) (fun w9 hw9M hw9A => ?_)
    have h9 : zj_mr false M w9 tk7 d1 l1 (f1 + 1) o7 st7 [] 0 := ⟨⟨tok7, sp7, nu7, fa7, pm7, wd7, fv7, _, pf7, hw9M, ht7, hv67, if_pos rfl, trivial⟩, hbd7, ⟨hbe7.1, hbe7.2.1, by omega⟩, hbf7⟩
    refine zj_iconst (v := 1) C (List.mem_of_getElem? (i := 66) rfl) rfl (by decide) ?_
    exact KRi 117 _ _ _ (List.mem_of_getElem? (i := 67) rfl) (by decide) (Or.inr ⟨rfl, Or.inr rfl⟩) (hw9A.trans (hw8A.trans hA7)) (Or.inl ⟨rfl, tk7, _, _, _, _, _, _, h9, by omega, _, _, r7⟩)
  have h6b := h6
  obtain ⟨⟨tok6, sp6, nu6, fa6, pm6, wd6, fv6, fe6, pf6, hM6, ht6, hv66, he96, hpk6⟩, hbd6, hbe6, hbf6⟩ := h6
  refine zj_aload_n C (List.mem_of_getElem? (i := 41) rfl) rfl rfl rfl ?_
  refine zj_ldc2 (v := zj_wc 7) C (List.mem_of_getElem? (i := 42) rfl) rfl (zj_long hown (k := 7) (ix := 356) (by decide)) ?_
  have hO := hM6
  obtain ⟨⟨fsO, hO0, -⟩, -⟩ := hO
  refine zj_callV (As := [.long (zj_wc 7)]) (rest := []) C (List.mem_of_getElem? (i := 43) rfl) rfl rfl rfl (by decide) (zj_W_mono (zj_isWord_W (k := 7) h6b (by decide)) (by decide)) rfl rfl hO0 rfl (Nat.le_of_ble_eq_true rfl) rfl ⟨rfl, rfl, rfl⟩ (fun v w7 hw7A hw7Z => ?_)
  obtain ⟨hw, hv⟩ := hw7Z
  subst hw
  rcases hv with ⟨hv, hc7⟩ | ⟨hv, hc7⟩
  rotate_left
  · subst hv
    refine zj_if_eq (tgt := 95) C (List.mem_of_getElem? (i := 44) rfl) rfl (by decide) (fun hd => ?_) (fun hd => ?_)
    rotate_left
    · exact absurd rfl hd
    exact fin tk6 o1 st w6 h6b hA6 (zj_R_tr r2 (zj_R_st (by rw [zj_st, if_neg hc7]; rfl)))
  subst hv
  refine zj_if_eq (tgt := 95) C (List.mem_of_getElem? (i := 44) rfl) rfl (by decide) (fun hd => ?_) (fun hd => ?_)
  · exact absurd hd (by decide)
  have r3 := zj_R_tr r2 (zj_R_st (c' := (7, (zj_nm M tk6), n1, d1, l1, f1, o1, [], x1, k1)) (by rw [zj_st, if_pos hc7]; rfl))
  refine zj_aload_n C (List.mem_of_getElem? (i := 45) rfl) rfl rfl rfl ?_
  have hO := hM6
  obtain ⟨⟨fsO, hO0, -⟩, -⟩ := hO
  refine zj_callV (As := []) (rest := []) C (List.mem_of_getElem? (i := 46) rfl) rfl rfl rfl (by decide) (zj_W_mono (zj_next_m hB h6b) (by decide)) rfl rfl hO0 rfl (Nat.le_of_ble_eq_true rfl) rfl ⟨rfl, rfl, rfl⟩ (fun v w8 hw8A hw8Z => ?_)
  obtain ⟨hv, h8⟩ := hw8Z
  subst hv
  generalize zj_nm M tk6 = tk8 at h8 r3
  have h8b := h8
  obtain ⟨⟨tok8, sp8, nu8, fa8, pm8, wd8, fv8, fe8, pf8, hM8, ht8, hv68, he98, hpk8⟩, hbd8, hbe8, hbf8⟩ := h8
  refine zj_aload_n C (List.mem_of_getElem? (i := 47) rfl) rfl rfl rfl ?_
  have hO := hM8
  obtain ⟨⟨fsO, hO0, -⟩, -⟩ := hO
  refine zj_callV (As := []) (rest := []) C (List.mem_of_getElem? (i := 48) rfl) rfl rfl rfl (by decide) (zj_W_mono (zj_condM_W hB h8b r3) (by decide)) rfl rfl hO0 rfl (Nat.le_of_ble_eq_true rfl) rfl ⟨rfl, rfl, rfl⟩ (fun v w9 hw9A hw9Z => ?_)
  rcases hw9Z with ⟨hv, tk9, d9, l9, f9, o9, st9, P9, h9, rfl, rfl, rfl, rfl, ht8x, ht9x, r9⟩ | ⟨hv, tk9, k9, h9, r9⟩
  · subst hv
    refine zj_if_ne (tgt := 95) C (List.mem_of_getElem? (i := 49) rfl) rfl (by decide) (fun hd => ?_) (fun hd => ?_)
    rotate_left
    · exact absurd hd (by decide)
    exact fin tk9 o9 st9 w9 (zj_mr_weak h9) (hw9A.trans (hw8A.trans hA6)) (zj_R_tr r9 (zj_R_st (by rw [zj_st, if_neg (by omega)]; rfl)))
  subst hv
  refine zj_if_ne (tgt := 95) C (List.mem_of_getElem? (i := 49) rfl) rfl (by decide) (fun hd => ?_) (fun hd => ?_)
  · exact absurd rfl hd
  refine zj_iconst (v := 0) C (List.mem_of_getElem? (i := 50) rfl) rfl (by decide) ?_
  exact KRi 94 _ _ _ (List.mem_of_getElem? (i := 51) rfl) (by decide) (Or.inr ⟨rfl, Or.inl rfl⟩) (hw9A.trans (hw8A.trans hA6)) (Or.inr ⟨rfl, tk9, k9, h9, r9⟩)
set_option maxHeartbeats 4000000 in
theorem zj_rule_W {l : Launch} {M : zj_M} {ws0 : va_W} {tk : zj_T} {d1 l1 f1 o1 st : Nat} {c0 : zj_C} {n1 : Nat} {x1 : Int} {k1 : Nat} (hB : zj_Mok M) (h0 : zj_mr false M ws0 tk d1 l1 f1 o1 st [] 0) (r0 : zj_R (zj_gM M) M.t c0 (0, tk, n1, d1, l1, f1, o1, [], x1, k1)) (h28 : tk.1 ≠ 28) : zj_W l 8 154 (zj_MX M [.ref M.aM] ws0) (zj_Zm false M c0 (fun tk' d' l' f' o' st' P' => zj_cnt d' + l' + f' = zj_cnt d1 + l1 + f1 + 1 ∧ ∃ x' k', zj_R (zj_gM M) M.t c0 (9, tk', n1, d', l', f', o', [], x', k'))) := by
  refine zj_enterO (md := zx_m154) (ow := zx_oc13) rfl rfl rfl ?_ ?_
  · rintro ex tys av ws ⟨-, rfl, -⟩
    exact Nat.le_of_ble_eq_true rfl
  intro p e R s mi args below meth c Q D A ex nL own cc tys ws av hX C hnL hown KRi KRv KRa
  subst hnL
  obtain ⟨h2, h3, h4⟩ := hX
  subst h2
  subst h3
  subst h4
  have h0b := h0
  obtain ⟨⟨tok, sp, nu, fa, pm, wd, fv, fe, pf, hM, ht, hv6, he9, hpk⟩, hbd, hbe, hbf⟩ := h0
  refine zj_aload_n C (List.mem_of_getElem? (i := 0) rfl) rfl rfl rfl ?_
  refine zj_ldc2 (v := zj_wc 0) C (List.mem_of_getElem? (i := 1) rfl) rfl (zj_long hown (k := 0) (ix := 329) (by decide)) ?_
  have hO := hM
  obtain ⟨⟨fsO, hO0, -⟩, -⟩ := hO
  refine zj_callV (As := [.long (zj_wc 0)]) (rest := []) C (List.mem_of_getElem? (i := 2) rfl) rfl rfl rfl (by decide) (zj_W_mono (zj_isWord_W (k := 0) h0b (by decide)) (by decide)) rfl rfl hO0 rfl (Nat.le_of_ble_eq_true rfl) rfl ⟨rfl, rfl, rfl⟩ (fun v w2 hw2A hw2Z => ?_)
  obtain ⟨hw, hv⟩ := hw2Z
  subst hw
  rcases hv with ⟨hv, hc0⟩ | ⟨hv, hc0⟩
  · subst hv
    refine zj_if_eq (tgt := 19) C (List.mem_of_getElem? (i := 3) rfl) rfl (by decide) (fun hd => ?_) (fun hd => ?_)
    · exact absurd hd (by decide)
    refine zj_aload_n C (List.mem_of_getElem? (i := 4) rfl) rfl rfl rfl ?_
    refine zj_iconst (v := 0) C (List.mem_of_getElem? (i := 5) rfl) rfl (by decide) ?_
    refine zj_iconst (v := 0) C (List.mem_of_getElem? (i := 6) rfl) rfl (by decide) ?_
    refine zj_bipush (v := 72) C (List.mem_of_getElem? (i := 7) rfl) rfl (by decide) ?_
    have hO := hM
    obtain ⟨⟨fsO, hO0, -⟩, -⟩ := hO
    refine zj_callV (As := [.int (nI 0), .int 0, .int 72]) (rest := []) C (List.mem_of_getElem? (i := 8) rfl) rfl rfl rfl (by decide) (zj_W_mono (zj_once_W (lo := 0) (hi := 72) (k := 0) hB h0b r0 (by decide) hc0 (by decide) (by decide)) (by decide)) rfl rfl hO0 rfl (Nat.le_of_ble_eq_true rfl) rfl ⟨rfl, rfl, rfl⟩ (fun v w3 hw3A hw3Z => ?_)
    rcases hw3Z with ⟨hv, hx⟩ | ⟨hv, hx⟩
    · subst hv
      exact KRi 18 _ _ _ (List.mem_of_getElem? (i := 9) rfl) (by decide) (Or.inr ⟨rfl, Or.inr rfl⟩) hw3A (Or.inl ⟨rfl, hx⟩)
    · subst hv
      exact KRi 18 _ _ _ (List.mem_of_getElem? (i := 9) rfl) (by decide) (Or.inr ⟨rfl, Or.inl rfl⟩) hw3A (Or.inr ⟨rfl, hx⟩)
  subst hv
  refine zj_if_eq (tgt := 19) C (List.mem_of_getElem? (i := 3) rfl) rfl (by decide) (fun hd => ?_) (fun hd => ?_)
  rotate_left
  · exact absurd rfl hd
  refine zj_aload_n C (List.mem_of_getElem? (i := 10) rfl) rfl rfl rfl ?_
  refine zj_ldc2 (v := zj_wc 1) C (List.mem_of_getElem? (i := 11) rfl) rfl (zj_long hown (k := 1) (ix := 338) (by decide)) ?_
  have hO := hM
  obtain ⟨⟨fsO, hO0, -⟩, -⟩ := hO
  refine zj_callV (As := [.long (zj_wc 1)]) (rest := []) C (List.mem_of_getElem? (i := 12) rfl) rfl rfl rfl (by decide) (zj_W_mono (zj_isWord_W (k := 1) h0b (by decide)) (by decide)) rfl rfl hO0 rfl (Nat.le_of_ble_eq_true rfl) rfl ⟨rfl, rfl, rfl⟩ (fun v w2 hw2A hw2Z => ?_)
  obtain ⟨hw, hv⟩ := hw2Z
  subst hw
  rcases hv with ⟨hv, hc1⟩ | ⟨hv, hc1⟩
  · subst hv
    refine zj_if_eq (tgt := 38) C (List.mem_of_getElem? (i := 13) rfl) rfl (by decide) (fun hd => ?_) (fun hd => ?_)
    · exact absurd hd (by decide)
    refine zj_aload_n C (List.mem_of_getElem? (i := 14) rfl) rfl rfl rfl ?_
    refine zj_iconst (v := 1) C (List.mem_of_getElem? (i := 15) rfl) rfl (by decide) ?_
    refine zj_iconst (v := 1) C (List.mem_of_getElem? (i := 16) rfl) rfl (by decide) ?_
    refine zj_bipush (v := 24) C (List.mem_of_getElem? (i := 17) rfl) rfl (by decide) ?_
    have hO := hM
    obtain ⟨⟨fsO, hO0, -⟩, -⟩ := hO
    refine zj_callV (As := [.int (nI 1), .int 1, .int 24]) (rest := []) C (List.mem_of_getElem? (i := 18) rfl) rfl rfl rfl (by decide) (zj_W_mono (zj_once_W (lo := 1) (hi := 24) (k := 1) hB h0b r0 (by decide) hc1 (by decide) (by decide)) (by decide)) rfl rfl hO0 rfl (Nat.le_of_ble_eq_true rfl) rfl ⟨rfl, rfl, rfl⟩ (fun v w3 hw3A hw3Z => ?_)
    rcases hw3Z with ⟨hv, hx⟩ | ⟨hv, hx⟩
    · subst hv
      exact KRi 37 _ _ _ (List.mem_of_getElem? (i := 19) rfl) (by decide) (Or.inr ⟨rfl, Or.inr rfl⟩) hw3A (Or.inl ⟨rfl, hx⟩)
    · subst hv
      exact KRi 37 _ _ _ (List.mem_of_getElem? (i := 19) rfl) (by decide) (Or.inr ⟨rfl, Or.inl rfl⟩) hw3A (Or.inr ⟨rfl, hx⟩)
  subst hv
  refine zj_if_eq (tgt := 38) C (List.mem_of_getElem? (i := 13) rfl) rfl (by decide) (fun hd => ?_) (fun hd => ?_)
  rotate_left
  · exact absurd rfl hd
  refine zj_aload_n C (List.mem_of_getElem? (i := 20) rfl) rfl rfl rfl ?_
  refine zj_ldc2 (v := zj_wc 2) C (List.mem_of_getElem? (i := 21) rfl) rfl (zj_long hown (k := 2) (ix := 340) (by decide)) ?_
  have hO := hM
  obtain ⟨⟨fsO, hO0, -⟩, -⟩ := hO
  refine zj_callV (As := [.long (zj_wc 2)]) (rest := []) C (List.mem_of_getElem? (i := 22) rfl) rfl rfl rfl (by decide) (zj_W_mono (zj_isWord_W (k := 2) h0b (by decide)) (by decide)) rfl rfl hO0 rfl (Nat.le_of_ble_eq_true rfl) rfl ⟨rfl, rfl, rfl⟩ (fun v w2 hw2A hw2Z => ?_)
  obtain ⟨hw, hv⟩ := hw2Z
  subst hw
  rcases hv with ⟨hv, hc2⟩ | ⟨hv, hc2⟩
  · subst hv
    refine zj_if_eq (tgt := 57) C (List.mem_of_getElem? (i := 23) rfl) rfl (by decide) (fun hd => ?_) (fun hd => ?_)
    · exact absurd hd (by decide)
    refine zj_aload_n C (List.mem_of_getElem? (i := 24) rfl) rfl rfl rfl ?_
    refine zj_iconst (v := 2) C (List.mem_of_getElem? (i := 25) rfl) rfl (by decide) ?_
    refine zj_iconst (v := 0) C (List.mem_of_getElem? (i := 26) rfl) rfl (by decide) ?_
    refine zj_bipush (v := 7) C (List.mem_of_getElem? (i := 27) rfl) rfl (by decide) ?_
    have hO := hM
    obtain ⟨⟨fsO, hO0, -⟩, -⟩ := hO
    refine zj_callV (As := [.int (nI 2), .int 0, .int 7]) (rest := []) C (List.mem_of_getElem? (i := 28) rfl) rfl rfl rfl (by decide) (zj_W_mono (zj_once_W (lo := 0) (hi := 7) (k := 2) hB h0b r0 (by decide) hc2 (by decide) (by decide)) (by decide)) rfl rfl hO0 rfl (Nat.le_of_ble_eq_true rfl) rfl ⟨rfl, rfl, rfl⟩ (fun v w3 hw3A hw3Z => ?_)
    rcases hw3Z with ⟨hv, hx⟩ | ⟨hv, hx⟩
    · subst hv
      exact KRi 56 _ _ _ (List.mem_of_getElem? (i := 29) rfl) (by decide) (Or.inr ⟨rfl, Or.inr rfl⟩) hw3A (Or.inl ⟨rfl, hx⟩)
    · subst hv
      exact KRi 56 _ _ _ (List.mem_of_getElem? (i := 29) rfl) (by decide) (Or.inr ⟨rfl, Or.inl rfl⟩) hw3A (Or.inr ⟨rfl, hx⟩)
  subst hv
  refine zj_if_eq (tgt := 57) C (List.mem_of_getElem? (i := 23) rfl) rfl (by decide) (fun hd => ?_) (fun hd => ?_)
  rotate_left
  · exact absurd rfl hd
  refine zj_aload_n C (List.mem_of_getElem? (i := 30) rfl) rfl rfl rfl ?_
  refine zj_ldc2 (v := zj_wc 3) C (List.mem_of_getElem? (i := 31) rfl) rfl (zj_long hown (k := 3) (ix := 342) (by decide)) ?_
  have hO := hM
  obtain ⟨⟨fsO, hO0, -⟩, -⟩ := hO
  refine zj_callV (As := [.long (zj_wc 3)]) (rest := []) C (List.mem_of_getElem? (i := 32) rfl) rfl rfl rfl (by decide) (zj_W_mono (zj_isWord_W (k := 3) h0b (by decide)) (by decide)) rfl rfl hO0 rfl (Nat.le_of_ble_eq_true rfl) rfl ⟨rfl, rfl, rfl⟩ (fun v w2 hw2A hw2Z => ?_)
  obtain ⟨hw, hv⟩ := hw2Z
  subst hw
  rcases hv with ⟨hv, hc3⟩ | ⟨hv, hc3⟩
  · subst hv
    refine zj_if_eq (tgt := 77) C (List.mem_of_getElem? (i := 33) rfl) rfl (by decide) (fun hd => ?_) (fun hd => ?_)
    · exact absurd hd (by decide)
    refine zj_aload_n C (List.mem_of_getElem? (i := 34) rfl) rfl rfl rfl ?_
    refine zj_iconst (v := 3) C (List.mem_of_getElem? (i := 35) rfl) rfl (by decide) ?_
    refine zj_iconst (v := 1) C (List.mem_of_getElem? (i := 36) rfl) rfl (by decide) ?_
    refine zj_sipush (v := 999) C (List.mem_of_getElem? (i := 37) rfl) rfl (by decide) ?_
    have hO := hM
    obtain ⟨⟨fsO, hO0, -⟩, -⟩ := hO
    refine zj_callV (As := [.int (nI 3), .int 1, .int 999]) (rest := []) C (List.mem_of_getElem? (i := 38) rfl) rfl rfl rfl (by decide) (zj_W_mono (zj_once_W (lo := 1) (hi := 999) (k := 3) hB h0b r0 (by decide) hc3 (by decide) (by decide)) (by decide)) rfl rfl hO0 rfl (Nat.le_of_ble_eq_true rfl) rfl ⟨rfl, rfl, rfl⟩ (fun v w3 hw3A hw3Z => ?_)
    rcases hw3Z with ⟨hv, hx⟩ | ⟨hv, hx⟩
    · subst hv
      exact KRi 76 _ _ _ (List.mem_of_getElem? (i := 39) rfl) (by decide) (Or.inr ⟨rfl, Or.inr rfl⟩) hw3A (Or.inl ⟨rfl, hx⟩)
    · subst hv
      exact KRi 76 _ _ _ (List.mem_of_getElem? (i := 39) rfl) (by decide) (Or.inr ⟨rfl, Or.inl rfl⟩) hw3A (Or.inr ⟨rfl, hx⟩)
  subst hv
  refine zj_if_eq (tgt := 77) C (List.mem_of_getElem? (i := 33) rfl) rfl (by decide) (fun hd => ?_) (fun hd => ?_)
  rotate_left
  · exact absurd rfl hd
  refine zj_aload_n C (List.mem_of_getElem? (i := 40) rfl) rfl rfl rfl ?_
  refine zj_ldc2 (v := zj_wc 4) C (List.mem_of_getElem? (i := 41) rfl) rfl (zj_long hown (k := 4) (ix := 344) (by decide)) ?_
  have hO := hM
  obtain ⟨⟨fsO, hO0, -⟩, -⟩ := hO
  refine zj_callV (As := [.long (zj_wc 4)]) (rest := []) C (List.mem_of_getElem? (i := 42) rfl) rfl rfl rfl (by decide) (zj_W_mono (zj_isWord_W (k := 4) h0b (by decide)) (by decide)) rfl rfl hO0 rfl (Nat.le_of_ble_eq_true rfl) rfl ⟨rfl, rfl, rfl⟩ (fun v w2 hw2A hw2Z => ?_)
  obtain ⟨hw, hv⟩ := hw2Z
  subst hw
  rcases hv with ⟨hv, hc4⟩ | ⟨hv, hc4⟩
  · subst hv
    refine zj_if_eq (tgt := 92) C (List.mem_of_getElem? (i := 43) rfl) rfl (by decide) (fun hd => ?_) (fun hd => ?_)
    · exact absurd hd (by decide)
    refine zj_aload_n C (List.mem_of_getElem? (i := 44) rfl) rfl rfl rfl ?_
    have hO := hM
    obtain ⟨⟨fsO, hO0, -⟩, -⟩ := hO
    refine zj_callV (As := []) (rest := []) C (List.mem_of_getElem? (i := 45) rfl) rfl rfl rfl (by decide) (zj_W_mono (zj_leaveM_W hB h0b r0 hc4) (by decide)) rfl rfl hO0 rfl (Nat.le_of_ble_eq_true rfl) rfl ⟨rfl, rfl, rfl⟩ (fun v w3 hw3A hw3Z => ?_)
    rcases hw3Z with ⟨hv, hx⟩ | ⟨hv, hx⟩
    · subst hv
      exact KRi 91 _ _ _ (List.mem_of_getElem? (i := 46) rfl) (by decide) (Or.inr ⟨rfl, Or.inr rfl⟩) hw3A (Or.inl ⟨rfl, hx⟩)
    · subst hv
      exact KRi 91 _ _ _ (List.mem_of_getElem? (i := 46) rfl) (by decide) (Or.inr ⟨rfl, Or.inl rfl⟩) hw3A (Or.inr ⟨rfl, hx⟩)
  subst hv
  refine zj_if_eq (tgt := 92) C (List.mem_of_getElem? (i := 43) rfl) rfl (by decide) (fun hd => ?_) (fun hd => ?_)
  rotate_left
  · exact absurd rfl hd
  refine zj_aload_n C (List.mem_of_getElem? (i := 47) rfl) rfl rfl rfl ?_
  refine zj_ldc2 (v := zj_wc 6) C (List.mem_of_getElem? (i := 48) rfl) rfl (zj_long hown (k := 6) (ix := 349) (by decide)) ?_
  have hO := hM
  obtain ⟨⟨fsO, hO0, -⟩, -⟩ := hO
  refine zj_callV (As := [.long (zj_wc 6)]) (rest := []) C (List.mem_of_getElem? (i := 49) rfl) rfl rfl rfl (by decide) (zj_W_mono (zj_isWord_W (k := 6) h0b (by decide)) (by decide)) rfl rfl hO0 rfl (Nat.le_of_ble_eq_true rfl) rfl ⟨rfl, rfl, rfl⟩ (fun v w2 hw2A hw2Z => ?_)
  obtain ⟨hw, hv⟩ := hw2Z
  subst hw
  rcases hv with ⟨hv, hc6⟩ | ⟨hv, hc6⟩
  · subst hv
    refine zj_if_eq (tgt := 109) C (List.mem_of_getElem? (i := 50) rfl) rfl (by decide) (fun hd => ?_) (fun hd => ?_)
    · exact absurd hd (by decide)
    refine zj_aload_n C (List.mem_of_getElem? (i := 51) rfl) rfl rfl rfl ?_
    have hO := hM
    obtain ⟨⟨fsO, hO0, -⟩, -⟩ := hO
    refine zj_callV (As := []) (rest := []) C (List.mem_of_getElem? (i := 52) rfl) rfl rfl rfl (by decide) (zj_W_mono (zj_feeM_W hB h0b r0 hc6) (by decide)) rfl rfl hO0 rfl (Nat.le_of_ble_eq_true rfl) rfl ⟨rfl, rfl, rfl⟩ (fun v w3 hw3A hw3Z => ?_)
    rcases hw3Z with ⟨hv, hx⟩ | ⟨hv, hx⟩
    · subst hv
      refine zj_goto (tgt := 114) C (List.mem_of_getElem? (i := 53) rfl) (by decide) ?_
      exact KRi 114 _ _ _ (List.mem_of_getElem? (i := 57) rfl) (by decide) (Or.inr ⟨rfl, Or.inr rfl⟩) hw3A (Or.inl ⟨rfl, hx⟩)
    · subst hv
      refine zj_goto (tgt := 114) C (List.mem_of_getElem? (i := 53) rfl) (by decide) ?_
      exact KRi 114 _ _ _ (List.mem_of_getElem? (i := 57) rfl) (by decide) (Or.inr ⟨rfl, Or.inl rfl⟩) hw3A (Or.inr ⟨rfl, hx⟩)
  subst hv
  refine zj_if_eq (tgt := 109) C (List.mem_of_getElem? (i := 50) rfl) rfl (by decide) (fun hd => ?_) (fun hd => ?_)
  rotate_left
  · exact absurd rfl hd
  refine zj_aload_n C (List.mem_of_getElem? (i := 54) rfl) rfl rfl rfl ?_
  refine zj_iconst (v := 1) C (List.mem_of_getElem? (i := 55) rfl) rfl (by decide) ?_
  have hO := hM
  obtain ⟨⟨fsO, hO0, -⟩, -⟩ := hO
  refine zj_callV (As := [.int (nI 1)]) (rest := []) C (List.mem_of_getElem? (i := 56) rfl) rfl rfl rfl (by decide) (zj_W_mono (zj_badM_W (k := 1) h0b) (by decide)) rfl rfl hO0 rfl (Nat.le_of_ble_eq_true rfl) rfl ⟨rfl, rfl, rfl⟩ (fun v wf hwfA hwfZ => ?_)
  obtain ⟨hv, h9⟩ := hwfZ
  subst hv
  exact KRi 114 _ _ _ (List.mem_of_getElem? (i := 57) rfl) (by decide) (Or.inr ⟨rfl, Or.inl rfl⟩) hwfA (Or.inr ⟨rfl, tk, 1, h9, zj_R_tr r0 (zj_R_st (by rw [zj_st, if_neg h28, if_neg (by omega), if_neg hc4, if_neg hc6]))⟩)
end
