noncomputable section
/-! zj: the reference's conditions, rules -/
theorem zj_mr_weak {u : Bool} {M : zj_M} {ws : va_W} {tk : zj_T} {d1 l1 f1 o1 st : Nat} {P : List Nat} {fk : Int32} (h : zj_mr u M ws tk d1 l1 f1 o1 st P fk) : zj_mr false M ws tk d1 l1 f1 o1 st [] fk := by
  obtain ⟨⟨tok, sp, nu, fa, pm, wd, fv, fe, pf, hM, ht, hv6, he9, hpl⟩, hbd, hbd2, hbd3⟩ := h
  exact ⟨⟨tok, sp, nu, fa, pm, wd, fv, fe, pf, hM, ht, hv6, he9, trivial⟩, hbd, hbd2, hbd3.1, by rw [List.length_nil]; omega, Nat.zero_le _⟩
set_option maxHeartbeats 8000000 in
theorem zj_condM_W {l : Launch} {u : Bool} {M : zj_M} {ws0 : va_W} {tk : zj_T} {d1 l1 f1 o1 st : Nat} {P : List Nat} {c0 : zj_C} {n1 : Nat} {x1 : Int} {k1 : Nat} (hB : zj_Mok M) (h0 : zj_mr u M ws0 tk d1 l1 f1 o1 st P 0) (r0 : zj_R (zj_gM M) M.t c0 (7, tk, n1, d1, l1, f1, o1, [], x1, k1)) : zj_W l 6 160 (zj_MX M [.ref M.aM] ws0) (zj_Zm true M c0 (fun tk' d' l' f' o' st' P' => d1 = d' ∧ l1 = l' ∧ f1 = f' ∧ [] = P' ∧ tk'.1 ≠ 8 ∧ tk'.1 ≠ 9 ∧ zj_R (zj_gM M) M.t c0 (8, tk', n1, d1, l1, f1, o', [], x1, k1))) := by
  refine zj_enterO (md := zx_m160) (ow := zx_oc13) rfl rfl rfl ?_ ?_
  · rintro ex tys av ws ⟨-, rfl, -⟩
    exact Nat.le_of_ble_eq_true rfl
  intro p e R s mi args below meth c Q D A ex nL own cc tys ws av hX C hnL hown KRi KRv KRa
  subst hnL
  obtain ⟨h2, h3, h4⟩ := hX
  subst h2
  subst h3
  subst h4
  have loop : ∀ (N : Nat) (tk : zj_T) (o2 st : Nat) (P : List Nat) (ws1 : va_W) (lv : List (Nat × Value)), 40 - o2 ≤ N → zj_mr true M ws1 tk d1 l1 f1 o2 st P 0 → zx_as ws1 = zx_as ws → zj_wf P = true → (zj_os P).length ≤ 12 → zj_R (zj_gM M) M.t c0 (7, tk, n1, d1, l1, f1, o2, (zj_os P), x1, k1) → zj_lk lv 0 = some (.ref M.aM) → zj_go p l e R s mi args below meth c Q D A (zx_mV zx_m160.2.1) 5 lv [] ws1 := by
    intro N
    induction N with
    | zero =>
      intro tk o2 st P ws1 lv hN h0 hA hw hs r0 hlv
      refine zj_perm1 C hlv ?_
      have h00 := h0
      obtain ⟨⟨tok, sp, nu, fa, pm, wd, fv, fe, pf, hM, -⟩, -, -, hbd3⟩ := h00
      refine zj_aload_n C (List.mem_of_getElem? (i := 3) rfl) rfl rfl rfl ?_
      have hO := hM
      obtain ⟨⟨fsO, hO0, -⟩, -⟩ := hO
      refine zj_callV (As := []) (rest := []) C (List.mem_of_getElem? (i := 4) rfl) rfl rfl rfl (by decide) (zj_W_mono (zj_oneM_W (c0 := c0) (n1 := n1) (x1 := x1) (k1 := k1) hB h0 hw hs r0) (by decide)) rfl rfl hO0 rfl (Nat.le_of_ble_eq_true rfl) rfl ⟨rfl, rfl, rfl⟩ (fun v w2 hw2A hw2Z => ?_)
      rcases hw2Z with ⟨hv, tk2, d2, l2, f2, o3, st2, P2, h2, rfl, rfl, rfl, ho3, hw2, hh2, hs2, hb1, hb2, r2⟩ | ⟨hv, tk2, k2, h2, r2⟩
      rotate_left
      · subst hv
        refine zj_if_ne (tgt := 14) C (List.mem_of_getElem? (i := 5) rfl) rfl (by decide) (fun hd => ?_) (fun hd => ?_)
        · exact absurd rfl hd
        refine zj_iconst (v := 0) C (List.mem_of_getElem? (i := 6) rfl) rfl (by decide) ?_
        exact KRi 13 _ _ _ (List.mem_of_getElem? (i := 7) rfl) (by decide) (Or.inr ⟨rfl, Or.inl rfl⟩) (hw2A.trans hA) (Or.inr ⟨rfl, tk2, k2, h2, r2⟩)
      subst hv
      refine zj_if_ne (tgt := 14) C (List.mem_of_getElem? (i := 5) rfl) rfl (by decide) (fun hd => ?_) (fun hd => ?_)
      rotate_left
      · exact absurd hd (by decide)
      obtain ⟨-, -, -, hbx⟩ := h2
      exact absurd hbx.1 (by omega)
    | succ N ih =>
      intro tk o2 st P ws1 lv hN h0 hA hw hs r0 hlv
      refine zj_perm1 C hlv ?_
      have h00 := h0
      obtain ⟨⟨tok, sp, nu, fa, pm, wd, fv, fe, pf, hM, -⟩, -, -, hbd3⟩ := h00
      refine zj_aload_n C (List.mem_of_getElem? (i := 3) rfl) rfl rfl rfl ?_
      have hO := hM
      obtain ⟨⟨fsO, hO0, -⟩, -⟩ := hO
      refine zj_callV (As := []) (rest := []) C (List.mem_of_getElem? (i := 4) rfl) rfl rfl rfl (by decide) (zj_W_mono (zj_oneM_W (c0 := c0) (n1 := n1) (x1 := x1) (k1 := k1) hB h0 hw hs r0) (by decide)) rfl rfl hO0 rfl (Nat.le_of_ble_eq_true rfl) rfl ⟨rfl, rfl, rfl⟩ (fun v w2 hw2A hw2Z => ?_)
      rcases hw2Z with ⟨hv, tk2, d2, l2, f2, o3, st2, P2, h2, rfl, rfl, rfl, ho3, hw2, hh2, hs2, hb1, hb2, r2⟩ | ⟨hv, tk2, k2, h2, r2⟩
      rotate_left
      · subst hv
        refine zj_if_ne (tgt := 14) C (List.mem_of_getElem? (i := 5) rfl) rfl (by decide) (fun hd => ?_) (fun hd => ?_)
        · exact absurd rfl hd
        refine zj_iconst (v := 0) C (List.mem_of_getElem? (i := 6) rfl) rfl (by decide) ?_
        exact KRi 13 _ _ _ (List.mem_of_getElem? (i := 7) rfl) (by decide) (Or.inr ⟨rfl, Or.inl rfl⟩) (hw2A.trans hA) (Or.inr ⟨rfl, tk2, k2, h2, r2⟩)
      subst hv
      refine zj_if_ne (tgt := 14) C (List.mem_of_getElem? (i := 5) rfl) rfl (by decide) (fun hd => ?_) (fun hd => ?_)
      rotate_left
      · exact absurd hd (by decide)
      have inner : ∀ (n : Nat) (tk : zj_T) (st : Nat) (P : List Nat) (ws1 : va_W) (lv : List (Nat × Value)), P.length ≤ n → zj_mr true M ws1 tk d1 l1 f1 o3 st P 0 → zx_as ws1 = zx_as ws → zj_wf P = true → zj_hd P → (zj_os P).length ≤ 12 → st + P.length < 2 * o3 → P.length < o3 → zj_R (zj_gM M) M.t c0 (8, tk, n1, d1, l1, f1, o3, (zj_os P), x1, k1) → zj_lk lv 0 = some (.ref M.aM) → zj_go p l e R s mi args below meth c Q D A (zx_mV zx_m160.2.1) 14 lv [] ws1 := by
        intro n
        induction n with
        | zero =>
          intro tk st P ws1 lv hn h0 hA hw hh hs hb1 hb2 r0 hlv
          refine zj_perm1 C hlv ?_
          have h00 := h0
          obtain ⟨⟨tok, sp, nu, fa, pm, wd, fv, fe, pf, hM, -, -, -, hpk⟩, hbd, hbdb, hbd3⟩ := h00
          have hel := zj_pl_el P hpk.2
          have c57 : ¬ (tk.1 = 26 ∧ false ∈ zj_os P) → zj_go p l e R s mi args below meth c Q D A (zx_mV zx_m160.2.1) 57 [(0, .ref M.aM)] [] ws1 := by
            intro hncl
            have join : ∀ (av : Int32), (av = 1 ∧ tk.1 = 9 ∨ av = 0 ∧ tk.1 = 8) → zj_go p l e R s mi args below meth c Q D A (zx_mV zx_m160.2.1) 99 [(1, .int av), (0, .ref M.aM)] [] ws1 := by
              intro av hav
              have r9 : zj_R (zj_gM M) M.t (8, tk, n1, d1, l1, f1, o3, (zj_os P), x1, k1) (7, (zj_nm M tk), n1, d1, l1, f1, o3, (zj_os P), x1, k1) := by
                rcases zj_os_top P hel hw hh with h | ⟨s, h⟩
                · rw [h]; exact zj_R_st (by rw [zj_st, if_pos (by omega)]; rfl)
                · rw [h]; exact zj_R_st (by rw [zj_st, if_pos (by omega)]; rfl)
              refine zj_aload_n C (List.mem_of_getElem? (i := 52) rfl) rfl rfl rfl ?_
              refine zj_iload_n C (List.mem_of_getElem? (i := 53) rfl) rfl rfl rfl ?_
              refine zj_if_eq (tgt := 108) C (List.mem_of_getElem? (i := 54) rfl) rfl (by decide) (fun hq => ?_) (fun hq => ?_)
              · have htk8 : tk.1 = 8 := by
                  rcases hav with h | h
                  · rw [h.1] at hq; exact absurd hq (by decide)
                  · exact h.2
                refine zj_iconst (v := 1) C (List.mem_of_getElem? (i := 57) rfl) rfl (by decide) ?_
                have hO := hM
                obtain ⟨⟨fsO, hO0, -⟩, -⟩ := hO
                refine zj_callV (As := [.int (nI 1)]) (rest := []) C (List.mem_of_getElem? (i := 58) rfl) rfl rfl rfl (by decide) (zj_W_mono (zj_down_W (b := 1) h0 (by decide)) (by decide)) rfl rfl hO0 rfl (Nat.le_of_ble_eq_true rfl) rfl ⟨rfl, rfl, rfl⟩ (fun v w3 hw3A hw3Z => ?_)
                obtain ⟨hv, h3⟩ := hw3Z
                subst hv
                obtain ⟨e1, e2⟩ := zj_dn_j (b := 1) (by decide) P hel hw hh
                have hdl := zj_dn_len (b := 1) P
                have hwd := zj_dn_wf (b := 1) P hw
                generalize zj_dn 1 P = P3 at h3 e1 e2 hdl hwd
                generalize hst3 : st + P.length - P3.length = st3 at h3
                have h33 := h3
                obtain ⟨⟨tok3, sp3, nu3, fa3, pm3, wd3, fv3, fe3, pf3, hM3, ht3, hv63, he93, hpk3⟩, hbd3a, hbd3b, hbd3c⟩ := h3
                obtain ⟨hpm3, hpl3⟩ := hpk3
                subst hpm3
                refine zj_aload_n C (List.mem_of_getElem? (i := 59) rfl) rfl rfl rfl ?_
                refine zj_getM C (List.mem_of_getElem? (i := 60) rfl) rfl rfl rfl hM3 rfl ?_
                refine zj_aload_n C (List.mem_of_getElem? (i := 61) rfl) rfl rfl rfl ?_
                refine zj_getM C (List.mem_of_getElem? (i := 62) rfl) rfl rfl rfl hM3 rfl ?_
                refine zj_iload_n C (List.mem_of_getElem? (i := 63) rfl) rfl rfl rfl ?_
                refine zj_if_eq (tgt := 129) C (List.mem_of_getElem? (i := 64) rfl) rfl (by decide) (fun hq2 => ?_) (fun hq2 => ?_)
                rotate_left
                · exact absurd hq hq2
                refine zj_bipush (v := 22) C (List.mem_of_getElem? (i := 67) rfl) rfl (by decide) ?_
                refine zj_iasP C (List.mem_of_getElem? (i := 68) rfl) rfl hM3 (vp_in_nI (by omega) (by decide)) (fun w4 hw4M hw4A => ?_)
                rw [nI_clamp (by omega)] at hw4M
                refine zj_aload_n C (List.mem_of_getElem? (i := 69) rfl) rfl rfl rfl ?_
                refine zj_dup C (List.mem_of_getElem? (i := 70) rfl) rfl rfl ?_
                refine zj_getM C (List.mem_of_getElem? (i := 71) rfl) rfl rfl rfl hw4M rfl ?_
                refine zj_iconst (v := 1) C (List.mem_of_getElem? (i := 72) rfl) rfl (by decide) ?_
                refine zj_iadd (v := (nI (P3.length + 1))) C (List.mem_of_getElem? (i := 73) rfl) rfl (nI_1 _) ?_
                refine zj_putM (L' := (zj_ML M (nI M.t) (nI tk.2.2.2) tok3 (nI tk.2.2.1) sp3 nu3 wd3 0 fa3 (nI d1) (nI o3) (nI st3) (nI (P3.length + 1)))) C (List.mem_of_getElem? (i := 74) rfl) rfl rfl rfl hw4M (Nat.le_of_ble_eq_true rfl) (by decide) rfl (zj_fit_i rfl _) (by unfold zj_ML; repeat first | exact zj_sub_nil | refine zj_sub_cons rfl ?_) (fun w5 hw5M hw5A => ?_)
                have h5 : zj_mr true M w5 tk d1 l1 f1 o3 st3 (22 :: P3) 0 := ⟨⟨tok3, sp3, nu3, fa3, _, wd3, fv3, fe3, _, hw5M, ht3, hv63, he93, rfl, zj_pl_push (x := 22) (by decide) hpl3⟩, hbd3a, hbd3b, hbd3c.1, by rw [List.length_cons]; omega, by rw [List.length_cons]; omega⟩
                refine zj_aload_n C (List.mem_of_getElem? (i := 75) rfl) rfl rfl rfl ?_
                have hO := hw5M
                obtain ⟨⟨fsO, hO0, -⟩, -⟩ := hO
                refine zj_callV (As := []) (rest := []) C (List.mem_of_getElem? (i := 76) rfl) rfl rfl rfl (by decide) (zj_W_mono (zj_next_m hB h5) (by decide)) rfl rfl hO0 rfl (Nat.le_of_ble_eq_true rfl) rfl ⟨rfl, rfl, rfl⟩ (fun v w6 hw6A hw6Z => ?_)
                obtain ⟨hv, h6⟩ := hw6Z
                subst hv
                refine zj_goto (tgt := 5) C (List.mem_of_getElem? (i := 77) rfl) (by decide) ?_
                have hos : zj_os (22 :: P3) = zj_os P := by rw [zj_os, if_neg (by decide), if_neg (by decide), e1]
                exact ih (zj_nm M tk) o3 st3 (22 :: P3) w6 _ (by omega) h6 (hw6A.trans (hw5A.trans (hw4A.trans (hw3A.trans hA)))) (zj_wf_cons hwd (fun _ => e2)) (by rw [hos]; exact hs) (by rw [hos]; exact zj_R_tr r0 r9) rfl
              have htk9 : tk.1 = 9 := by
                rcases hav with h | h
                · exact h.2
                · exact absurd h.1 hq
              refine zj_iconst (v := 2) C (List.mem_of_getElem? (i := 55) rfl) rfl (by decide) ?_
              refine zj_goto (tgt := 109) C (List.mem_of_getElem? (i := 56) rfl) (by decide) ?_
              have hO := hM
              obtain ⟨⟨fsO, hO0, -⟩, -⟩ := hO
              refine zj_callV (As := [.int (nI 2)]) (rest := []) C (List.mem_of_getElem? (i := 58) rfl) rfl rfl rfl (by decide) (zj_W_mono (zj_down_W (b := 2) h0 (by decide)) (by decide)) rfl rfl hO0 rfl (Nat.le_of_ble_eq_true rfl) rfl ⟨rfl, rfl, rfl⟩ (fun v w3 hw3A hw3Z => ?_)
              obtain ⟨hv, h3⟩ := hw3Z
              subst hv
              obtain ⟨e1, e2⟩ := zj_dn_j (b := 2) (by decide) P hel hw hh
              have hdl := zj_dn_len (b := 2) P
              have hwd := zj_dn_wf (b := 2) P hw
              generalize zj_dn 2 P = P3 at h3 e1 e2 hdl hwd
              generalize hst3 : st + P.length - P3.length = st3 at h3
              have h33 := h3
              obtain ⟨⟨tok3, sp3, nu3, fa3, pm3, wd3, fv3, fe3, pf3, hM3, ht3, hv63, he93, hpk3⟩, hbd3a, hbd3b, hbd3c⟩ := h3
              obtain ⟨hpm3, hpl3⟩ := hpk3
              subst hpm3
              refine zj_aload_n C (List.mem_of_getElem? (i := 59) rfl) rfl rfl rfl ?_
              refine zj_getM C (List.mem_of_getElem? (i := 60) rfl) rfl rfl rfl hM3 rfl ?_
              refine zj_aload_n C (List.mem_of_getElem? (i := 61) rfl) rfl rfl rfl ?_
              refine zj_getM C (List.mem_of_getElem? (i := 62) rfl) rfl rfl rfl hM3 rfl ?_
              refine zj_iload_n C (List.mem_of_getElem? (i := 63) rfl) rfl rfl rfl ?_
              refine zj_if_eq (tgt := 129) C (List.mem_of_getElem? (i := 64) rfl) rfl (by decide) (fun hq2 => ?_) (fun hq2 => ?_)
              · exact absurd hq2 hq
              refine zj_bipush (v := 21) C (List.mem_of_getElem? (i := 65) rfl) rfl (by decide) ?_
              refine zj_goto (tgt := 131) C (List.mem_of_getElem? (i := 66) rfl) (by decide) ?_
              refine zj_iasP C (List.mem_of_getElem? (i := 68) rfl) rfl hM3 (vp_in_nI (by omega) (by decide)) (fun w4 hw4M hw4A => ?_)
              rw [nI_clamp (by omega)] at hw4M
              refine zj_aload_n C (List.mem_of_getElem? (i := 69) rfl) rfl rfl rfl ?_
              refine zj_dup C (List.mem_of_getElem? (i := 70) rfl) rfl rfl ?_
              refine zj_getM C (List.mem_of_getElem? (i := 71) rfl) rfl rfl rfl hw4M rfl ?_
              refine zj_iconst (v := 1) C (List.mem_of_getElem? (i := 72) rfl) rfl (by decide) ?_
              refine zj_iadd (v := (nI (P3.length + 1))) C (List.mem_of_getElem? (i := 73) rfl) rfl (nI_1 _) ?_
              refine zj_putM (L' := (zj_ML M (nI M.t) (nI tk.2.2.2) tok3 (nI tk.2.2.1) sp3 nu3 wd3 0 fa3 (nI d1) (nI o3) (nI st3) (nI (P3.length + 1)))) C (List.mem_of_getElem? (i := 74) rfl) rfl rfl rfl hw4M (Nat.le_of_ble_eq_true rfl) (by decide) rfl (zj_fit_i rfl _) (by unfold zj_ML; repeat first | exact zj_sub_nil | refine zj_sub_cons rfl ?_) (fun w5 hw5M hw5A => ?_)
              have h5 : zj_mr true M w5 tk d1 l1 f1 o3 st3 (21 :: P3) 0 := ⟨⟨tok3, sp3, nu3, fa3, _, wd3, fv3, fe3, _, hw5M, ht3, hv63, he93, rfl, zj_pl_push (x := 21) (by decide) hpl3⟩, hbd3a, hbd3b, hbd3c.1, by rw [List.length_cons]; omega, by rw [List.length_cons]; omega⟩
              refine zj_aload_n C (List.mem_of_getElem? (i := 75) rfl) rfl rfl rfl ?_
              have hO := hw5M
              obtain ⟨⟨fsO, hO0, -⟩, -⟩ := hO
              refine zj_callV (As := []) (rest := []) C (List.mem_of_getElem? (i := 76) rfl) rfl rfl rfl (by decide) (zj_W_mono (zj_next_m hB h5) (by decide)) rfl rfl hO0 rfl (Nat.le_of_ble_eq_true rfl) rfl ⟨rfl, rfl, rfl⟩ (fun v w6 hw6A hw6Z => ?_)
              obtain ⟨hv, h6⟩ := hw6Z
              subst hv
              refine zj_goto (tgt := 5) C (List.mem_of_getElem? (i := 77) rfl) (by decide) ?_
              have hos : zj_os (21 :: P3) = zj_os P := by rw [zj_os, if_neg (by decide), if_neg (by decide), e1]
              exact ih (zj_nm M tk) o3 st3 (21 :: P3) w6 _ (by omega) h6 (hw6A.trans (hw5A.trans (hw4A.trans (hw3A.trans hA)))) (zj_wf_cons hwd (fun _ => e2)) (by rw [hos]; exact hs) (by rw [hos]; exact zj_R_tr r0 r9) rfl
            refine zj_aload_n C (List.mem_of_getElem? (i := 30) rfl) rfl rfl rfl ?_
            refine zj_ldc2 (v := zj_wc 9) C (List.mem_of_getElem? (i := 31) rfl) rfl (zj_long hown (k := 9) (ix := 401) (by decide)) ?_
            have hO := hM
            obtain ⟨⟨fsO, hO0, -⟩, -⟩ := hO
            refine zj_callV (As := [.long (zj_wc 9)]) (rest := []) C (List.mem_of_getElem? (i := 32) rfl) rfl rfl rfl (by decide) (zj_W_mono (zj_isWord_W (k := 9) h0 (by decide)) (by decide)) rfl rfl hO0 rfl (Nat.le_of_ble_eq_true rfl) rfl ⟨rfl, rfl, rfl⟩ (fun v w3 hw3A hw3Z => ?_)
            obtain ⟨hw, hv⟩ := hw3Z
            subst hw
            rcases hv with ⟨hv, hc9⟩ | ⟨hv, hc9⟩
            · subst hv
              refine zj_istore_n C (List.mem_of_getElem? (i := 33) rfl) rfl rfl (by decide) rfl ?_
              refine zj_iload_n C (List.mem_of_getElem? (i := 34) rfl) rfl rfl rfl ?_
              refine zj_if_ne (tgt := 99) C (List.mem_of_getElem? (i := 35) rfl) rfl (by decide) (fun hd => ?_) (fun hd => ?_)
              rotate_left
              · exact absurd hd (by decide)
              exact join 1 (Or.inl ⟨rfl, hc9⟩)
            subst hv
            refine zj_istore_n C (List.mem_of_getElem? (i := 33) rfl) rfl rfl (by decide) rfl ?_
            refine zj_iload_n C (List.mem_of_getElem? (i := 34) rfl) rfl rfl rfl ?_
            refine zj_if_ne (tgt := 99) C (List.mem_of_getElem? (i := 35) rfl) rfl (by decide) (fun hd => ?_) (fun hd => ?_)
            · exact absurd rfl hd
            refine zj_aload_n C (List.mem_of_getElem? (i := 36) rfl) rfl rfl rfl ?_
            refine zj_ldc2 (v := zj_wc 8) C (List.mem_of_getElem? (i := 37) rfl) rfl (zj_long hown (k := 8) (ix := 403) (by decide)) ?_
            have hO := hM
            obtain ⟨⟨fsO, hO0, -⟩, -⟩ := hO
            refine zj_callV (As := [.long (zj_wc 8)]) (rest := []) C (List.mem_of_getElem? (i := 38) rfl) rfl rfl rfl (by decide) (zj_W_mono (zj_isWord_W (k := 8) h0 (by decide)) (by decide)) rfl rfl hO0 rfl (Nat.le_of_ble_eq_true rfl) rfl ⟨rfl, rfl, rfl⟩ (fun v w4 hw4A hw4Z => ?_)
            obtain ⟨hw, hv⟩ := hw4Z
            subst hw
            rcases hv with ⟨hv, hc8⟩ | ⟨hv, hc8⟩
            · subst hv
              refine zj_if_ne (tgt := 99) C (List.mem_of_getElem? (i := 39) rfl) rfl (by decide) (fun hd2 => ?_) (fun hd2 => ?_)
              rotate_left
              · exact absurd hd2 (by decide)
              exact join 0 (Or.inr ⟨rfl, hc8⟩)
            subst hv
            refine zj_if_ne (tgt := 99) C (List.mem_of_getElem? (i := 39) rfl) rfl (by decide) (fun hd2 => ?_) (fun hd2 => ?_)
            · exact absurd rfl hd2
            refine zj_aload_n C (List.mem_of_getElem? (i := 40) rfl) rfl rfl rfl ?_
            have hO := hM
            obtain ⟨⟨fsO, hO0, -⟩, -⟩ := hO
            refine zj_callV (As := []) (rest := []) C (List.mem_of_getElem? (i := 41) rfl) rfl rfl rfl (by decide) (zj_W_mono (zj_isOpen_W h0) (by decide)) rfl rfl hO0 rfl (Nat.le_of_ble_eq_true rfl) rfl ⟨rfl, rfl, rfl⟩ (fun v w5 hw5A hw5Z => ?_)
            obtain ⟨hw5e, hv⟩ := hw5Z
            subst hw5e
            rcases hv with ⟨hv, ho⟩ | ⟨hv, ho⟩
            · subst hv
              refine zj_if_eq (tgt := 92) C (List.mem_of_getElem? (i := 42) rfl) rfl (by decide) (fun hd3 => ?_) (fun hd3 => ?_)
              · exact absurd hd3 (by decide)
              refine zj_aload_n C (List.mem_of_getElem? (i := 43) rfl) rfl rfl rfl ?_
              refine zj_iconst (v := 1) C (List.mem_of_getElem? (i := 44) rfl) rfl (by decide) ?_
              have hO := hM
              obtain ⟨⟨fsO, hO0, -⟩, -⟩ := hO
              refine zj_callV (As := [.int (nI 1)]) (rest := []) C (List.mem_of_getElem? (i := 45) rfl) rfl rfl rfl (by decide) (zj_W_mono (zj_badM_W (k := 1) h0) (by decide)) rfl rfl hO0 rfl (Nat.le_of_ble_eq_true rfl) rfl ⟨rfl, rfl, rfl⟩ (fun v w6 hw6A hw6Z => ?_)
              obtain ⟨hv, h9⟩ := hw6Z
              subst hv
              obtain ⟨s, hsx⟩ : ∃ s, zj_os P = false :: s := by
                rcases zj_os_top P hel hw hh with h | h
                · rw [h] at ho; cases ho
                · exact h
              exact KRi 91 _ _ _ (List.mem_of_getElem? (i := 46) rfl) (by decide) (Or.inr ⟨rfl, Or.inl rfl⟩) (hw6A.trans hA) (Or.inr ⟨rfl, tk, 1, h9, zj_R_tr r0 (by rw [hsx]; exact zj_R_st (by rw [zj_st, if_neg (by omega), if_neg (fun h => hncl ⟨h, ho⟩)]))⟩)
            subst hv
            refine zj_if_eq (tgt := 92) C (List.mem_of_getElem? (i := 42) rfl) rfl (by decide) (fun hd3 => ?_) (fun hd3 => ?_)
            rotate_left
            · exact absurd rfl hd3
            have hemp : zj_os P = [] := by
              rcases zj_os_top P hel hw hh with h | ⟨s, h⟩
              · exact h
              · rw [h] at ho; exact absurd List.mem_cons_self ho
            refine zj_aload_n C (List.mem_of_getElem? (i := 47) rfl) rfl rfl rfl ?_
            refine zj_iconst (v := 1) C (List.mem_of_getElem? (i := 48) rfl) rfl (by decide) ?_
            have hO := hM
            obtain ⟨⟨fsO, hO0, -⟩, -⟩ := hO
            refine zj_callV (As := [.int (nI 1)]) (rest := []) C (List.mem_of_getElem? (i := 49) rfl) rfl rfl rfl (by decide) (zj_W_mono (zj_down_W (b := 1) h0 (by decide)) (by decide)) rfl rfl hO0 rfl (Nat.le_of_ble_eq_true rfl) rfl ⟨rfl, rfl, rfl⟩ (fun v w6 hw6A hw6Z => ?_)
            obtain ⟨hv, h6⟩ := hw6Z
            subst hv
            have hnil : zj_dn 1 P = [] := by
              rcases zj_dn_1 P hel with h | ⟨r, h⟩
              · exact h
              · have h7 := (zj_dn_j (b := 1) (by decide) P hel hw hh).1
                rw [h, hemp, zj_os, if_neg (by decide), if_pos rfl] at h7
                cases h7
            rw [hnil] at h6
            refine zj_iconst (v := 1) C (List.mem_of_getElem? (i := 50) rfl) rfl (by decide) ?_
            exact KRi 98 _ _ _ (List.mem_of_getElem? (i := 51) rfl) (by decide) (Or.inr ⟨rfl, Or.inr rfl⟩) (hw6A.trans hA) (Or.inl ⟨rfl, tk, d1, l1, f1, o3, _, _, h6, rfl, rfl, rfl, rfl, hc8, hc9, by rw [hemp] at r0; exact r0⟩)
          refine zj_aload_n C (List.mem_of_getElem? (i := 8) rfl) rfl rfl rfl ?_
          refine zj_bipush (v := 41) C (List.mem_of_getElem? (i := 9) rfl) rfl (by decide) ?_
          have hO := hM
          obtain ⟨⟨fsO, hO0, -⟩, -⟩ := hO
          refine zj_callV (As := [.int (zj_sc 26)]) (rest := []) C (List.mem_of_getElem? (i := 10) rfl) rfl rfl rfl (by decide) (zj_W_mono (zj_isSign_W (k := 26) h0 (by decide) (by decide)) (by decide)) rfl rfl hO0 rfl (Nat.le_of_ble_eq_true rfl) rfl ⟨rfl, rfl, rfl⟩ (fun v w3 hw3A hw3Z => ?_)
          obtain ⟨hw3e, hv⟩ := hw3Z
          subst hw3e
          rcases hv with ⟨hv, hc26⟩ | ⟨hv, hc26⟩
          rotate_left
          · subst hv
            refine zj_if_eq (tgt := 57) C (List.mem_of_getElem? (i := 11) rfl) rfl (by decide) (fun hd => ?_) (fun hd => ?_)
            rotate_left
            · exact absurd rfl hd
            exact c57 (fun h => hc26 h.1)
          subst hv
          refine zj_if_eq (tgt := 57) C (List.mem_of_getElem? (i := 11) rfl) rfl (by decide) (fun hd => ?_) (fun hd => ?_)
          · exact absurd hd (by decide)
          refine zj_aload_n C (List.mem_of_getElem? (i := 12) rfl) rfl rfl rfl ?_
          have hO := hM
          obtain ⟨⟨fsO, hO0, -⟩, -⟩ := hO
          refine zj_callV (As := []) (rest := []) C (List.mem_of_getElem? (i := 13) rfl) rfl rfl rfl (by decide) (zj_W_mono (zj_isOpen_W h0) (by decide)) rfl rfl hO0 rfl (Nat.le_of_ble_eq_true rfl) rfl ⟨rfl, rfl, rfl⟩ (fun v w4 hw4A hw4Z => ?_)
          obtain ⟨hw4e, hv⟩ := hw4Z
          subst hw4e
          rcases hv with ⟨hv, ho⟩ | ⟨hv, ho⟩
          rotate_left
          · subst hv
            refine zj_if_eq (tgt := 57) C (List.mem_of_getElem? (i := 14) rfl) rfl (by decide) (fun hd => ?_) (fun hd => ?_)
            rotate_left
            · exact absurd rfl hd
            exact c57 (fun h => ho h.2)
          subst hv
          refine zj_if_eq (tgt := 57) C (List.mem_of_getElem? (i := 14) rfl) rfl (by decide) (fun hd => ?_) (fun hd => ?_)
          · exact absurd hd (by decide)
          have hP0 : P = [] := List.length_eq_zero_iff.mp (by omega)
          rw [hP0] at ho
          cases ho
        | succ n ihn =>
          intro tk st P ws1 lv hn h0 hA hw hh hs hb1 hb2 r0 hlv
          refine zj_perm1 C hlv ?_
          have h00 := h0
          obtain ⟨⟨tok, sp, nu, fa, pm, wd, fv, fe, pf, hM, -, -, -, hpk⟩, hbd, hbdb, hbd3⟩ := h00
          have hel := zj_pl_el P hpk.2
          have c57 : ¬ (tk.1 = 26 ∧ false ∈ zj_os P) → zj_go p l e R s mi args below meth c Q D A (zx_mV zx_m160.2.1) 57 [(0, .ref M.aM)] [] ws1 := by
            intro hncl
            have join : ∀ (av : Int32), (av = 1 ∧ tk.1 = 9 ∨ av = 0 ∧ tk.1 = 8) → zj_go p l e R s mi args below meth c Q D A (zx_mV zx_m160.2.1) 99 [(1, .int av), (0, .ref M.aM)] [] ws1 := by
              intro av hav
              have r9 : zj_R (zj_gM M) M.t (8, tk, n1, d1, l1, f1, o3, (zj_os P), x1, k1) (7, (zj_nm M tk), n1, d1, l1, f1, o3, (zj_os P), x1, k1) := by
                rcases zj_os_top P hel hw hh with h | ⟨s, h⟩
                · rw [h]; exact zj_R_st (by rw [zj_st, if_pos (by omega)]; rfl)
                · rw [h]; exact zj_R_st (by rw [zj_st, if_pos (by omega)]; rfl)
              refine zj_aload_n C (List.mem_of_getElem? (i := 52) rfl) rfl rfl rfl ?_
              refine zj_iload_n C (List.mem_of_getElem? (i := 53) rfl) rfl rfl rfl ?_
              refine zj_if_eq (tgt := 108) C (List.mem_of_getElem? (i := 54) rfl) rfl (by decide) (fun hq => ?_) (fun hq => ?_)
              · have htk8 : tk.1 = 8 := by
                  rcases hav with h | h
                  · rw [h.1] at hq; exact absurd hq (by decide)
                  · exact h.2
                refine zj_iconst (v := 1) C (List.mem_of_getElem? (i := 57) rfl) rfl (by decide) ?_
                have hO := hM
                obtain ⟨⟨fsO, hO0, -⟩, -⟩ := hO
                refine zj_callV (As := [.int (nI 1)]) (rest := []) C (List.mem_of_getElem? (i := 58) rfl) rfl rfl rfl (by decide) (zj_W_mono (zj_down_W (b := 1) h0 (by decide)) (by decide)) rfl rfl hO0 rfl (Nat.le_of_ble_eq_true rfl) rfl ⟨rfl, rfl, rfl⟩ (fun v w3 hw3A hw3Z => ?_)
                obtain ⟨hv, h3⟩ := hw3Z
                subst hv
                obtain ⟨e1, e2⟩ := zj_dn_j (b := 1) (by decide) P hel hw hh
                have hdl := zj_dn_len (b := 1) P
                have hwd := zj_dn_wf (b := 1) P hw
                generalize zj_dn 1 P = P3 at h3 e1 e2 hdl hwd
                generalize hst3 : st + P.length - P3.length = st3 at h3
                have h33 := h3
                obtain ⟨⟨tok3, sp3, nu3, fa3, pm3, wd3, fv3, fe3, pf3, hM3, ht3, hv63, he93, hpk3⟩, hbd3a, hbd3b, hbd3c⟩ := h3
                obtain ⟨hpm3, hpl3⟩ := hpk3
                subst hpm3
                refine zj_aload_n C (List.mem_of_getElem? (i := 59) rfl) rfl rfl rfl ?_
                refine zj_getM C (List.mem_of_getElem? (i := 60) rfl) rfl rfl rfl hM3 rfl ?_
                refine zj_aload_n C (List.mem_of_getElem? (i := 61) rfl) rfl rfl rfl ?_
                refine zj_getM C (List.mem_of_getElem? (i := 62) rfl) rfl rfl rfl hM3 rfl ?_
                refine zj_iload_n C (List.mem_of_getElem? (i := 63) rfl) rfl rfl rfl ?_
                refine zj_if_eq (tgt := 129) C (List.mem_of_getElem? (i := 64) rfl) rfl (by decide) (fun hq2 => ?_) (fun hq2 => ?_)
                rotate_left
                · exact absurd hq hq2
                refine zj_bipush (v := 22) C (List.mem_of_getElem? (i := 67) rfl) rfl (by decide) ?_
                refine zj_iasP C (List.mem_of_getElem? (i := 68) rfl) rfl hM3 (vp_in_nI (by omega) (by decide)) (fun w4 hw4M hw4A => ?_)
                rw [nI_clamp (by omega)] at hw4M
                refine zj_aload_n C (List.mem_of_getElem? (i := 69) rfl) rfl rfl rfl ?_
                refine zj_dup C (List.mem_of_getElem? (i := 70) rfl) rfl rfl ?_
                refine zj_getM C (List.mem_of_getElem? (i := 71) rfl) rfl rfl rfl hw4M rfl ?_
                refine zj_iconst (v := 1) C (List.mem_of_getElem? (i := 72) rfl) rfl (by decide) ?_
                refine zj_iadd (v := (nI (P3.length + 1))) C (List.mem_of_getElem? (i := 73) rfl) rfl (nI_1 _) ?_
                refine zj_putM (L' := (zj_ML M (nI M.t) (nI tk.2.2.2) tok3 (nI tk.2.2.1) sp3 nu3 wd3 0 fa3 (nI d1) (nI o3) (nI st3) (nI (P3.length + 1)))) C (List.mem_of_getElem? (i := 74) rfl) rfl rfl rfl hw4M (Nat.le_of_ble_eq_true rfl) (by decide) rfl (zj_fit_i rfl _) (by unfold zj_ML; repeat first | exact zj_sub_nil | refine zj_sub_cons rfl ?_) (fun w5 hw5M hw5A => ?_)
                have h5 : zj_mr true M w5 tk d1 l1 f1 o3 st3 (22 :: P3) 0 := ⟨⟨tok3, sp3, nu3, fa3, _, wd3, fv3, fe3, _, hw5M, ht3, hv63, he93, rfl, zj_pl_push (x := 22) (by decide) hpl3⟩, hbd3a, hbd3b, hbd3c.1, by rw [List.length_cons]; omega, by rw [List.length_cons]; omega⟩
                refine zj_aload_n C (List.mem_of_getElem? (i := 75) rfl) rfl rfl rfl ?_
                have hO := hw5M
                obtain ⟨⟨fsO, hO0, -⟩, -⟩ := hO
                refine zj_callV (As := []) (rest := []) C (List.mem_of_getElem? (i := 76) rfl) rfl rfl rfl (by decide) (zj_W_mono (zj_next_m hB h5) (by decide)) rfl rfl hO0 rfl (Nat.le_of_ble_eq_true rfl) rfl ⟨rfl, rfl, rfl⟩ (fun v w6 hw6A hw6Z => ?_)
                obtain ⟨hv, h6⟩ := hw6Z
                subst hv
                refine zj_goto (tgt := 5) C (List.mem_of_getElem? (i := 77) rfl) (by decide) ?_
                have hos : zj_os (22 :: P3) = zj_os P := by rw [zj_os, if_neg (by decide), if_neg (by decide), e1]
                exact ih (zj_nm M tk) o3 st3 (22 :: P3) w6 _ (by omega) h6 (hw6A.trans (hw5A.trans (hw4A.trans (hw3A.trans hA)))) (zj_wf_cons hwd (fun _ => e2)) (by rw [hos]; exact hs) (by rw [hos]; exact zj_R_tr r0 r9) rfl
              have htk9 : tk.1 = 9 := by
                rcases hav with h | h
                · exact h.2
                · exact absurd h.1 hq
              refine zj_iconst (v := 2) C (List.mem_of_getElem? (i := 55) rfl) rfl (by decide) ?_
              refine zj_goto (tgt := 109) C (List.mem_of_getElem? (i := 56) rfl) (by decide) ?_
              have hO := hM
              obtain ⟨⟨fsO, hO0, -⟩, -⟩ := hO
              refine zj_callV (As := [.int (nI 2)]) (rest := []) C (List.mem_of_getElem? (i := 58) rfl) rfl rfl rfl (by decide) (zj_W_mono (zj_down_W (b := 2) h0 (by decide)) (by decide)) rfl rfl hO0 rfl (Nat.le_of_ble_eq_true rfl) rfl ⟨rfl, rfl, rfl⟩ (fun v w3 hw3A hw3Z => ?_)
              obtain ⟨hv, h3⟩ := hw3Z
              subst hv
              obtain ⟨e1, e2⟩ := zj_dn_j (b := 2) (by decide) P hel hw hh
              have hdl := zj_dn_len (b := 2) P
              have hwd := zj_dn_wf (b := 2) P hw
              generalize zj_dn 2 P = P3 at h3 e1 e2 hdl hwd
              generalize hst3 : st + P.length - P3.length = st3 at h3
              have h33 := h3
              obtain ⟨⟨tok3, sp3, nu3, fa3, pm3, wd3, fv3, fe3, pf3, hM3, ht3, hv63, he93, hpk3⟩, hbd3a, hbd3b, hbd3c⟩ := h3
              obtain ⟨hpm3, hpl3⟩ := hpk3
              subst hpm3
              refine zj_aload_n C (List.mem_of_getElem? (i := 59) rfl) rfl rfl rfl ?_
              refine zj_getM C (List.mem_of_getElem? (i := 60) rfl) rfl rfl rfl hM3 rfl ?_
              refine zj_aload_n C (List.mem_of_getElem? (i := 61) rfl) rfl rfl rfl ?_
              refine zj_getM C (List.mem_of_getElem? (i := 62) rfl) rfl rfl rfl hM3 rfl ?_
              refine zj_iload_n C (List.mem_of_getElem? (i := 63) rfl) rfl rfl rfl ?_
              refine zj_if_eq (tgt := 129) C (List.mem_of_getElem? (i := 64) rfl) rfl (by decide) (fun hq2 => ?_) (fun hq2 => ?_)
              · exact absurd hq2 hq
              refine zj_bipush (v := 21) C (List.mem_of_getElem? (i := 65) rfl) rfl (by decide) ?_
              refine zj_goto (tgt := 131) C (List.mem_of_getElem? (i := 66) rfl) (by decide) ?_
              refine zj_iasP C (List.mem_of_getElem? (i := 68) rfl) rfl hM3 (vp_in_nI (by omega) (by decide)) (fun w4 hw4M hw4A => ?_)
              rw [nI_clamp (by omega)] at hw4M
              refine zj_aload_n C (List.mem_of_getElem? (i := 69) rfl) rfl rfl rfl ?_
              refine zj_dup C (List.mem_of_getElem? (i := 70) rfl) rfl rfl ?_
              refine zj_getM C (List.mem_of_getElem? (i := 71) rfl) rfl rfl rfl hw4M rfl ?_
              refine zj_iconst (v := 1) C (List.mem_of_getElem? (i := 72) rfl) rfl (by decide) ?_
              refine zj_iadd (v := (nI (P3.length + 1))) C (List.mem_of_getElem? (i := 73) rfl) rfl (nI_1 _) ?_
              refine zj_putM (L' := (zj_ML M (nI M.t) (nI tk.2.2.2) tok3 (nI tk.2.2.1) sp3 nu3 wd3 0 fa3 (nI d1) (nI o3) (nI st3) (nI (P3.length + 1)))) C (List.mem_of_getElem? (i := 74) rfl) rfl rfl rfl hw4M (Nat.le_of_ble_eq_true rfl) (by decide) rfl (zj_fit_i rfl _) (by unfold zj_ML; repeat first | exact zj_sub_nil | refine zj_sub_cons rfl ?_) (fun w5 hw5M hw5A => ?_)
              have h5 : zj_mr true M w5 tk d1 l1 f1 o3 st3 (21 :: P3) 0 := ⟨⟨tok3, sp3, nu3, fa3, _, wd3, fv3, fe3, _, hw5M, ht3, hv63, he93, rfl, zj_pl_push (x := 21) (by decide) hpl3⟩, hbd3a, hbd3b, hbd3c.1, by rw [List.length_cons]; omega, by rw [List.length_cons]; omega⟩
              refine zj_aload_n C (List.mem_of_getElem? (i := 75) rfl) rfl rfl rfl ?_
              have hO := hw5M
              obtain ⟨⟨fsO, hO0, -⟩, -⟩ := hO
              refine zj_callV (As := []) (rest := []) C (List.mem_of_getElem? (i := 76) rfl) rfl rfl rfl (by decide) (zj_W_mono (zj_next_m hB h5) (by decide)) rfl rfl hO0 rfl (Nat.le_of_ble_eq_true rfl) rfl ⟨rfl, rfl, rfl⟩ (fun v w6 hw6A hw6Z => ?_)
              obtain ⟨hv, h6⟩ := hw6Z
              subst hv
              refine zj_goto (tgt := 5) C (List.mem_of_getElem? (i := 77) rfl) (by decide) ?_
              have hos : zj_os (21 :: P3) = zj_os P := by rw [zj_os, if_neg (by decide), if_neg (by decide), e1]
              exact ih (zj_nm M tk) o3 st3 (21 :: P3) w6 _ (by omega) h6 (hw6A.trans (hw5A.trans (hw4A.trans (hw3A.trans hA)))) (zj_wf_cons hwd (fun _ => e2)) (by rw [hos]; exact hs) (by rw [hos]; exact zj_R_tr r0 r9) rfl
            refine zj_aload_n C (List.mem_of_getElem? (i := 30) rfl) rfl rfl rfl ?_
            refine zj_ldc2 (v := zj_wc 9) C (List.mem_of_getElem? (i := 31) rfl) rfl (zj_long hown (k := 9) (ix := 401) (by decide)) ?_
            have hO := hM
            obtain ⟨⟨fsO, hO0, -⟩, -⟩ := hO
            refine zj_callV (As := [.long (zj_wc 9)]) (rest := []) C (List.mem_of_getElem? (i := 32) rfl) rfl rfl rfl (by decide) (zj_W_mono (zj_isWord_W (k := 9) h0 (by decide)) (by decide)) rfl rfl hO0 rfl (Nat.le_of_ble_eq_true rfl) rfl ⟨rfl, rfl, rfl⟩ (fun v w3 hw3A hw3Z => ?_)
            obtain ⟨hw, hv⟩ := hw3Z
            subst hw
            rcases hv with ⟨hv, hc9⟩ | ⟨hv, hc9⟩
            · subst hv
              refine zj_istore_n C (List.mem_of_getElem? (i := 33) rfl) rfl rfl (by decide) rfl ?_
              refine zj_iload_n C (List.mem_of_getElem? (i := 34) rfl) rfl rfl rfl ?_
              refine zj_if_ne (tgt := 99) C (List.mem_of_getElem? (i := 35) rfl) rfl (by decide) (fun hd => ?_) (fun hd => ?_)
              rotate_left
              · exact absurd hd (by decide)
              exact join 1 (Or.inl ⟨rfl, hc9⟩)
            subst hv
            refine zj_istore_n C (List.mem_of_getElem? (i := 33) rfl) rfl rfl (by decide) rfl ?_
            refine zj_iload_n C (List.mem_of_getElem? (i := 34) rfl) rfl rfl rfl ?_
            refine zj_if_ne (tgt := 99) C (List.mem_of_getElem? (i := 35) rfl) rfl (by decide) (fun hd => ?_) (fun hd => ?_)
            · exact absurd rfl hd
            refine zj_aload_n C (List.mem_of_getElem? (i := 36) rfl) rfl rfl rfl ?_
            refine zj_ldc2 (v := zj_wc 8) C (List.mem_of_getElem? (i := 37) rfl) rfl (zj_long hown (k := 8) (ix := 403) (by decide)) ?_
            have hO := hM
            obtain ⟨⟨fsO, hO0, -⟩, -⟩ := hO
            refine zj_callV (As := [.long (zj_wc 8)]) (rest := []) C (List.mem_of_getElem? (i := 38) rfl) rfl rfl rfl (by decide) (zj_W_mono (zj_isWord_W (k := 8) h0 (by decide)) (by decide)) rfl rfl hO0 rfl (Nat.le_of_ble_eq_true rfl) rfl ⟨rfl, rfl, rfl⟩ (fun v w4 hw4A hw4Z => ?_)
            obtain ⟨hw, hv⟩ := hw4Z
            subst hw
            rcases hv with ⟨hv, hc8⟩ | ⟨hv, hc8⟩
            · subst hv
              refine zj_if_ne (tgt := 99) C (List.mem_of_getElem? (i := 39) rfl) rfl (by decide) (fun hd2 => ?_) (fun hd2 => ?_)
              rotate_left
              · exact absurd hd2 (by decide)
              exact join 0 (Or.inr ⟨rfl, hc8⟩)
            subst hv
            refine zj_if_ne (tgt := 99) C (List.mem_of_getElem? (i := 39) rfl) rfl (by decide) (fun hd2 => ?_) (fun hd2 => ?_)
            · exact absurd rfl hd2
            refine zj_aload_n C (List.mem_of_getElem? (i := 40) rfl) rfl rfl rfl ?_
            have hO := hM
            obtain ⟨⟨fsO, hO0, -⟩, -⟩ := hO
            refine zj_callV (As := []) (rest := []) C (List.mem_of_getElem? (i := 41) rfl) rfl rfl rfl (by decide) (zj_W_mono (zj_isOpen_W h0) (by decide)) rfl rfl hO0 rfl (Nat.le_of_ble_eq_true rfl) rfl ⟨rfl, rfl, rfl⟩ (fun v w5 hw5A hw5Z => ?_)
            obtain ⟨hw5e, hv⟩ := hw5Z
            subst hw5e
            rcases hv with ⟨hv, ho⟩ | ⟨hv, ho⟩
            · subst hv
              refine zj_if_eq (tgt := 92) C (List.mem_of_getElem? (i := 42) rfl) rfl (by decide) (fun hd3 => ?_) (fun hd3 => ?_)
              · exact absurd hd3 (by decide)
              refine zj_aload_n C (List.mem_of_getElem? (i := 43) rfl) rfl rfl rfl ?_
              refine zj_iconst (v := 1) C (List.mem_of_getElem? (i := 44) rfl) rfl (by decide) ?_
              have hO := hM
              obtain ⟨⟨fsO, hO0, -⟩, -⟩ := hO
              refine zj_callV (As := [.int (nI 1)]) (rest := []) C (List.mem_of_getElem? (i := 45) rfl) rfl rfl rfl (by decide) (zj_W_mono (zj_badM_W (k := 1) h0) (by decide)) rfl rfl hO0 rfl (Nat.le_of_ble_eq_true rfl) rfl ⟨rfl, rfl, rfl⟩ (fun v w6 hw6A hw6Z => ?_)
              obtain ⟨hv, h9⟩ := hw6Z
              subst hv
              obtain ⟨s, hsx⟩ : ∃ s, zj_os P = false :: s := by
                rcases zj_os_top P hel hw hh with h | h
                · rw [h] at ho; cases ho
                · exact h
              exact KRi 91 _ _ _ (List.mem_of_getElem? (i := 46) rfl) (by decide) (Or.inr ⟨rfl, Or.inl rfl⟩) (hw6A.trans hA) (Or.inr ⟨rfl, tk, 1, h9, zj_R_tr r0 (by rw [hsx]; exact zj_R_st (by rw [zj_st, if_neg (by omega), if_neg (fun h => hncl ⟨h, ho⟩)]))⟩)
            subst hv
            refine zj_if_eq (tgt := 92) C (List.mem_of_getElem? (i := 42) rfl) rfl (by decide) (fun hd3 => ?_) (fun hd3 => ?_)
            rotate_left
            · exact absurd rfl hd3
            have hemp : zj_os P = [] := by
              rcases zj_os_top P hel hw hh with h | ⟨s, h⟩
              · exact h
              · rw [h] at ho; exact absurd List.mem_cons_self ho
            refine zj_aload_n C (List.mem_of_getElem? (i := 47) rfl) rfl rfl rfl ?_
            refine zj_iconst (v := 1) C (List.mem_of_getElem? (i := 48) rfl) rfl (by decide) ?_
            have hO := hM
            obtain ⟨⟨fsO, hO0, -⟩, -⟩ := hO
            refine zj_callV (As := [.int (nI 1)]) (rest := []) C (List.mem_of_getElem? (i := 49) rfl) rfl rfl rfl (by decide) (zj_W_mono (zj_down_W (b := 1) h0 (by decide)) (by decide)) rfl rfl hO0 rfl (Nat.le_of_ble_eq_true rfl) rfl ⟨rfl, rfl, rfl⟩ (fun v w6 hw6A hw6Z => ?_)
            obtain ⟨hv, h6⟩ := hw6Z
            subst hv
            have hnil : zj_dn 1 P = [] := by
              rcases zj_dn_1 P hel with h | ⟨r, h⟩
              · exact h
              · have h7 := (zj_dn_j (b := 1) (by decide) P hel hw hh).1
                rw [h, hemp, zj_os, if_neg (by decide), if_pos rfl] at h7
                cases h7
            rw [hnil] at h6
            refine zj_iconst (v := 1) C (List.mem_of_getElem? (i := 50) rfl) rfl (by decide) ?_
            exact KRi 98 _ _ _ (List.mem_of_getElem? (i := 51) rfl) (by decide) (Or.inr ⟨rfl, Or.inr rfl⟩) (hw6A.trans hA) (Or.inl ⟨rfl, tk, d1, l1, f1, o3, _, _, h6, rfl, rfl, rfl, rfl, hc8, hc9, by rw [hemp] at r0; exact r0⟩)
          refine zj_aload_n C (List.mem_of_getElem? (i := 8) rfl) rfl rfl rfl ?_
          refine zj_bipush (v := 41) C (List.mem_of_getElem? (i := 9) rfl) rfl (by decide) ?_
          have hO := hM
          obtain ⟨⟨fsO, hO0, -⟩, -⟩ := hO
          refine zj_callV (As := [.int (zj_sc 26)]) (rest := []) C (List.mem_of_getElem? (i := 10) rfl) rfl rfl rfl (by decide) (zj_W_mono (zj_isSign_W (k := 26) h0 (by decide) (by decide)) (by decide)) rfl rfl hO0 rfl (Nat.le_of_ble_eq_true rfl) rfl ⟨rfl, rfl, rfl⟩ (fun v w3 hw3A hw3Z => ?_)
          obtain ⟨hw3e, hv⟩ := hw3Z
          subst hw3e
          rcases hv with ⟨hv, hc26⟩ | ⟨hv, hc26⟩
          rotate_left
          · subst hv
            refine zj_if_eq (tgt := 57) C (List.mem_of_getElem? (i := 11) rfl) rfl (by decide) (fun hd => ?_) (fun hd => ?_)
            rotate_left
            · exact absurd rfl hd
            exact c57 (fun h => hc26 h.1)
          subst hv
          refine zj_if_eq (tgt := 57) C (List.mem_of_getElem? (i := 11) rfl) rfl (by decide) (fun hd => ?_) (fun hd => ?_)
          · exact absurd hd (by decide)
          refine zj_aload_n C (List.mem_of_getElem? (i := 12) rfl) rfl rfl rfl ?_
          have hO := hM
          obtain ⟨⟨fsO, hO0, -⟩, -⟩ := hO
          refine zj_callV (As := []) (rest := []) C (List.mem_of_getElem? (i := 13) rfl) rfl rfl rfl (by decide) (zj_W_mono (zj_isOpen_W h0) (by decide)) rfl rfl hO0 rfl (Nat.le_of_ble_eq_true rfl) rfl ⟨rfl, rfl, rfl⟩ (fun v w4 hw4A hw4Z => ?_)
          obtain ⟨hw4e, hv⟩ := hw4Z
          subst hw4e
          rcases hv with ⟨hv, ho⟩ | ⟨hv, ho⟩
          rotate_left
          · subst hv
            refine zj_if_eq (tgt := 57) C (List.mem_of_getElem? (i := 14) rfl) rfl (by decide) (fun hd => ?_) (fun hd => ?_)
            rotate_left
            · exact absurd rfl hd
            exact c57 (fun h => ho h.2)
          subst hv
          refine zj_if_eq (tgt := 57) C (List.mem_of_getElem? (i := 14) rfl) rfl (by decide) (fun hd => ?_) (fun hd => ?_)
          · exact absurd hd (by decide)
          refine zj_aload_n C (List.mem_of_getElem? (i := 15) rfl) rfl rfl rfl ?_
          refine zj_iconst (v := 1) C (List.mem_of_getElem? (i := 16) rfl) rfl (by decide) ?_
          have hO := hM
          obtain ⟨⟨fsO, hO0, -⟩, -⟩ := hO
          refine zj_callV (As := [.int (nI 1)]) (rest := []) C (List.mem_of_getElem? (i := 17) rfl) rfl rfl rfl (by decide) (zj_W_mono (zj_down_W (b := 1) h0 (by decide)) (by decide)) rfl rfl hO0 rfl (Nat.le_of_ble_eq_true rfl) rfl ⟨rfl, rfl, rfl⟩ (fun v w5 hw5A hw5Z => ?_)
          obtain ⟨hv, h5⟩ := hw5Z
          subst hv
          obtain ⟨e1, e2⟩ := zj_dn_j (b := 1) (by decide) P hel hw hh
          have hdl := zj_dn_len (b := 1) P
          have hwd := zj_dn_wf (b := 1) P hw
          have hed := zj_dn_el (b := 1) P hel
          obtain ⟨r, hr⟩ : ∃ r, zj_dn 1 P = 23 :: r := by
            rcases zj_dn_1 P hel with h | h
            · rw [← e1, h] at ho; cases ho
            · exact h
          rw [hr] at h5 e1 hdl hwd hed
          have hos : zj_os P = false :: zj_os r := by rw [← e1, zj_os, if_neg (by decide), if_pos rfl]
          rw [List.length_cons] at hdl
          have hlr : (23 :: r).length = r.length + 1 := List.length_cons
          rw [hlr] at h5
          generalize hst5 : st + P.length - (r.length + 1) = st5 at h5
          have h55 := h5
          obtain ⟨⟨tok5, sp5, nu5, fa5, pm5, wd5, fv5, fe5, pf5, hM5, ht5, hv65, he95, hpk5⟩, hbd5a, hbd5b, hbd5c⟩ := h5
          obtain ⟨hpm5, hpl5⟩ := hpk5
          rw [hlr] at hpm5
          subst hpm5
          rw [hlr] at hbd5c
          refine zj_aload_n C (List.mem_of_getElem? (i := 18) rfl) rfl rfl rfl ?_
          refine zj_dup C (List.mem_of_getElem? (i := 19) rfl) rfl rfl ?_
          refine zj_getM C (List.mem_of_getElem? (i := 20) rfl) rfl rfl rfl hM5 rfl ?_
          refine zj_iconst (v := 1) C (List.mem_of_getElem? (i := 21) rfl) rfl (by decide) ?_
          refine zj_isub (v := (nI r.length)) C (List.mem_of_getElem? (i := 22) rfl) rfl (zj_nI_pred r.length (by omega)) ?_
          refine zj_putM (L' := (zj_ML M (nI M.t) (nI tk.2.2.2) tok5 (nI tk.2.2.1) sp5 nu5 wd5 0 fa5 (nI d1) (nI o3) (nI st5) (nI r.length))) C (List.mem_of_getElem? (i := 23) rfl) rfl rfl rfl hM5 (Nat.le_of_ble_eq_true rfl) (by decide) rfl (zj_fit_i rfl _) (by unfold zj_ML; repeat first | exact zj_sub_nil | refine zj_sub_cons rfl ?_) (fun w6 hw6M hw6A => ?_)
          have h6 : zj_mr true M w6 tk d1 l1 f1 o3 st5 r 0 := ⟨⟨tok5, sp5, nu5, fa5, _, wd5, fv5, fe5, pf5, hw6M, ht5, hv65, he95, rfl, hpl5.2.2⟩, hbd5a, hbd5b, hbd5c.1, by omega, by omega⟩
          refine zj_aload_n C (List.mem_of_getElem? (i := 24) rfl) rfl rfl rfl ?_
          refine zj_iconst (v := 3) C (List.mem_of_getElem? (i := 25) rfl) rfl (by decide) ?_
          have hO := hw6M
          obtain ⟨⟨fsO, hO0, -⟩, -⟩ := hO
          refine zj_callV (As := [.int (nI 3)]) (rest := []) C (List.mem_of_getElem? (i := 26) rfl) rfl rfl rfl (by decide) (zj_W_mono (zj_down_W (b := 3) h6 (by decide)) (by decide)) rfl rfl hO0 rfl (Nat.le_of_ble_eq_true rfl) rfl ⟨rfl, rfl, rfl⟩ (fun v w7 hw7A hw7Z => ?_)
          obtain ⟨hv, h7⟩ := hw7Z
          subst hv
          have h77 := h7
          obtain ⟨⟨tok7, sp7, nu7, fa7, pm7, wd7, fv7, fe7, pf7, hM7, -⟩, -⟩ := h77
          refine zj_aload_n C (List.mem_of_getElem? (i := 27) rfl) rfl rfl rfl ?_
          have hO := hM7
          obtain ⟨⟨fsO, hO0, -⟩, -⟩ := hO
          refine zj_callV (As := []) (rest := []) C (List.mem_of_getElem? (i := 28) rfl) rfl rfl rfl (by decide) (zj_W_mono (zj_next_m hB h7) (by decide)) rfl rfl hO0 rfl (Nat.le_of_ble_eq_true rfl) rfl ⟨rfl, rfl, rfl⟩ (fun v w8 hw8A hw8Z => ?_)
          obtain ⟨hv, h8⟩ := hw8Z
          subst hv
          refine zj_goto (tgt := 14) C (List.mem_of_getElem? (i := 29) rfl) (by decide) ?_
          obtain ⟨u1, u2, u3⟩ := zj_dn_n (g := zj_gM M) (t := M.t) (tk := zj_nm M tk) (n1 := n1) (d1 := d1) (l1 := l1) (f1 := f1) (o1 := o3) (x1 := x1) (k1 := k1) r (zj_el_tl hed) (zj_wf_tl hwd)
          have hd3 := zj_dn_len (b := 3) r
          rw [hos, List.length_cons] at hs
          refine ihn (zj_nm M tk) _ (zj_dn 3 r) w8 _ (by omega) h8 (hw8A.trans (hw7A.trans (hw6A.trans (hw5A.trans hA)))) (zj_dn_wf r (zj_wf_tl hwd)) u2 (by omega) (by omega) (by omega) (zj_R_tr r0 (zj_R_tr ?_ u1)) rfl
          rw [hos]
          exact zj_R_st (by rw [zj_st, if_neg (by omega), if_pos hc26]; rfl)
      exact inner P2.length tk2 st2 P2 w2 _ (Nat.le_refl _) h2 (hw2A.trans hA) hw2 hh2 hs2 hb1 hb2 r2 rfl
  obtain ⟨⟨tok, sp, nu, fa, pm, wd, fv, fe, pf, hM, ht, hv6, he9, -⟩, hbd, hbd2, hbd3⟩ := h0
  refine zj_aload_n C (List.mem_of_getElem? (i := 0) rfl) rfl rfl rfl ?_
  refine zj_iconst (v := 0) C (List.mem_of_getElem? (i := 1) rfl) rfl (by decide) ?_
  refine zj_putM (L' := (zj_ML M (nI M.t) (nI tk.2.2.2) tok (nI tk.2.2.1) sp nu wd 0 fa (nI d1) (nI o1) (nI st) (nI ([] : List Nat).length))) C (List.mem_of_getElem? (i := 2) rfl) rfl rfl rfl hM (Nat.le_of_ble_eq_true rfl) (by decide) rfl (zj_fit_i rfl _) (by unfold zj_ML; repeat first | exact zj_sub_nil | refine zj_sub_cons rfl ?_) (fun w2 hw2M hw2A => ?_)
  exact loop 40 tk o1 st [] w2 _ (by omega) ⟨⟨tok, sp, nu, fa, _, wd, fv, fe, pf, hw2M, ht, hv6, he9, rfl, trivial⟩, hbd, hbd2, hbd3.1, by rw [List.length_nil]; omega, Nat.zero_le _⟩ hw2A rfl (Nat.zero_le _) r0 rfl
end
