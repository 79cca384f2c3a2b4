noncomputable section
/-! zl: learn of the reference -/
theorem zl_sub1 {x : Int32} (h : 0 ≤ x.toInt) : (x - 1).toInt = x.toInt - 1 := by
  rw [Int32.toInt_sub]
  have h1 : (1 : Int32).toInt = 1 := rfl
  rw [h1]
  have h2 := (zx_i32 x).2
  unfold Int.bmod
  simp only []
  split <;> omega
theorem zl_isSM_W {l : Launch} {tys : List (ClassId × FieldType)} {ex : List Nat} {ws0 : va_W} {aM : Nat} {FM : List Value} {xs x : Int32} (h218 : ws0[218]? = some (aM, .inr (11, FM))) (hF : FM[22]? = some (.int xs)) (hx0 : 0 ≤ xs.toInt) : zj_W l 2 149 (zm_X ex tys [.ref aM, .int x] ws0) (fun _ _ _ v ws' => ws0 = ws' ∧ ((v = some (.int 1) ∧ (0 ≤ x.toInt ∧ x.toInt < xs.toInt)) ∨ (v = some (.int 0) ∧ ¬ (0 ≤ x.toInt ∧ x.toInt < xs.toInt)))) := by
  refine zj_enterW (md := zx_m149) rfl rfl ?_ ?_
  · rintro ex tys av ws ⟨-, -, rfl, -⟩
    exact Nat.le_of_ble_eq_true rfl
  intro p e R s mi args below meth c Q D A ex nL own cc tys ws av hX C hnL KRi KRv KRa
  subst hnL
  obtain ⟨h1, h2, h3, h4⟩ := hX
  subst h1
  subst h2
  subst h3
  subst h4
  refine zj_iload_n C (List.mem_of_getElem? (i := 0) rfl) rfl rfl rfl ?_
  refine zj_iconst (v := 0) C (List.mem_of_getElem? (i := 1) rfl) rfl (by decide) ?_
  refine zj_aload_n C (List.mem_of_getElem? (i := 2) rfl) rfl rfl rfl ?_
  refine zj_get C (List.mem_of_getElem? (i := 3) rfl) rfl rfl h218 rfl hF ?_
  refine zj_iconst (v := 1) C (List.mem_of_getElem? (i := 4) rfl) rfl (by decide) ?_
  refine zj_isub (v := (xs - 1)) C (List.mem_of_getElem? (i := 5) rfl) rfl rfl ?_
  refine zj_callS (As := [.int x, .int 0, .int (xs - 1)]) (rest := []) C (List.mem_of_getElem? (i := 6) rfl) rfl rfl (Or.inl rfl) (zm_W_mono (zo_isIn_W (x := x) (lo := 0) (hi := xs - 1)) (by decide)) rfl rfl (Nat.le_of_ble_eq_true rfl) rfl ⟨rfl, rfl, rfl, rfl⟩ (fun v w2 hw2A hw2Z => ?_)
  have c0 : (0 : Int32).toInt = 0 := rfl
  obtain ⟨he, hv⟩ := hw2Z
  subst he
  rw [zl_sub1 hx0, c0] at hv
  rcases hv with ⟨hv, hc⟩ | ⟨hv, hc⟩
  · subst hv
    exact KRi 11 _ _ _ (List.mem_of_getElem? (i := 7) rfl) (by decide) (Or.inr ⟨rfl, Or.inr rfl⟩) hw2A ⟨rfl, Or.inl ⟨rfl, by omega, by omega⟩⟩
  · subst hv
    exact KRi 11 _ _ _ (List.mem_of_getElem? (i := 7) rfl) (by decide) (Or.inr ⟨rfl, Or.inl rfl⟩) hw2A ⟨rfl, Or.inr ⟨rfl, fun h => hc ⟨h.1, by omega⟩⟩⟩
theorem zl_isRM_W {l : Launch} {tys : List (ClassId × FieldType)} {ex : List Nat} {ws0 : va_W} {aM a11 : Nat} {FM : List Value} {xo : Int32} {rl : Nat → Int32} {o r : Int32} (h218 : ws0[218]? = some (aM, .inr (11, FM))) (hM21 : FM[21]? = some (.int xo)) (hM11 : FM[11]? = some (.ref a11)) (hR : zj_row tys ws0 224 a11 9 .int rl) (hrl : ∀ k : Nat, k < 9 → 0 ≤ (rl k).toInt) (hN : 0 ≤ xo.toInt ∧ xo.toInt ≤ 9) : zj_W l 2 172 (zm_X ex tys [.ref aM, .int o, .int r] ws0) (fun _ _ _ v ws' => ws0 = ws' ∧ ((v = some (.int 1) ∧ ((0 ≤ o.toInt ∧ o.toInt < xo.toInt) ∧ 0 ≤ r.toInt ∧ r.toInt < (rl o.toInt.toNat).toInt)) ∨ (v = some (.int 0) ∧ ¬ ((0 ≤ o.toInt ∧ o.toInt < xo.toInt) ∧ 0 ≤ r.toInt ∧ r.toInt < (rl o.toInt.toNat).toInt)))) := by
  refine zj_enterW (md := zx_m172) rfl rfl ?_ ?_
  · rintro ex tys av ws ⟨-, -, rfl, -⟩
    exact Nat.le_of_ble_eq_true rfl
  intro p e R s mi args below meth c Q D A ex nL own cc tys ws av hX C hnL KRi KRv KRa
  subst hnL
  obtain ⟨h1, h2, h3, h4⟩ := hX
  subst h1
  subst h2
  subst h3
  subst h4
  have c0 : (0 : Int32).toInt = 0 := rfl
  refine zj_iload_n C (List.mem_of_getElem? (i := 0) rfl) rfl rfl rfl ?_
  refine zj_iconst (v := 0) C (List.mem_of_getElem? (i := 1) rfl) rfl (by decide) ?_
  refine zj_aload_n C (List.mem_of_getElem? (i := 2) rfl) rfl rfl rfl ?_
  refine zj_get C (List.mem_of_getElem? (i := 3) rfl) rfl rfl h218 rfl hM21 ?_
  refine zj_iconst (v := 1) C (List.mem_of_getElem? (i := 4) rfl) rfl (by decide) ?_
  refine zj_isub (v := (xo - 1)) C (List.mem_of_getElem? (i := 5) rfl) rfl rfl ?_
  refine zj_callS (As := [.int o, .int 0, .int (xo - 1)]) (rest := []) C (List.mem_of_getElem? (i := 6) rfl) rfl rfl (Or.inl rfl) (zm_W_mono (zo_isIn_W (x := o) (lo := 0) (hi := xo - 1)) (by decide)) rfl rfl (Nat.le_of_ble_eq_true rfl) rfl ⟨rfl, rfl, rfl, rfl⟩ (fun v w2 hw2A hw2Z => ?_)
  obtain ⟨he, hv⟩ := hw2Z
  subst he
  rw [zl_sub1 hN.1, c0] at hv
  rcases hv with ⟨hv, hc⟩ | ⟨hv, hc⟩
  rotate_left
  · subst hv
    refine zj_if_eq (tgt := 34) C (List.mem_of_getElem? (i := 7) rfl) rfl (by decide) (fun hd => ?_) (fun hd => ?_)
    rotate_left
    · exact absurd rfl hd
    refine zj_iconst (v := 0) C (List.mem_of_getElem? (i := 20) rfl) rfl (by decide) ?_
    exact KRi 35 _ _ _ (List.mem_of_getElem? (i := 21) rfl) (by decide) (Or.inr ⟨rfl, Or.inl rfl⟩) hw2A ⟨rfl, Or.inr ⟨rfl, fun h => hc ⟨h.1.1, by have := h.1.2; omega⟩⟩⟩
  subst hv
  refine zj_if_eq (tgt := 34) C (List.mem_of_getElem? (i := 7) rfl) rfl (by decide) (fun hd => ?_) (fun hd => ?_)
  · exact absurd hd (by decide)
  obtain ⟨k, hk1, hk2, hk3⟩ := zl_nat hc.1
  have ek : o.toInt.toNat = k := by omega
  have hk9 : k < 9 := by omega
  refine zj_iload_n C (List.mem_of_getElem? (i := 8) rfl) rfl rfl rfl ?_
  refine zj_iconst (v := 0) C (List.mem_of_getElem? (i := 9) rfl) rfl (by decide) ?_
  refine zj_aload_n C (List.mem_of_getElem? (i := 10) rfl) rfl rfl rfl ?_
  refine zj_get C (List.mem_of_getElem? (i := 11) rfl) rfl rfl h218 rfl hM11 ?_
  refine zj_iload_n C (List.mem_of_getElem? (i := 12) rfl) rfl rfl rfl ?_
  refine zj_iald (v := (rl k)) C (List.mem_of_getElem? (i := 13) rfl) rfl hR (by rw [hk1]; exact zm_in (N := 9) hk9 (by decide)) (by rw [hk1, nI_clamp (by omega)]) ?_
  refine zj_iconst (v := 1) C (List.mem_of_getElem? (i := 14) rfl) rfl (by decide) ?_
  refine zj_isub (v := ((rl k) - 1)) C (List.mem_of_getElem? (i := 15) rfl) rfl rfl ?_
  refine zj_callS (As := [.int r, .int 0, .int (rl k - 1)]) (rest := []) C (List.mem_of_getElem? (i := 16) rfl) rfl rfl (Or.inl rfl) (zm_W_mono (zo_isIn_W (x := r) (lo := 0) (hi := rl k - 1)) (by decide)) rfl rfl (Nat.le_of_ble_eq_true rfl) rfl ⟨rfl, rfl, rfl, rfl⟩ (fun v w3 hw3A hw3Z => ?_)
  obtain ⟨he, hv⟩ := hw3Z
  subst he
  rw [zl_sub1 (hrl k hk9), c0] at hv
  rcases hv with ⟨hv, hg⟩ | ⟨hv, hg⟩
  rotate_left
  · subst hv
    refine zj_if_eq (tgt := 34) C (List.mem_of_getElem? (i := 17) rfl) rfl (by decide) (fun hd => ?_) (fun hd => ?_)
    rotate_left
    · exact absurd rfl hd
    refine zj_iconst (v := 0) C (List.mem_of_getElem? (i := 20) rfl) rfl (by decide) ?_
    exact KRi 35 _ _ _ (List.mem_of_getElem? (i := 21) rfl) (by decide) (Or.inr ⟨rfl, Or.inl rfl⟩) (hw3A.trans hw2A) ⟨rfl, Or.inr ⟨rfl, fun h => by rw [ek] at h; exact hg ⟨h.2.1, by have := h.2.2; omega⟩⟩⟩
  subst hv
  refine zj_if_eq (tgt := 34) C (List.mem_of_getElem? (i := 17) rfl) rfl (by decide) (fun hd => ?_) (fun hd => ?_)
  · exact absurd hd (by decide)
  refine zj_iconst (v := 1) C (List.mem_of_getElem? (i := 18) rfl) rfl (by decide) ?_
  refine zj_goto (tgt := 35) C (List.mem_of_getElem? (i := 19) rfl) (by decide) ?_
  exact KRi 35 _ _ _ (List.mem_of_getElem? (i := 21) rfl) (by decide) (Or.inr ⟨rfl, Or.inr rfl⟩) (hw3A.trans hw2A) ⟨rfl, Or.inl ⟨rfl, ⟨hc.1, by omega⟩, hg.1, by rw [ek]; omega⟩⟩
set_option maxHeartbeats 8000000 in
theorem zl_learnM_W {l : Launch} {tys : List (ClassId × FieldType)} {ex : List Nat} {ws0 : va_W} {L b48 b49 b50 b51 : Nat} {xs td tl : Int32} {aM a11 : Nat} {FM : List Value} {xo : Int32} {rl : Nat → Int32} {sx o r hx : Int32} (h218 : ws0[218]? = some (aM, .inr (11, FM))) (hM21 : FM[21]? = some (.int xo)) (hM11 : FM[11]? = some (.ref a11)) (hR : zj_row tys ws0 224 a11 9 .int rl) (hrl : ∀ k : Nat, k < 9 → 0 ≤ (rl k).toInt) (hN : 0 ≤ xo.toInt ∧ xo.toInt ≤ 9) (hM5 : FM[5]? = some (.int td)) (hM6 : FM[6]? = some (.int tl)) (hM22 : FM[22]? = some (.int xs)) (hM67 : FM[67]? = some (.int (nI L))) (hM48 : FM[48]? = some (.ref b48)) (hM49 : FM[49]? = some (.ref b49)) (hM50 : FM[50]? = some (.ref b50)) (hM51 : FM[51]? = some (.ref b51)) (hMl : FM.length = 101) (r48 : ∃ f, zj_row tys ws0 246 b48 200 .int f) (r49 : ∃ f, zj_row tys ws0 247 b49 200 .int f) (r50 : ∃ f, zj_row tys ws0 248 b50 200 .int f) (r51 : ∃ f, zj_row tys ws0 249 b51 200 .int f) (hx0 : 0 ≤ xs.toInt) (hl : L ≤ 200) : zj_W l 4 171 (zm_X ex tys [.ref aM, .int sx, .int o, .int r, .int hx] ws0) (fun _ _ _ v ws' => (zl_ok xs.toInt xo.toInt L rl sx.toInt o.toInt r.toInt hx.toInt → v = some (.int 1) ∧ ∃ fs, ws'[218]? = some (aM, .inr (11, fs)) ∧ fs[67]? = some (.int (nI (L + 1)))) ∧ (¬ zl_ok xs.toInt xo.toInt L rl sx.toInt o.toInt r.toInt hx.toInt → v = some (.int 0) ∧ ∃ fs, ws'[218]? = some (aM, .inr (11, fs)) ∧ fs[67]? = some (.int (nI L)))) := by
  refine zj_enterW (md := zx_m171) rfl rfl ?_ ?_
  · rintro ex tys av ws ⟨-, -, rfl, -⟩
    exact Nat.le_of_ble_eq_true rfl
  intro p e R s mi args below meth c Q D A ex nL own cc tys ws av hX C hnL KRi KRv KRa
  subst hnL
  obtain ⟨h1, h2, h3, h4⟩ := hX
  subst h1
  subst h2
  subst h3
  subst h4
  have c1 : (1 : Int32).toInt = 1 := rfl
  have c99 : (99 : Int32).toInt = 99 := rfl
  obtain ⟨f48, r48⟩ := r48
  obtain ⟨f49, r49⟩ := r49
  obtain ⟨f50, r50⟩ := r50
  obtain ⟨f51, r51⟩ := r51
  refine zj_aload_n C (List.mem_of_getElem? (i := 0) rfl) rfl rfl rfl ?_
  refine zj_iconst (v := 0) C (List.mem_of_getElem? (i := 1) rfl) rfl (by decide) ?_
  refine zj_put C (List.mem_of_getElem? (i := 2) rfl) rfl rfl h218 rfl (by rw [hMl]; decide) rfl (zm_fit_i rfl _) ?_
  have e0 : ∀ k, 0 ≠ k → (FM.set 0 (.int 0))[k]? = FM[k]? := fun k hk => List.getElem?_set_ne hk
  have el : (FM.set 0 (.int 0)).length = 101 := by rw [List.length_set]; exact hMl
  have hnw1 : ∀ i, i ≠ 218 → (ws.set 218 (aM, .inr (11, FM.set 0 (.int 0))))[i]? = ws[i]? := fun i hi => List.getElem?_set_ne (Ne.symm hi)
  have hAw1 : zx_as (ws.set 218 (aM, .inr (11, FM.set 0 (.int 0)))) = zx_as ws := zx_as_set h218
  have hsw1 : (ws.set 218 (aM, .inr (11, FM.set 0 (.int 0))))[218]? = some (aM, .inr (11, FM.set 0 (.int 0))) := zm_set_self h218
  show zj_go p l e R s mi args below meth c Q D A _ _ _ _ (ws.set 218 (aM, .inr (11, FM.set 0 (.int 0))))
  generalize ws.set 218 (aM, .inr (11, FM.set 0 (.int 0))) = w1 at hnw1 hAw1 hsw1 ⊢
  have k5 := (e0 5 (by decide)).trans hM5
  have k6 := (e0 6 (by decide)).trans hM6
  have k11 := (e0 11 (by decide)).trans hM11
  have k21 := (e0 21 (by decide)).trans hM21
  have k22 := (e0 22 (by decide)).trans hM22
  have k67 := (e0 67 (by decide)).trans hM67
  have k48 := (e0 48 (by decide)).trans hM48
  have k49 := (e0 49 (by decide)).trans hM49
  have k50 := (e0 50 (by decide)).trans hM50
  have k51 := (e0 51 (by decide)).trans hM51
  generalize FM.set 0 (.int 0) = F1 at hsw1 el k5 k6 k11 k21 k22 k67 k48 k49 k50 k51
  have R11 := zm_row_keep hR (hnw1 224 (by decide))
  have R48 := zm_row_keep r48 (hnw1 246 (by decide))
  have R49 := zm_row_keep r49 (hnw1 247 (by decide))
  have R50 := zm_row_keep r50 (hnw1 248 (by decide))
  have R51 := zm_row_keep r51 (hnw1 249 (by decide))
  refine zj_aload_n C (List.mem_of_getElem? (i := 3) rfl) rfl rfl rfl ?_
  refine zj_iload_n C (List.mem_of_getElem? (i := 4) rfl) rfl rfl rfl ?_
  refine zj_callV (As := [.int sx]) (rest := []) C (List.mem_of_getElem? (i := 5) rfl) rfl rfl rfl (by decide) (zm_W_mono (zl_isSM_W (x := sx) hsw1 k22 hx0) (by decide)) rfl rfl hsw1 rfl (Nat.le_of_ble_eq_true rfl) rfl ⟨rfl, rfl, rfl, rfl⟩ (fun v y1 hy1A hy1Z => ?_)
  obtain ⟨he, hv⟩ := hy1Z
  subst he
  rcases hv with ⟨hv, ky1⟩ | ⟨hv, ky1⟩
  rotate_left
  · subst hv
    refine zj_if_eq (tgt := 43) C (List.mem_of_getElem? (i := 6) rfl) rfl (by decide) (fun hd => ?_) (fun hd => ?_)
    rotate_left
    · exact absurd rfl hd
    refine zj_iconst (v := 0) C (List.mem_of_getElem? (i := 21) rfl) rfl (by decide) ?_
    exact KRi 44 _ _ _ (List.mem_of_getElem? (i := 22) rfl) (by decide) (Or.inr ⟨rfl, Or.inl rfl⟩) (hy1A.trans hAw1) ⟨fun h => absurd h (fun h => ky1 h.1), fun _ => ⟨rfl, _, hsw1, k67⟩⟩
  subst hv
  refine zj_if_eq (tgt := 43) C (List.mem_of_getElem? (i := 6) rfl) rfl (by decide) (fun hd => ?_) (fun hd => ?_)
  · exact absurd hd (by decide)
  refine zj_aload_n C (List.mem_of_getElem? (i := 7) rfl) rfl rfl rfl ?_
  refine zj_iload_n C (List.mem_of_getElem? (i := 8) rfl) rfl rfl rfl ?_
  refine zj_iload_n C (List.mem_of_getElem? (i := 9) rfl) rfl rfl rfl ?_
  refine zj_callV (As := [.int o, .int r]) (rest := []) C (List.mem_of_getElem? (i := 10) rfl) rfl rfl rfl (by decide) (zm_W_mono (zl_isRM_W (o := o) (r := r) hsw1 k21 k11 R11 hrl hN) (by decide)) rfl rfl hsw1 rfl (Nat.le_of_ble_eq_true rfl) rfl ⟨rfl, rfl, rfl, rfl⟩ (fun v y2 hy2A hy2Z => ?_)
  obtain ⟨he, hv⟩ := hy2Z
  subst he
  rcases hv with ⟨hv, ky2⟩ | ⟨hv, ky2⟩
  rotate_left
  · subst hv
    refine zj_if_eq (tgt := 43) C (List.mem_of_getElem? (i := 11) rfl) rfl (by decide) (fun hd => ?_) (fun hd => ?_)
    rotate_left
    · exact absurd rfl hd
    refine zj_iconst (v := 0) C (List.mem_of_getElem? (i := 21) rfl) rfl (by decide) ?_
    exact KRi 44 _ _ _ (List.mem_of_getElem? (i := 22) rfl) (by decide) (Or.inr ⟨rfl, Or.inl rfl⟩) (hy2A.trans (hy1A.trans hAw1)) ⟨fun h => absurd h (fun h => ky2 h.2.1), fun _ => ⟨rfl, _, hsw1, k67⟩⟩
  subst hv
  refine zj_if_eq (tgt := 43) C (List.mem_of_getElem? (i := 11) rfl) rfl (by decide) (fun hd => ?_) (fun hd => ?_)
  · exact absurd hd (by decide)
  refine zj_iload C (List.mem_of_getElem? (i := 12) rfl) rfl rfl ?_
  refine zj_iconst (v := 1) C (List.mem_of_getElem? (i := 13) rfl) rfl (by decide) ?_
  refine zj_bipush (v := 99) C (List.mem_of_getElem? (i := 14) rfl) rfl (by decide) ?_
  refine zj_callS (As := [.int hx, .int 1, .int 99]) (rest := []) C (List.mem_of_getElem? (i := 15) rfl) rfl rfl (Or.inl rfl) (zm_W_mono (zo_isIn_W (x := hx) (lo := 1) (hi := 99)) (by decide)) rfl rfl (Nat.le_of_ble_eq_true rfl) rfl ⟨rfl, rfl, rfl, rfl⟩ (fun v y3 hy3A hy3Z => ?_)
  obtain ⟨he, hv⟩ := hy3Z
  subst he
  rw [c1, c99] at hv
  rcases hv with ⟨hv, ky3⟩ | ⟨hv, ky3⟩
  rotate_left
  · subst hv
    refine zj_if_eq (tgt := 43) C (List.mem_of_getElem? (i := 16) rfl) rfl (by decide) (fun hd => ?_) (fun hd => ?_)
    rotate_left
    · exact absurd rfl hd
    refine zj_iconst (v := 0) C (List.mem_of_getElem? (i := 21) rfl) rfl (by decide) ?_
    exact KRi 44 _ _ _ (List.mem_of_getElem? (i := 22) rfl) (by decide) (Or.inr ⟨rfl, Or.inl rfl⟩) (hy3A.trans (hy2A.trans (hy1A.trans hAw1))) ⟨fun h => absurd h (fun h => ky3 h.2.2.1), fun _ => ⟨rfl, _, hsw1, k67⟩⟩
  subst hv
  refine zj_if_eq (tgt := 43) C (List.mem_of_getElem? (i := 16) rfl) rfl (by decide) (fun hd => ?_) (fun hd => ?_)
  · exact absurd hd (by decide)
  refine zj_aload_n C (List.mem_of_getElem? (i := 17) rfl) rfl rfl rfl ?_
  refine zj_get C (List.mem_of_getElem? (i := 18) rfl) rfl rfl hsw1 rfl k67 ?_
  refine zj_sipush (v := 200) C (List.mem_of_getElem? (i := 19) rfl) rfl (by decide) ?_
  refine zj_icmp_ne (tgt := 45) C (List.mem_of_getElem? (i := 20) rfl) rfl (by decide) (fun hb => ?_) (fun hb => ?_)
  rotate_left
  · have hb : L = 200 := by
      have h1 := congrArg Int32.toInt hb
      rw [nI_toInt (by omega)] at h1
      have h2 : (200 : Int32).toInt = 200 := rfl
      omega
    refine zj_iconst (v := 0) C (List.mem_of_getElem? (i := 21) rfl) rfl (by decide) ?_
    exact KRi 44 _ _ _ (List.mem_of_getElem? (i := 22) rfl) (by decide) (Or.inr ⟨rfl, Or.inl rfl⟩) (hy3A.trans (hy2A.trans (hy1A.trans hAw1))) ⟨fun h => absurd h (fun h => by have := h.2.2.2; omega), fun _ => ⟨rfl, _, hsw1, k67⟩⟩
  have hb : L < 200 := by
    rcases Nat.lt_or_ge L 200 with h | h
    · exact h
    · exact absurd (by rw [show L = 200 by omega]; rfl) hb
  refine zj_aload_n C (List.mem_of_getElem? (i := 23) rfl) rfl rfl rfl ?_
  refine zj_get C (List.mem_of_getElem? (i := 24) rfl) rfl rfl hsw1 rfl k48 ?_
  refine zj_aload_n C (List.mem_of_getElem? (i := 25) rfl) rfl rfl rfl ?_
  refine zj_get C (List.mem_of_getElem? (i := 26) rfl) rfl rfl hsw1 rfl k67 ?_
  refine zj_iload_n C (List.mem_of_getElem? (i := 27) rfl) rfl rfl rfl ?_
  refine zj_iast C (List.mem_of_getElem? (i := 28) rfl) rfl R48 (zm_in (N := 200) hb (by decide)) (fun cA hcA => ?_)
  rw [nI_clamp (by omega : L < 2 ^ 31)]
  have hnx0 : ∀ i, i ≠ 246 → (w1.set 246 (b48, .inl (cA, 200, .inl (upd f48 L sx))))[i]? = w1[i]? := fun i hi => List.getElem?_set_ne (Ne.symm hi)
  have hAx0 : zx_as (w1.set 246 (b48, .inl (cA, 200, .inl (upd f48 L sx)))) = zx_as w1 := zx_as_set hcA
  have hrx0 := zm_row_set (g := upd f48 L sx) R48 hcA
  generalize w1.set 246 (b48, .inl (cA, 200, .inl (upd f48 L sx))) = x0 at hnx0 hAx0 hrx0 ⊢
  have cellx0 := (hnx0 218 (by decide)).trans hsw1
  have k49x0 := zm_row_keep R49 (hnx0 247 (by decide))
  have k50x0 := zm_row_keep R50 (hnx0 248 (by decide))
  have k51x0 := zm_row_keep R51 (hnx0 249 (by decide))
  refine zj_aload_n C (List.mem_of_getElem? (i := 29) rfl) rfl rfl rfl ?_
  refine zj_get C (List.mem_of_getElem? (i := 30) rfl) rfl rfl cellx0 rfl k49 ?_
  refine zj_aload_n C (List.mem_of_getElem? (i := 31) rfl) rfl rfl rfl ?_
  refine zj_get C (List.mem_of_getElem? (i := 32) rfl) rfl rfl cellx0 rfl k67 ?_
  refine zj_bipush (v := 8) C (List.mem_of_getElem? (i := 33) rfl) rfl (by decide) ?_
  refine zj_iload_n C (List.mem_of_getElem? (i := 34) rfl) rfl rfl rfl ?_
  refine zj_imul (v := (8 * o)) C (List.mem_of_getElem? (i := 35) rfl) rfl rfl ?_
  refine zj_iload_n C (List.mem_of_getElem? (i := 36) rfl) rfl rfl rfl ?_
  refine zj_iadd (v := ((8 * o) + r)) C (List.mem_of_getElem? (i := 37) rfl) rfl rfl ?_
  refine zj_iast C (List.mem_of_getElem? (i := 38) rfl) rfl k49x0 (zm_in (N := 200) hb (by decide)) (fun cA hcA => ?_)
  rw [nI_clamp (by omega : L < 2 ^ 31)]
  have hnx1 : ∀ i, i ≠ 247 → (x0.set 247 (b49, .inl (cA, 200, .inl (upd f49 L ((8 * o) + r)))))[i]? = x0[i]? := fun i hi => List.getElem?_set_ne (Ne.symm hi)
  have hAx1 : zx_as (x0.set 247 (b49, .inl (cA, 200, .inl (upd f49 L ((8 * o) + r))))) = zx_as x0 := zx_as_set hcA
  have hrx1 := zm_row_set (g := upd f49 L ((8 * o) + r)) k49x0 hcA
  generalize x0.set 247 (b49, .inl (cA, 200, .inl (upd f49 L ((8 * o) + r)))) = x1 at hnx1 hAx1 hrx1 ⊢
  have cellx1 := (hnx1 218 (by decide)).trans cellx0
  have k50x1 := zm_row_keep k50x0 (hnx1 248 (by decide))
  have k51x1 := zm_row_keep k51x0 (hnx1 249 (by decide))
  refine zj_aload_n C (List.mem_of_getElem? (i := 39) rfl) rfl rfl rfl ?_
  refine zj_get C (List.mem_of_getElem? (i := 40) rfl) rfl rfl cellx1 rfl k50 ?_
  refine zj_aload_n C (List.mem_of_getElem? (i := 41) rfl) rfl rfl rfl ?_
  refine zj_get C (List.mem_of_getElem? (i := 42) rfl) rfl rfl cellx1 rfl k67 ?_
  refine zj_iload C (List.mem_of_getElem? (i := 43) rfl) rfl rfl ?_
  refine zj_iast C (List.mem_of_getElem? (i := 44) rfl) rfl k50x1 (zm_in (N := 200) hb (by decide)) (fun cA hcA => ?_)
  rw [nI_clamp (by omega : L < 2 ^ 31)]
  have hnx2 : ∀ i, i ≠ 248 → (x1.set 248 (b50, .inl (cA, 200, .inl (upd f50 L hx))))[i]? = x1[i]? := fun i hi => List.getElem?_set_ne (Ne.symm hi)
  have hAx2 : zx_as (x1.set 248 (b50, .inl (cA, 200, .inl (upd f50 L hx)))) = zx_as x1 := zx_as_set hcA
  have hrx2 := zm_row_set (g := upd f50 L hx) k50x1 hcA
  generalize x1.set 248 (b50, .inl (cA, 200, .inl (upd f50 L hx))) = x2 at hnx2 hAx2 hrx2 ⊢
  have cellx2 := (hnx2 218 (by decide)).trans cellx1
  have k51x2 := zm_row_keep k51x1 (hnx2 249 (by decide))
  refine zj_aload_n C (List.mem_of_getElem? (i := 45) rfl) rfl rfl rfl ?_
  refine zj_get C (List.mem_of_getElem? (i := 46) rfl) rfl rfl cellx2 rfl k51 ?_
  refine zj_aload_n C (List.mem_of_getElem? (i := 47) rfl) rfl rfl rfl ?_
  refine zj_get C (List.mem_of_getElem? (i := 48) rfl) rfl rfl cellx2 rfl k67 ?_
  refine zj_aload_n C (List.mem_of_getElem? (i := 49) rfl) rfl rfl rfl ?_
  refine zj_get C (List.mem_of_getElem? (i := 50) rfl) rfl rfl cellx2 rfl k5 ?_
  refine zj_iast C (List.mem_of_getElem? (i := 51) rfl) rfl k51x2 (zm_in (N := 200) hb (by decide)) (fun cA hcA => ?_)
  rw [nI_clamp (by omega : L < 2 ^ 31)]
  have hnx3 : ∀ i, i ≠ 249 → (x2.set 249 (b51, .inl (cA, 200, .inl (upd f51 L td))))[i]? = x2[i]? := fun i hi => List.getElem?_set_ne (Ne.symm hi)
  have hAx3 : zx_as (x2.set 249 (b51, .inl (cA, 200, .inl (upd f51 L td)))) = zx_as x2 := zx_as_set hcA
  have hrx3 := zm_row_set (g := upd f51 L td) k51x2 hcA
  generalize x2.set 249 (b51, .inl (cA, 200, .inl (upd f51 L td))) = x3 at hnx3 hAx3 hrx3 ⊢
  have cellx3 := (hnx3 218 (by decide)).trans cellx2
  refine zj_aload_n C (List.mem_of_getElem? (i := 52) rfl) rfl rfl rfl ?_
  refine zj_dup C (List.mem_of_getElem? (i := 53) rfl) rfl rfl ?_
  refine zj_get C (List.mem_of_getElem? (i := 54) rfl) rfl rfl cellx3 rfl k67 ?_
  refine zj_iconst (v := 1) C (List.mem_of_getElem? (i := 55) rfl) rfl (by decide) ?_
  refine zj_iadd (v := (nI (L + 1))) C (List.mem_of_getElem? (i := 56) rfl) rfl (nI_1 L) ?_
  refine zj_put C (List.mem_of_getElem? (i := 57) rfl) rfl rfl cellx3 rfl (by rw [el]; decide) rfl (zm_fit_i rfl _) ?_
  have j6 : (F1.set 67 (.int (nI (L + 1))))[6]? = some (.int tl) := (List.getElem?_set_ne (by decide)).trans k6
  have j67 : (F1.set 67 (.int (nI (L + 1))))[67]? = some (.int (nI (L + 1))) := by rw [List.getElem?_set]; simp only [if_true]; rw [if_pos (by rw [el]; decide)]
  have jl : (F1.set 67 (.int (nI (L + 1)))).length = 101 := by rw [List.length_set]; exact el
  have hnz1 : ∀ i, i ≠ 218 → (x3.set 218 (aM, .inr (11, F1.set 67 (.int (nI (L + 1))))))[i]? = x3[i]? := fun i hi => List.getElem?_set_ne (Ne.symm hi)
  have hAz1 : zx_as (x3.set 218 (aM, .inr (11, F1.set 67 (.int (nI (L + 1)))))) = zx_as x3 := zx_as_set cellx3
  have hsz1 : (x3.set 218 (aM, .inr (11, F1.set 67 (.int (nI (L + 1))))))[218]? = some (aM, .inr (11, F1.set 67 (.int (nI (L + 1))))) := zm_set_self cellx3
  show zj_go p l e R s mi args below meth c Q D A _ _ _ _ (x3.set 218 (aM, .inr (11, F1.set 67 (.int (nI (L + 1))))))
  generalize x3.set 218 (aM, .inr (11, F1.set 67 (.int (nI (L + 1))))) = z1 at hnz1 hAz1 hsz1 ⊢
  generalize F1.set 67 (.int (nI (L + 1))) = F2 at hsz1 j6 j67 jl
  refine zj_aload_n C (List.mem_of_getElem? (i := 58) rfl) rfl rfl rfl ?_
  refine zj_dup C (List.mem_of_getElem? (i := 59) rfl) rfl rfl ?_
  refine zj_get C (List.mem_of_getElem? (i := 60) rfl) rfl rfl hsz1 rfl j6 ?_
  refine zj_iconst (v := 1) C (List.mem_of_getElem? (i := 61) rfl) rfl (by decide) ?_
  refine zj_iadd (v := (tl + 1)) C (List.mem_of_getElem? (i := 62) rfl) rfl rfl ?_
  refine zj_put C (List.mem_of_getElem? (i := 63) rfl) rfl rfl hsz1 rfl (by rw [jl]; decide) rfl (zm_fit_i rfl _) ?_
  have hnz2 : ∀ i, i ≠ 218 → (z1.set 218 (aM, .inr (11, F2.set 6 (.int (tl + 1)))))[i]? = z1[i]? := fun i hi => List.getElem?_set_ne (Ne.symm hi)
  have hAz2 : zx_as (z1.set 218 (aM, .inr (11, F2.set 6 (.int (tl + 1))))) = zx_as z1 := zx_as_set hsz1
  have hsz2 : (z1.set 218 (aM, .inr (11, F2.set 6 (.int (tl + 1)))))[218]? = some (aM, .inr (11, F2.set 6 (.int (tl + 1)))) := zm_set_self hsz1
  show zj_go p l e R s mi args below meth c Q D A _ _ _ _ (z1.set 218 (aM, .inr (11, F2.set 6 (.int (tl + 1)))))
  generalize z1.set 218 (aM, .inr (11, F2.set 6 (.int (tl + 1)))) = z2 at hnz2 hAz2 hsz2 ⊢
  refine zj_iconst (v := 1) C (List.mem_of_getElem? (i := 64) rfl) rfl (by decide) ?_
  exact KRi 115 _ _ _ (List.mem_of_getElem? (i := 65) rfl) (by decide) (Or.inr ⟨rfl, Or.inr rfl⟩) (hAz2.trans (hAz1.trans (hAx3.trans (hAx2.trans (hAx1.trans (hAx0.trans (hy3A.trans (hy2A.trans (hy1A.trans hAw1))))))))) ⟨fun _ => ⟨rfl, _, hsz2, (List.getElem?_set_ne (by decide)).trans j67⟩, fun h => absurd ⟨ky1, ky2, ky3, by omega⟩ h⟩
end
