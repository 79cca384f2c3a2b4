noncomputable section
/-! zj: one, all, cond -/
def zj_One (l : Launch) (K : zj_K) (dd : Nat) (s1 : List Bool) : Prop := ∀ (ws0 : va_W) (tk : zj_T) (d1 l1 f1 o1 n : Nat) (x1 : Int) (k1 : Nat), zj_rd K ws0 tk d1 l1 f1 o1 0 → zj_W l dd 41 (zj_KX K [.ref K.aR, .int (nI (s1.length + 1))] ws0) (zj_Zb K (7, tk, n, d1, l1, f1, o1, s1, x1, k1) (fun tk' d' l' f' o' => d1 = d' ∧ l1 = l' ∧ f1 = f' ∧ o1 < o' ∧ zj_R (zj_g K) K.t (7, tk, n, d1, l1, f1, o1, s1, x1, k1) (8, tk', n, d1, l1, f1, o', s1, x1, k1)))
def zj_All (l : Launch) (K : zj_K) (dd : Nat) (s1 : List Bool) : Prop := ∀ (ws0 : va_W) (tk : zj_T) (d1 l1 f1 o1 n : Nat) (x1 : Int) (k1 : Nat), zj_rd K ws0 tk d1 l1 f1 o1 0 → zj_W l dd 40 (zj_KX K [.ref K.aR, .int (nI (s1.length + 1))] ws0) (zj_Zb K (7, tk, n, d1, l1, f1, o1, s1, x1, k1) (fun tk' d' l' f' o' => d1 = d' ∧ l1 = l' ∧ f1 = f' ∧ o1 < o' ∧ tk'.1 ≠ 9 ∧ zj_R (zj_g K) K.t (7, tk, n, d1, l1, f1, o1, s1, x1, k1) (8, tk', n, d1, l1, f1, o', s1, x1, k1)))
def zj_Cnd (l : Launch) (K : zj_K) (dd : Nat) (s1 : List Bool) : Prop := ∀ (ws0 : va_W) (tk : zj_T) (d1 l1 f1 o1 n : Nat) (x1 : Int) (k1 : Nat), zj_rd K ws0 tk d1 l1 f1 o1 0 → zj_W l dd 39 (zj_KX K [.ref K.aR, .int (nI (s1.length + 1))] ws0) (zj_Zb K (7, tk, n, d1, l1, f1, o1, s1, x1, k1) (fun tk' d' l' f' o' => d1 = d' ∧ l1 = l' ∧ f1 = f' ∧ o1 < o' ∧ tk'.1 ≠ 8 ∧ tk'.1 ≠ 9 ∧ zj_R (zj_g K) K.t (7, tk, n, d1, l1, f1, o1, s1, x1, k1) (8, tk', n, d1, l1, f1, o', s1, x1, k1)))
set_option maxHeartbeats 4000000 in
theorem zj_one_s {l : Launch} {K : zj_K} {dd : Nat} {s1 : List Bool} (hB : zj_Kok K) (hdd : 11 ≤ dd) (hN : s1.length < 12 → zj_One l K dd (true :: s1)) (hC : s1.length < 12 → zj_Cnd l K dd (false :: s1)) (hs : s1.length ≤ 12) : zj_One l K (dd + 1) s1 := by
  intro ws0 tk d1 l1 f1 o1 n x1 k1 h0
  have h00 := h0
  refine zj_enterW (md := zx_m41) rfl rfl ?_ ?_
  · rintro ex tys av ws ⟨-, -, rfl, -⟩
    exact Nat.le_of_ble_eq_true rfl
  intro p e R s mi args below meth c Q D A ex nL own cc tys ws av hX C hnL KRi KRv KRa
  subst hnL
  obtain ⟨h1, h2, h3, h4⟩ := hX
  subst h1
  subst h2
  subst h3
  subst h4
  obtain ⟨⟨x, hR, hx⟩, hP, htk, hle, ho⟩ := h0
  obtain ⟨hs1, hs2, hs3, hs4⟩ := zj_nS_i htk
  refine zj_aload_n C (List.mem_of_getElem? (i := 0) rfl) rfl rfl rfl ?_
  refine zj_get C (List.mem_of_getElem? (i := 1) rfl) rfl rfl hR.1 rfl rfl ?_
  refine zj_callX (idc := 8 + tk.1) (As := []) (rest := []) C (List.mem_of_getElem? (i := 2) rfl) rfl rfl rfl rfl (zj_W_mono (zj_beginsOne_W (K := K) (ws0 := ws) hB htk) (by omega)) rfl rfl (zj_tr_mem htk) (by omega) (hB.2.2.1 _ htk) (Nat.le_of_ble_eq_true rfl) rfl ⟨rfl, rfl, rfl, rfl⟩ (fun v w2 hw2A hw2Z => ?_)
  obtain ⟨hw, hv⟩ := hw2Z
  subst hw
  rcases hv with ⟨hv, hc⟩ | ⟨hv, hc⟩
  rotate_left
  · subst hv
    refine zj_if_ne (tgt := 16) C (List.mem_of_getElem? (i := 3) rfl) rfl (by decide) (fun hd => ?_) (fun hd => ?_)
    · exact absurd rfl hd
    refine zj_aload_n C (List.mem_of_getElem? (i := 4) rfl) rfl rfl rfl ?_
    refine zj_iconst (v := 1) C (List.mem_of_getElem? (i := 5) rfl) rfl (by decide) ?_
    refine zj_callV (As := [.int 1]) (rest := []) C (List.mem_of_getElem? (i := 6) rfl) rfl rfl rfl (by decide) (zj_W_mono (zj_blame_W (kd := 1) hB h00) (by omega)) rfl rfl hR.1 rfl (Nat.le_of_ble_eq_true rfl) rfl ⟨rfl, rfl, rfl, rfl⟩ (fun v w9 hw9A hw9Z => ?_)
    obtain ⟨hv, h9⟩ := hw9Z
    subst hv
    exact KRi 15 _ _ _ (List.mem_of_getElem? (i := 7) rfl) (by decide) (Or.inr ⟨rfl, Or.inl rfl⟩) hw9A (Or.inr ⟨rfl, tk, d1, l1, f1, o1, 1, h9, zj_R_st (by rw [zj_st, if_pos (by omega)])⟩)
  subst hv
  refine zj_if_ne (tgt := 16) C (List.mem_of_getElem? (i := 3) rfl) rfl (by decide) (fun hd => ?_) (fun hd => ?_)
  rotate_left
  · exact absurd hd (by decide)
  refine zj_aload_n C (List.mem_of_getElem? (i := 8) rfl) rfl rfl rfl ?_
  refine zj_get C (List.mem_of_getElem? (i := 9) rfl) rfl rfl hR.1 rfl rfl ?_
  refine zj_bipush (v := 40) C (List.mem_of_getElem? (i := 10) rfl) rfl (by decide) ?_
  refine zj_icmp_ge (tgt := 31) C (List.mem_of_getElem? (i := 11) rfl) rfl (by decide) (fun hb => ?_) (fun hb => ?_)
  · have hb : 40 ≤ o1 := (nI_leI (a := 40) (b := o1) (by decide) (by omega)).mp hb
    refine zj_aload_n C (List.mem_of_getElem? (i := 15) rfl) rfl rfl rfl ?_
    refine zj_iconst (v := 4) C (List.mem_of_getElem? (i := 16) rfl) rfl (by decide) ?_
    refine zj_callV (As := [.int 4]) (rest := []) C (List.mem_of_getElem? (i := 17) rfl) rfl rfl rfl (by decide) (zj_W_mono (zj_blame_W (kd := 4) hB h00) (by omega)) rfl rfl hR.1 rfl (Nat.le_of_ble_eq_true rfl) rfl ⟨rfl, rfl, rfl, rfl⟩ (fun v w9 hw9A hw9Z => ?_)
    obtain ⟨hv, h9⟩ := hw9Z
    subst hv
    exact KRi 36 _ _ _ (List.mem_of_getElem? (i := 18) rfl) (by decide) (Or.inr ⟨rfl, Or.inl rfl⟩) hw9A (Or.inr ⟨rfl, tk, d1, l1, f1, o1, 4, h9, zj_R_st (by rw [zj_st, if_neg (by omega), if_pos (by omega)])⟩)
  have hb : o1 < 40 := by
    rcases Nat.lt_or_ge o1 40 with h | h
    · exact h
    · exact absurd ((nI_leI (a := 40) (b := o1) (by decide) (by omega)).mpr h) hb
  refine zj_iload_n C (List.mem_of_getElem? (i := 12) rfl) rfl rfl rfl ?_
  refine zj_bipush (v := 12) C (List.mem_of_getElem? (i := 13) rfl) rfl (by decide) ?_
  refine zj_icmp_le (tgt := 37) C (List.mem_of_getElem? (i := 14) rfl) rfl (by decide) (fun hb2 => ?_) (fun hb2 => ?_)
  rotate_left
  · have hb2 : 12 ≤ s1.length := by
      rcases Nat.lt_or_ge s1.length 12 with h | h
      · exact absurd ((nI_leI (a := s1.length + 1) (b := 12) (by omega) (by decide)).mpr (by omega)) hb2
      · exact h
    refine zj_aload_n C (List.mem_of_getElem? (i := 15) rfl) rfl rfl rfl ?_
    refine zj_iconst (v := 4) C (List.mem_of_getElem? (i := 16) rfl) rfl (by decide) ?_
    refine zj_callV (As := [.int 4]) (rest := []) C (List.mem_of_getElem? (i := 17) rfl) rfl rfl rfl (by decide) (zj_W_mono (zj_blame_W (kd := 4) hB h00) (by omega)) rfl rfl hR.1 rfl (Nat.le_of_ble_eq_true rfl) rfl ⟨rfl, rfl, rfl, rfl⟩ (fun v w9 hw9A hw9Z => ?_)
    obtain ⟨hv, h9⟩ := hw9Z
    subst hv
    exact KRi 36 _ _ _ (List.mem_of_getElem? (i := 18) rfl) (by decide) (Or.inr ⟨rfl, Or.inl rfl⟩) hw9A (Or.inr ⟨rfl, tk, d1, l1, f1, o1, 4, h9, zj_R_st (by rw [zj_st, if_neg (by omega), if_pos (by omega)])⟩)
  have hb2 : s1.length < 12 := by
    have h := (nI_leI (a := s1.length + 1) (b := 12) (by omega) (by decide)).mp hb2
    omega
  refine zj_aload_n C (List.mem_of_getElem? (i := 19) rfl) rfl rfl rfl ?_
  refine zj_dup C (List.mem_of_getElem? (i := 20) rfl) rfl rfl ?_
  refine zj_get C (List.mem_of_getElem? (i := 21) rfl) rfl rfl hR.1 rfl rfl ?_
  refine zj_iconst (v := 1) C (List.mem_of_getElem? (i := 22) rfl) rfl (by decide) ?_
  refine zj_iadd (v := (nI (o1 + 1))) C (List.mem_of_getElem? (i := 23) rfl) rfl (nI_1 o1) ?_
  refine zj_putR (k := 4) C (List.mem_of_getElem? (i := 24) rfl) rfl rfl hR rfl rfl (Nat.le_of_ble_eq_true rfl) rfl (zj_fit_i rfl _) (fun w2 hw2R hw2A hw2K => ?_)
  have h2 : zj_rd K w2 tk d1 l1 f1 (o1 + 1) 0 := ⟨⟨x, hw2R, hx⟩, zj_pap_keep hB hw2K hP, htk, hle, by omega⟩
  refine zj_aload_n C (List.mem_of_getElem? (i := 25) rfl) rfl rfl rfl ?_
  refine zj_get C (List.mem_of_getElem? (i := 26) rfl) rfl rfl hw2R.1 rfl rfl ?_
  refine zj_astore_n C (List.mem_of_getElem? (i := 27) rfl) rfl rfl (by decide) rfl ?_
  refine zj_aload_n C (List.mem_of_getElem? (i := 28) rfl) rfl rfl rfl ?_
  refine zj_callV (As := []) (rest := []) C (List.mem_of_getElem? (i := 29) rfl) rfl rfl rfl (by decide) (zj_W_mono (zj_adv_W hB h2) (by omega)) rfl rfl hw2R.1 rfl (Nat.le_of_ble_eq_true rfl) rfl ⟨rfl, rfl, rfl, rfl⟩ (fun v w3 hw3A hw3Z => ?_)
  obtain ⟨hv, h3⟩ := hw3Z
  subst hv
  have h33 := h3
  have hA3 := hw3A.trans hw2A
  generalize htk2 : zj_nx K tk = tk2 at h3 h33
  obtain ⟨⟨x2, hR2, hx2⟩, hP2, hlt2, hle2, ho2⟩ := h3
  have hpp := hP2
  obtain ⟨aL, aS, aB, aN, fL, fS, fB, fN, da, st, hp0, hp1, hp2, hp3, hp4, ⟨hst, hfr⟩, hd1, hl1, hf1⟩ := hpp
  refine zj_aload_n C (List.mem_of_getElem? (i := 30) rfl) rfl rfl rfl ?_
  refine zj_gets C (List.mem_of_getElem? (i := 31) rfl) rfl rfl (hB.2.2.1 10 (by decide)) ?_
  refine zj_acmp_ne (tgt := 84) C (List.mem_of_getElem? (i := 32) rfl) rfl (by decide) (fun hn => ?_) (fun hn => ?_)
  rotate_left
  · have hn : tk.1 = 10 := hB.2.2.2.1 _ _ htk (by decide) hn
    have r1 : zj_R (zj_g K) K.t (7, tk, n, d1, l1, f1, o1, s1, x1, k1) (7, tk2, n, d1, l1, f1, (o1 + 1), (true :: s1), x1, k1) := zj_R_st (by rw [zj_st, if_neg (by omega), if_neg (by omega), if_pos hn, ← htk2]; rfl)
    refine zj_aload_n C (List.mem_of_getElem? (i := 33) rfl) rfl rfl rfl ?_
    refine zj_iload_n C (List.mem_of_getElem? (i := 34) rfl) rfl rfl rfl ?_
    refine zj_iconst (v := 1) C (List.mem_of_getElem? (i := 35) rfl) rfl (by decide) ?_
    refine zj_iadd (v := (nI (s1.length + 1 + 1))) C (List.mem_of_getElem? (i := 36) rfl) rfl (nI_1 _) ?_
    refine zj_callV (As := [.int (nI (s1.length + 1 + 1))]) (rest := []) C (List.mem_of_getElem? (i := 37) rfl) rfl rfl rfl (by decide) (hN hb2 _ _ d1 l1 f1 (o1 + 1) n x1 k1 h33) rfl rfl hR2.1 rfl (Nat.le_of_ble_eq_true rfl) rfl ⟨rfl, rfl, rfl, rfl⟩ (fun v w4 hw4A hw4Z => ?_)
    rcases hw4Z with ⟨hv, tk4, d4, l4, f4, o4, h4, rfl, rfl, rfl, ho4, r4⟩ | ⟨hv, tk4, d4, l4, f4, o4, k4, h4, r4⟩
    · subst hv
      have h44 := h4
      obtain ⟨-, hP4, -, -, -⟩ := h44
      have hpp4 := hP4
      have h45 := h4
      obtain ⟨⟨x4, hR4, hx4⟩, hP4b, hlt4, hle4, ho44⟩ := h45
      obtain ⟨aL4, aS4, aB4, aN4, fL4, fS4, fB4, fN4, da4, st4, hq0, -⟩ := hP4b
      refine zj_istore_n C (List.mem_of_getElem? (i := 38) rfl) rfl rfl (by decide) rfl ?_
      refine zj_aload_n C (List.mem_of_getElem? (i := 39) rfl) rfl rfl rfl ?_
      refine zj_get C (List.mem_of_getElem? (i := 40) rfl) rfl rfl hR4.1 rfl rfl ?_
      refine zj_bipush (v := 10) C (List.mem_of_getElem? (i := 41) rfl) rfl (by decide) ?_
      refine zj_iconst (v := 0) C (List.mem_of_getElem? (i := 42) rfl) rfl (by decide) ?_
      refine zj_iconst (v := 0) C (List.mem_of_getElem? (i := 43) rfl) rfl (by decide) ?_
      refine zj_callV (As := [.int 10, .int 0, .int 0]) (rest := []) C (List.mem_of_getElem? (i := 44) rfl) rfl rfl rfl (by decide) (zj_W_mono (zj_addStep_W (xc := 10) (xs := 0) (xn := 0) hB h4) (by omega)) rfl rfl hq0 rfl (Nat.le_of_ble_eq_true rfl) rfl ⟨rfl, rfl, rfl, rfl⟩ (fun v w5 hw5A hw5Z => ?_)
      obtain ⟨hv, h5⟩ := hw5Z
      subst hv
      refine zj_iload_n C (List.mem_of_getElem? (i := 45) rfl) rfl rfl rfl ?_
      exact KRi 83 _ _ _ (List.mem_of_getElem? (i := 46) rfl) (by decide) (Or.inr ⟨rfl, Or.inr rfl⟩) (hw5A.trans (hw4A.trans hA3)) (Or.inl ⟨rfl, tk4, d1, l1, f1, o4, h5, rfl, rfl, rfl, by omega, zj_R_tr r1 (zj_R_tr r4 (zj_R_st (by rw [zj_st]; rfl)))⟩)
    · subst hv
      have h44 := h4
      obtain ⟨-, hP4, -, -, -⟩ := h44
      have hpp4 := hP4
      have h45 := h4
      obtain ⟨⟨x4, hR4, hx4⟩, hP4b, hlt4, hle4, ho44⟩ := h45
      obtain ⟨aL4, aS4, aB4, aN4, fL4, fS4, fB4, fN4, da4, st4, hq0, -⟩ := hP4b
      refine zj_istore_n C (List.mem_of_getElem? (i := 38) rfl) rfl rfl (by decide) rfl ?_
      refine zj_aload_n C (List.mem_of_getElem? (i := 39) rfl) rfl rfl rfl ?_
      refine zj_get C (List.mem_of_getElem? (i := 40) rfl) rfl rfl hR4.1 rfl rfl ?_
      refine zj_bipush (v := 10) C (List.mem_of_getElem? (i := 41) rfl) rfl (by decide) ?_
      refine zj_iconst (v := 0) C (List.mem_of_getElem? (i := 42) rfl) rfl (by decide) ?_
      refine zj_iconst (v := 0) C (List.mem_of_getElem? (i := 43) rfl) rfl (by decide) ?_
      refine zj_callV (As := [.int 10, .int 0, .int 0]) (rest := []) C (List.mem_of_getElem? (i := 44) rfl) rfl rfl rfl (by decide) (zj_W_mono (zj_addStep_W (xc := 10) (xs := 0) (xn := 0) hB h4) (by omega)) rfl rfl hq0 rfl (Nat.le_of_ble_eq_true rfl) rfl ⟨rfl, rfl, rfl, rfl⟩ (fun v w5 hw5A hw5Z => ?_)
      obtain ⟨hv, h5⟩ := hw5Z
      subst hv
      refine zj_iload_n C (List.mem_of_getElem? (i := 45) rfl) rfl rfl rfl ?_
      exact KRi 83 _ _ _ (List.mem_of_getElem? (i := 46) rfl) (by decide) (Or.inr ⟨rfl, Or.inl rfl⟩) (hw5A.trans (hw4A.trans hA3)) (Or.inr ⟨rfl, tk4, d4, l4, f4, o4, k4, h5, zj_R_tr r1 r4⟩)
  have hn : tk.1 ≠ 10 := fun h => hn (congrArg K.ak h)
  refine zj_aload_n C (List.mem_of_getElem? (i := 47) rfl) rfl rfl rfl ?_
  refine zj_gets C (List.mem_of_getElem? (i := 48) rfl) rfl rfl (hB.2.2.1 25 (by decide)) ?_
  refine zj_acmp_ne (tgt := 117) C (List.mem_of_getElem? (i := 49) rfl) rfl (by decide) (fun hp => ?_) (fun hp => ?_)
  rotate_left
  · have hp : tk.1 = 25 := hB.2.2.2.1 _ _ htk (by decide) hp
    have r1 : zj_R (zj_g K) K.t (7, tk, n, d1, l1, f1, o1, s1, x1, k1) (7, tk2, n, d1, l1, f1, (o1 + 1), (false :: s1), x1, k1) := zj_R_st (by rw [zj_st, if_neg (by omega), if_neg (by omega), if_neg hn, if_pos hp, ← htk2]; rfl)
    refine zj_aload_n C (List.mem_of_getElem? (i := 50) rfl) rfl rfl rfl ?_
    refine zj_iload_n C (List.mem_of_getElem? (i := 51) rfl) rfl rfl rfl ?_
    refine zj_iconst (v := 1) C (List.mem_of_getElem? (i := 52) rfl) rfl (by decide) ?_
    refine zj_iadd (v := (nI (s1.length + 1 + 1))) C (List.mem_of_getElem? (i := 53) rfl) rfl (nI_1 _) ?_
    refine zj_callV (As := [.int (nI (s1.length + 1 + 1))]) (rest := []) C (List.mem_of_getElem? (i := 54) rfl) rfl rfl rfl (by decide) (hC hb2 _ _ d1 l1 f1 (o1 + 1) n x1 k1 h33) rfl rfl hR2.1 rfl (Nat.le_of_ble_eq_true rfl) rfl ⟨rfl, rfl, rfl, rfl⟩ (fun v w4 hw4A hw4Z => ?_)
    rcases hw4Z with ⟨hv, tk4, d4, l4, f4, o4, h4, rfl, rfl, rfl, ho4, ht8, ht9, r4⟩ | ⟨hv, tk4, d4, l4, f4, o4, k4, h4, r4⟩
    · subst hv
      have h45 := h4
      obtain ⟨⟨x4, hR4, hx4⟩, hP4, hlt4, hle4, ho44⟩ := h45
      refine zj_if_eq (tgt := 115) C (List.mem_of_getElem? (i := 55) rfl) rfl (by decide) (fun hd => ?_) (fun hd => ?_)
      · exact absurd hd (by decide)
      refine zj_aload_n C (List.mem_of_getElem? (i := 56) rfl) rfl rfl rfl ?_
      refine zj_gets C (List.mem_of_getElem? (i := 57) rfl) rfl rfl (hB.2.2.1 26 (by decide)) ?_
      refine zj_callV (As := [.ref (K.ak 26)]) (rest := []) C (List.mem_of_getElem? (i := 58) rfl) rfl rfl rfl (by decide) (zj_W_mono (zj_passes_W (j := 26) hB h4 (by decide)) (by omega)) rfl rfl hR4.1 rfl (Nat.le_of_ble_eq_true rfl) rfl ⟨rfl, rfl, rfl, rfl⟩ (fun v w5 hw5A hw5Z => ?_)
      rcases hw5Z with ⟨hv, hcl, h5⟩ | ⟨hv, hcl, h5⟩
      · subst hv
        refine zj_if_eq (tgt := 115) C (List.mem_of_getElem? (i := 59) rfl) rfl (by decide) (fun hd2 => ?_) (fun hd2 => ?_)
        · exact absurd hd2 (by decide)
        refine zj_iconst (v := 1) C (List.mem_of_getElem? (i := 60) rfl) rfl (by decide) ?_
        refine zj_goto (tgt := 116) C (List.mem_of_getElem? (i := 61) rfl) (by decide) ?_
        exact KRi 116 _ _ _ (List.mem_of_getElem? (i := 63) rfl) (by decide) (Or.inr ⟨rfl, Or.inr rfl⟩) (hw5A.trans (hw4A.trans hA3)) (Or.inl ⟨rfl, _, d1, l1, f1, o4, h5, rfl, rfl, rfl, by omega, zj_R_tr r1 (zj_R_tr r4 (zj_R_st (by rw [zj_st, if_neg (by omega), if_pos hcl]; rfl)))⟩)
      · subst hv
        refine zj_if_eq (tgt := 115) C (List.mem_of_getElem? (i := 59) rfl) rfl (by decide) (fun hd2 => ?_) (fun hd2 => ?_)
        rotate_left
        · exact absurd rfl hd2
        refine zj_iconst (v := 0) C (List.mem_of_getElem? (i := 62) rfl) rfl (by decide) ?_
        exact KRi 116 _ _ _ (List.mem_of_getElem? (i := 63) rfl) (by decide) (Or.inr ⟨rfl, Or.inl rfl⟩) (hw5A.trans (hw4A.trans hA3)) (Or.inr ⟨rfl, tk4, d1, l1, f1, o4, 1, h5, zj_R_tr r1 (zj_R_tr r4 (zj_R_st (by rw [zj_st, if_neg (by omega), if_neg hcl])))⟩)
    subst hv
    refine zj_if_eq (tgt := 115) C (List.mem_of_getElem? (i := 55) rfl) rfl (by decide) (fun hd => ?_) (fun hd => ?_)
    rotate_left
    · exact absurd rfl hd
    refine zj_iconst (v := 0) C (List.mem_of_getElem? (i := 62) rfl) rfl (by decide) ?_
    exact KRi 116 _ _ _ (List.mem_of_getElem? (i := 63) rfl) (by decide) (Or.inr ⟨rfl, Or.inl rfl⟩) (hw4A.trans hA3) (Or.inr ⟨rfl, tk4, d4, l4, f4, o4, k4, h4, zj_R_tr r1 r4⟩)
  have hp : tk.1 ≠ 25 := fun h => hp (congrArg K.ak h)
  refine zj_aload_n C (List.mem_of_getElem? (i := 64) rfl) rfl rfl rfl ?_
  refine zj_getx (j := 0) (id := 8 + tk.1) (row := zj_tr tk.1) (v := zj_nS tk.1) C (List.mem_of_getElem? (i := 65) rfl) rfl rfl (zj_tr_mem htk) (by omega) (hB.2.2.1 _ htk) (zj_trS htk) ?_
  refine zj_iconst (v := 3) C (List.mem_of_getElem? (i := 66) rfl) rfl (by decide) ?_
  refine zj_icmp_ne (tgt := 134) C (List.mem_of_getElem? (i := 67) rfl) rfl (by decide) (fun hm => ?_) (fun hm => ?_)
  rotate_left
  · have hm := hs3.mp hm
    have r1 : zj_R (zj_g K) K.t (7, tk, n, d1, l1, f1, o1, s1, x1, k1) (10, tk2, n, d1, l1, f1, (o1 + 1), s1, x1, k1) := zj_R_st (by rw [zj_st, if_neg (by omega), if_neg (by omega), if_neg hn, if_neg hp, if_pos (by omega), ← htk2]; rfl)
    refine zj_aload_n C (List.mem_of_getElem? (i := 68) rfl) rfl rfl rfl ?_
    refine zj_aload_n C (List.mem_of_getElem? (i := 69) rfl) rfl rfl rfl ?_
    refine zj_getx (j := 0) (id := 8 + tk.1) (row := zj_tr tk.1) (v := zj_nC tk.1) C (List.mem_of_getElem? (i := 70) rfl) rfl rfl (zj_tr_mem htk) (by omega) (hB.2.2.1 _ htk) (zj_trC htk) ?_
    refine zj_callV (As := [.int (zj_nC tk.1)]) (rest := []) C (List.mem_of_getElem? (i := 71) rfl) rfl rfl rfl (by decide) (zj_W_mono (zj_measure_W (n := n) (s1 := s1) (x1 := x1) (k1 := k1) (xc := zj_nC tk.1) hB h33) (by omega)) rfl rfl hR2.1 rfl (Nat.le_of_ble_eq_true rfl) rfl ⟨rfl, rfl, rfl, rfl⟩ (fun v w4 hw4A hw4Z => ?_)
    rcases hw4Z with ⟨hv, tk4, d4, l4, f4, o4, h4, rfl, rfl, rfl, rfl, r4⟩ | ⟨hv, tk4, d4, l4, f4, o4, k4, h4, r4⟩
    · subst hv
      exact KRi 133 _ _ _ (List.mem_of_getElem? (i := 72) rfl) (by decide) (Or.inr ⟨rfl, Or.inr rfl⟩) (hw4A.trans hA3) (Or.inl ⟨rfl, tk4, _, _, _, _, h4, rfl, rfl, rfl, by omega, zj_R_tr r1 r4⟩)
    · subst hv
      exact KRi 133 _ _ _ (List.mem_of_getElem? (i := 72) rfl) (by decide) (Or.inr ⟨rfl, Or.inl rfl⟩) (hw4A.trans hA3) (Or.inr ⟨rfl, tk4, d4, l4, f4, o4, k4, h4, zj_R_tr r1 r4⟩)
  have hm : ¬ (18 ≤ tk.1 ∧ tk.1 < 21) := fun h => hm (hs3.mpr h)
  have r1 : zj_R (zj_g K) K.t (7, tk, n, d1, l1, f1, o1, s1, x1, k1) (8, tk2, n, d1, l1, f1, (o1 + 1), s1, x1, k1) := zj_R_st (by rw [zj_st, if_neg (by omega), if_neg (by omega), if_neg hn, if_neg hp, if_neg (by omega), ← htk2]; rfl)
  refine zj_aload_n C (List.mem_of_getElem? (i := 73) rfl) rfl rfl rfl ?_
  refine zj_get C (List.mem_of_getElem? (i := 74) rfl) rfl rfl hR2.1 rfl rfl ?_
  refine zj_aload_n C (List.mem_of_getElem? (i := 75) rfl) rfl rfl rfl ?_
  refine zj_getx (j := 0) (id := 8 + tk.1) (row := zj_tr tk.1) (v := zj_nC tk.1) C (List.mem_of_getElem? (i := 76) rfl) rfl rfl (zj_tr_mem htk) (by omega) (hB.2.2.1 _ htk) (zj_trC htk) ?_
  refine zj_iconst (v := 0) C (List.mem_of_getElem? (i := 77) rfl) rfl (by decide) ?_
  refine zj_iconst (v := 0) C (List.mem_of_getElem? (i := 78) rfl) rfl (by decide) ?_
  refine zj_callV (As := [.int (zj_nC tk.1), .int 0, .int 0]) (rest := []) C (List.mem_of_getElem? (i := 79) rfl) rfl rfl rfl (by decide) (zj_W_mono (zj_addStep_W (xc := zj_nC tk.1) (xs := 0) (xn := 0) hB h33) (by omega)) rfl rfl hp0 rfl (Nat.le_of_ble_eq_true rfl) rfl ⟨rfl, rfl, rfl, rfl⟩ (fun v w4 hw4A hw4Z => ?_)
  obtain ⟨hv, h4⟩ := hw4Z
  subst hv
  refine zj_iconst (v := 1) C (List.mem_of_getElem? (i := 80) rfl) rfl (by decide) ?_
  exact KRi 148 _ _ _ (List.mem_of_getElem? (i := 81) rfl) (by decide) (Or.inr ⟨rfl, Or.inr rfl⟩) (hw4A.trans hA3) (Or.inl ⟨rfl, tk2, d1, l1, f1, _, h4, rfl, rfl, rfl, by omega, r1⟩)
set_option maxHeartbeats 2000000 in
theorem zj_all_s {l : Launch} {K : zj_K} {dd : Nat} {s1 : List Bool} (hB : zj_Kok K) (hdd : 10 ≤ dd) (hO : zj_One l K dd s1) (hs : s1 = [] ∨ ∃ s2, s1 = false :: s2) : zj_All l K (dd + 1) s1 := by
  intro ws0 tk d1 l1 f1 o1 n x1 k1 h0
  have h00 := h0
  refine zj_enterW (md := zx_m40) rfl rfl ?_ ?_
  · rintro ex tys av ws ⟨-, -, rfl, -⟩
    exact Nat.le_of_ble_eq_true rfl
  intro p e R s mi args below meth c Q D A ex nL own cc tys ws av hX C hnL KRi KRv KRa
  subst hnL
  obtain ⟨h1, h2, h3, h4⟩ := hX
  subst h1
  subst h2
  subst h3
  subst h4
  have hst : ∀ (tk : zj_T) (o : Nat), tk.1 = 9 → zj_R (zj_g K) K.t (8, tk, n, d1, l1, f1, o, s1, x1, k1) (7, (zj_nx K tk), n, d1, l1, f1, o, s1, x1, k1) := by
    intro tk o h
    rcases hs with rfl | ⟨s2, rfl⟩
    · exact zj_R_st (by rw [zj_st, if_pos (by omega)]; rfl)
    · exact zj_R_st (by rw [zj_st, if_pos (by omega)]; rfl)
  obtain ⟨⟨x, hR, hx⟩, hP, htk, hle, ho⟩ := h0
  have bad : ∀ (j : Nat) (ws1 : va_W) (tk4 : zj_T) (d4 l4 f4 o4 k4 : Nat), j ≤ 40 → zx_as ws1 = zx_as ws → zj_rd K ws1 tk4 d4 l4 f4 o4 (nI k4) → zj_R (zj_g K) K.t (7, tk, n, d1, l1, f1, o1, s1, x1, k1) (zj_bad tk4 k4) → zj_go p l e R s mi args below meth c Q D A (zx_mV zx_m40.2.1) 8 [(3, .int (nI j)), (2, .int 0), (0, .ref K.aR), (1, .int (nI (s1.length + 1)))] [] ws1 := by
    intro j ws1 tk4 d4 l4 f4 o4 k4 hj hA1 h4 r4
    refine zj_iload_n C (List.mem_of_getElem? (i := 6) rfl) rfl rfl rfl ?_
    refine zj_bipush (v := 40) C (List.mem_of_getElem? (i := 7) rfl) rfl (by decide) ?_
    refine zj_icmp_ge (tgt := 55) C (List.mem_of_getElem? (i := 8) rfl) rfl (by decide) (fun hb => ?_) (fun hb => ?_)
    · skip
      refine zj_iload_n C (List.mem_of_getElem? (i := 29) rfl) rfl rfl rfl ?_
      exact KRi 56 _ _ _ (List.mem_of_getElem? (i := 30) rfl) (by decide) (Or.inr ⟨rfl, Or.inl rfl⟩) hA1 (Or.inr ⟨rfl, tk4, d4, l4, f4, o4, k4, h4, r4⟩)
    refine zj_iload_n C (List.mem_of_getElem? (i := 9) rfl) rfl rfl rfl ?_
    refine zj_if_eq (tgt := 55) C (List.mem_of_getElem? (i := 10) rfl) rfl (by decide) (fun hb2 => ?_) (fun hb2 => ?_)
    rotate_left
    · exact absurd rfl hb2
    refine zj_iload_n C (List.mem_of_getElem? (i := 29) rfl) rfl rfl rfl ?_
    exact KRi 56 _ _ _ (List.mem_of_getElem? (i := 30) rfl) (by decide) (Or.inr ⟨rfl, Or.inl rfl⟩) hA1 (Or.inr ⟨rfl, tk4, d4, l4, f4, o4, k4, h4, r4⟩)
  have good : ∀ (N j : Nat) (ws1 : va_W) (tk4 : zj_T) (o4 : Nat), 40 - j ≤ N → j ≤ 40 → o1 + j < o4 → zx_as ws1 = zx_as ws → zj_rd K ws1 tk4 d1 l1 f1 o4 0 → zj_R (zj_g K) K.t (7, tk, n, d1, l1, f1, o1, s1, x1, k1) (8, tk4, n, d1, l1, f1, o4, s1, x1, k1) → zj_go p l e R s mi args below meth c Q D A (zx_mV zx_m40.2.1) 8 [(3, .int (nI j)), (2, .int 1), (0, .ref K.aR), (1, .int (nI (s1.length + 1)))] [] ws1 := by
    intro N
    induction N with
    | zero =>
      intro j ws1 tk4 o4 hN hj ho4 hA1 h4 r4
      have h44 := h4
      obtain ⟨⟨x4, hR4, hx4⟩, hP4, hlt4, hle4, ho44⟩ := h4
      refine zj_iload_n C (List.mem_of_getElem? (i := 6) rfl) rfl rfl rfl ?_
      refine zj_bipush (v := 40) C (List.mem_of_getElem? (i := 7) rfl) rfl (by decide) ?_
      refine zj_icmp_ge (tgt := 55) C (List.mem_of_getElem? (i := 8) rfl) rfl (by decide) (fun hb => ?_) (fun hb => ?_)
      · have hb : 40 ≤ j := (nI_leI (a := 40) (b := j) (by decide) (by omega)).mp hb
        exact absurd ho44 (by omega)
      exact absurd ((nI_leI (a := 40) (b := j) (by decide) (by omega)).mpr (by omega)) hb
    | succ N ih =>
      intro j ws1 tk4 o4 hN hj ho4 hA1 h4 r4
      have h44 := h4
      obtain ⟨⟨x4, hR4, hx4⟩, hP4, hlt4, hle4, ho44⟩ := h4
      refine zj_iload_n C (List.mem_of_getElem? (i := 6) rfl) rfl rfl rfl ?_
      refine zj_bipush (v := 40) C (List.mem_of_getElem? (i := 7) rfl) rfl (by decide) ?_
      refine zj_icmp_ge (tgt := 55) C (List.mem_of_getElem? (i := 8) rfl) rfl (by decide) (fun hb => ?_) (fun hb => ?_)
      · have hb : 40 ≤ j := (nI_leI (a := 40) (b := j) (by decide) (by omega)).mp hb
        exact absurd ho44 (by omega)
      have hj2 : j < 40 := by
        rcases Nat.lt_or_ge j 40 with h | h
        · exact h
        · exact absurd ((nI_leI (a := 40) (b := j) (by decide) (by omega)).mpr h) hb
      refine zj_iload_n C (List.mem_of_getElem? (i := 9) rfl) rfl rfl rfl ?_
      refine zj_if_eq (tgt := 55) C (List.mem_of_getElem? (i := 10) rfl) rfl (by decide) (fun hb2 => ?_) (fun hb2 => ?_)
      · exact absurd hb2 (by decide)
      refine zj_aload_n C (List.mem_of_getElem? (i := 11) rfl) rfl rfl rfl ?_
      refine zj_get C (List.mem_of_getElem? (i := 12) rfl) rfl rfl hR4.1 rfl rfl ?_
      refine zj_gets C (List.mem_of_getElem? (i := 13) rfl) rfl rfl (hB.2.2.1 9 (by decide)) ?_
      refine zj_acmp_ne (tgt := 55) C (List.mem_of_getElem? (i := 14) rfl) rfl (by decide) (fun hb3 => ?_) (fun hb3 => ?_)
      · have hb3 : tk4.1 ≠ 9 := fun h => hb3 (congrArg K.ak h)
        refine zj_iload_n C (List.mem_of_getElem? (i := 29) rfl) rfl rfl rfl ?_
        exact KRi 56 _ _ _ (List.mem_of_getElem? (i := 30) rfl) (by decide) (Or.inr ⟨rfl, Or.inr rfl⟩) hA1 (Or.inl ⟨rfl, tk4, d1, l1, f1, o4, h44, rfl, rfl, rfl, by omega, hb3, r4⟩)
      have hb3 : tk4.1 = 9 := hB.2.2.2.1 _ _ hlt4 (by decide) hb3
      refine zj_aload_n C (List.mem_of_getElem? (i := 15) rfl) rfl rfl rfl ?_
      refine zj_callV (As := []) (rest := []) C (List.mem_of_getElem? (i := 16) rfl) rfl rfl rfl (by decide) (zj_W_mono (zj_adv_W hB h44) (by omega)) rfl rfl hR4.1 rfl (Nat.le_of_ble_eq_true rfl) rfl ⟨rfl, rfl, rfl, rfl⟩ (fun v w5 hw5A hw5Z => ?_)
      obtain ⟨hv, h5⟩ := hw5Z
      subst hv
      have h55 := h5
      have r5 := zj_R_tr r4 (hst tk4 o4 hb3)
      generalize zj_nx K tk4 = tk5 at h5 h55 r5
      obtain ⟨⟨x5, hR5, hx5⟩, hP5, hlt5, hle5, ho5⟩ := h5
      refine zj_aload_n C (List.mem_of_getElem? (i := 17) rfl) rfl rfl rfl ?_
      refine zj_iload_n C (List.mem_of_getElem? (i := 18) rfl) rfl rfl rfl ?_
      refine zj_callV (As := [.int (nI (s1.length + 1))]) (rest := []) C (List.mem_of_getElem? (i := 19) rfl) rfl rfl rfl (by decide) (hO _ _ d1 l1 f1 o4 n x1 k1 h55) rfl rfl hR5.1 rfl (Nat.le_of_ble_eq_true rfl) rfl ⟨rfl, rfl, rfl, rfl⟩ (fun v w6 hw6A hw6Z => ?_)
      rcases hw6Z with ⟨hv, tk6, d6, l6, f6, o6, h6, rfl, rfl, rfl, ho6, r6⟩ | ⟨hv, tk6, d6, l6, f6, o6, k6, h6, r6⟩
      · subst hv
        have h66 := h6
        obtain ⟨⟨x6, hR6, hx6⟩, hP6, hlt6, hle6, ho66⟩ := h66
        obtain ⟨aL6, aS6, aB6, aN6, fL6, fS6, fB6, fN6, da6, st6, hq0, -⟩ := hP6
        refine zj_istore_n C (List.mem_of_getElem? (i := 20) rfl) rfl rfl (by decide) rfl ?_
        refine zj_aload_n C (List.mem_of_getElem? (i := 21) rfl) rfl rfl rfl ?_
        refine zj_get C (List.mem_of_getElem? (i := 22) rfl) rfl rfl hR6.1 rfl rfl ?_
        refine zj_bipush (v := 11) C (List.mem_of_getElem? (i := 23) rfl) rfl (by decide) ?_
        refine zj_iconst (v := 0) C (List.mem_of_getElem? (i := 24) rfl) rfl (by decide) ?_
        refine zj_iconst (v := 0) C (List.mem_of_getElem? (i := 25) rfl) rfl (by decide) ?_
        refine zj_callV (As := [.int 11, .int 0, .int 0]) (rest := []) C (List.mem_of_getElem? (i := 26) rfl) rfl rfl rfl (by decide) (zj_W_mono (zj_addStep_W (xc := 11) (xs := 0) (xn := 0) hB h6) (by omega)) rfl rfl hq0 rfl (Nat.le_of_ble_eq_true rfl) rfl ⟨rfl, rfl, rfl, rfl⟩ (fun v w7 hw7A hw7Z => ?_)
        obtain ⟨hv, h7⟩ := hw7Z
        subst hv
        refine zj_iinc (k := 1) (v := (nI (j + 1))) C (List.mem_of_getElem? (i := 27) rfl) rfl rfl (nI_succ j).symm (by decide) rfl ?_
        refine zj_goto (tgt := 8) C (List.mem_of_getElem? (i := 28) rfl) (by decide) ?_
        exact ih (j + 1) _ tk6 o6 (by omega) (by omega) (by omega) (hw7A.trans (hw6A.trans (hw5A.trans hA1))) h7 (zj_R_tr r5 r6)
      · subst hv
        have h66 := h6
        obtain ⟨⟨x6, hR6, hx6⟩, hP6, hlt6, hle6, ho66⟩ := h66
        obtain ⟨aL6, aS6, aB6, aN6, fL6, fS6, fB6, fN6, da6, st6, hq0, -⟩ := hP6
        refine zj_istore_n C (List.mem_of_getElem? (i := 20) rfl) rfl rfl (by decide) rfl ?_
        refine zj_aload_n C (List.mem_of_getElem? (i := 21) rfl) rfl rfl rfl ?_
        refine zj_get C (List.mem_of_getElem? (i := 22) rfl) rfl rfl hR6.1 rfl rfl ?_
        refine zj_bipush (v := 11) C (List.mem_of_getElem? (i := 23) rfl) rfl (by decide) ?_
        refine zj_iconst (v := 0) C (List.mem_of_getElem? (i := 24) rfl) rfl (by decide) ?_
        refine zj_iconst (v := 0) C (List.mem_of_getElem? (i := 25) rfl) rfl (by decide) ?_
        refine zj_callV (As := [.int 11, .int 0, .int 0]) (rest := []) C (List.mem_of_getElem? (i := 26) rfl) rfl rfl rfl (by decide) (zj_W_mono (zj_addStep_W (xc := 11) (xs := 0) (xn := 0) hB h6) (by omega)) rfl rfl hq0 rfl (Nat.le_of_ble_eq_true rfl) rfl ⟨rfl, rfl, rfl, rfl⟩ (fun v w7 hw7A hw7Z => ?_)
        obtain ⟨hv, h7⟩ := hw7Z
        subst hv
        refine zj_iinc (k := 1) (v := (nI (j + 1))) C (List.mem_of_getElem? (i := 27) rfl) rfl rfl (nI_succ j).symm (by decide) rfl ?_
        refine zj_goto (tgt := 8) C (List.mem_of_getElem? (i := 28) rfl) (by decide) ?_
        exact bad (j + 1) _ tk6 d6 l6 f6 o6 k6 (by omega) (hw7A.trans (hw6A.trans (hw5A.trans hA1))) h7 (zj_R_tr r5 r6)
  refine zj_aload_n C (List.mem_of_getElem? (i := 0) rfl) rfl rfl rfl ?_
  refine zj_iload_n C (List.mem_of_getElem? (i := 1) rfl) rfl rfl rfl ?_
  refine zj_callV (As := [.int (nI (s1.length + 1))]) (rest := []) C (List.mem_of_getElem? (i := 2) rfl) rfl rfl rfl (by decide) (hO _ _ d1 l1 f1 o1 n x1 k1 h00) rfl rfl hR.1 rfl (Nat.le_of_ble_eq_true rfl) rfl ⟨rfl, rfl, rfl, rfl⟩ (fun v w2 hw2A hw2Z => ?_)
  rcases hw2Z with ⟨hv, tk2, d2, l2, f2, o2, h2, rfl, rfl, rfl, ho2, r2⟩ | ⟨hv, tk2, d2, l2, f2, o2, k2, h2, r2⟩
  · subst hv
    refine zj_istore_n C (List.mem_of_getElem? (i := 3) rfl) rfl rfl (by decide) rfl ?_
    refine zj_iconst (v := 0) C (List.mem_of_getElem? (i := 4) rfl) rfl (by decide) ?_
    refine zj_istore_n C (List.mem_of_getElem? (i := 5) rfl) rfl rfl (by decide) rfl ?_
    exact good 40 0 _ tk2 o2 (by omega) (by omega) (by omega) hw2A h2 r2
  · subst hv
    refine zj_istore_n C (List.mem_of_getElem? (i := 3) rfl) rfl rfl (by decide) rfl ?_
    refine zj_iconst (v := 0) C (List.mem_of_getElem? (i := 4) rfl) rfl (by decide) ?_
    refine zj_istore_n C (List.mem_of_getElem? (i := 5) rfl) rfl rfl (by decide) rfl ?_
    exact bad 0 _ tk2 d2 l2 f2 o2 k2 (by omega) hw2A h2 r2
set_option maxHeartbeats 2000000 in
theorem zj_cond_s {l : Launch} {K : zj_K} {dd : Nat} {s1 : List Bool} (hB : zj_Kok K) (hdd : 10 ≤ dd) (hO : zj_All l K dd s1) (hs : s1 = [] ∨ ∃ s2, s1 = false :: s2) : zj_Cnd l K (dd + 1) s1 := by
  intro ws0 tk d1 l1 f1 o1 n x1 k1 h0
  have h00 := h0
  refine zj_enterW (md := zx_m39) rfl rfl ?_ ?_
  · rintro ex tys av ws ⟨-, -, rfl, -⟩
    exact Nat.le_of_ble_eq_true rfl
  intro p e R s mi args below meth c Q D A ex nL own cc tys ws av hX C hnL KRi KRv KRa
  subst hnL
  obtain ⟨h1, h2, h3, h4⟩ := hX
  subst h1
  subst h2
  subst h3
  subst h4
  have hst : ∀ (tk : zj_T) (o : Nat), tk.1 = 8 → zj_R (zj_g K) K.t (8, tk, n, d1, l1, f1, o, s1, x1, k1) (7, (zj_nx K tk), n, d1, l1, f1, o, s1, x1, k1) := by
    intro tk o h
    rcases hs with rfl | ⟨s2, rfl⟩
    · exact zj_R_st (by rw [zj_st, if_pos (by omega)]; rfl)
    · exact zj_R_st (by rw [zj_st, if_pos (by omega)]; rfl)
  obtain ⟨⟨x, hR, hx⟩, hP, htk, hle, ho⟩ := h0
  have bad : ∀ (j : Nat) (ws1 : va_W) (tk4 : zj_T) (d4 l4 f4 o4 k4 : Nat), j ≤ 40 → zx_as ws1 = zx_as ws → zj_rd K ws1 tk4 d4 l4 f4 o4 (nI k4) → zj_R (zj_g K) K.t (7, tk, n, d1, l1, f1, o1, s1, x1, k1) (zj_bad tk4 k4) → zj_go p l e R s mi args below meth c Q D A (zx_mV zx_m39.2.1) 8 [(3, .int (nI j)), (2, .int 0), (0, .ref K.aR), (1, .int (nI (s1.length + 1)))] [] ws1 := by
    intro j ws1 tk4 d4 l4 f4 o4 k4 hj hA1 h4 r4
    refine zj_iload_n C (List.mem_of_getElem? (i := 6) rfl) rfl rfl rfl ?_
    refine zj_bipush (v := 40) C (List.mem_of_getElem? (i := 7) rfl) rfl (by decide) ?_
    refine zj_icmp_ge (tgt := 55) C (List.mem_of_getElem? (i := 8) rfl) rfl (by decide) (fun hb => ?_) (fun hb => ?_)
    · skip
      refine zj_iload_n C (List.mem_of_getElem? (i := 29) rfl) rfl rfl rfl ?_
      exact KRi 56 _ _ _ (List.mem_of_getElem? (i := 30) rfl) (by decide) (Or.inr ⟨rfl, Or.inl rfl⟩) hA1 (Or.inr ⟨rfl, tk4, d4, l4, f4, o4, k4, h4, r4⟩)
    refine zj_iload_n C (List.mem_of_getElem? (i := 9) rfl) rfl rfl rfl ?_
    refine zj_if_eq (tgt := 55) C (List.mem_of_getElem? (i := 10) rfl) rfl (by decide) (fun hb2 => ?_) (fun hb2 => ?_)
    rotate_left
    · exact absurd rfl hb2
    refine zj_iload_n C (List.mem_of_getElem? (i := 29) rfl) rfl rfl rfl ?_
    exact KRi 56 _ _ _ (List.mem_of_getElem? (i := 30) rfl) (by decide) (Or.inr ⟨rfl, Or.inl rfl⟩) hA1 (Or.inr ⟨rfl, tk4, d4, l4, f4, o4, k4, h4, r4⟩)
  have good : ∀ (N j : Nat) (ws1 : va_W) (tk4 : zj_T) (o4 : Nat), 40 - j ≤ N → j ≤ 40 → o1 + j < o4 → zx_as ws1 = zx_as ws → zj_rd K ws1 tk4 d1 l1 f1 o4 0 → tk4.1 ≠ 9 → zj_R (zj_g K) K.t (7, tk, n, d1, l1, f1, o1, s1, x1, k1) (8, tk4, n, d1, l1, f1, o4, s1, x1, k1) → zj_go p l e R s mi args below meth c Q D A (zx_mV zx_m39.2.1) 8 [(3, .int (nI j)), (2, .int 1), (0, .ref K.aR), (1, .int (nI (s1.length + 1)))] [] ws1 := by
    intro N
    induction N with
    | zero =>
      intro j ws1 tk4 o4 hN hj ho4 hA1 h4 hlow r4
      have h44 := h4
      obtain ⟨⟨x4, hR4, hx4⟩, hP4, hlt4, hle4, ho44⟩ := h4
      refine zj_iload_n C (List.mem_of_getElem? (i := 6) rfl) rfl rfl rfl ?_
      refine zj_bipush (v := 40) C (List.mem_of_getElem? (i := 7) rfl) rfl (by decide) ?_
      refine zj_icmp_ge (tgt := 55) C (List.mem_of_getElem? (i := 8) rfl) rfl (by decide) (fun hb => ?_) (fun hb => ?_)
      · have hb : 40 ≤ j := (nI_leI (a := 40) (b := j) (by decide) (by omega)).mp hb
        exact absurd ho44 (by omega)
      exact absurd ((nI_leI (a := 40) (b := j) (by decide) (by omega)).mpr (by omega)) hb
    | succ N ih =>
      intro j ws1 tk4 o4 hN hj ho4 hA1 h4 hlow r4
      have h44 := h4
      obtain ⟨⟨x4, hR4, hx4⟩, hP4, hlt4, hle4, ho44⟩ := h4
      refine zj_iload_n C (List.mem_of_getElem? (i := 6) rfl) rfl rfl rfl ?_
      refine zj_bipush (v := 40) C (List.mem_of_getElem? (i := 7) rfl) rfl (by decide) ?_
      refine zj_icmp_ge (tgt := 55) C (List.mem_of_getElem? (i := 8) rfl) rfl (by decide) (fun hb => ?_) (fun hb => ?_)
      · have hb : 40 ≤ j := (nI_leI (a := 40) (b := j) (by decide) (by omega)).mp hb
        exact absurd ho44 (by omega)
      have hj2 : j < 40 := by
        rcases Nat.lt_or_ge j 40 with h | h
        · exact h
        · exact absurd ((nI_leI (a := 40) (b := j) (by decide) (by omega)).mpr h) hb
      refine zj_iload_n C (List.mem_of_getElem? (i := 9) rfl) rfl rfl rfl ?_
      refine zj_if_eq (tgt := 55) C (List.mem_of_getElem? (i := 10) rfl) rfl (by decide) (fun hb2 => ?_) (fun hb2 => ?_)
      · exact absurd hb2 (by decide)
      refine zj_aload_n C (List.mem_of_getElem? (i := 11) rfl) rfl rfl rfl ?_
      refine zj_get C (List.mem_of_getElem? (i := 12) rfl) rfl rfl hR4.1 rfl rfl ?_
      refine zj_gets C (List.mem_of_getElem? (i := 13) rfl) rfl rfl (hB.2.2.1 8 (by decide)) ?_
      refine zj_acmp_ne (tgt := 55) C (List.mem_of_getElem? (i := 14) rfl) rfl (by decide) (fun hb3 => ?_) (fun hb3 => ?_)
      · have hb3 : tk4.1 ≠ 8 := fun h => hb3 (congrArg K.ak h)
        refine zj_iload_n C (List.mem_of_getElem? (i := 29) rfl) rfl rfl rfl ?_
        exact KRi 56 _ _ _ (List.mem_of_getElem? (i := 30) rfl) (by decide) (Or.inr ⟨rfl, Or.inr rfl⟩) hA1 (Or.inl ⟨rfl, tk4, d1, l1, f1, o4, h44, rfl, rfl, rfl, by omega, hb3, hlow, r4⟩)
      have hb3 : tk4.1 = 8 := hB.2.2.2.1 _ _ hlt4 (by decide) hb3
      refine zj_aload_n C (List.mem_of_getElem? (i := 15) rfl) rfl rfl rfl ?_
      refine zj_callV (As := []) (rest := []) C (List.mem_of_getElem? (i := 16) rfl) rfl rfl rfl (by decide) (zj_W_mono (zj_adv_W hB h44) (by omega)) rfl rfl hR4.1 rfl (Nat.le_of_ble_eq_true rfl) rfl ⟨rfl, rfl, rfl, rfl⟩ (fun v w5 hw5A hw5Z => ?_)
      obtain ⟨hv, h5⟩ := hw5Z
      subst hv
      have h55 := h5
      have r5 := zj_R_tr r4 (hst tk4 o4 hb3)
      generalize zj_nx K tk4 = tk5 at h5 h55 r5
      obtain ⟨⟨x5, hR5, hx5⟩, hP5, hlt5, hle5, ho5⟩ := h5
      refine zj_aload_n C (List.mem_of_getElem? (i := 17) rfl) rfl rfl rfl ?_
      refine zj_iload_n C (List.mem_of_getElem? (i := 18) rfl) rfl rfl rfl ?_
      refine zj_callV (As := [.int (nI (s1.length + 1))]) (rest := []) C (List.mem_of_getElem? (i := 19) rfl) rfl rfl rfl (by decide) (hO _ _ d1 l1 f1 o4 n x1 k1 h55) rfl rfl hR5.1 rfl (Nat.le_of_ble_eq_true rfl) rfl ⟨rfl, rfl, rfl, rfl⟩ (fun v w6 hw6A hw6Z => ?_)
      rcases hw6Z with ⟨hv, tk6, d6, l6, f6, o6, h6, rfl, rfl, rfl, ho6, he0, r6⟩ | ⟨hv, tk6, d6, l6, f6, o6, k6, h6, r6⟩
      · subst hv
        have h66 := h6
        obtain ⟨⟨x6, hR6, hx6⟩, hP6, hlt6, hle6, ho66⟩ := h66
        obtain ⟨aL6, aS6, aB6, aN6, fL6, fS6, fB6, fN6, da6, st6, hq0, -⟩ := hP6
        refine zj_istore_n C (List.mem_of_getElem? (i := 20) rfl) rfl rfl (by decide) rfl ?_
        refine zj_aload_n C (List.mem_of_getElem? (i := 21) rfl) rfl rfl rfl ?_
        refine zj_get C (List.mem_of_getElem? (i := 22) rfl) rfl rfl hR6.1 rfl rfl ?_
        refine zj_bipush (v := 12) C (List.mem_of_getElem? (i := 23) rfl) rfl (by decide) ?_
        refine zj_iconst (v := 0) C (List.mem_of_getElem? (i := 24) rfl) rfl (by decide) ?_
        refine zj_iconst (v := 0) C (List.mem_of_getElem? (i := 25) rfl) rfl (by decide) ?_
        refine zj_callV (As := [.int 12, .int 0, .int 0]) (rest := []) C (List.mem_of_getElem? (i := 26) rfl) rfl rfl rfl (by decide) (zj_W_mono (zj_addStep_W (xc := 12) (xs := 0) (xn := 0) hB h6) (by omega)) rfl rfl hq0 rfl (Nat.le_of_ble_eq_true rfl) rfl ⟨rfl, rfl, rfl, rfl⟩ (fun v w7 hw7A hw7Z => ?_)
        obtain ⟨hv, h7⟩ := hw7Z
        subst hv
        refine zj_iinc (k := 1) (v := (nI (j + 1))) C (List.mem_of_getElem? (i := 27) rfl) rfl rfl (nI_succ j).symm (by decide) rfl ?_
        refine zj_goto (tgt := 8) C (List.mem_of_getElem? (i := 28) rfl) (by decide) ?_
        exact ih (j + 1) _ tk6 o6 (by omega) (by omega) (by omega) (hw7A.trans (hw6A.trans (hw5A.trans hA1))) h7 he0 (zj_R_tr r5 r6)
      · subst hv
        have h66 := h6
        obtain ⟨⟨x6, hR6, hx6⟩, hP6, hlt6, hle6, ho66⟩ := h66
        obtain ⟨aL6, aS6, aB6, aN6, fL6, fS6, fB6, fN6, da6, st6, hq0, -⟩ := hP6
        refine zj_istore_n C (List.mem_of_getElem? (i := 20) rfl) rfl rfl (by decide) rfl ?_
        refine zj_aload_n C (List.mem_of_getElem? (i := 21) rfl) rfl rfl rfl ?_
        refine zj_get C (List.mem_of_getElem? (i := 22) rfl) rfl rfl hR6.1 rfl rfl ?_
        refine zj_bipush (v := 12) C (List.mem_of_getElem? (i := 23) rfl) rfl (by decide) ?_
        refine zj_iconst (v := 0) C (List.mem_of_getElem? (i := 24) rfl) rfl (by decide) ?_
        refine zj_iconst (v := 0) C (List.mem_of_getElem? (i := 25) rfl) rfl (by decide) ?_
        refine zj_callV (As := [.int 12, .int 0, .int 0]) (rest := []) C (List.mem_of_getElem? (i := 26) rfl) rfl rfl rfl (by decide) (zj_W_mono (zj_addStep_W (xc := 12) (xs := 0) (xn := 0) hB h6) (by omega)) rfl rfl hq0 rfl (Nat.le_of_ble_eq_true rfl) rfl ⟨rfl, rfl, rfl, rfl⟩ (fun v w7 hw7A hw7Z => ?_)
        obtain ⟨hv, h7⟩ := hw7Z
        subst hv
        refine zj_iinc (k := 1) (v := (nI (j + 1))) C (List.mem_of_getElem? (i := 27) rfl) rfl rfl (nI_succ j).symm (by decide) rfl ?_
        refine zj_goto (tgt := 8) C (List.mem_of_getElem? (i := 28) rfl) (by decide) ?_
        exact bad (j + 1) _ tk6 d6 l6 f6 o6 k6 (by omega) (hw7A.trans (hw6A.trans (hw5A.trans hA1))) h7 (zj_R_tr r5 r6)
  refine zj_aload_n C (List.mem_of_getElem? (i := 0) rfl) rfl rfl rfl ?_
  refine zj_iload_n C (List.mem_of_getElem? (i := 1) rfl) rfl rfl rfl ?_
  refine zj_callV (As := [.int (nI (s1.length + 1))]) (rest := []) C (List.mem_of_getElem? (i := 2) rfl) rfl rfl rfl (by decide) (hO _ _ d1 l1 f1 o1 n x1 k1 h00) rfl rfl hR.1 rfl (Nat.le_of_ble_eq_true rfl) rfl ⟨rfl, rfl, rfl, rfl⟩ (fun v w2 hw2A hw2Z => ?_)
  rcases hw2Z with ⟨hv, tk2, d2, l2, f2, o2, h2, rfl, rfl, rfl, ho2, he0, r2⟩ | ⟨hv, tk2, d2, l2, f2, o2, k2, h2, r2⟩
  · subst hv
    refine zj_istore_n C (List.mem_of_getElem? (i := 3) rfl) rfl rfl (by decide) rfl ?_
    refine zj_iconst (v := 0) C (List.mem_of_getElem? (i := 4) rfl) rfl (by decide) ?_
    refine zj_istore_n C (List.mem_of_getElem? (i := 5) rfl) rfl rfl (by decide) rfl ?_
    exact good 40 0 _ tk2 o2 (by omega) (by omega) (by omega) hw2A h2 he0 r2
  · subst hv
    refine zj_istore_n C (List.mem_of_getElem? (i := 3) rfl) rfl rfl (by decide) rfl ?_
    refine zj_iconst (v := 0) C (List.mem_of_getElem? (i := 4) rfl) rfl (by decide) ?_
    refine zj_istore_n C (List.mem_of_getElem? (i := 5) rfl) rfl rfl (by decide) rfl ?_
    exact bad 0 _ tk2 d2 l2 f2 o2 k2 (by omega) hw2A h2 r2
/-- all the way down -/
theorem zj_one_all {l : Launch} {K : zj_K} (hB : zj_Kok K) : ∀ (r : Nat) (s1 : List Bool), s1.length + r = 12 → zj_One l K (12 + 3 * r) s1
  | 0, s1, h => zj_one_s hB (by decide) (fun h1 => by omega) (fun h1 => by omega) (by omega)
  | r + 1, s1, h => by
    have h1 : zj_One l K (12 + 3 * r) (false :: s1) := zj_one_all hB r (false :: s1) (by rw [List.length_cons]; omega)
    have h2 : zj_One l K (12 + 3 * r) (true :: s1) := zj_one_all hB r (true :: s1) (by rw [List.length_cons]; omega)
    have h3 := zj_cond_s hB (by omega) (zj_all_s hB (by omega) h1 (Or.inr ⟨_, rfl⟩)) (Or.inr ⟨_, rfl⟩)
    have h4 : zj_One l K (12 + 3 * r + 1 + 1) (true :: s1) := fun ws0 tk d1 l1 f1 o1 n x1 k1 h0 => zj_W_mono (h2 ws0 tk d1 l1 f1 o1 n x1 k1 h0) (by omega)
    rw [show 12 + 3 * (r + 1) = 12 + 3 * r + 1 + 1 + 1 by omega]
    exact zj_one_s (dd := 12 + 3 * r + 1 + 1) hB (by omega) (fun _ => h4) (fun _ => h3) (by omega)
theorem zj_cond_W {l : Launch} {K : zj_K} (hB : zj_Kok K) : zj_Cnd l K 50 [] := zj_cond_s hB (by decide) (zj_all_s hB (by decide) (zj_one_all hB 12 [] rfl) (Or.inl rfl)) (Or.inl rfl)
end
