noncomputable section
/-! zm: the class's wagons: all that may be reached -/
theorem zm_rch_le {L : List Nat} {y : Nat} : L.length ≤ (zm_rch L y).length ∧ ∀ i, i < L.length → (zm_rch L y).getD i 0 = L.getD i 0 := by
  unfold zm_rch
  split
  · refine ⟨by rw [List.length_append]; omega, fun i hi => ?_⟩
    rw [zm_getD_app, if_pos hi]
  · exact ⟨Nat.le_refl _, fun _ _ => rfl⟩
theorem zm_ms_le {st f : Nat} {fr : Int} : ∀ (n s : Nat) (L : List Nat), L.length ≤ (zm_ms st f fr n s L).length ∧ ∀ i, i < L.length → (zm_ms st f fr n s L).getD i 0 = L.getD i 0
  | 0, _, _ => ⟨Nat.le_refl _, fun _ _ => rfl⟩
  | n + 1, s, L => by
    rw [zm_ms]
    split
    · obtain ⟨h1, h2⟩ := zm_rch_le (L := L) (y := zm_md st s f)
      obtain ⟨h3, h4⟩ := zm_ms_le (st := st) (f := f) (fr := fr) n (s + 1) (zm_rch L (zm_md st s f))
      exact ⟨Nat.le_trans h1 h3, fun i hi => (h4 i (Nat.lt_of_lt_of_le hi h1)).trans (h2 i hi)⟩
    · exact zm_ms_le n (s + 1) L
theorem zm_mk_le {st f : Nat} : ∀ (n k : Nat) (L : List Nat), L.length ≤ (zm_mk st f n k L).length ∧ ∀ i, i < L.length → (zm_mk st f n k L).getD i 0 = L.getD i 0
  | 0, _, _ => ⟨Nat.le_refl _, fun _ _ => rfl⟩
  | n + 1, k, L => by
    rw [zm_mk]
    obtain ⟨h1, h2⟩ := zm_ms_le (st := st) (f := f) (fr := zm_near.getD (f * 3 + k) 0) 4 0 L
    obtain ⟨h3, h4⟩ := zm_mk_le (st := st) (f := f) n (k + 1) (zm_ms st f (zm_near.getD (f * 3 + k) 0) 4 0 L)
    exact ⟨Nat.le_trans h1 h3, fun i hi => (h4 i (Nat.lt_of_lt_of_le hi h1)).trans (h2 i hi)⟩
theorem zm_mv_le {st : Nat} {L : List Nat} : L.length ≤ (zm_mv L st).length ∧ ∀ i, i < L.length → (zm_mv L st).getD i 0 = L.getD i 0 := by
  unfold zm_mv
  split
  · exact zm_mk_le _ _ _
  · exact ⟨Nat.le_refl _, fun _ _ => rfl⟩
theorem zm_getD_mem {L : List Nat} {i : Nat} (h : i < L.length) : L.getD i 0 ∈ L := by
  rw [List.getD_eq_getElem?_getD, List.getElem?_eq_getElem h]
  exact List.getElem_mem h
set_option maxHeartbeats 2000000 in
theorem zm_spread_W {l : Launch} {tys : List (ClassId × FieldType)} {ex : List Nat} {ws0 : va_W} {aW aS aN : Nat} {L : List Nat} {a1 a2 : Nat} (hx1 : ex[1]? = some a1) (hx2 : ex[2]? = some a2) (hc : zm_C tys aW aS aN ws0 L) : zj_W l 4 81 (zm_X ex tys [.ref aW, .int 1] ws0) (fun _ _ _ v ws' => v = none ∧ zm_C tys aW aS aN ws' (zm_spr L)) := by
  refine zj_enterW (md := zx_m81) rfl rfl ?_ ?_
  · rintro ex tys av ws ⟨-, -, rfl, -⟩
    exact Nat.le_of_ble_eq_true rfl
  intro p e R s mi args below meth c Q D A ex nL own cc tys ws av hX C hnL KRi KRv KRa
  subst hnL
  obtain ⟨h1, h2, h3, h4⟩ := hX
  subst h1
  subst h2
  subst h3
  subst h4
  refine zj_iconst (v := 0) C (List.mem_of_getElem? (i := 0) rfl) rfl (by decide) ?_
  refine zj_istore_n C (List.mem_of_getElem? (i := 1) rfl) rfl rfl (by decide) rfl ?_
  refine zj_iconst (v := 0) C (List.mem_of_getElem? (i := 2) rfl) rfl (by decide) ?_
  refine zj_istore_n C (List.mem_of_getElem? (i := 3) rfl) rfl rfl (by decide) rfl ?_
  refine zj_iload_n C (List.mem_of_getElem? (i := 4) rfl) rfl rfl rfl ?_
  refine zj_iload_n C (List.mem_of_getElem? (i := 5) rfl) rfl rfl rfl ?_
  refine zj_icmp_ge (tgt := 59) C (List.mem_of_getElem? (i := 6) rfl) rfl (by decide) (fun hbr => ?_) (fun hbr => ?_)
  · exact absurd hbr (by decide)
  refine zj_iload_n C (List.mem_of_getElem? (i := 7) rfl) rfl rfl rfl ?_
  refine zj_aload_n C (List.mem_of_getElem? (i := 8) rfl) rfl rfl rfl ?_
  refine zj_get C (List.mem_of_getElem? (i := 9) rfl) rfl rfl hc.1 rfl rfl ?_
  refine zj_icmp_ge (tgt := 59) C (List.mem_of_getElem? (i := 10) rfl) rfl (by decide) (fun hq => ?_) (fun hq => ?_)
  · have hl : L.length ≤ 0 := by
      have h1 := hc.2.2.2.2
      exact (nI_leI (a := L.length) (b := 0) (by omega) (by decide)).mp hq
    exact KRv 59 _ _ (List.mem_of_getElem? (i := 31) rfl) rfl rfl ⟨rfl, by unfold zm_spr; rw [show L.length = 0 by omega]; exact hc⟩
  have hlen := hc.2.2.2.2
  have loop : ∀ (N j : Nat) (L1 : List Nat) (ws1 : va_W), j + N = L.length → L.length ≤ L1.length → zm_C tys aW aS aN ws1 L1 → zx_as ws1 = zx_as ws → zm_sp N j L1 = zm_spr L → zj_go p l e R s mi args below meth c Q D A (zx_mV zx_m81.2.1) 26 [(5, .int (nI j)), (4, .int (nI L.length)), (3, .int 0), (2, .int 0), (0, .ref aW), (1, .int 1)] [] ws1 := by
    intro N
    induction N with
    | zero =>
      intro j L1 ws1 hj hL1 hc1 hA1 hm
      have hj : j = L.length := by omega
      subst hj
      refine zj_iload C (List.mem_of_getElem? (i := 16) rfl) rfl rfl ?_
      refine zj_iload C (List.mem_of_getElem? (i := 17) rfl) rfl rfl ?_
      refine zj_icmp_ge (tgt := 50) C (List.mem_of_getElem? (i := 18) rfl) rfl (by decide) (fun hq => ?_) (fun hq => ?_)
      rotate_left
      · exact absurd (Int32.le_refl _) hq
      refine zj_iload C (List.mem_of_getElem? (i := 27) rfl) rfl rfl ?_
      refine zj_istore_n C (List.mem_of_getElem? (i := 28) rfl) rfl rfl (by decide) rfl ?_
      refine zj_iinc (k := 3) (v := 1) C (List.mem_of_getElem? (i := 29) rfl) rfl rfl (by decide) (by decide) rfl ?_
      refine zj_goto (tgt := 4) C (List.mem_of_getElem? (i := 30) rfl) (by decide) ?_
      refine zj_iload_n C (List.mem_of_getElem? (i := 4) rfl) rfl rfl rfl ?_
      refine zj_iload_n C (List.mem_of_getElem? (i := 5) rfl) rfl rfl rfl ?_
      refine zj_icmp_ge (tgt := 59) C (List.mem_of_getElem? (i := 6) rfl) rfl (by decide) (fun hbr => ?_) (fun hbr => ?_)
      rotate_left
      · exact absurd hbr (by decide)
      exact KRv 59 _ _ (List.mem_of_getElem? (i := 31) rfl) rfl hA1 ⟨rfl, by rw [← hm]; exact hc1⟩
    | succ N ih =>
      intro j L1 ws1 hj hL1 hc1 hA1 hm
      refine zj_iload C (List.mem_of_getElem? (i := 16) rfl) rfl rfl ?_
      refine zj_iload C (List.mem_of_getElem? (i := 17) rfl) rfl rfl ?_
      refine zj_icmp_ge (tgt := 50) C (List.mem_of_getElem? (i := 18) rfl) rfl (by decide) (fun hq => ?_) (fun hq => ?_)
      · exact absurd ((nI_leI (a := L.length) (b := j) (by omega) (by omega)).mp hq) (by omega)
      obtain ⟨g, hg, hgv⟩ := hc1.2.2.1
      have hle1 := hc1.2.2.2.2
      refine zj_aload_n C (List.mem_of_getElem? (i := 19) rfl) rfl rfl rfl ?_
      refine zj_aload_n C (List.mem_of_getElem? (i := 20) rfl) rfl rfl rfl ?_
      refine zj_get C (List.mem_of_getElem? (i := 21) rfl) rfl rfl hc1.1 rfl rfl ?_
      refine zj_iload C (List.mem_of_getElem? (i := 22) rfl) rfl rfl ?_
      refine zj_iald (v := (nI (L1.getD j 0))) C (List.mem_of_getElem? (i := 23) rfl) rfl hg (zm_in (N := 120) (by omega) (by decide)) (by rw [nI_clamp (by omega)]; exact hgv j (by omega)) ?_
      refine zj_callV (As := [.int (nI (L1.getD j 0))]) (rest := []) C (List.mem_of_getElem? (i := 24) rfl) rfl rfl rfl (by decide) (zm_W_mono (zm_move_W hx1 hx2 hc1 (hc1.2.2.2.1 _ (zm_getD_mem (by omega)))) (by decide)) rfl rfl hc1.1 rfl (Nat.le_of_ble_eq_true rfl) rfl ⟨rfl, rfl, rfl, rfl⟩ (fun v w4 hw4A hw4Z => ?_)
      obtain ⟨hv, hc4⟩ := hw4Z
      subst hv
      refine zj_iinc (k := 0) (v := (nI (j + 1))) C (List.mem_of_getElem? (i := 25) rfl) rfl rfl (nI_succ j).symm (by decide) rfl ?_
      refine zj_goto (tgt := 26) C (List.mem_of_getElem? (i := 26) rfl) (by decide) ?_
      exact ih (j + 1) _ w4 (by omega) (Nat.le_trans hL1 zm_mv_le.1) hc4 (hw4A.trans hA1) (by rw [zm_sp] at hm; exact hm)
  refine zj_aload_n C (List.mem_of_getElem? (i := 11) rfl) rfl rfl rfl ?_
  refine zj_get C (List.mem_of_getElem? (i := 12) rfl) rfl rfl hc.1 rfl rfl ?_
  refine zj_istore C (List.mem_of_getElem? (i := 13) rfl) rfl (by decide) rfl ?_
  refine zj_iload_n C (List.mem_of_getElem? (i := 14) rfl) rfl rfl rfl ?_
  refine zj_istore C (List.mem_of_getElem? (i := 15) rfl) rfl (by decide) rfl ?_
  exact loop L.length 0 L ws (by omega) (Nat.le_refl _) hc rfl rfl
theorem zm_sh_yes {set x : Nat} {L : List Nat} (h : x ∈ L) (hx : zm_pl x set = 0) : zm_sh set L = true := List.any_eq_true.mpr ⟨x, h, by rw [hx]; rfl⟩
theorem zm_sh_no {set : Nat} {L : List Nat} (h : ∀ i, i < L.length → ¬ zm_pl (L.getD i 0) set = 0) : zm_sh set L = false := by
  cases hs : zm_sh set L with
  | false => rfl
  | true =>
    obtain ⟨x, h1, h2⟩ := List.any_eq_true.mp hs
    obtain ⟨i, h3, h4⟩ := List.getElem_of_mem h1
    have h5 := h i h3
    rw [List.getD_eq_getElem?_getD, List.getElem?_eq_getElem h3, h4] at h5
    exact absurd (Nat.eq_of_beq_eq_true h2) h5
theorem zm_show_W {l : Launch} {tys : List (ClassId × FieldType)} {ex : List Nat} {ws0 : va_W} {aW aS aN : Nat} {L : List Nat} {set a2 : Nat} (hs : set < 4) (hx2 : ex[2]? = some a2) (hc : zm_C tys aW aS aN ws0 L) : zj_W l 2 85 (zm_X ex tys [.ref aW, .int (nI set)] ws0) (fun _ _ _ v ws' => ws0 = ws' ∧ ((v = some (.int 1) ∧ zm_sh set L = true) ∨ (v = some (.int 0) ∧ zm_sh set L = false))) := by
  refine zj_enterW (md := zx_m85) rfl rfl ?_ ?_
  · rintro ex tys av ws ⟨-, -, rfl, -⟩
    exact Nat.le_of_ble_eq_true rfl
  intro p e R s mi args below meth c Q D A ex nL own cc tys ws av hX C hnL KRi KRv KRa
  subst hnL
  obtain ⟨h1, h2, h3, h4⟩ := hX
  subst h1
  subst h2
  subst h3
  subst h4
  have hlen := hc.2.2.2.2
  obtain ⟨g, hg, hgv⟩ := hc.2.2.1
  have loop : ∀ (N j : Nat), j + N = L.length → (∀ i, i < j → ¬ zm_pl (L.getD i 0) set = 0) → zj_go p l e R s mi args below meth c Q D A (zx_mV zx_m85.2.1) 2 [(2, .int (nI j)), (0, .ref aW), (1, .int (nI set))] [] ws := by
    intro N
    induction N with
    | zero =>
      intro j hj hno
      have hj : j = L.length := by omega
      subst hj
      refine zj_iload_n C (List.mem_of_getElem? (i := 2) rfl) rfl rfl rfl ?_
      refine zj_aload_n C (List.mem_of_getElem? (i := 3) rfl) rfl rfl rfl ?_
      refine zj_get C (List.mem_of_getElem? (i := 4) rfl) rfl rfl hc.1 rfl rfl ?_
      refine zj_icmp_ge (tgt := 31) C (List.mem_of_getElem? (i := 5) rfl) rfl (by decide) (fun hq => ?_) (fun hq => ?_)
      rotate_left
      · exact absurd (Int32.le_refl _) hq
      refine zj_iconst (v := 0) C (List.mem_of_getElem? (i := 17) rfl) rfl (by decide) ?_
      exact KRi 32 _ _ _ (List.mem_of_getElem? (i := 18) rfl) (by decide) (Or.inr ⟨rfl, Or.inl rfl⟩) rfl ⟨rfl, Or.inr ⟨rfl, zm_sh_no hno⟩⟩
    | succ N ih =>
      intro j hj hno
      refine zj_iload_n C (List.mem_of_getElem? (i := 2) rfl) rfl rfl rfl ?_
      refine zj_aload_n C (List.mem_of_getElem? (i := 3) rfl) rfl rfl rfl ?_
      refine zj_get C (List.mem_of_getElem? (i := 4) rfl) rfl rfl hc.1 rfl rfl ?_
      refine zj_icmp_ge (tgt := 31) C (List.mem_of_getElem? (i := 5) rfl) rfl (by decide) (fun hq => ?_) (fun hq => ?_)
      · exact absurd ((nI_leI (a := L.length) (b := j) (by omega) (by omega)).mp hq) (by omega)
      refine zj_iload_n C (List.mem_of_getElem? (i := 6) rfl) rfl rfl rfl ?_
      refine zj_aload_n C (List.mem_of_getElem? (i := 7) rfl) rfl rfl rfl ?_
      refine zj_get C (List.mem_of_getElem? (i := 8) rfl) rfl rfl hc.1 rfl rfl ?_
      refine zj_iload_n C (List.mem_of_getElem? (i := 9) rfl) rfl rfl rfl ?_
      refine zj_iald (v := (nI (L.getD j 0))) C (List.mem_of_getElem? (i := 10) rfl) rfl hg (zm_in (N := 120) (by omega) (by decide)) (by rw [nI_clamp (by omega)]; exact hgv j (by omega)) ?_
      have hmem := zm_getD_mem (L := L) (i := j) (by omega)
      refine zj_callS (As := [.int (nI set), .int (nI (L.getD j 0))]) (rest := []) C (List.mem_of_getElem? (i := 11) rfl) rfl rfl (Or.inl rfl) (zm_W_mono (zm_place_W (k := set) hs (hc.2.2.2.1 _ hmem) hx2) (by decide)) rfl rfl (Nat.le_of_ble_eq_true rfl) rfl ⟨rfl, rfl, rfl, rfl⟩ (fun v w3 hw3A hw3Z => ?_)
      obtain ⟨he, hv⟩ := hw3Z
      subst he
      subst hv
      have hpl := zm_pl_lt (L.getD j 0) set
      refine zj_if_ne (tgt := 25) C (List.mem_of_getElem? (i := 12) rfl) rfl (by decide) (fun hq2 => ?_) (fun hq2 => ?_)
      · have hne : ¬ zm_pl (L.getD j 0) set = 0 := fun h => hq2 (by rw [h]; rfl)
        refine zj_iinc (k := 0) (v := (nI (j + 1))) C (List.mem_of_getElem? (i := 15) rfl) rfl rfl (nI_succ j).symm (by decide) rfl ?_
        refine zj_goto (tgt := 2) C (List.mem_of_getElem? (i := 16) rfl) (by decide) ?_
        refine ih (j + 1) (by omega) (fun i hi => ?_)
        rcases Nat.lt_or_ge i j with h | h
        · exact hno i h
        · rw [show i = j by omega]
          exact hne
      have hz : zm_pl (L.getD j 0) set = 0 := by
        have h1 := congrArg Int32.toInt hq2
        rw [nI_toInt (by omega)] at h1
        have h2 : (0 : Int32).toInt = 0 := rfl
        omega
      refine zj_iconst (v := 1) C (List.mem_of_getElem? (i := 13) rfl) rfl (by decide) ?_
      exact KRi 24 _ _ _ (List.mem_of_getElem? (i := 14) rfl) (by decide) (Or.inr ⟨rfl, Or.inr rfl⟩) rfl ⟨rfl, Or.inl ⟨rfl, zm_sh_yes hmem hz⟩⟩
  refine zj_iconst (v := 0) C (List.mem_of_getElem? (i := 0) rfl) rfl (by decide) ?_
  refine zj_istore_n C (List.mem_of_getElem? (i := 1) rfl) rfl rfl (by decide) rfl ?_
  exact loop L.length 0 (by omega) (fun i hi => absurd hi (Nat.not_lt_zero _))
/-- the wagons, whatever they hold -/
def zm_C0 (tys : List (ClassId × FieldType)) (aW aS aN : Nat) (ws : va_W) : Prop := (∃ n0 : Int32, ws[195]? = some (aW, .inr (8, [.ref aS, .ref aN, .int n0]))) ∧ (∃ f, zj_row tys ws 196 aS 625 .boolean f) ∧ ∃ g, zj_row tys ws 197 aN 120 .int g
set_option maxHeartbeats 2000000 in
theorem zm_reset_W {l : Launch} {tys : List (ClassId × FieldType)} {ex : List Nat} {ws0 : va_W} {aW aS aN : Nat} (hc : zm_C0 tys aW aS aN ws0) : zj_W l 2 79 (zm_X ex tys [.ref aW] ws0) (fun _ _ _ v ws' => v = none ∧ zm_C tys aW aS aN ws' [430]) := by
  refine zj_enterW (md := zx_m79) rfl rfl ?_ ?_
  · rintro ex tys av ws ⟨-, -, rfl, -⟩
    exact Nat.le_of_ble_eq_true rfl
  intro p e R s mi args below meth c Q D A ex nL own cc tys ws av hX C hnL KRi KRv KRa
  subst hnL
  obtain ⟨h1, h2, h3, h4⟩ := hX
  subst h1
  subst h2
  subst h3
  subst h4
  obtain ⟨⟨n0, h195⟩, ⟨f0, hf0⟩, gg, hg⟩ := hc
  have loop : ∀ (N j : Nat) (f : Nat → Int32) (ws1 : va_W), j + N = 625 → ws1[195]? = some (aW, .inr (8, [.ref aS, .ref aN, .int n0])) → zj_row tys ws1 196 aS 625 .boolean f → zj_row tys ws1 197 aN 120 .int gg → (∀ x, x < j → f x = 0) → zx_as ws1 = zx_as ws → zj_go p l e R s mi args below meth c Q D A (zx_mV zx_m79.2.1) 2 [(1, .int (nI j)), (0, .ref aW)] [] ws1 := by
    intro N
    induction N with
    | zero =>
      intro j f ws1 hj h1 hf hg1 hz hA1
      have hj : j = 625 := by omega
      subst hj
      refine zj_iload_n C (List.mem_of_getElem? (i := 2) rfl) rfl rfl rfl ?_
      refine zj_sipush (v := 625) C (List.mem_of_getElem? (i := 3) rfl) rfl (by decide) ?_
      refine zj_icmp_ge (tgt := 22) C (List.mem_of_getElem? (i := 4) rfl) rfl (by decide) (fun hq => ?_) (fun hq => ?_)
      rotate_left
      · exact absurd (Int32.le_refl _) hq
      refine zj_aload_n C (List.mem_of_getElem? (i := 12) rfl) rfl rfl rfl ?_
      refine zj_iconst (v := 0) C (List.mem_of_getElem? (i := 13) rfl) rfl (by decide) ?_
      refine zj_put C (List.mem_of_getElem? (i := 14) rfl) rfl rfl h1 rfl (Nat.le_of_ble_eq_true rfl) rfl (zm_fit_i rfl _) ?_
      have hnw2 : ∀ i, i ≠ 195 → (ws1.set 195 (aW, .inr (8, [.ref aS, .ref aN, .int 0])))[i]? = ws1[i]? := fun i hi => List.getElem?_set_ne (Ne.symm hi)
      have hAw2 : zx_as (ws1.set 195 (aW, .inr (8, [.ref aS, .ref aN, .int 0]))) = zx_as ws1 := zx_as_set h1
      have hsw2 : (ws1.set 195 (aW, .inr (8, [.ref aS, .ref aN, .int 0])))[195]? = some (aW, .inr (8, [.ref aS, .ref aN, .int 0])) := zm_set_self h1
      show zj_go p l e R s mi args below meth c Q D A _ _ _ _ (ws1.set 195 (aW, .inr (8, [.ref aS, .ref aN, .int 0])))
      generalize ws1.set 195 (aW, .inr (8, [.ref aS, .ref aN, .int 0])) = w2 at hnw2 hAw2 hsw2 ⊢
      refine zj_aload_n C (List.mem_of_getElem? (i := 15) rfl) rfl rfl rfl ?_
      refine zj_sipush (v := 430) C (List.mem_of_getElem? (i := 16) rfl) rfl (by decide) ?_
      have hc2 : zm_C tys aW aS aN w2 [] := ⟨hsw2, ⟨f, zm_row_keep hf (hnw2 196 (by decide)), fun x hx => hz x hx⟩, ⟨gg, zm_row_keep hg1 (hnw2 197 (by decide)), fun i hi => absurd hi (Nat.not_lt_zero _)⟩, (fun x hx => by cases hx), by decide⟩
      refine zj_callV (As := [.int (nI 430)]) (rest := []) C (List.mem_of_getElem? (i := 17) rfl) rfl rfl rfl (by decide) (zm_W_mono (zm_reach_W (y := 430) hc2 (by decide)) (by decide)) rfl rfl hsw2 rfl (Nat.le_of_ble_eq_true rfl) rfl ⟨rfl, rfl, rfl, rfl⟩ (fun v w3 hw3A hw3Z => ?_)
      obtain ⟨hv, hc3⟩ := hw3Z
      subst hv
      exact KRv 34 _ _ (List.mem_of_getElem? (i := 18) rfl) rfl (hw3A.trans (hAw2.trans hA1)) ⟨rfl, hc3⟩
    | succ N ih =>
      intro j f ws1 hj h1 hf hg1 hz hA1
      refine zj_iload_n C (List.mem_of_getElem? (i := 2) rfl) rfl rfl rfl ?_
      refine zj_sipush (v := 625) C (List.mem_of_getElem? (i := 3) rfl) rfl (by decide) ?_
      refine zj_icmp_ge (tgt := 22) C (List.mem_of_getElem? (i := 4) rfl) rfl (by decide) (fun hq => ?_) (fun hq => ?_)
      · exact absurd ((nI_leI (a := 625) (b := j) (by decide) (by omega)).mp hq) (by omega)
      refine zj_aload_n C (List.mem_of_getElem? (i := 5) rfl) rfl rfl rfl ?_
      refine zj_get C (List.mem_of_getElem? (i := 6) rfl) rfl rfl h1 rfl rfl ?_
      refine zj_iload_n C (List.mem_of_getElem? (i := 7) rfl) rfl rfl rfl ?_
      refine zj_iconst (v := 0) C (List.mem_of_getElem? (i := 8) rfl) rfl (by decide) ?_
      refine zj_zast (y := 0) C (List.mem_of_getElem? (i := 9) rfl) rfl hf (zm_in (N := 625) (by omega) (by decide)) (by decide) (fun cA hcA => ?_)
      have hnw2 : ∀ i, i ≠ 196 → (ws1.set 196 (aS, .inl (cA, 625, .inl (upd f (nI j).toNatClampNeg 0))))[i]? = ws1[i]? := fun i hi => List.getElem?_set_ne (Ne.symm hi)
      have hAw2 : zx_as (ws1.set 196 (aS, .inl (cA, 625, .inl (upd f (nI j).toNatClampNeg 0)))) = zx_as ws1 := zx_as_set hcA
      have hrw2 := zm_row_set (g := upd f (nI j).toNatClampNeg 0) hf hcA
      generalize ws1.set 196 (aS, .inl (cA, 625, .inl (upd f (nI j).toNatClampNeg 0))) = w2 at hnw2 hAw2 hrw2 ⊢
      refine zj_iinc (k := 0) (v := (nI (j + 1))) C (List.mem_of_getElem? (i := 10) rfl) rfl rfl (nI_succ j).symm (by decide) rfl ?_
      refine zj_goto (tgt := 2) C (List.mem_of_getElem? (i := 11) rfl) (by decide) ?_
      refine ih (j + 1) _ w2 (by omega) ((hnw2 195 (by decide)).trans h1) hrw2 (zm_row_keep hg1 (hnw2 197 (by decide))) (fun x hx => ?_) (hAw2.trans hA1)
      rw [nI_clamp (by omega)]
      by_cases h : x = j
      · subst h
        simp [upd]
      · have h2 : upd f j 0 x = f x := by simp [upd, h]
        rw [h2]
        exact hz x (by omega)
  refine zj_iconst (v := 0) C (List.mem_of_getElem? (i := 0) rfl) rfl (by decide) ?_
  refine zj_istore_n C (List.mem_of_getElem? (i := 1) rfl) rfl rfl (by decide) rfl ?_
  exact loop 625 0 f0 ws rfl h195 hf0 hg (fun x hx => absurd hx (Nat.not_lt_zero _)) rfl
set_option maxHeartbeats 2000000 in
theorem zm_fewest_W {l : Launch} {tys : List (ClassId × FieldType)} {ex : List Nat} {ws0 : va_W} {aW aS aN a1 a2 set most : Nat} (hx1 : ex[1]? = some a1) (hx2 : ex[2]? = some a2) (hs : set < 4) (hm : most < 41) (hc : zm_C0 tys aW aS aN ws0) : zj_W l 5 112 (zm_X ex tys [.ref aW, .int (nI set), .int (nI most)] ws0) (fun _ _ _ v _ => ∃ a : Int32, v = some (.int a) ∧ a.toInt = zm_few set most 42 0 [430]) := by
  refine zj_enterW (md := zx_m112) rfl rfl ?_ ?_
  · rintro ex tys av ws ⟨-, -, rfl, -⟩
    exact Nat.le_of_ble_eq_true rfl
  intro p e R s mi args below meth c Q D A ex nL own cc tys ws av hX C hnL KRi KRv KRa
  subst hnL
  obtain ⟨h1, h2, h3, h4⟩ := hX
  subst h1
  subst h2
  subst h3
  subst h4
  have h195 := hc.1.choose_spec
  have loop : ∀ (N j : Nat) (L : List Nat) (ws1 : va_W), j + N = 42 → zm_C tys aW aS aN ws1 L → zx_as ws1 = zx_as ws → zm_few set most N j L = zm_few set most 42 0 [430] → zj_go p l e R s mi args below meth c Q D A (zx_mV zx_m112.2.1) 6 [(3, .int (nI j)), (0, .ref aW), (1, .int (nI set)), (2, .int (nI most))] [] ws1 := by
    intro N
    induction N with
    | zero =>
      intro j L ws1 hj hc1 hA1 hf
      refine zj_iload_n C (List.mem_of_getElem? (i := 4) rfl) rfl rfl rfl ?_
      refine zj_iload_n C (List.mem_of_getElem? (i := 5) rfl) rfl rfl rfl ?_
      refine zj_icmp_gt (tgt := 32) C (List.mem_of_getElem? (i := 6) rfl) rfl (by decide) (fun hq => ?_) (fun hq => ?_)
      · have hq : most < j := (nI_ltI (a := most) (b := j) (by omega) (by omega)).mp hq
        refine zj_iconst (v := (-1)) C (List.mem_of_getElem? (i := 18) rfl) rfl (by decide) ?_
        exact KRi 33 _ _ _ (List.mem_of_getElem? (i := 19) rfl) (by decide) (Or.inl rfl) hA1 ⟨_, rfl, by rw [← hf]; rfl⟩
      have hq : ¬ most < j := fun h => hq ((nI_ltI (a := most) (b := j) (by omega) (by omega)).mpr h)
      omega
    | succ N ih =>
      intro j L ws1 hj hc1 hA1 hf
      refine zj_iload_n C (List.mem_of_getElem? (i := 4) rfl) rfl rfl rfl ?_
      refine zj_iload_n C (List.mem_of_getElem? (i := 5) rfl) rfl rfl rfl ?_
      refine zj_icmp_gt (tgt := 32) C (List.mem_of_getElem? (i := 6) rfl) rfl (by decide) (fun hq => ?_) (fun hq => ?_)
      · have hq : most < j := (nI_ltI (a := most) (b := j) (by omega) (by omega)).mp hq
        refine zj_iconst (v := (-1)) C (List.mem_of_getElem? (i := 18) rfl) rfl (by decide) ?_
        exact KRi 33 _ _ _ (List.mem_of_getElem? (i := 19) rfl) (by decide) (Or.inl rfl) hA1 ⟨_, rfl, by rw [← hf, zm_few, if_pos hq]; rfl⟩
      have hq : ¬ most < j := fun h => hq ((nI_ltI (a := most) (b := j) (by omega) (by omega)).mpr h)
      refine zj_aload_n C (List.mem_of_getElem? (i := 7) rfl) rfl rfl rfl ?_
      refine zj_iload_n C (List.mem_of_getElem? (i := 8) rfl) rfl rfl rfl ?_
      refine zj_callV (As := [.int (nI set)]) (rest := []) C (List.mem_of_getElem? (i := 9) rfl) rfl rfl rfl (by decide) (zm_W_mono (zm_show_W hs hx2 hc1) (by decide)) rfl rfl hc1.1 rfl (Nat.le_of_ble_eq_true rfl) rfl ⟨rfl, rfl, rfl, rfl⟩ (fun v w3 hw3A hw3Z => ?_)
      obtain ⟨he, hv⟩ := hw3Z
      subst he
      rcases hv with ⟨hv, hsh⟩ | ⟨hv, hsh⟩
      · subst hv
        refine zj_if_eq (tgt := 21) C (List.mem_of_getElem? (i := 10) rfl) rfl (by decide) (fun hd => ?_) (fun hd => ?_)
        · exact absurd hd (by decide)
        refine zj_iload_n C (List.mem_of_getElem? (i := 11) rfl) rfl rfl rfl ?_
        exact KRi 20 _ _ _ (List.mem_of_getElem? (i := 12) rfl) (by decide) (Or.inl rfl) hA1 ⟨_, rfl, by rw [← hf, zm_few, if_neg hq, if_pos hsh, nI_toInt (by omega)]⟩
      · subst hv
        refine zj_if_eq (tgt := 21) C (List.mem_of_getElem? (i := 10) rfl) rfl (by decide) (fun hd => ?_) (fun hd => ?_)
        rotate_left
        · exact absurd rfl hd
        refine zj_aload_n C (List.mem_of_getElem? (i := 13) rfl) rfl rfl rfl ?_
        refine zj_iconst (v := 1) C (List.mem_of_getElem? (i := 14) rfl) rfl (by decide) ?_
        refine zj_callV (As := [.int 1]) (rest := []) C (List.mem_of_getElem? (i := 15) rfl) rfl rfl rfl (by decide) (zm_W_mono (zm_spread_W hx1 hx2 hc1) (by decide)) rfl rfl hc1.1 rfl (Nat.le_of_ble_eq_true rfl) rfl ⟨rfl, rfl, rfl, rfl⟩ (fun v w4 hw4A hw4Z => ?_)
        obtain ⟨hv, hc4⟩ := hw4Z
        subst hv
        refine zj_iinc (k := 0) (v := (nI (j + 1))) C (List.mem_of_getElem? (i := 16) rfl) rfl rfl (nI_succ j).symm (by decide) rfl ?_
        refine zj_goto (tgt := 6) C (List.mem_of_getElem? (i := 17) rfl) (by decide) ?_
        exact ih (j + 1) _ w4 (by omega) hc4 (hw4A.trans hA1) (by rw [← hf, zm_few, if_neg hq, if_neg (by rw [hsh]; decide)])
  refine zj_aload_n C (List.mem_of_getElem? (i := 0) rfl) rfl rfl rfl ?_
  refine zj_callV (As := []) (rest := []) C (List.mem_of_getElem? (i := 1) rfl) rfl rfl rfl (by decide) (zm_W_mono (zm_reset_W hc) (by decide)) rfl rfl h195 rfl (Nat.le_of_ble_eq_true rfl) rfl ⟨rfl, rfl, rfl, rfl⟩ (fun v w2 hw2A hw2Z => ?_)
  obtain ⟨hv, hc2⟩ := hw2Z
  subst hv
  refine zj_iconst (v := 0) C (List.mem_of_getElem? (i := 2) rfl) rfl (by decide) ?_
  refine zj_istore_n C (List.mem_of_getElem? (i := 3) rfl) rfl rfl (by decide) rfl ?_
  exact loop 42 0 [430] w2 rfl hc2 hw2A rfl
theorem zm_within_W {l : Launch} {tys : List (ClassId × FieldType)} {ex : List Nat} {ws0 : va_W} {x lo hi : Int32} : zj_W l 1 18 (zm_X ex tys [.int x, .int lo, .int hi] ws0) (fun _ _ _ v ws' => ws0 = ws' ∧ ((v = some (.int 1) ∧ (lo.toInt ≤ x.toInt ∧ x.toInt ≤ hi.toInt)) ∨ (v = some (.int 0) ∧ ¬ (lo.toInt ≤ x.toInt ∧ x.toInt ≤ hi.toInt)))) := by
  refine zj_enterW (md := zx_m18) rfl rfl ?_ ?_
  · rintro ex tys av ws ⟨-, -, rfl, -⟩
    exact Nat.le_of_ble_eq_true rfl
  intro p e R s mi args below meth c Q D A ex nL own cc tys ws av hX C hnL KRi KRv KRa
  subst hnL
  obtain ⟨h1, h2, h3, h4⟩ := hX
  subst h1
  subst h2
  subst h3
  subst h4
  refine zj_iload_n C (List.mem_of_getElem? (i := 0) rfl) rfl rfl rfl ?_
  refine zj_iload_n C (List.mem_of_getElem? (i := 1) rfl) rfl rfl rfl ?_
  refine zj_icmp_lt (tgt := 14) C (List.mem_of_getElem? (i := 2) rfl) rfl (by decide) (fun hb => ?_) (fun hb => ?_)
  · have hb := Int32.lt_iff_toInt_lt.mp hb
    refine zj_iconst (v := 0) C (List.mem_of_getElem? (i := 8) rfl) rfl (by decide) ?_
    exact KRi 15 _ _ _ (List.mem_of_getElem? (i := 9) rfl) (by decide) (Or.inr ⟨rfl, Or.inl rfl⟩) rfl ⟨rfl, Or.inr ⟨rfl, fun h => by omega⟩⟩
  have hb : ¬ x.toInt < lo.toInt := fun h => hb (Int32.lt_iff_toInt_lt.mpr h)
  refine zj_iload_n C (List.mem_of_getElem? (i := 3) rfl) rfl rfl rfl ?_
  refine zj_iload_n C (List.mem_of_getElem? (i := 4) rfl) rfl rfl rfl ?_
  refine zj_icmp_gt (tgt := 14) C (List.mem_of_getElem? (i := 5) rfl) rfl (by decide) (fun hb2 => ?_) (fun hb2 => ?_)
  · have hb2 := Int32.lt_iff_toInt_lt.mp hb2
    refine zj_iconst (v := 0) C (List.mem_of_getElem? (i := 8) rfl) rfl (by decide) ?_
    exact KRi 15 _ _ _ (List.mem_of_getElem? (i := 9) rfl) (by decide) (Or.inr ⟨rfl, Or.inl rfl⟩) rfl ⟨rfl, Or.inr ⟨rfl, fun h => by omega⟩⟩
  have hb2 : ¬ hi.toInt < x.toInt := fun h => hb2 (Int32.lt_iff_toInt_lt.mpr h)
  refine zj_iconst (v := 1) C (List.mem_of_getElem? (i := 6) rfl) rfl (by decide) ?_
  refine zj_goto (tgt := 15) C (List.mem_of_getElem? (i := 7) rfl) (by decide) ?_
  exact KRi 15 _ _ _ (List.mem_of_getElem? (i := 9) rfl) (by decide) (Or.inr ⟨rfl, Or.inr rfl⟩) rfl ⟨rfl, Or.inl ⟨rfl, by omega, by omega⟩⟩
/-- what both answer -/
def zm_ans (x y : Int32) : Int := if (0 ≤ x.toInt ∧ x.toInt ≤ 3) ∧ (0 ≤ y.toInt ∧ y.toInt ≤ 40) then zm_few x.toInt.toNat y.toInt.toNat 42 0 [430] else -1
theorem zm_movesC_W {l : Launch} {tys : List (ClassId × FieldType)} {ex : List Nat} {ws0 : va_W} {aO aW aS aN a1 a2 : Nat} {FO : List Value} {x y : Int32} (hx1 : ex[1]? = some a1) (hx2 : ex[2]? = some a2) (h0 : ws0[0]? = some (aO, .inr (10, FO))) (hO5 : FO[5]? = some (.ref aW)) (hc : zm_C0 tys aW aS aN ws0) : zj_W l 6 111 (zm_X ex tys [.ref aO, .int x, .int y] ws0) (fun _ _ _ v _ => ∃ a : Int32, v = some (.int a) ∧ a.toInt = zm_ans x y) := by
  refine zj_enterW (md := zx_m111) rfl rfl ?_ ?_
  · rintro ex tys av ws ⟨-, -, rfl, -⟩
    exact Nat.le_of_ble_eq_true rfl
  intro p e R s mi args below meth c Q D A ex nL own cc tys ws av hX C hnL KRi KRv KRa
  subst hnL
  obtain ⟨h1, h2, h3, h4⟩ := hX
  subst h1
  subst h2
  subst h3
  subst h4
  have e0 : (0 : Int32).toInt = 0 := rfl
  have e3 : (3 : Int32).toInt = 3 := rfl
  have e40 : (40 : Int32).toInt = 40 := rfl
  have em : (-1 : Int32).toInt = -1 := rfl
  refine zj_iload_n C (List.mem_of_getElem? (i := 0) rfl) rfl rfl rfl ?_
  refine zj_iconst (v := 0) C (List.mem_of_getElem? (i := 1) rfl) rfl (by decide) ?_
  refine zj_iconst (v := 3) C (List.mem_of_getElem? (i := 2) rfl) rfl (by decide) ?_
  refine zj_callS (As := [.int x, .int 0, .int 3]) (rest := []) C (List.mem_of_getElem? (i := 3) rfl) rfl rfl (Or.inl rfl) (zm_W_mono (zm_within_W (x := x) (lo := 0) (hi := 3)) (by decide)) rfl rfl (Nat.le_of_ble_eq_true rfl) rfl ⟨rfl, rfl, rfl, rfl⟩ (fun v w2 hw2A hw2Z => ?_)
  obtain ⟨he, hv⟩ := hw2Z
  subst he
  rw [e0, e3] at hv
  rcases hv with ⟨hv, hc1⟩ | ⟨hv, hc1⟩
  rotate_left
  · subst hv
    refine zj_if_eq (tgt := 19) C (List.mem_of_getElem? (i := 4) rfl) rfl (by decide) (fun hd => ?_) (fun hd => ?_)
    rotate_left
    · exact absurd rfl hd
    refine zj_iconst (v := (-1)) C (List.mem_of_getElem? (i := 10) rfl) rfl (by decide) ?_
    exact KRi 20 _ _ _ (List.mem_of_getElem? (i := 11) rfl) (by decide) (Or.inl rfl) rfl ⟨_, rfl, by unfold zm_ans; rw [if_neg (fun h => hc1 h.1)]; rfl⟩
  subst hv
  refine zj_if_eq (tgt := 19) C (List.mem_of_getElem? (i := 4) rfl) rfl (by decide) (fun hd => ?_) (fun hd => ?_)
  · exact absurd hd (by decide)
  refine zj_iload_n C (List.mem_of_getElem? (i := 5) rfl) rfl rfl rfl ?_
  refine zj_iconst (v := 0) C (List.mem_of_getElem? (i := 6) rfl) rfl (by decide) ?_
  refine zj_bipush (v := 40) C (List.mem_of_getElem? (i := 7) rfl) rfl (by decide) ?_
  refine zj_callS (As := [.int y, .int 0, .int 40]) (rest := []) C (List.mem_of_getElem? (i := 8) rfl) rfl rfl (Or.inl rfl) (zm_W_mono (zm_within_W (x := y) (lo := 0) (hi := 40)) (by decide)) rfl rfl (Nat.le_of_ble_eq_true rfl) rfl ⟨rfl, rfl, rfl, rfl⟩ (fun v w3 hw3A hw3Z => ?_)
  obtain ⟨he, hv⟩ := hw3Z
  subst he
  rw [e0, e40] at hv
  rcases hv with ⟨hv, hc2⟩ | ⟨hv, hc2⟩
  rotate_left
  · subst hv
    refine zj_if_ne (tgt := 21) C (List.mem_of_getElem? (i := 9) rfl) rfl (by decide) (fun hd => ?_) (fun hd => ?_)
    · exact absurd rfl hd
    refine zj_iconst (v := (-1)) C (List.mem_of_getElem? (i := 10) rfl) rfl (by decide) ?_
    exact KRi 20 _ _ _ (List.mem_of_getElem? (i := 11) rfl) (by decide) (Or.inl rfl) rfl ⟨_, rfl, by unfold zm_ans; rw [if_neg (fun h => hc2 h.2)]; rfl⟩
  subst hv
  refine zj_if_ne (tgt := 21) C (List.mem_of_getElem? (i := 9) rfl) rfl (by decide) (fun hd => ?_) (fun hd => ?_)
  rotate_left
  · exact absurd hd (by decide)
  obtain ⟨set, hs, hsx, rfl⟩ : ∃ set : Nat, set < 4 ∧ x.toInt.toNat = set ∧ x = nI set := ⟨x.toInt.toNat, by omega, rfl, (zx_nat hc1.1).1⟩
  obtain ⟨most, hm, hmy, rfl⟩ : ∃ most : Nat, most < 41 ∧ y.toInt.toNat = most ∧ y = nI most := ⟨y.toInt.toNat, by omega, rfl, (zx_nat hc2.1).1⟩
  refine zj_aload_n C (List.mem_of_getElem? (i := 12) rfl) rfl rfl rfl ?_
  refine zj_get C (List.mem_of_getElem? (i := 13) rfl) rfl rfl h0 rfl hO5 ?_
  refine zj_iload_n C (List.mem_of_getElem? (i := 14) rfl) rfl rfl rfl ?_
  refine zj_iload_n C (List.mem_of_getElem? (i := 15) rfl) rfl rfl rfl ?_
  refine zj_callV (As := [.int (nI set), .int (nI most)]) (rest := []) C (List.mem_of_getElem? (i := 16) rfl) rfl rfl rfl (by decide) (zm_W_mono (zm_fewest_W hx1 hx2 hs hm hc) (by decide)) rfl rfl hc.1.choose_spec rfl (Nat.le_of_ble_eq_true rfl) rfl ⟨rfl, rfl, rfl, rfl⟩ (fun v w4 hw4A hw4Z => ?_)
  obtain ⟨a, hv, ha⟩ := hw4Z
  subst hv
  exact KRi 30 _ _ _ (List.mem_of_getElem? (i := 17) rfl) (by decide) (Or.inl rfl) hw4A ⟨_, rfl, by unfold zm_ans; rw [if_pos ⟨hc1, hc2⟩, hsx, hmy]; exact ha⟩
end
