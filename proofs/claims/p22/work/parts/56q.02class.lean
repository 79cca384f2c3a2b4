noncomputable section
/-! zm: the class's wagons -/
def zm_C (tys : List (ClassId × FieldType)) (aW aS aN : Nat) (ws : va_W) (L : List Nat) : Prop := ws[195]? = some (aW, .inr (8, [.ref aS, .ref aN, .int (nI L.length)])) ∧ (∃ f, zj_row tys ws 196 aS 625 .boolean f ∧ ∀ x, x < 625 → f x = if L.contains x = true then 1 else 0) ∧ (∃ g, zj_row tys ws 197 aN 120 .int g ∧ ∀ i, i < L.length → g i = nI (L.getD i 0)) ∧ (∀ x ∈ L, x < 625) ∧ L.length ≤ 120
theorem zm_con {L : List Nat} {x : Nat} : L.contains x = true ↔ x ∈ L := by simp
theorem zm_con_app {L : List Nat} {x y : Nat} : (L ++ [y]).contains x = true ↔ x = y ∨ L.contains x = true := by
  rw [zm_con, zm_con, List.mem_append, List.mem_singleton, Or.comm]
theorem zm_getD_app {L : List Nat} {y i : Nat} : (L ++ [y]).getD i 0 = if i < L.length then L.getD i 0 else if i = L.length then y else 0 := by
  rw [List.getD_eq_getElem?_getD, List.getD_eq_getElem?_getD]
  by_cases h : i < L.length
  · rw [if_pos h, List.getElem?_append_left h]
  · rw [if_neg h, List.getElem?_append_right (by omega)]
    by_cases h2 : i = L.length
    · rw [if_pos h2, h2, Nat.sub_self]
      rfl
    · rw [if_neg h2]
      obtain ⟨k, hk⟩ : ∃ k, i - L.length = k + 1 := ⟨i - L.length - 1, by omega⟩
      rw [hk]
      rfl
theorem zm_nIw {s : Nat} (h : s < 4) : Int32.ofInt (([1, 5, 25, 125] : List Int).getD (nI s).toNatClampNeg 0) = nI (zm_w s) := by
  have h1 : ∀ s, s < 4 → Int32.ofInt (([1, 5, 25, 125] : List Int).getD (nI s).toNatClampNeg 0) = nI (zm_w s) := by decide
  exact h1 s h
theorem zm_nIw0 (s : Nat) : ¬ nI (zm_w s) = 0 := by
  intro h
  have h1 := congrArg Int32.toInt h
  have h2 := zm_w_lt s
  rw [nI_toInt (by omega)] at h1
  have h3 : (0 : Int32).toInt = 0 := rfl
  omega
theorem zm_place_W {l : Launch} {tys : List (ClassId × FieldType)} {ex : List Nat} {ws0 : va_W} {k st a2 : Nat} (hk : k < 4) (hst : st < 625) (hx2 : ex[2]? = some a2) : zj_W l 1 84 (zm_X ex tys [.int (nI k), .int (nI st)] ws0) (fun _ _ _ v ws' => ws0 = ws' ∧ v = some (.int (nI (zm_pl st k)))) := by
  refine zj_enterW (md := zx_m84) rfl rfl ?_ ?_
  · rintro ex tys av ws ⟨-, -, rfl, -⟩
    exact Nat.le_of_ble_eq_true rfl
  intro p e R s mi args below meth c Q D A ex nL own cc tys ws av hX C hnL KRi KRv KRa
  subst hnL
  obtain ⟨h1, h2, h3, h4⟩ := hX
  subst h1
  subst h2
  subst h3
  subst h4
  have hw := zm_w_lt k
  refine zj_iload_n C (List.mem_of_getElem? (i := 0) rfl) rfl rfl rfl ?_
  refine zj_gets C (List.mem_of_getElem? (i := 1) rfl) rfl rfl hx2 ?_
  refine zj_iload_n C (List.mem_of_getElem? (i := 2) rfl) rfl rfl rfl ?_
  refine zm_ti (id := 2) (row := [1, 5, 25, 125]) (v := (nI (zm_w k))) C (List.mem_of_getElem? (i := 3) rfl) rfl (by decide) (by decide) hx2 (zm_in (N := 4) hk (by decide)) (zm_nIw hk) ?_
  refine zj_idiv (v := (nI (st / zm_w k))) C (List.mem_of_getElem? (i := 4) rfl) rfl (zm_nIw0 k) (pk_div (by omega) hw.1 (by omega)) ?_
  refine zj_iconst (v := 5) C (List.mem_of_getElem? (i := 5) rfl) rfl (by decide) ?_
  refine zj_irem (v := (nI (zm_pl st k))) C (List.mem_of_getElem? (i := 6) rfl) rfl (by decide) (pk_rem (d := 5) (Nat.lt_of_le_of_lt (Nat.div_le_self _ _) (by omega)) (by decide) (by decide)) ?_
  exact KRi 9 _ _ _ (List.mem_of_getElem? (i := 7) rfl) (by decide) (Or.inl rfl) rfl ⟨rfl, rfl⟩
theorem zm_sub3 {x : Int32} {z : Int} {q : Nat} (h : x.toInt = z) (hz : -100 ≤ z ∧ z ≤ 100) (hq : q < 5) : (x - nI q).toInt = z - (q : Int) := by
  have h1 : (nI q).toInt = (q : Int) := nI_toInt (by omega)
  rw [zx_subI _ _ (by rw [h, h1]; omega) (by rw [h, h1]; omega), h, h1]
theorem zm_free_W {l : Launch} {tys : List (ClassId × FieldType)} {ex : List Nat} {ws0 : va_W} {st a2 : Nat} (hst : st < 625) (hx2 : ex[2]? = some a2) : zj_W l 2 83 (zm_X ex tys [.int (nI st)] ws0) (fun _ _ _ v ws' => ws0 = ws' ∧ ∃ x : Int32, v = some (.int x) ∧ x.toInt = zm_fr st) := by
  refine zj_enterW (md := zx_m83) rfl rfl ?_ ?_
  · rintro ex tys av ws ⟨-, -, rfl, -⟩
    exact Nat.le_of_ble_eq_true rfl
  intro p e R s mi args below meth c Q D A ex nL own cc tys ws av hX C hnL KRi KRv KRa
  subst hnL
  obtain ⟨h1, h2, h3, h4⟩ := hX
  subst h1
  subst h2
  subst h3
  subst h4
  have hp0 := zm_pl_lt st 0
  have hp1 := zm_pl_lt st 1
  have hp2 := zm_pl_lt st 2
  have hp3 := zm_pl_lt st 3
  have e0 : (10 : Int32).toInt = 10 := rfl
  refine zj_bipush (v := 10) C (List.mem_of_getElem? (i := 0) rfl) rfl (by decide) ?_
  refine zj_istore_n C (List.mem_of_getElem? (i := 1) rfl) rfl rfl (by decide) rfl ?_
  refine zj_iconst (v := 0) C (List.mem_of_getElem? (i := 2) rfl) rfl (by decide) ?_
  refine zj_istore_n C (List.mem_of_getElem? (i := 3) rfl) rfl rfl (by decide) rfl ?_
  refine zj_iload_n C (List.mem_of_getElem? (i := 4) rfl) rfl rfl rfl ?_
  refine zj_gets C (List.mem_of_getElem? (i := 5) rfl) rfl rfl hx2 ?_
  refine zj_tlen (id := 2) (row := [1, 5, 25, 125]) (v := 4) C (List.mem_of_getElem? (i := 6) rfl) rfl (by decide) (by decide) hx2 rfl ?_
  refine zj_icmp_ge (tgt := 27) C (List.mem_of_getElem? (i := 7) rfl) rfl (by decide) (fun hbr => ?_) (fun hbr => ?_)
  · exact absurd hbr (by decide)
  refine zj_iload_n C (List.mem_of_getElem? (i := 8) rfl) rfl rfl rfl ?_
  refine zj_iload_n C (List.mem_of_getElem? (i := 9) rfl) rfl rfl rfl ?_
  refine zj_iload_n C (List.mem_of_getElem? (i := 10) rfl) rfl rfl rfl ?_
  refine zj_callS (As := [.int (nI 0), .int (nI st)]) (rest := [.int 10]) C (List.mem_of_getElem? (i := 11) rfl) rfl rfl (Or.inl rfl) (zm_place_W (k := 0) (by decide) hst hx2) rfl rfl (Nat.le_of_ble_eq_true rfl) rfl ⟨rfl, rfl, rfl, rfl⟩ (fun v w0 hw0A hw0Z => ?_)
  obtain ⟨he, hv⟩ := hw0Z
  subst he
  subst hv
  have e1 := zm_sub3 e0 (by omega) hp0
  refine zj_isub (v := (10 - nI (zm_pl st 0))) C (List.mem_of_getElem? (i := 12) rfl) rfl rfl ?_
  refine zj_istore_n C (List.mem_of_getElem? (i := 13) rfl) rfl rfl (by decide) rfl ?_
  refine zj_iinc (k := 1) (v := 1) C (List.mem_of_getElem? (i := 14) rfl) rfl rfl (by decide) (by decide) rfl ?_
  refine zj_goto (tgt := 5) C (List.mem_of_getElem? (i := 15) rfl) (by decide) ?_
  refine zj_iload_n C (List.mem_of_getElem? (i := 4) rfl) rfl rfl rfl ?_
  refine zj_gets C (List.mem_of_getElem? (i := 5) rfl) rfl rfl hx2 ?_
  refine zj_tlen (id := 2) (row := [1, 5, 25, 125]) (v := 4) C (List.mem_of_getElem? (i := 6) rfl) rfl (by decide) (by decide) hx2 rfl ?_
  refine zj_icmp_ge (tgt := 27) C (List.mem_of_getElem? (i := 7) rfl) rfl (by decide) (fun hbr => ?_) (fun hbr => ?_)
  · exact absurd hbr (by decide)
  refine zj_iload_n C (List.mem_of_getElem? (i := 8) rfl) rfl rfl rfl ?_
  refine zj_iload_n C (List.mem_of_getElem? (i := 9) rfl) rfl rfl rfl ?_
  refine zj_iload_n C (List.mem_of_getElem? (i := 10) rfl) rfl rfl rfl ?_
  refine zj_callS (As := [.int (nI 1), .int (nI st)]) (rest := [.int (10 - nI (zm_pl st 0))]) C (List.mem_of_getElem? (i := 11) rfl) rfl rfl (Or.inl rfl) (zm_place_W (k := 1) (by decide) hst hx2) rfl rfl (Nat.le_of_ble_eq_true rfl) rfl ⟨rfl, rfl, rfl, rfl⟩ (fun v w1 hw1A hw1Z => ?_)
  obtain ⟨he, hv⟩ := hw1Z
  subst he
  subst hv
  have e2 := zm_sub3 e1 (by omega) hp1
  refine zj_isub (v := ((10 - nI (zm_pl st 0)) - nI (zm_pl st 1))) C (List.mem_of_getElem? (i := 12) rfl) rfl rfl ?_
  refine zj_istore_n C (List.mem_of_getElem? (i := 13) rfl) rfl rfl (by decide) rfl ?_
  refine zj_iinc (k := 1) (v := 2) C (List.mem_of_getElem? (i := 14) rfl) rfl rfl (by decide) (by decide) rfl ?_
  refine zj_goto (tgt := 5) C (List.mem_of_getElem? (i := 15) rfl) (by decide) ?_
  refine zj_iload_n C (List.mem_of_getElem? (i := 4) rfl) rfl rfl rfl ?_
  refine zj_gets C (List.mem_of_getElem? (i := 5) rfl) rfl rfl hx2 ?_
  refine zj_tlen (id := 2) (row := [1, 5, 25, 125]) (v := 4) C (List.mem_of_getElem? (i := 6) rfl) rfl (by decide) (by decide) hx2 rfl ?_
  refine zj_icmp_ge (tgt := 27) C (List.mem_of_getElem? (i := 7) rfl) rfl (by decide) (fun hbr => ?_) (fun hbr => ?_)
  · exact absurd hbr (by decide)
  refine zj_iload_n C (List.mem_of_getElem? (i := 8) rfl) rfl rfl rfl ?_
  refine zj_iload_n C (List.mem_of_getElem? (i := 9) rfl) rfl rfl rfl ?_
  refine zj_iload_n C (List.mem_of_getElem? (i := 10) rfl) rfl rfl rfl ?_
  refine zj_callS (As := [.int (nI 2), .int (nI st)]) (rest := [.int ((10 - nI (zm_pl st 0)) - nI (zm_pl st 1))]) C (List.mem_of_getElem? (i := 11) rfl) rfl rfl (Or.inl rfl) (zm_place_W (k := 2) (by decide) hst hx2) rfl rfl (Nat.le_of_ble_eq_true rfl) rfl ⟨rfl, rfl, rfl, rfl⟩ (fun v w2 hw2A hw2Z => ?_)
  obtain ⟨he, hv⟩ := hw2Z
  subst he
  subst hv
  have e3 := zm_sub3 e2 (by omega) hp2
  refine zj_isub (v := (((10 - nI (zm_pl st 0)) - nI (zm_pl st 1)) - nI (zm_pl st 2))) C (List.mem_of_getElem? (i := 12) rfl) rfl rfl ?_
  refine zj_istore_n C (List.mem_of_getElem? (i := 13) rfl) rfl rfl (by decide) rfl ?_
  refine zj_iinc (k := 1) (v := 3) C (List.mem_of_getElem? (i := 14) rfl) rfl rfl (by decide) (by decide) rfl ?_
  refine zj_goto (tgt := 5) C (List.mem_of_getElem? (i := 15) rfl) (by decide) ?_
  refine zj_iload_n C (List.mem_of_getElem? (i := 4) rfl) rfl rfl rfl ?_
  refine zj_gets C (List.mem_of_getElem? (i := 5) rfl) rfl rfl hx2 ?_
  refine zj_tlen (id := 2) (row := [1, 5, 25, 125]) (v := 4) C (List.mem_of_getElem? (i := 6) rfl) rfl (by decide) (by decide) hx2 rfl ?_
  refine zj_icmp_ge (tgt := 27) C (List.mem_of_getElem? (i := 7) rfl) rfl (by decide) (fun hbr => ?_) (fun hbr => ?_)
  · exact absurd hbr (by decide)
  refine zj_iload_n C (List.mem_of_getElem? (i := 8) rfl) rfl rfl rfl ?_
  refine zj_iload_n C (List.mem_of_getElem? (i := 9) rfl) rfl rfl rfl ?_
  refine zj_iload_n C (List.mem_of_getElem? (i := 10) rfl) rfl rfl rfl ?_
  refine zj_callS (As := [.int (nI 3), .int (nI st)]) (rest := [.int (((10 - nI (zm_pl st 0)) - nI (zm_pl st 1)) - nI (zm_pl st 2))]) C (List.mem_of_getElem? (i := 11) rfl) rfl rfl (Or.inl rfl) (zm_place_W (k := 3) (by decide) hst hx2) rfl rfl (Nat.le_of_ble_eq_true rfl) rfl ⟨rfl, rfl, rfl, rfl⟩ (fun v w3 hw3A hw3Z => ?_)
  obtain ⟨he, hv⟩ := hw3Z
  subst he
  subst hv
  have e4 := zm_sub3 e3 (by omega) hp3
  refine zj_isub (v := ((((10 - nI (zm_pl st 0)) - nI (zm_pl st 1)) - nI (zm_pl st 2)) - nI (zm_pl st 3))) C (List.mem_of_getElem? (i := 12) rfl) rfl rfl ?_
  refine zj_istore_n C (List.mem_of_getElem? (i := 13) rfl) rfl rfl (by decide) rfl ?_
  refine zj_iinc (k := 1) (v := 4) C (List.mem_of_getElem? (i := 14) rfl) rfl rfl (by decide) (by decide) rfl ?_
  refine zj_goto (tgt := 5) C (List.mem_of_getElem? (i := 15) rfl) (by decide) ?_
  refine zj_iload_n C (List.mem_of_getElem? (i := 4) rfl) rfl rfl rfl ?_
  refine zj_gets C (List.mem_of_getElem? (i := 5) rfl) rfl rfl hx2 ?_
  refine zj_tlen (id := 2) (row := [1, 5, 25, 125]) (v := 4) C (List.mem_of_getElem? (i := 6) rfl) rfl (by decide) (by decide) hx2 rfl ?_
  refine zj_icmp_ge (tgt := 27) C (List.mem_of_getElem? (i := 7) rfl) rfl (by decide) (fun hbr => ?_) (fun hbr => ?_)
  rotate_left
  · exact absurd hbr (by decide)
  refine zj_iload_n C (List.mem_of_getElem? (i := 16) rfl) rfl rfl rfl ?_
  exact KRi 28 _ _ _ (List.mem_of_getElem? (i := 17) rfl) (by decide) (Or.inl rfl) rfl ⟨rfl, _, rfl, e4⟩
theorem zm_reach_W {l : Launch} {tys : List (ClassId × FieldType)} {ex : List Nat} {ws0 : va_W} {aW aS aN : Nat} {L : List Nat} {y : Nat} (hc : zm_C tys aW aS aN ws0 L) (hy : y < 625) : zj_W l 1 80 (zm_X ex tys [.ref aW, .int (nI y)] ws0) (fun _ _ _ v ws' => v = none ∧ zm_C tys aW aS aN ws' (zm_rch L y)) := by
  refine zj_enterW (md := zx_m80) rfl rfl ?_ ?_
  · rintro ex tys av ws ⟨-, -, rfl, -⟩
    exact Nat.le_of_ble_eq_true rfl
  intro p e R s mi args below meth c Q D A ex nL own cc tys ws av hX C hnL KRi KRv KRa
  subst hnL
  obtain ⟨h1, h2, h3, h4⟩ := hX
  subst h1
  subst h2
  subst h3
  subst h4
  have hc0 := hc
  obtain ⟨h195, ⟨f, hf, hfv⟩, ⟨gg, hg, hgv⟩, hlt, hle⟩ := hc
  refine zj_iload_n C (List.mem_of_getElem? (i := 0) rfl) rfl rfl rfl ?_
  refine zj_if_lt (tgt := 56) C (List.mem_of_getElem? (i := 1) rfl) rfl (by decide) (fun hb => ?_) (fun hb => ?_)
  · exact absurd (Int32.lt_iff_toInt_lt.mp hb) (by rw [nI_toInt (by omega)]; show ¬ (y : Int) < 0; omega)
  refine zj_iload_n C (List.mem_of_getElem? (i := 2) rfl) rfl rfl rfl ?_
  refine zj_sipush (v := 625) C (List.mem_of_getElem? (i := 3) rfl) rfl (by decide) ?_
  refine zj_icmp_ge (tgt := 56) C (List.mem_of_getElem? (i := 4) rfl) rfl (by decide) (fun hb => ?_) (fun hb => ?_)
  · exact absurd ((nI_leI (a := 625) (b := y) (by decide) (by omega)).mp hb) (by omega)
  have hfy : f (nI y).toNatClampNeg = if L.contains y = true then 1 else 0 := by rw [nI_clamp (by omega)]; exact hfv y hy
  refine zj_aload_n C (List.mem_of_getElem? (i := 5) rfl) rfl rfl rfl ?_
  refine zj_get C (List.mem_of_getElem? (i := 6) rfl) rfl rfl h195 rfl rfl ?_
  refine zj_iload_n C (List.mem_of_getElem? (i := 7) rfl) rfl rfl rfl ?_
  refine zj_zald (v := (if L.contains y = true then 1 else 0)) C (List.mem_of_getElem? (i := 8) rfl) rfl hf (zm_in hy (by decide)) hfy ?_
  refine zj_if_ne (tgt := 56) C (List.mem_of_getElem? (i := 9) rfl) rfl (by decide) (fun hb => ?_) (fun hb => ?_)
  · have hq : L.contains y = true := by
      cases h : L.contains y with
      | true => rfl
      | false => exact absurd (by rw [h]; rfl) hb
    exact KRv 56 _ _ (List.mem_of_getElem? (i := 31) rfl) rfl rfl ⟨rfl, by unfold zm_rch; rw [if_neg (fun h => by rw [hq] at h; exact absurd h.1 (by decide))]; exact hc0⟩
  have hq : L.contains y = false := by
    cases h : L.contains y with
    | false => rfl
    | true => rw [h] at hb; exact absurd hb (by decide)
  refine zj_aload_n C (List.mem_of_getElem? (i := 10) rfl) rfl rfl rfl ?_
  refine zj_get C (List.mem_of_getElem? (i := 11) rfl) rfl rfl h195 rfl rfl ?_
  refine zj_bipush (v := 120) C (List.mem_of_getElem? (i := 12) rfl) rfl (by decide) ?_
  refine zj_icmp_ge (tgt := 56) C (List.mem_of_getElem? (i := 13) rfl) rfl (by decide) (fun hb => ?_) (fun hb => ?_)
  · have hl : 120 ≤ L.length := (nI_leI (a := 120) (b := L.length) (by decide) (by omega)).mp hb
    exact KRv 56 _ _ (List.mem_of_getElem? (i := 31) rfl) rfl rfl ⟨rfl, by unfold zm_rch; rw [if_neg (fun h => by omega)]; exact hc0⟩
  have hl : L.length < 120 := by
    rcases Nat.lt_or_ge L.length 120 with h | h
    · exact h
    · exact absurd ((nI_leI (a := 120) (b := L.length) (by decide) (by omega)).mpr h) hb
  refine zj_aload_n C (List.mem_of_getElem? (i := 14) rfl) rfl rfl rfl ?_
  refine zj_get C (List.mem_of_getElem? (i := 15) rfl) rfl rfl h195 rfl rfl ?_
  refine zj_iload_n C (List.mem_of_getElem? (i := 16) rfl) rfl rfl rfl ?_
  refine zj_iconst (v := 1) C (List.mem_of_getElem? (i := 17) rfl) rfl (by decide) ?_
  refine zj_zast (y := 1) C (List.mem_of_getElem? (i := 18) rfl) rfl hf (zm_in hy (by decide)) (by decide) (fun cA hcA => ?_)
  have hnw2 : ∀ i, i ≠ 196 → (ws.set 196 (aS, .inl (cA, 625, .inl (upd f (nI y).toNatClampNeg 1))))[i]? = ws[i]? := fun i hi => List.getElem?_set_ne (Ne.symm hi)
  have hAw2 : zx_as (ws.set 196 (aS, .inl (cA, 625, .inl (upd f (nI y).toNatClampNeg 1)))) = zx_as ws := zx_as_set hcA
  have hrw2 := zm_row_set (g := upd f (nI y).toNatClampNeg 1) hf hcA
  generalize ws.set 196 (aS, .inl (cA, 625, .inl (upd f (nI y).toNatClampNeg 1))) = w2 at hnw2 hAw2 hrw2 ⊢
  have q195 := (hnw2 195 (by decide)).trans h195
  have qg := zm_row_keep hg (hnw2 197 (by decide))
  refine zj_aload_n C (List.mem_of_getElem? (i := 19) rfl) rfl rfl rfl ?_
  refine zj_get C (List.mem_of_getElem? (i := 20) rfl) rfl rfl q195 rfl rfl ?_
  refine zj_aload_n C (List.mem_of_getElem? (i := 21) rfl) rfl rfl rfl ?_
  refine zj_get C (List.mem_of_getElem? (i := 22) rfl) rfl rfl q195 rfl rfl ?_
  refine zj_iload_n C (List.mem_of_getElem? (i := 23) rfl) rfl rfl rfl ?_
  refine zj_iast C (List.mem_of_getElem? (i := 24) rfl) rfl qg (zm_in hl (by decide)) (fun cA hcA => ?_)
  have hnw3 : ∀ i, i ≠ 197 → (w2.set 197 (aN, .inl (cA, 120, .inl (upd gg (nI L.length).toNatClampNeg (nI y)))))[i]? = w2[i]? := fun i hi => List.getElem?_set_ne (Ne.symm hi)
  have hAw3 : zx_as (w2.set 197 (aN, .inl (cA, 120, .inl (upd gg (nI L.length).toNatClampNeg (nI y))))) = zx_as w2 := zx_as_set hcA
  have hrw3 := zm_row_set (g := upd gg (nI L.length).toNatClampNeg (nI y)) qg hcA
  generalize w2.set 197 (aN, .inl (cA, 120, .inl (upd gg (nI L.length).toNatClampNeg (nI y)))) = w3 at hnw3 hAw3 hrw3 ⊢
  have r195 := (hnw3 195 (by decide)).trans q195
  have rf := zm_row_keep hrw2 (hnw3 196 (by decide))
  refine zj_aload_n C (List.mem_of_getElem? (i := 25) rfl) rfl rfl rfl ?_
  refine zj_dup C (List.mem_of_getElem? (i := 26) rfl) rfl rfl ?_
  refine zj_get C (List.mem_of_getElem? (i := 27) rfl) rfl rfl r195 rfl rfl ?_
  refine zj_iconst (v := 1) C (List.mem_of_getElem? (i := 28) rfl) rfl (by decide) ?_
  refine zj_iadd (v := (nI (L.length + 1))) C (List.mem_of_getElem? (i := 29) rfl) rfl (nI_1 L.length) ?_
  refine zj_put C (List.mem_of_getElem? (i := 30) rfl) rfl rfl r195 rfl (Nat.le_of_ble_eq_true rfl) rfl (zm_fit_i rfl _) ?_
  have hnw4 : ∀ i, i ≠ 195 → (w3.set 195 (aW, .inr (8, [.ref aS, .ref aN, .int (nI (L.length + 1))])))[i]? = w3[i]? := fun i hi => List.getElem?_set_ne (Ne.symm hi)
  have hAw4 : zx_as (w3.set 195 (aW, .inr (8, [.ref aS, .ref aN, .int (nI (L.length + 1))]))) = zx_as w3 := zx_as_set r195
  have hsw4 : (w3.set 195 (aW, .inr (8, [.ref aS, .ref aN, .int (nI (L.length + 1))])))[195]? = some (aW, .inr (8, [.ref aS, .ref aN, .int (nI (L.length + 1))])) := zm_set_self r195
  show zj_go p l e R s mi args below meth c Q D A _ _ _ _ (w3.set 195 (aW, .inr (8, [.ref aS, .ref aN, .int (nI (L.length + 1))])))
  generalize w3.set 195 (aW, .inr (8, [.ref aS, .ref aN, .int (nI (L.length + 1))])) = w4 at hnw4 hAw4 hsw4 ⊢
  have hR : zm_rch L y = L ++ [y] := by unfold zm_rch; rw [if_pos ⟨hq, hl⟩]
  have hlen : (L ++ [y]).length = L.length + 1 := by rw [List.length_append]; rfl
  refine KRv 56 _ _ (List.mem_of_getElem? (i := 31) rfl) rfl (hAw4.trans (hAw3.trans hAw2)) ⟨rfl, ?_⟩
  rw [hR]
  refine ⟨by rw [hlen]; exact hsw4, ⟨_, zm_row_keep rf (hnw4 196 (by decide)), fun x hx => ?_⟩, ⟨_, zm_row_keep hrw3 (hnw4 197 (by decide)), fun i hi => ?_⟩, fun x hx => ?_, by omega⟩
  · rw [nI_clamp (by omega)]
    by_cases h : x = y
    · subst h
      rw [if_pos (zm_con_app.mpr (Or.inl rfl))]
      simp [upd]
    · have h2 : upd f y 1 x = f x := by simp [upd, h]
      rw [h2, hfv x hx]
      by_cases h3 : L.contains x = true
      · rw [if_pos h3, if_pos (zm_con_app.mpr (Or.inr h3))]
      · rw [if_neg h3, if_neg (fun h4 => by rcases zm_con_app.mp h4 with h5 | h5; exact h h5; exact h3 h5)]
  · rw [nI_clamp (by omega), zm_getD_app]
    by_cases h : i = L.length
    · subst h
      rw [if_neg (by omega), if_pos rfl]
      simp [upd]
    · have h2 : upd gg L.length (nI y) i = gg i := by simp [upd, h]
      rw [h2, if_pos (by omega), hgv i (by omega)]
  · rcases List.mem_append.mp hx with h | h
    · exact hlt x h
    · rw [List.mem_singleton.mp h]
      exact hy
theorem zm_rch_C {L : List Nat} {y : Nat} : L.length ≤ (zm_rch L y).length := by
  unfold zm_rch
  split
  · rw [List.length_append]
    omega
  · omega
theorem zm_nearv {f k : Nat} (hf : f < 5) (hk : k < 3) : Int32.ofInt (([1, 2, 3, 0, 4, (-1), 0, (-1), (-1), 0, 4, (-1), 1, 3, (-1)] : List Int).getD (nI (f * 3 + k)).toNatClampNeg 0) = Int32.ofInt (zm_near.getD (f * 3 + k) 0) ∧ (Int32.ofInt (zm_near.getD (f * 3 + k) 0)).toInt = zm_near.getD (f * 3 + k) 0 := by
  have h1 : ∀ f, f < 5 → ∀ k, k < 3 → Int32.ofInt (([1, 2, 3, 0, 4, (-1), 0, (-1), (-1), 0, 4, (-1), 1, 3, (-1)] : List Int).getD (nI (f * 3 + k)).toNatClampNeg 0) = Int32.ofInt (zm_near.getD (f * 3 + k) 0) ∧ (Int32.ofInt (zm_near.getD (f * 3 + k) 0)).toInt = zm_near.getD (f * 3 + k) 0 := by decide
  exact h1 f hf k hk
theorem zm_to {st s f : Nat} {x : Int32} (hst : st < 625) (hs : s < 4) (hf : f < 5) (hx : nI (zm_pl st s) = x) : nI st + (nI f - x) * nI (zm_w s) = nI (zm_md st s f) := by
  subst hx
  have hw := zm_w_lt s
  have hp := zm_pl_lt st s
  obtain ⟨h1, h2⟩ := zm_md_lt st hst s hs f hf
  unfold zm_md
  apply Int32.toInt_inj.mp
  have e1 : (nI f - nI (zm_pl st s)).toInt = (f : Int) - (zm_pl st s : Int) := by
    rw [zx_subI _ _ (by rw [nI_toInt (by omega), nI_toInt (by omega)]; omega) (by rw [nI_toInt (by omega), nI_toInt (by omega)]; omega), nI_toInt (by omega), nI_toInt (by omega)]
  have e2 : (nI (zm_w s)).toInt = (zm_w s : Int) := nI_toInt (by omega)
  have b1 : -625 ≤ ((f : Int) - (zm_pl st s : Int)) * (zm_w s : Int) ∧ ((f : Int) - (zm_pl st s : Int)) * (zm_w s : Int) ≤ 625 := by
    have k1 : -5 ≤ (f : Int) - (zm_pl st s : Int) ∧ (f : Int) - (zm_pl st s : Int) ≤ 5 := by omega
    generalize (f : Int) - (zm_pl st s : Int) = z at k1
    have k2 : (zm_w s : Int) = 1 ∨ (zm_w s : Int) = 5 ∨ (zm_w s : Int) = 25 ∨ (zm_w s : Int) = 125 := by
      unfold zm_w
      split
      · exact Or.inl rfl
      · split
        · exact Or.inr (Or.inl rfl)
        · split
          · exact Or.inr (Or.inr (Or.inl rfl))
          · exact Or.inr (Or.inr (Or.inr rfl))
    rcases k2 with k2 | k2 | k2 | k2 <;> rw [k2] <;> omega
  have e3 : ((nI f - nI (zm_pl st s)) * nI (zm_w s)).toInt = ((f : Int) - (zm_pl st s : Int)) * (zm_w s : Int) := by
    rw [zx_mulI _ _ (by rw [e1, e2]; omega) (by rw [e1, e2]; omega), e1, e2]
  have e4 : (nI st).toInt = (st : Int) := nI_toInt (by omega)
  rw [zx_addI _ _ (by rw [e4, e3]; omega) (by rw [e4, e3]; omega), e4, e3, nI_toInt (by unfold zm_md at h1; omega), Int.sub_mul]
  have e5 : ((st + f * zm_w s - zm_pl st s * zm_w s : Nat) : Int) = (st : Int) + (f : Int) * (zm_w s : Int) - (zm_pl st s : Int) * (zm_w s : Int) := by
    rw [← Int.natCast_mul, ← Int.natCast_mul, ← Int.natCast_add]
    omega
  rw [e5]
  omega
set_option maxHeartbeats 2000000 in
theorem zm_move_W {l : Launch} {tys : List (ClassId × FieldType)} {ex : List Nat} {ws0 : va_W} {aW aS aN : Nat} {L : List Nat} {st a1 a2 : Nat} (hx1 : ex[1]? = some a1) (hx2 : ex[2]? = some a2) (hc : zm_C tys aW aS aN ws0 L) (hst : st < 625) : zj_W l 3 82 (zm_X ex tys [.ref aW, .int (nI st)] ws0) (fun _ _ _ v ws' => v = none ∧ zm_C tys aW aS aN ws' (zm_mv L st)) := by
  refine zj_enterW (md := zx_m82) rfl rfl ?_ ?_
  · rintro ex tys av ws ⟨-, -, rfl, -⟩
    exact Nat.le_of_ble_eq_true rfl
  intro p e R s mi args below meth c Q D A ex nL own cc tys ws av hX C hnL KRi KRv KRa
  subst hnL
  obtain ⟨h1, h2, h3, h4⟩ := hX
  subst h1
  subst h2
  subst h3
  subst h4
  refine zj_iload_n C (List.mem_of_getElem? (i := 0) rfl) rfl rfl rfl ?_
  refine zj_callS (As := [.int (nI st)]) (rest := []) C (List.mem_of_getElem? (i := 1) rfl) rfl rfl (Or.inl rfl) (zm_free_W hst hx2) rfl rfl (Nat.le_of_ble_eq_true rfl) rfl ⟨rfl, rfl, rfl, rfl⟩ (fun v w2 hw2A hw2Z => ?_)
  obtain ⟨he, x, hv, hx⟩ := hw2Z
  subst he
  subst hv
  refine zj_istore_n C (List.mem_of_getElem? (i := 2) rfl) rfl rfl (by decide) rfl ?_
  refine zj_iload_n C (List.mem_of_getElem? (i := 3) rfl) rfl rfl rfl ?_
  refine zj_if_lt (tgt := 14) C (List.mem_of_getElem? (i := 4) rfl) rfl (by decide) (fun hb => ?_) (fun hb => ?_)
  · have hb : x.toInt < 0 := Int32.lt_iff_toInt_lt.mp hb
    exact KRv 14 _ _ (List.mem_of_getElem? (i := 8) rfl) rfl rfl ⟨rfl, by unfold zm_mv; rw [if_neg (fun h => by omega)]; exact hc⟩
  have hb : ¬ x.toInt < 0 := fun h => hb (Int32.lt_iff_toInt_lt.mpr h)
  refine zj_iload_n C (List.mem_of_getElem? (i := 5) rfl) rfl rfl rfl ?_
  refine zj_iconst (v := 5) C (List.mem_of_getElem? (i := 6) rfl) rfl (by decide) ?_
  refine zj_icmp_lt (tgt := 15) C (List.mem_of_getElem? (i := 7) rfl) rfl (by decide) (fun hb5 => ?_) (fun hb5 => ?_)
  rotate_left
  · have hb5 : ¬ x.toInt < 5 := fun h => hb5 (Int32.lt_iff_toInt_lt.mpr h)
    exact KRv 14 _ _ (List.mem_of_getElem? (i := 8) rfl) rfl rfl ⟨rfl, by unfold zm_mv; rw [if_neg (fun h => by omega)]; exact hc⟩
  have hb5 : x.toInt < 5 := Int32.lt_iff_toInt_lt.mp hb5
  obtain ⟨f, hf, hff, rfl⟩ : ∃ f : Nat, f < 5 ∧ (zm_fr st).toNat = f ∧ x = nI f := ⟨x.toInt.toNat, by omega, by rw [← hx], (zx_nat (by omega)).1⟩
  have hmv : zm_mv L st = zm_mk st f 3 0 L := by unfold zm_mv; rw [if_pos (by rw [← hx]; omega), hff]
  have inner : ∀ (N j k : Nat) (y : Int32) (z : Int) (L1 : List Nat) (ws1 : va_W), j + N = 4 → y.toInt = z → zm_C tys aW aS aN ws1 L1 → zx_as ws1 = zx_as ws → (∀ (ws2 : va_W), zm_C tys aW aS aN ws2 (zm_ms st f z N j L1) → zx_as ws2 = zx_as ws → zj_go p l e R s mi args below meth c Q D A (zx_mV zx_m82.2.1) 79 [(3, .int (nI k)), (2, .int (nI f)), (0, .ref aW), (1, .int (nI st))] [] ws2) → zj_go p l e R s mi args below meth c Q D A (zx_mV zx_m82.2.1) 36 [(5, .int (nI j)), (4, .int y), (3, .int (nI k)), (2, .int (nI f)), (0, .ref aW), (1, .int (nI st))] [] ws1 := by
    intro N
    induction N with
    | zero =>
      intro j k y z L1 ws1 hj hy hc1 hA1 hk
      have hj : j = 4 := by omega
      subst hj
      refine zj_iload C (List.mem_of_getElem? (i := 24) rfl) rfl rfl ?_
      refine zj_gets C (List.mem_of_getElem? (i := 25) rfl) rfl rfl hx2 ?_
      refine zj_tlen (id := 2) (row := [1, 5, 25, 125]) (v := 4) C (List.mem_of_getElem? (i := 26) rfl) rfl (by decide) (by decide) hx2 rfl ?_
      refine zj_icmp_ge (tgt := 79) C (List.mem_of_getElem? (i := 27) rfl) rfl (by decide) (fun hq => ?_) (fun hq => ?_)
      rotate_left
      · exact absurd (Int32.le_refl _) hq
      refine zm_perm (lv' := [(3, .int (nI k)), (2, .int (nI f)), (0, .ref aW), (1, .int (nI st))]) C (by repeat first | exact zm_sub_nil | refine zm_sub_cons rfl ?_) ?_
      exact hk ws1 hc1 hA1
    | succ N ih =>
      intro j k y z L1 ws1 hj hy hc1 hA1 hk
      refine zj_iload C (List.mem_of_getElem? (i := 24) rfl) rfl rfl ?_
      refine zj_gets C (List.mem_of_getElem? (i := 25) rfl) rfl rfl hx2 ?_
      refine zj_tlen (id := 2) (row := [1, 5, 25, 125]) (v := 4) C (List.mem_of_getElem? (i := 26) rfl) rfl (by decide) (by decide) hx2 rfl ?_
      refine zj_icmp_ge (tgt := 79) C (List.mem_of_getElem? (i := 27) rfl) rfl (by decide) (fun hq => ?_) (fun hq => ?_)
      · exact absurd ((nI_leI (a := 4) (b := j) (by decide) (by omega)).mp hq) (by omega)
      refine zj_iload C (List.mem_of_getElem? (i := 28) rfl) rfl rfl ?_
      refine zj_iload_n C (List.mem_of_getElem? (i := 29) rfl) rfl rfl rfl ?_
      refine zj_callS (As := [.int (nI j), .int (nI st)]) (rest := []) C (List.mem_of_getElem? (i := 30) rfl) rfl rfl (Or.inl rfl) (zm_W_mono (zm_place_W (k := j) (by omega) hst hx2) (by decide)) rfl rfl (Nat.le_of_ble_eq_true rfl) rfl ⟨rfl, rfl, rfl, rfl⟩ (fun v w3 hw3A hw3Z => ?_)
      obtain ⟨he, hv⟩ := hw3Z
      subst he
      subst hv
      refine zj_iload C (List.mem_of_getElem? (i := 31) rfl) rfl rfl ?_
      refine zj_icmp_ne (tgt := 73) C (List.mem_of_getElem? (i := 32) rfl) rfl (by decide) (fun hq2 => ?_) (fun hq2 => ?_)
      · have hne : ¬ (zm_pl st j : Int) = z := fun h => hq2 (Int32.toInt_inj.mp (by rw [nI_toInt (by have := zm_pl_lt st j; omega), hy, h]))
        refine zj_iinc (k := 0) (v := (nI (j + 1))) C (List.mem_of_getElem? (i := 44) rfl) rfl rfl (nI_succ j).symm (by decide) rfl ?_
        refine zj_goto (tgt := 36) C (List.mem_of_getElem? (i := 45) rfl) (by decide) ?_
        refine ih (j + 1) k y z L1 ws1 (by omega) hy hc1 hA1 (fun ws2 h2 a2 => hk ws2 (by rw [zm_ms, if_neg hne]; exact h2) a2)
      have hyes : (zm_pl st j : Int) = z := by rw [← hy, ← hq2, nI_toInt (by have := zm_pl_lt st j; omega)]
      refine zj_aload_n C (List.mem_of_getElem? (i := 33) rfl) rfl rfl rfl ?_
      refine zj_iload_n C (List.mem_of_getElem? (i := 34) rfl) rfl rfl rfl ?_
      refine zj_iload_n C (List.mem_of_getElem? (i := 35) rfl) rfl rfl rfl ?_
      refine zj_iload C (List.mem_of_getElem? (i := 36) rfl) rfl rfl ?_
      refine zj_isub (v := (nI f - y)) C (List.mem_of_getElem? (i := 37) rfl) rfl rfl ?_
      refine zj_gets C (List.mem_of_getElem? (i := 38) rfl) rfl rfl hx2 ?_
      refine zj_iload C (List.mem_of_getElem? (i := 39) rfl) rfl rfl ?_
      refine zm_ti (id := 2) (row := [1, 5, 25, 125]) (v := (nI (zm_w j))) C (List.mem_of_getElem? (i := 40) rfl) rfl (by decide) (by decide) hx2 (zm_in (N := 4) (by omega) (by decide)) (zm_nIw (by omega)) ?_
      refine zj_imul (v := ((nI f - y) * nI (zm_w j))) C (List.mem_of_getElem? (i := 41) rfl) rfl rfl ?_
      refine zj_iadd (v := (nI (zm_md st j f))) C (List.mem_of_getElem? (i := 42) rfl) rfl (zm_to hst (by omega) hf hq2) ?_
      refine zj_callV (As := [.int (nI (zm_md st j f))]) (rest := []) C (List.mem_of_getElem? (i := 43) rfl) rfl rfl rfl (by decide) (zm_W_mono (zm_reach_W hc1 (zm_md_lt st hst j (by omega) f hf).1) (by decide)) rfl rfl hc1.1 rfl (Nat.le_of_ble_eq_true rfl) rfl ⟨rfl, rfl, rfl, rfl⟩ (fun v w4 hw4A hw4Z => ?_)
      obtain ⟨hv, hc4⟩ := hw4Z
      subst hv
      refine zj_iinc (k := 0) (v := (nI (j + 1))) C (List.mem_of_getElem? (i := 44) rfl) rfl rfl (nI_succ j).symm (by decide) rfl ?_
      refine zj_goto (tgt := 36) C (List.mem_of_getElem? (i := 45) rfl) (by decide) ?_
      exact ih (j + 1) k y z _ w4 (by omega) hy hc4 (hw4A.trans hA1) (fun ws2 h2 a2 => hk ws2 (by rw [zm_ms, if_pos hyes]; exact h2) a2)
  have outer : ∀ (N k : Nat) (L1 : List Nat) (ws1 : va_W), k + N = 3 → zm_C tys aW aS aN ws1 L1 → zx_as ws1 = zx_as ws → zm_mk st f N k L1 = zm_mv L st → zj_go p l e R s mi args below meth c Q D A (zx_mV zx_m82.2.1) 17 [(3, .int (nI k)), (2, .int (nI f)), (0, .ref aW), (1, .int (nI st))] [] ws1 := by
    intro N
    induction N with
    | zero =>
      intro k L1 ws1 hk hc1 hA1 hm
      have hk : k = 3 := by omega
      subst hk
      refine zj_iload_n C (List.mem_of_getElem? (i := 11) rfl) rfl rfl rfl ?_
      refine zj_iconst (v := 3) C (List.mem_of_getElem? (i := 12) rfl) rfl (by decide) ?_
      refine zj_icmp_ge (tgt := 85) C (List.mem_of_getElem? (i := 13) rfl) rfl (by decide) (fun hq => ?_) (fun hq => ?_)
      rotate_left
      · exact absurd (Int32.le_refl _) hq
      exact KRv 85 _ _ (List.mem_of_getElem? (i := 48) rfl) rfl hA1 ⟨rfl, by rw [← hm]; exact hc1⟩
    | succ N ih =>
      intro k L1 ws1 hk hc1 hA1 hm
      refine zj_iload_n C (List.mem_of_getElem? (i := 11) rfl) rfl rfl rfl ?_
      refine zj_iconst (v := 3) C (List.mem_of_getElem? (i := 12) rfl) rfl (by decide) ?_
      refine zj_icmp_ge (tgt := 85) C (List.mem_of_getElem? (i := 13) rfl) rfl (by decide) (fun hq => ?_) (fun hq => ?_)
      · exact absurd ((nI_leI (a := 3) (b := k) (by decide) (by omega)).mp hq) (by omega)
      have hnr := zm_nearv hf (by omega : k < 3)
      refine zj_gets C (List.mem_of_getElem? (i := 14) rfl) rfl rfl hx1 ?_
      refine zj_iload_n C (List.mem_of_getElem? (i := 15) rfl) rfl rfl rfl ?_
      refine zj_iconst (v := 3) C (List.mem_of_getElem? (i := 16) rfl) rfl (by decide) ?_
      refine zj_imul (v := (nI (f * 3))) C (List.mem_of_getElem? (i := 17) rfl) rfl (pk_mul f 3) ?_
      refine zj_iload_n C (List.mem_of_getElem? (i := 18) rfl) rfl rfl rfl ?_
      refine zj_iadd (v := (nI (f * 3 + k))) C (List.mem_of_getElem? (i := 19) rfl) rfl (nI_add (f * 3) k) ?_
      refine zm_ti (id := 1) (row := [1, 2, 3, 0, 4, (-1), 0, (-1), (-1), 0, 4, (-1), 1, 3, (-1)]) (v := (Int32.ofInt (zm_near.getD (f * 3 + k) 0))) C (List.mem_of_getElem? (i := 20) rfl) rfl (by decide) (by decide) hx1 (zm_in (N := 15) (by omega) (by decide)) hnr.1 ?_
      refine zj_istore C (List.mem_of_getElem? (i := 21) rfl) rfl (by decide) rfl ?_
      refine zj_iconst (v := 0) C (List.mem_of_getElem? (i := 22) rfl) rfl (by decide) ?_
      refine zj_istore C (List.mem_of_getElem? (i := 23) rfl) rfl (by decide) rfl ?_
      refine inner 4 0 k _ _ L1 ws1 rfl hnr.2 hc1 hA1 (fun ws2 h2 a2 => ?_)
      refine zj_iinc (k := 0) (v := (nI (k + 1))) C (List.mem_of_getElem? (i := 46) rfl) rfl rfl (nI_succ k).symm (by decide) rfl ?_
      refine zj_goto (tgt := 17) C (List.mem_of_getElem? (i := 47) rfl) (by decide) ?_
      exact ih (k + 1) _ ws2 (by omega) h2 a2 (by rw [zm_mk] at hm; exact hm)
  refine zj_iconst (v := 0) C (List.mem_of_getElem? (i := 9) rfl) rfl (by decide) ?_
  refine zj_istore_n C (List.mem_of_getElem? (i := 10) rfl) rfl rfl (by decide) rfl ?_
  exact outer 3 0 L ws rfl hc rfl hmv.symm
end
