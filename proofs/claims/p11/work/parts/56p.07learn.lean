noncomputable section
/-! zl: learn: what is taken; the class's -/
def zl_ok (ns no L : Int) (rl : Nat → Int32) (x o r h : Int) : Prop := (0 ≤ x ∧ x < ns) ∧ ((0 ≤ o ∧ o < no) ∧ 0 ≤ r ∧ r < (rl o.toNat).toInt) ∧ (1 ≤ h ∧ h ≤ 99) ∧ L < 200
theorem zl_nat {x : Int32} (h : 0 ≤ x.toInt) : ∃ k : Nat, x = nI k ∧ k < 2 ^ 31 ∧ x.toInt = k := ⟨x.toInt.toNat, (zx_nat h).1, (zx_nat h).2, by omega⟩
theorem zl_isS_W {l : Launch} {tys : List (ClassId × FieldType)} {ex : List Nat} {ws0 : va_W} {aH : Nat} {FH : List Value} {xn x : Int32} (h3 : ws0[3]? = some (aH, .inr (2, FH))) (hF : FH[1]? = some (.int xn)) : zj_W l 1 25 (zm_X ex tys [.ref aH, .int x] ws0) (fun _ _ _ v ws' => ws0 = ws' ∧ ((v = some (.int 1) ∧ (0 ≤ x.toInt ∧ x.toInt < xn.toInt)) ∨ (v = some (.int 0) ∧ ¬ (0 ≤ x.toInt ∧ x.toInt < xn.toInt)))) := by
  refine zj_enterW (md := zx_m25) rfl rfl ?_ ?_
  · rintro ex tys av ws ⟨-, -, rfl, -⟩
    exact Nat.le_of_ble_eq_true rfl
  intro p e R s mi args below meth c Q D A ex nL own cc tys ws av hX C hnL KRi KRv KRa
  subst hnL
  obtain ⟨h1, h2, h3, h4⟩ := hX
  subst h1
  subst h2
  subst h3
  subst h4
  refine zj_iload_n C (List.mem_of_getElem? (i := 0) rfl) rfl rfl rfl ?_
  refine zj_if_lt (tgt := 16) C (List.mem_of_getElem? (i := 1) rfl) rfl (by decide) (fun hb => ?_) (fun hb => ?_)
  · skip
    have hb : x.toInt < 0 := Int32.lt_iff_toInt_lt.mp hb
    refine zj_iconst (v := 0) C (List.mem_of_getElem? (i := 8) rfl) rfl (by decide) ?_
    exact KRi 17 _ _ _ (List.mem_of_getElem? (i := 9) rfl) (by decide) (Or.inr ⟨rfl, Or.inl rfl⟩) rfl ⟨rfl, Or.inr ⟨rfl, fun h => by omega⟩⟩
  have hb : 0 ≤ x.toInt := by
    have h1 : ¬ x.toInt < (0 : Int32).toInt := fun h => hb (Int32.lt_iff_toInt_lt.mpr h)
    have h2 : (0 : Int32).toInt = 0 := rfl
    omega
  refine zj_iload_n C (List.mem_of_getElem? (i := 2) rfl) rfl rfl rfl ?_
  refine zj_aload_n C (List.mem_of_getElem? (i := 3) rfl) rfl rfl rfl ?_
  refine zj_get C (List.mem_of_getElem? (i := 4) rfl) rfl rfl h3 rfl hF ?_
  refine zj_icmp_ge (tgt := 16) C (List.mem_of_getElem? (i := 5) rfl) rfl (by decide) (fun hc => ?_) (fun hc => ?_)
  · skip
    have hc : xn.toInt ≤ x.toInt := Int32.le_iff_toInt_le.mp hc
    refine zj_iconst (v := 0) C (List.mem_of_getElem? (i := 8) rfl) rfl (by decide) ?_
    exact KRi 17 _ _ _ (List.mem_of_getElem? (i := 9) rfl) (by decide) (Or.inr ⟨rfl, Or.inl rfl⟩) rfl ⟨rfl, Or.inr ⟨rfl, fun h => by omega⟩⟩
  have hc : x.toInt < xn.toInt := by
    have h1 : ¬ xn.toInt ≤ x.toInt := fun h => hc (Int32.le_iff_toInt_le.mpr h)
    omega
  refine zj_iconst (v := 1) C (List.mem_of_getElem? (i := 6) rfl) rfl (by decide) ?_
  refine zj_goto (tgt := 17) C (List.mem_of_getElem? (i := 7) rfl) (by decide) ?_
  exact KRi 17 _ _ _ (List.mem_of_getElem? (i := 9) rfl) (by decide) (Or.inr ⟨rfl, Or.inr rfl⟩) rfl ⟨rfl, Or.inl ⟨rfl, by omega, by omega⟩⟩
theorem zl_isO_W {l : Launch} {tys : List (ClassId × FieldType)} {ex : List Nat} {ws0 : va_W} {aH : Nat} {FH : List Value} {xn x : Int32} (h3 : ws0[3]? = some (aH, .inr (2, FH))) (hF : FH[0]? = some (.int xn)) : zj_W l 1 49 (zm_X ex tys [.ref aH, .int x] ws0) (fun _ _ _ v ws' => ws0 = ws' ∧ ((v = some (.int 1) ∧ (0 ≤ x.toInt ∧ x.toInt < xn.toInt)) ∨ (v = some (.int 0) ∧ ¬ (0 ≤ x.toInt ∧ x.toInt < xn.toInt)))) := by
  refine zj_enterW (md := zx_m49) rfl rfl ?_ ?_
  · rintro ex tys av ws ⟨-, -, rfl, -⟩
    exact Nat.le_of_ble_eq_true rfl
  intro p e R s mi args below meth c Q D A ex nL own cc tys ws av hX C hnL KRi KRv KRa
  subst hnL
  obtain ⟨h1, h2, h3, h4⟩ := hX
  subst h1
  subst h2
  subst h3
  subst h4
  refine zj_iload_n C (List.mem_of_getElem? (i := 0) rfl) rfl rfl rfl ?_
  refine zj_if_lt (tgt := 16) C (List.mem_of_getElem? (i := 1) rfl) rfl (by decide) (fun hb => ?_) (fun hb => ?_)
  · skip
    have hb : x.toInt < 0 := Int32.lt_iff_toInt_lt.mp hb
    refine zj_iconst (v := 0) C (List.mem_of_getElem? (i := 8) rfl) rfl (by decide) ?_
    exact KRi 17 _ _ _ (List.mem_of_getElem? (i := 9) rfl) (by decide) (Or.inr ⟨rfl, Or.inl rfl⟩) rfl ⟨rfl, Or.inr ⟨rfl, fun h => by omega⟩⟩
  have hb : 0 ≤ x.toInt := by
    have h1 : ¬ x.toInt < (0 : Int32).toInt := fun h => hb (Int32.lt_iff_toInt_lt.mpr h)
    have h2 : (0 : Int32).toInt = 0 := rfl
    omega
  refine zj_iload_n C (List.mem_of_getElem? (i := 2) rfl) rfl rfl rfl ?_
  refine zj_aload_n C (List.mem_of_getElem? (i := 3) rfl) rfl rfl rfl ?_
  refine zj_get C (List.mem_of_getElem? (i := 4) rfl) rfl rfl h3 rfl hF ?_
  refine zj_icmp_ge (tgt := 16) C (List.mem_of_getElem? (i := 5) rfl) rfl (by decide) (fun hc => ?_) (fun hc => ?_)
  · skip
    have hc : xn.toInt ≤ x.toInt := Int32.le_iff_toInt_le.mp hc
    refine zj_iconst (v := 0) C (List.mem_of_getElem? (i := 8) rfl) rfl (by decide) ?_
    exact KRi 17 _ _ _ (List.mem_of_getElem? (i := 9) rfl) (by decide) (Or.inr ⟨rfl, Or.inl rfl⟩) rfl ⟨rfl, Or.inr ⟨rfl, fun h => by omega⟩⟩
  have hc : x.toInt < xn.toInt := by
    have h1 : ¬ xn.toInt ≤ x.toInt := fun h => hc (Int32.le_iff_toInt_le.mpr h)
    omega
  refine zj_iconst (v := 1) C (List.mem_of_getElem? (i := 6) rfl) rfl (by decide) ?_
  refine zj_goto (tgt := 17) C (List.mem_of_getElem? (i := 7) rfl) (by decide) ?_
  exact KRi 17 _ _ _ (List.mem_of_getElem? (i := 9) rfl) (by decide) (Or.inr ⟨rfl, Or.inr rfl⟩) rfl ⟨rfl, Or.inl ⟨rfl, by omega, by omega⟩⟩
theorem zl_isR_W {l : Launch} {tys : List (ClassId × FieldType)} {ex : List Nat} {ws0 : va_W} {aH aQ tQ : Nat} {FH : List Value} {xo : Int32} {cQ : ClassId} {Cn : String} {fQ : Nat → Option Nat} {rl : Nat → Int32} {o r : Int32} (h3 : ws0[3]? = some (aH, .inr (2, FH))) (hH0 : FH[0]? = some (.int xo)) (hH5 : FH[5]? = some (.ref aQ)) (h9 : ws0[9]? = some (aQ, .inl (cQ, 9, .inr (.inr (.inr (.inr fQ)))))) (htQ : tys[tQ]? = some (cQ, .object Cn)) (hQ : ∀ k : Nat, k < 9 → (k : Int) < xo.toInt → ∃ (a : Nat) (F : List Value), fQ k = some a ∧ ws0[16 + 6 * k]? = some (a, .inr (6, F)) ∧ F[3]? = some (.int (rl k))) (hN : xo.toInt ≤ 9) : zj_W l 2 48 (zm_X ex tys [.ref aH, .int o, .int r] ws0) (fun _ _ _ v ws' => ws0 = ws' ∧ ((v = some (.int 1) ∧ ((0 ≤ o.toInt ∧ o.toInt < xo.toInt) ∧ 0 ≤ r.toInt ∧ r.toInt < (rl o.toInt.toNat).toInt)) ∨ (v = some (.int 0) ∧ ¬ ((0 ≤ o.toInt ∧ o.toInt < xo.toInt) ∧ 0 ≤ r.toInt ∧ r.toInt < (rl o.toInt.toNat).toInt)))) := by
  refine zj_enterW (md := zx_m48) rfl rfl ?_ ?_
  · rintro ex tys av ws ⟨-, -, rfl, -⟩
    exact Nat.le_of_ble_eq_true rfl
  intro p e R s mi args below meth c Q D A ex nL own cc tys ws av hX C hnL KRi KRv KRa
  subst hnL
  obtain ⟨h1, h2, h3, h4⟩ := hX
  subst h1
  subst h2
  subst h3
  subst h4
  refine zj_aload_n C (List.mem_of_getElem? (i := 0) rfl) rfl rfl rfl ?_
  refine zj_iload_n C (List.mem_of_getElem? (i := 1) rfl) rfl rfl rfl ?_
  refine zj_callV (As := [.int o]) (rest := []) C (List.mem_of_getElem? (i := 2) rfl) rfl rfl rfl (by decide) (zm_W_mono (zl_isO_W (x := o) h3 hH0) (by decide)) rfl rfl h3 rfl (Nat.le_of_ble_eq_true rfl) rfl ⟨rfl, rfl, rfl, rfl⟩ (fun v w2 hw2A hw2Z => ?_)
  obtain ⟨he, hv⟩ := hw2Z
  subst he
  rcases hv with ⟨hv, hc⟩ | ⟨hv, hc⟩
  rotate_left
  · subst hv
    refine zj_if_eq (tgt := 29) C (List.mem_of_getElem? (i := 3) rfl) rfl (by decide) (fun hd => ?_) (fun hd => ?_)
    rotate_left
    · exact absurd rfl hd
    refine zj_iconst (v := 0) C (List.mem_of_getElem? (i := 15) rfl) rfl (by decide) ?_
    exact KRi 30 _ _ _ (List.mem_of_getElem? (i := 16) rfl) (by decide) (Or.inr ⟨rfl, Or.inl rfl⟩) hw2A ⟨rfl, Or.inr ⟨rfl, fun h => hc h.1⟩⟩
  subst hv
  refine zj_if_eq (tgt := 29) C (List.mem_of_getElem? (i := 3) rfl) rfl (by decide) (fun hd => ?_) (fun hd => ?_)
  · exact absurd hd (by decide)
  refine zj_iload_n C (List.mem_of_getElem? (i := 4) rfl) rfl rfl rfl ?_
  refine zj_if_lt (tgt := 29) C (List.mem_of_getElem? (i := 5) rfl) rfl (by decide) (fun hb => ?_) (fun hb => ?_)
  · skip
    have hb : r.toInt < 0 := Int32.lt_iff_toInt_lt.mp hb
    refine zj_iconst (v := 0) C (List.mem_of_getElem? (i := 15) rfl) rfl (by decide) ?_
    exact KRi 30 _ _ _ (List.mem_of_getElem? (i := 16) rfl) (by decide) (Or.inr ⟨rfl, Or.inl rfl⟩) hw2A ⟨rfl, Or.inr ⟨rfl, fun h => by omega⟩⟩
  have hb : 0 ≤ r.toInt := by
    have h1 : ¬ r.toInt < (0 : Int32).toInt := fun h => hb (Int32.lt_iff_toInt_lt.mpr h)
    have h2 : (0 : Int32).toInt = 0 := rfl
    omega
  obtain ⟨k, hk1, hk2, hk3⟩ := zl_nat hc.1
  obtain ⟨a, F, e1, e2, e3⟩ := hQ k (by omega) (by omega)
  have ek : o.toInt.toNat = k := by omega
  refine zj_iload_n C (List.mem_of_getElem? (i := 6) rfl) rfl rfl rfl ?_
  refine zj_aload_n C (List.mem_of_getElem? (i := 7) rfl) rfl rfl rfl ?_
  refine zj_get C (List.mem_of_getElem? (i := 8) rfl) rfl rfl h3 rfl hH5 ?_
  refine zj_iload_n C (List.mem_of_getElem? (i := 9) rfl) rfl rfl rfl ?_
  refine zo_aald C (List.mem_of_getElem? (i := 10) rfl) rfl h9 htQ (by rw [hk1]; exact zm_in (N := 9) (by omega) (by decide)) (v := .ref a) (by rw [hk1, nI_clamp (by omega), e1]; rfl) ?_
  refine zj_get C (List.mem_of_getElem? (i := 11) rfl) rfl rfl e2 rfl e3 ?_
  refine zj_icmp_ge (tgt := 29) C (List.mem_of_getElem? (i := 12) rfl) rfl (by decide) (fun hg => ?_) (fun hg => ?_)
  · skip
    have hg : (rl k).toInt ≤ r.toInt := Int32.le_iff_toInt_le.mp hg
    refine zj_iconst (v := 0) C (List.mem_of_getElem? (i := 15) rfl) rfl (by decide) ?_
    exact KRi 30 _ _ _ (List.mem_of_getElem? (i := 16) rfl) (by decide) (Or.inr ⟨rfl, Or.inl rfl⟩) hw2A ⟨rfl, Or.inr ⟨rfl, fun h => by rw [ek] at h; omega⟩⟩
  have hg : r.toInt < (rl k).toInt := by
    have h1 : ¬ (rl k).toInt ≤ r.toInt := fun h => hg (Int32.le_iff_toInt_le.mpr h)
    omega
  refine zj_iconst (v := 1) C (List.mem_of_getElem? (i := 13) rfl) rfl (by decide) ?_
  refine zj_goto (tgt := 30) C (List.mem_of_getElem? (i := 14) rfl) (by decide) ?_
  exact KRi 30 _ _ _ (List.mem_of_getElem? (i := 16) rfl) (by decide) (Or.inr ⟨rfl, Or.inr rfl⟩) hw2A ⟨rfl, Or.inl ⟨rfl, hc, by omega, by rw [ek]; omega⟩⟩
theorem zl_tell_W {l : Launch} {tys : List (ClassId × FieldType)} {ex : List Nat} {ws0 : va_W} {aL a10 a11 a12 L : Nat} {FL : List Value} {pt mo td : Int32} (hL : ws0[178]? = some (aL, .inr (5, FL))) (hLl : FL.length = 19) (hL9 : FL[9]? = some (.int (nI L))) (hL10 : FL[10]? = some (.ref a10)) (hL11 : FL[11]? = some (.ref a11)) (hL12 : FL[12]? = some (.ref a12)) (r10 : ∃ f, zj_row tys ws0 186 a10 200 .int f) (r11 : ∃ f, zj_row tys ws0 187 a11 200 .int f) (r12 : ∃ f, zj_row tys ws0 188 a12 200 .int f) (hl : L < 200) : zj_W l 1 50 (zm_X ex tys [.ref aL, .int pt, .int mo, .int td] ws0) (fun _ _ _ v ws' => v = none ∧ (∃ FL', ws'[178]? = some (aL, .inr (5, FL')) ∧ FL'[9]? = some (.int (nI (L + 1)))) ∧ ∀ i, i < 178 ∨ 188 < i → ws'[i]? = ws0[i]?) := by
  refine zj_enterW (md := zx_m50) rfl rfl ?_ ?_
  · rintro ex tys av ws ⟨-, -, rfl, -⟩
    exact Nat.le_of_ble_eq_true rfl
  intro p e R s mi args below meth c Q D A ex nL own cc tys ws av hX C hnL KRi KRv KRa
  subst hnL
  obtain ⟨h1, h2, h3, h4⟩ := hX
  subst h1
  subst h2
  subst h3
  subst h4
  obtain ⟨f10, r10⟩ := r10
  obtain ⟨f11, r11⟩ := r11
  obtain ⟨f12, r12⟩ := r12
  refine zj_aload_n C (List.mem_of_getElem? (i := 0) rfl) rfl rfl rfl ?_
  refine zj_get C (List.mem_of_getElem? (i := 1) rfl) rfl rfl hL rfl hL9 ?_
  refine zj_sipush (v := 200) C (List.mem_of_getElem? (i := 2) rfl) rfl (by decide) ?_
  refine zj_icmp_ge (tgt := 50) C (List.mem_of_getElem? (i := 3) rfl) rfl (by decide) (fun hb => ?_) (fun hb => ?_)
  · exact absurd ((nI_leI (a := 200) (b := L) (by decide) (by omega)).mp hb) (by omega)
  refine zj_aload_n C (List.mem_of_getElem? (i := 4) rfl) rfl rfl rfl ?_
  refine zj_get C (List.mem_of_getElem? (i := 5) rfl) rfl rfl hL rfl hL10 ?_
  refine zj_aload_n C (List.mem_of_getElem? (i := 6) rfl) rfl rfl rfl ?_
  refine zj_get C (List.mem_of_getElem? (i := 7) rfl) rfl rfl hL rfl hL9 ?_
  refine zj_iload_n C (List.mem_of_getElem? (i := 8) rfl) rfl rfl rfl ?_
  refine zj_iast C (List.mem_of_getElem? (i := 9) rfl) rfl r10 (zm_in (N := 200) hl (by decide)) (fun cA hcA => ?_)
  rw [nI_clamp (by omega : L < 2 ^ 31)]
  have hnx0 : ∀ i, i ≠ 186 → (ws.set 186 (a10, .inl (cA, 200, .inl (upd f10 L pt))))[i]? = ws[i]? := fun i hi => List.getElem?_set_ne (Ne.symm hi)
  have hAx0 : zx_as (ws.set 186 (a10, .inl (cA, 200, .inl (upd f10 L pt)))) = zx_as ws := zx_as_set hcA
  have hrx0 := zm_row_set (g := upd f10 L pt) r10 hcA
  generalize ws.set 186 (a10, .inl (cA, 200, .inl (upd f10 L pt))) = x0 at hnx0 hAx0 hrx0 ⊢
  have cellx0 := (hnx0 178 (by decide)).trans hL
  have k187x0 := zm_row_keep r11 (hnx0 187 (by decide))
  have k188x0 := zm_row_keep r12 (hnx0 188 (by decide))
  refine zj_aload_n C (List.mem_of_getElem? (i := 10) rfl) rfl rfl rfl ?_
  refine zj_get C (List.mem_of_getElem? (i := 11) rfl) rfl rfl cellx0 rfl hL11 ?_
  refine zj_aload_n C (List.mem_of_getElem? (i := 12) rfl) rfl rfl rfl ?_
  refine zj_get C (List.mem_of_getElem? (i := 13) rfl) rfl rfl cellx0 rfl hL9 ?_
  refine zj_iload_n C (List.mem_of_getElem? (i := 14) rfl) rfl rfl rfl ?_
  refine zj_iast C (List.mem_of_getElem? (i := 15) rfl) rfl k187x0 (zm_in (N := 200) hl (by decide)) (fun cA hcA => ?_)
  rw [nI_clamp (by omega : L < 2 ^ 31)]
  have hnx1 : ∀ i, i ≠ 187 → (x0.set 187 (a11, .inl (cA, 200, .inl (upd f11 L mo))))[i]? = x0[i]? := fun i hi => List.getElem?_set_ne (Ne.symm hi)
  have hAx1 : zx_as (x0.set 187 (a11, .inl (cA, 200, .inl (upd f11 L mo)))) = zx_as x0 := zx_as_set hcA
  have hrx1 := zm_row_set (g := upd f11 L mo) k187x0 hcA
  generalize x0.set 187 (a11, .inl (cA, 200, .inl (upd f11 L mo))) = x1 at hnx1 hAx1 hrx1 ⊢
  have cellx1 := (hnx1 178 (by decide)).trans cellx0
  have k188x1 := zm_row_keep k188x0 (hnx1 188 (by decide))
  refine zj_aload_n C (List.mem_of_getElem? (i := 16) rfl) rfl rfl rfl ?_
  refine zj_get C (List.mem_of_getElem? (i := 17) rfl) rfl rfl cellx1 rfl hL12 ?_
  refine zj_aload_n C (List.mem_of_getElem? (i := 18) rfl) rfl rfl rfl ?_
  refine zj_get C (List.mem_of_getElem? (i := 19) rfl) rfl rfl cellx1 rfl hL9 ?_
  refine zj_iload_n C (List.mem_of_getElem? (i := 20) rfl) rfl rfl rfl ?_
  refine zj_iast C (List.mem_of_getElem? (i := 21) rfl) rfl k188x1 (zm_in (N := 200) hl (by decide)) (fun cA hcA => ?_)
  rw [nI_clamp (by omega : L < 2 ^ 31)]
  have hnx2 : ∀ i, i ≠ 188 → (x1.set 188 (a12, .inl (cA, 200, .inl (upd f12 L td))))[i]? = x1[i]? := fun i hi => List.getElem?_set_ne (Ne.symm hi)
  have hAx2 : zx_as (x1.set 188 (a12, .inl (cA, 200, .inl (upd f12 L td)))) = zx_as x1 := zx_as_set hcA
  have hrx2 := zm_row_set (g := upd f12 L td) k188x1 hcA
  generalize x1.set 188 (a12, .inl (cA, 200, .inl (upd f12 L td))) = x2 at hnx2 hAx2 hrx2 ⊢
  have cellx2 := (hnx2 178 (by decide)).trans cellx1
  refine zj_aload_n C (List.mem_of_getElem? (i := 22) rfl) rfl rfl rfl ?_
  refine zj_dup C (List.mem_of_getElem? (i := 23) rfl) rfl rfl ?_
  refine zj_get C (List.mem_of_getElem? (i := 24) rfl) rfl rfl cellx2 rfl hL9 ?_
  refine zj_iconst (v := 1) C (List.mem_of_getElem? (i := 25) rfl) rfl (by decide) ?_
  refine zj_iadd (v := (nI (L + 1))) C (List.mem_of_getElem? (i := 26) rfl) rfl (nI_1 L) ?_
  refine zj_put C (List.mem_of_getElem? (i := 27) rfl) rfl rfl cellx2 rfl (by rw [hLl]; decide) rfl (zm_fit_i rfl _) ?_
  have hnz : ∀ i, i ≠ 178 → (x2.set 178 (aL, .inr (5, FL.set 9 (.int (nI (L + 1))))))[i]? = x2[i]? := fun i hi => List.getElem?_set_ne (Ne.symm hi)
  have hAz : zx_as (x2.set 178 (aL, .inr (5, FL.set 9 (.int (nI (L + 1)))))) = zx_as x2 := zx_as_set cellx2
  have hsz : (x2.set 178 (aL, .inr (5, FL.set 9 (.int (nI (L + 1))))))[178]? = some (aL, .inr (5, FL.set 9 (.int (nI (L + 1))))) := zm_set_self cellx2
  show zj_go p l e R s mi args below meth c Q D A _ _ _ _ (x2.set 178 (aL, .inr (5, FL.set 9 (.int (nI (L + 1))))))
  generalize x2.set 178 (aL, .inr (5, FL.set 9 (.int (nI (L + 1))))) = z at hnz hAz hsz ⊢
  exact KRv 50 _ _ (List.mem_of_getElem? (i := 28) rfl) rfl (hAz.trans (hAx2.trans (hAx1.trans hAx0))) ⟨rfl, ⟨_, hsz, by rw [List.getElem?_set]; simp only [if_true]; rw [if_pos (by rw [hLl]; decide)]⟩, fun i hi => (hnz i (by omega)).trans ((hnx2 i (by omega)).trans ((hnx1 i (by omega)).trans (hnx0 i (by omega))))⟩
set_option maxHeartbeats 8000000 in
theorem zl_learnC_W {l : Launch} {tys : List (ClassId × FieldType)} {ex : List Nat} {ws0 : va_W} {aO aL aY a10 a11 a12 L : Nat} {FO FL FY : List Value} {xs td : Int32} {aH aQ tQ : Nat} {FH : List Value} {xo : Int32} {cQ : ClassId} {Cn : String} {fQ : Nat → Option Nat} {rl : Nat → Int32} {sx o r hx : Int32} (h0 : ws0[0]? = some (aO, .inr (10, FO))) (hO2 : FO[2]? = some (.ref aH)) (hO4 : FO[4]? = some (.ref aL)) (hO9 : FO[9]? = some (.ref aY)) (hO11 : FO[11]? = some (.int td)) (hOl : FO.length = 14) (h3 : ws0[3]? = some (aH, .inr (2, FH))) (hH0 : FH[0]? = some (.int xo)) (hH5 : FH[5]? = some (.ref aQ)) (h9 : ws0[9]? = some (aQ, .inl (cQ, 9, .inr (.inr (.inr (.inr fQ)))))) (htQ : tys[tQ]? = some (cQ, .object Cn)) (hQ : ∀ k : Nat, k < 9 → (k : Int) < xo.toInt → ∃ (a : Nat) (F : List Value), fQ k = some a ∧ ws0[16 + 6 * k]? = some (a, .inr (6, F)) ∧ F[3]? = some (.int (rl k))) (hN : xo.toInt ≤ 9) (hH1 : FH[1]? = some (.int xs)) (hL : ws0[178]? = some (aL, .inr (5, FL))) (hLl : FL.length = 19) (hL9 : FL[9]? = some (.int (nI L))) (hL10 : FL[10]? = some (.ref a10)) (hL11 : FL[11]? = some (.ref a11)) (hL12 : FL[12]? = some (.ref a12)) (r10 : ∃ f, zj_row tys ws0 186 a10 200 .int f) (r11 : ∃ f, zj_row tys ws0 187 a11 200 .int f) (r12 : ∃ f, zj_row tys ws0 188 a12 200 .int f) (hY : ws0[212]? = some (aY, .inr (4, FY))) (hYl : FY.length = 13) (hl : L ≤ 200) : zj_W l 3 47 (zm_X ex tys [.ref aO, .int sx, .int o, .int r, .int hx] ws0) (fun _ _ _ v ws' => (zl_ok xs.toInt xo.toInt L rl sx.toInt o.toInt r.toInt hx.toInt → v = some (.int 1) ∧ ∃ FL', ws'[178]? = some (aL, .inr (5, FL')) ∧ FL'[9]? = some (.int (nI (L + 1)))) ∧ (¬ zl_ok xs.toInt xo.toInt L rl sx.toInt o.toInt r.toInt hx.toInt → v = some (.int 0) ∧ ∃ FL', ws'[178]? = some (aL, .inr (5, FL')) ∧ FL'[9]? = some (.int (nI L)))) := by
  refine zj_enterW (md := zx_m47) rfl rfl ?_ ?_
  · rintro ex tys av ws ⟨-, -, rfl, -⟩
    exact Nat.le_of_ble_eq_true rfl
  intro p e R s mi args below meth c Q D A ex nL own cc tys ws av hX C hnL KRi KRv KRa
  subst hnL
  obtain ⟨h1, h2, h3, h4⟩ := hX
  subst h1
  subst h2
  subst h3
  subst h4
  have c1 : (1 : Int32).toInt = 1 := rfl
  have c99 : (99 : Int32).toInt = 99 := rfl
  refine zj_aload_n C (List.mem_of_getElem? (i := 0) rfl) rfl rfl rfl ?_
  refine zj_get C (List.mem_of_getElem? (i := 1) rfl) rfl rfl h0 rfl hO2 ?_
  refine zj_iload_n C (List.mem_of_getElem? (i := 2) rfl) rfl rfl rfl ?_
  refine zj_callV (As := [.int sx]) (rest := []) C (List.mem_of_getElem? (i := 3) rfl) rfl rfl rfl (by decide) (zm_W_mono (zl_isS_W (x := sx) h3 hH1) (by decide)) rfl rfl h3 rfl (Nat.le_of_ble_eq_true rfl) rfl ⟨rfl, rfl, rfl, rfl⟩ (fun v r1 hr1A hr1Z => ?_)
  obtain ⟨he, hv⟩ := hr1Z
  subst he
  rcases hv with ⟨hv, kr1⟩ | ⟨hv, kr1⟩
  rotate_left
  · subst hv
    refine zj_if_eq (tgt := 34) C (List.mem_of_getElem? (i := 4) rfl) rfl (by decide) (fun hd => ?_) (fun hd => ?_)
    rotate_left
    · exact absurd rfl hd
    refine zj_iconst (v := 0) C (List.mem_of_getElem? (i := 16) rfl) rfl (by decide) ?_
    exact KRi 35 _ _ _ (List.mem_of_getElem? (i := 17) rfl) (by decide) (Or.inr ⟨rfl, Or.inl rfl⟩) hr1A ⟨fun h => absurd h (fun h => kr1 h.1), fun _ => ⟨rfl, FL, hL, hL9⟩⟩
  subst hv
  refine zj_if_eq (tgt := 34) C (List.mem_of_getElem? (i := 4) rfl) rfl (by decide) (fun hd => ?_) (fun hd => ?_)
  · exact absurd hd (by decide)
  refine zj_aload_n C (List.mem_of_getElem? (i := 5) rfl) rfl rfl rfl ?_
  refine zj_get C (List.mem_of_getElem? (i := 6) rfl) rfl rfl h0 rfl hO2 ?_
  refine zj_iload_n C (List.mem_of_getElem? (i := 7) rfl) rfl rfl rfl ?_
  refine zj_iload_n C (List.mem_of_getElem? (i := 8) rfl) rfl rfl rfl ?_
  refine zj_callV (As := [.int o, .int r]) (rest := []) C (List.mem_of_getElem? (i := 9) rfl) rfl rfl rfl (by decide) (zm_W_mono (zl_isR_W (o := o) (r := r) h3 hH0 hH5 h9 htQ hQ hN) (by decide)) rfl rfl h3 rfl (Nat.le_of_ble_eq_true rfl) rfl ⟨rfl, rfl, rfl, rfl⟩ (fun v r2 hr2A hr2Z => ?_)
  obtain ⟨he, hv⟩ := hr2Z
  subst he
  rcases hv with ⟨hv, kr2⟩ | ⟨hv, kr2⟩
  rotate_left
  · subst hv
    refine zj_if_eq (tgt := 34) C (List.mem_of_getElem? (i := 10) rfl) rfl (by decide) (fun hd => ?_) (fun hd => ?_)
    rotate_left
    · exact absurd rfl hd
    refine zj_iconst (v := 0) C (List.mem_of_getElem? (i := 16) rfl) rfl (by decide) ?_
    exact KRi 35 _ _ _ (List.mem_of_getElem? (i := 17) rfl) (by decide) (Or.inr ⟨rfl, Or.inl rfl⟩) (hr2A.trans hr1A) ⟨fun h => absurd h (fun h => kr2 h.2.1), fun _ => ⟨rfl, FL, hL, hL9⟩⟩
  subst hv
  refine zj_if_eq (tgt := 34) C (List.mem_of_getElem? (i := 10) rfl) rfl (by decide) (fun hd => ?_) (fun hd => ?_)
  · exact absurd hd (by decide)
  refine zj_iload C (List.mem_of_getElem? (i := 11) rfl) rfl rfl ?_
  refine zj_iconst (v := 1) C (List.mem_of_getElem? (i := 12) rfl) rfl (by decide) ?_
  refine zj_bipush (v := 99) C (List.mem_of_getElem? (i := 13) rfl) rfl (by decide) ?_
  refine zj_callS (As := [.int hx, .int 1, .int 99]) (rest := []) C (List.mem_of_getElem? (i := 14) rfl) rfl rfl (Or.inl rfl) (zm_W_mono (zo_within_W (x := hx) (lo := 1) (hi := 99)) (by decide)) rfl rfl (Nat.le_of_ble_eq_true rfl) rfl ⟨rfl, rfl, rfl, rfl⟩ (fun v r3 hr3A hr3Z => ?_)
  obtain ⟨he, hv⟩ := hr3Z
  subst he
  rw [c1, c99] at hv
  rcases hv with ⟨hv, kr3⟩ | ⟨hv, kr3⟩
  rotate_left
  · subst hv
    refine zj_if_ne (tgt := 36) C (List.mem_of_getElem? (i := 15) rfl) rfl (by decide) (fun hd => ?_) (fun hd => ?_)
    · exact absurd rfl hd
    refine zj_iconst (v := 0) C (List.mem_of_getElem? (i := 16) rfl) rfl (by decide) ?_
    exact KRi 35 _ _ _ (List.mem_of_getElem? (i := 17) rfl) (by decide) (Or.inr ⟨rfl, Or.inl rfl⟩) (hr3A.trans (hr2A.trans hr1A)) ⟨fun h => absurd h (fun h => kr3 h.2.2.1), fun _ => ⟨rfl, FL, hL, hL9⟩⟩
  subst hv
  refine zj_if_ne (tgt := 36) C (List.mem_of_getElem? (i := 15) rfl) rfl (by decide) (fun hd => ?_) (fun hd => ?_)
  rotate_left
  · exact absurd hd (by decide)
  refine zj_aload_n C (List.mem_of_getElem? (i := 18) rfl) rfl rfl rfl ?_
  refine zj_get C (List.mem_of_getElem? (i := 19) rfl) rfl rfl h0 rfl hO4 ?_
  refine zj_get C (List.mem_of_getElem? (i := 20) rfl) rfl rfl hL rfl hL9 ?_
  refine zj_sipush (v := 200) C (List.mem_of_getElem? (i := 21) rfl) rfl (by decide) ?_
  refine zj_icmp_lt (tgt := 51) C (List.mem_of_getElem? (i := 22) rfl) rfl (by decide) (fun hb => ?_) (fun hb => ?_)
  rotate_left
  · have hb : ¬ L < 200 := fun h => hb ((nI_ltI (a := L) (b := 200) (by omega) (by decide)).mpr h)
    refine zj_iconst (v := 0) C (List.mem_of_getElem? (i := 23) rfl) rfl (by decide) ?_
    exact KRi 50 _ _ _ (List.mem_of_getElem? (i := 24) rfl) (by decide) (Or.inr ⟨rfl, Or.inl rfl⟩) (hr3A.trans (hr2A.trans hr1A)) ⟨fun h => absurd h (fun h => by have := h.2.2.2; omega), fun _ => ⟨rfl, FL, hL, hL9⟩⟩
  have hb : L < 200 := (nI_ltI (a := L) (b := 200) (by omega) (by decide)).mp hb
  refine zj_aload_n C (List.mem_of_getElem? (i := 25) rfl) rfl rfl rfl ?_
  refine zj_get C (List.mem_of_getElem? (i := 26) rfl) rfl rfl h0 rfl hO4 ?_
  refine zj_iload_n C (List.mem_of_getElem? (i := 27) rfl) rfl rfl rfl ?_
  refine zj_bipush (v := 72) C (List.mem_of_getElem? (i := 28) rfl) rfl (by decide) ?_
  refine zj_imul (v := (sx * 72)) C (List.mem_of_getElem? (i := 29) rfl) rfl rfl ?_
  refine zj_iload_n C (List.mem_of_getElem? (i := 30) rfl) rfl rfl rfl ?_
  refine zj_bipush (v := 8) C (List.mem_of_getElem? (i := 31) rfl) rfl (by decide) ?_
  refine zj_imul (v := (o * 8)) C (List.mem_of_getElem? (i := 32) rfl) rfl rfl ?_
  refine zj_iadd (v := ((sx * 72) + (o * 8))) C (List.mem_of_getElem? (i := 33) rfl) rfl rfl ?_
  refine zj_iload_n C (List.mem_of_getElem? (i := 34) rfl) rfl rfl rfl ?_
  refine zj_iadd (v := (((sx * 72) + (o * 8)) + r)) C (List.mem_of_getElem? (i := 35) rfl) rfl rfl ?_
  refine zj_iload C (List.mem_of_getElem? (i := 36) rfl) rfl rfl ?_
  refine zj_aload_n C (List.mem_of_getElem? (i := 37) rfl) rfl rfl rfl ?_
  refine zj_get C (List.mem_of_getElem? (i := 38) rfl) rfl rfl h0 rfl hO11 ?_
  refine zj_callV (As := [.int (((sx * 72) + (o * 8)) + r), .int hx, .int td]) (rest := []) C (List.mem_of_getElem? (i := 39) rfl) rfl rfl rfl (by decide) (zm_W_mono (zl_tell_W hL hLl hL9 hL10 hL11 hL12 r10 r11 r12 hb) (by decide)) rfl rfl hL rfl (Nat.le_of_ble_eq_true rfl) rfl ⟨rfl, rfl, rfl, rfl⟩ (fun v w4 hw4A hw4Z => ?_)
  obtain ⟨hv, ⟨FL', g1, g2⟩, g3⟩ := hw4Z
  subst hv
  have q0 := (g3 0 (by decide)).trans h0
  have qY := (g3 212 (by decide)).trans hY
  refine zj_aload_n C (List.mem_of_getElem? (i := 40) rfl) rfl rfl rfl ?_
  refine zj_get C (List.mem_of_getElem? (i := 41) rfl) rfl rfl q0 rfl hO9 ?_
  refine zj_iconst (v := 0) C (List.mem_of_getElem? (i := 42) rfl) rfl (by decide) ?_
  refine zj_put C (List.mem_of_getElem? (i := 43) rfl) rfl rfl qY rfl (by rw [hYl]; decide) rfl (zo_fit_z rfl (Or.inl rfl)) ?_
  have hnz : ∀ i, i ≠ 212 → (w4.set 212 (aY, .inr (4, FY.set 12 (.int 0))))[i]? = w4[i]? := fun i hi => List.getElem?_set_ne (Ne.symm hi)
  have hAz : zx_as (w4.set 212 (aY, .inr (4, FY.set 12 (.int 0)))) = zx_as w4 := zx_as_set qY
  have hsz : (w4.set 212 (aY, .inr (4, FY.set 12 (.int 0))))[212]? = some (aY, .inr (4, FY.set 12 (.int 0))) := zm_set_self qY
  show zj_go p l e R s mi args below meth c Q D A _ _ _ _ (w4.set 212 (aY, .inr (4, FY.set 12 (.int 0))))
  generalize w4.set 212 (aY, .inr (4, FY.set 12 (.int 0))) = z at hnz hAz hsz ⊢
  refine zj_iconst (v := 1) C (List.mem_of_getElem? (i := 44) rfl) rfl (by decide) ?_
  exact KRi 84 _ _ _ (List.mem_of_getElem? (i := 45) rfl) (by decide) (Or.inr ⟨rfl, Or.inr rfl⟩) (hAz.trans (hw4A.trans (hr3A.trans (hr2A.trans hr1A)))) ⟨fun _ => ⟨rfl, FL', (hnz 178 (by decide)).trans g1, g2⟩, fun h => absurd ⟨kr1, kr2, kr3, by omega⟩ h⟩
end
