noncomputable section
/-! zo: opera: what a tape must hold; the class's -/
def zo_lo (k : Nat) : Int := if k < 4 then 0 else if k % 4 = 1 then 1 else 0
def zo_hi (k : Nat) : Int := if k < 4 then 40 else if k % 4 = 1 then 30 else if k % 4 = 3 then 9 else 5
def zo_ok (g : Nat → Int) (t : Nat) : Prop := (8 ≤ t ∧ t ≤ 36 ∧ t % 4 = 0) ∧ ∀ k, k < t → zo_lo k ≤ g k ∧ g k ≤ zo_hi k
def zo_ar (h s n : Int) : Prop := (2 ≤ h ∧ h ≤ 6) ∧ (0 ≤ s ∧ s ≤ 3) ∧ 1 ≤ n ∧ n ≤ 60
theorem zo_b (k : Nat) : 0 ≤ zo_lo k ∧ zo_hi k ≤ 40 := by
  unfold zo_lo zo_hi
  repeat' split
  all_goals omega
/-- an opera's object: its numbers; its rows -/
def zo_O (tys : List (ClassId × FieldType)) (ws : va_W) (P a : Nat) (h0 h1 h2 rl h4 : Int32) : Prop := ∃ (b5 b6 b7 b8 b9 : Nat), ws[P]? = some (a, .inr (6, [.int h0, .int h1, .int h2, .int rl, .int h4, .ref b5, .ref b6, .ref b7, .ref b8, .ref b9])) ∧ (∃ f, zj_row tys ws (P + 1) b5 4 .int f) ∧ (∃ f, zj_row tys ws (P + 2) b6 8 .int f) ∧ (∃ f, zj_row tys ws (P + 3) b7 8 .int f) ∧ (∃ f, zj_row tys ws (P + 4) b8 8 .int f) ∧ ∃ f, zj_row tys ws (P + 5) b9 8 .int f
/-- all else is as it was -/
def zo_fr (P : Nat) (ws0 ws : va_W) : Prop := ∀ i, (i < P ∨ P + 5 < i) → ws[i]? = ws0[i]?
theorem zo_within_W {l : Launch} {tys : List (ClassId × FieldType)} {ex : List Nat} {ws0 : va_W} {x lo hi : Int32} : zj_W l 1 18 (zm_X ex tys [.int x, .int lo, .int hi] ws0) (fun _ _ _ v ws' => ws0 = ws' ∧ ((v = some (.int 1) ∧ (lo.toInt ≤ x.toInt ∧ x.toInt ≤ hi.toInt)) ∨ (v = some (.int 0) ∧ ¬ (lo.toInt ≤ x.toInt ∧ x.toInt ≤ hi.toInt)))) := by
  refine zj_enterW (md := zx_m18) rfl rfl ?_ ?_
  · rintro ex tys av ws ⟨-, -, rfl, -⟩
    exact Nat.le_of_ble_eq_true rfl
  intro p e R s mi args below meth c Q D A ex nL own cc tys ws av hX C hnL KRi KRv KRa
  subst hnL
  obtain ⟨h1, h2, h3, h4⟩ := hX
  subst h1
  subst h2
  subst h3
  subst h4
  refine zj_iload_n C (List.mem_of_getElem? (i := 0) rfl) rfl rfl rfl ?_
  refine zj_iload_n C (List.mem_of_getElem? (i := 1) rfl) rfl rfl rfl ?_
  refine zj_icmp_lt (tgt := 14) C (List.mem_of_getElem? (i := 2) rfl) rfl (by decide) (fun hb => ?_) (fun hb => ?_)
  · have hb := Int32.lt_iff_toInt_lt.mp hb
    refine zj_iconst (v := 0) C (List.mem_of_getElem? (i := 8) rfl) rfl (by decide) ?_
    exact KRi 15 _ _ _ (List.mem_of_getElem? (i := 9) rfl) (by decide) (Or.inr ⟨rfl, Or.inl rfl⟩) rfl ⟨rfl, Or.inr ⟨rfl, fun h => by omega⟩⟩
  have hb : ¬ x.toInt < lo.toInt := fun h => hb (Int32.lt_iff_toInt_lt.mpr h)
  refine zj_iload_n C (List.mem_of_getElem? (i := 3) rfl) rfl rfl rfl ?_
  refine zj_iload_n C (List.mem_of_getElem? (i := 4) rfl) rfl rfl rfl ?_
  refine zj_icmp_gt (tgt := 14) C (List.mem_of_getElem? (i := 5) rfl) rfl (by decide) (fun hb2 => ?_) (fun hb2 => ?_)
  · have hb2 := Int32.lt_iff_toInt_lt.mp hb2
    refine zj_iconst (v := 0) C (List.mem_of_getElem? (i := 8) rfl) rfl (by decide) ?_
    exact KRi 15 _ _ _ (List.mem_of_getElem? (i := 9) rfl) (by decide) (Or.inr ⟨rfl, Or.inl rfl⟩) rfl ⟨rfl, Or.inr ⟨rfl, fun h => by omega⟩⟩
  have hb2 : ¬ hi.toInt < x.toInt := fun h => hb2 (Int32.lt_iff_toInt_lt.mpr h)
  refine zj_iconst (v := 1) C (List.mem_of_getElem? (i := 6) rfl) rfl (by decide) ?_
  refine zj_goto (tgt := 15) C (List.mem_of_getElem? (i := 7) rfl) (by decide) ?_
  exact KRi 15 _ _ _ (List.mem_of_getElem? (i := 9) rfl) (by decide) (Or.inr ⟨rfl, Or.inr rfl⟩) rfl ⟨rfl, Or.inl ⟨rfl, by omega, by omega⟩⟩
set_option maxHeartbeats 4000000 in
theorem zo_role_W {l : Launch} {tys : List (ClassId × FieldType)} {ex : List Nat} {ws0 : va_W} {P a aT : Nat} {h0 h1 h2 rl h4 : Int32} {fT : Nat → Int32} {r m : Nat} (hr : r < 8) (hm : m + 3 < 340) (hP : 1 < P) (hT : zj_row tys ws0 1 aT 340 .int fT) (ho : zo_O tys ws0 P a h0 h1 h2 rl h4) : zj_W l 2 20 (zm_X ex tys [.ref a, .int (nI r), .ref aT, .int (nI m)] ws0) (fun _ _ _ v ws' => zo_O tys ws' P a h0 h1 h2 rl h4 ∧ zo_fr P ws0 ws' ∧ ((v = some (.int 1) ∧ ((fT m).toInt ≤ 5 ∧ (1 ≤ (fT (m + 1)).toInt ∧ (fT (m + 1)).toInt ≤ 30) ∧ (fT (m + 2)).toInt ≤ 5 ∧ (fT (m + 3)).toInt ≤ 9)) ∨ (v = some (.int 0) ∧ ¬ ((fT m).toInt ≤ 5 ∧ (1 ≤ (fT (m + 1)).toInt ∧ (fT (m + 1)).toInt ≤ 30) ∧ (fT (m + 2)).toInt ≤ 5 ∧ (fT (m + 3)).toInt ≤ 9)))) := by
  refine zj_enterW (md := zx_m20) rfl rfl ?_ ?_
  · rintro ex tys av ws ⟨-, -, rfl, -⟩
    exact Nat.le_of_ble_eq_true rfl
  intro p e R s mi args below meth c Q D A ex nL own cc tys ws av hX C hnL KRi KRv KRa
  subst hnL
  obtain ⟨h1, h2, h3, h4⟩ := hX
  subst h1
  subst h2
  subst h3
  subst h4
  obtain ⟨b5, b6, b7, b8, b9, hp, hS, ⟨fv, hv⟩, ⟨fs, hs⟩, ⟨fu, hu⟩, fz, hz⟩ := ho
  have c5 : (5 : Int32).toInt = 5 := rfl
  have c1 : (1 : Int32).toInt = 1 := rfl
  have c30 : (30 : Int32).toInt = 30 := rfl
  have c9 : (9 : Int32).toInt = 9 := rfl
  refine zj_aload_n C (List.mem_of_getElem? (i := 0) rfl) rfl rfl rfl ?_
  refine zj_get C (List.mem_of_getElem? (i := 1) rfl) rfl rfl hp rfl rfl ?_
  refine zj_iload_n C (List.mem_of_getElem? (i := 2) rfl) rfl rfl rfl ?_
  refine zj_aload_n C (List.mem_of_getElem? (i := 3) rfl) rfl rfl rfl ?_
  refine zj_iload_n C (List.mem_of_getElem? (i := 4) rfl) rfl rfl rfl ?_
  refine zj_iald (v := (fT m)) C (List.mem_of_getElem? (i := 5) rfl) rfl hT (zm_in (n := m) (N := 340) (by omega) (by decide)) (by rw [nI_clamp (by omega)]) ?_
  refine zj_iast C (List.mem_of_getElem? (i := 6) rfl) rfl hv (zm_in (N := 8) hr (by decide)) (fun cA hcA => ?_)
  rw [nI_clamp (by omega : r < 2 ^ 31)]
  have hnx0 : ∀ i, i ≠ P + 2 → (ws.set (P + 2) (b6, .inl (cA, 8, .inl (upd fv r (fT m)))))[i]? = ws[i]? := fun i hi => List.getElem?_set_ne (Ne.symm hi)
  have hAx0 : zx_as (ws.set (P + 2) (b6, .inl (cA, 8, .inl (upd fv r (fT m))))) = zx_as ws := zx_as_set hcA
  have hrx0 := zm_row_set (g := upd fv r (fT m)) hv hcA
  generalize ws.set (P + 2) (b6, .inl (cA, 8, .inl (upd fv r (fT m)))) = x0 at hnx0 hAx0 hrx0 ⊢
  have cellx0 := (hnx0 P (by omega)).trans hp
  have tapex0 := zm_row_keep hT (hnx0 1 (by omega))
  have seatx0 := zm_row_keep hS.choose_spec (hnx0 (P + 1) (by omega))
  have k3x0 := zm_row_keep hs (hnx0 (P + 3) (by omega))
  have k4x0 := zm_row_keep hu (hnx0 (P + 4) (by omega))
  have k5x0 := zm_row_keep hz (hnx0 (P + 5) (by omega))
  refine zj_aload_n C (List.mem_of_getElem? (i := 7) rfl) rfl rfl rfl ?_
  refine zj_get C (List.mem_of_getElem? (i := 8) rfl) rfl rfl cellx0 rfl rfl ?_
  refine zj_iload_n C (List.mem_of_getElem? (i := 9) rfl) rfl rfl rfl ?_
  refine zj_aload_n C (List.mem_of_getElem? (i := 10) rfl) rfl rfl rfl ?_
  refine zj_iload_n C (List.mem_of_getElem? (i := 11) rfl) rfl rfl rfl ?_
  refine zj_iconst (v := 1) C (List.mem_of_getElem? (i := 12) rfl) rfl (by decide) ?_
  refine zj_iadd (v := (nI (m + 1))) C (List.mem_of_getElem? (i := 13) rfl) rfl (nI_add m 1) ?_
  refine zj_iald (v := (fT (m + 1))) C (List.mem_of_getElem? (i := 14) rfl) rfl tapex0 (zm_in (n := (m + 1)) (N := 340) (by omega) (by decide)) (by rw [nI_clamp (by omega)]) ?_
  refine zj_iast C (List.mem_of_getElem? (i := 15) rfl) rfl k3x0 (zm_in (N := 8) hr (by decide)) (fun cA hcA => ?_)
  rw [nI_clamp (by omega : r < 2 ^ 31)]
  have hnx1 : ∀ i, i ≠ P + 3 → (x0.set (P + 3) (b7, .inl (cA, 8, .inl (upd fs r (fT (m + 1))))))[i]? = x0[i]? := fun i hi => List.getElem?_set_ne (Ne.symm hi)
  have hAx1 : zx_as (x0.set (P + 3) (b7, .inl (cA, 8, .inl (upd fs r (fT (m + 1)))))) = zx_as x0 := zx_as_set hcA
  have hrx1 := zm_row_set (g := upd fs r (fT (m + 1))) k3x0 hcA
  generalize x0.set (P + 3) (b7, .inl (cA, 8, .inl (upd fs r (fT (m + 1))))) = x1 at hnx1 hAx1 hrx1 ⊢
  have cellx1 := (hnx1 P (by omega)).trans cellx0
  have tapex1 := zm_row_keep tapex0 (hnx1 1 (by omega))
  have seatx1 := zm_row_keep seatx0 (hnx1 (P + 1) (by omega))
  have k2x1 := zm_row_keep hrx0 (hnx1 (P + 2) (by omega))
  have k4x1 := zm_row_keep k4x0 (hnx1 (P + 4) (by omega))
  have k5x1 := zm_row_keep k5x0 (hnx1 (P + 5) (by omega))
  refine zj_aload_n C (List.mem_of_getElem? (i := 16) rfl) rfl rfl rfl ?_
  refine zj_get C (List.mem_of_getElem? (i := 17) rfl) rfl rfl cellx1 rfl rfl ?_
  refine zj_iload_n C (List.mem_of_getElem? (i := 18) rfl) rfl rfl rfl ?_
  refine zj_aload_n C (List.mem_of_getElem? (i := 19) rfl) rfl rfl rfl ?_
  refine zj_iload_n C (List.mem_of_getElem? (i := 20) rfl) rfl rfl rfl ?_
  refine zj_iconst (v := 2) C (List.mem_of_getElem? (i := 21) rfl) rfl (by decide) ?_
  refine zj_iadd (v := (nI (m + 2))) C (List.mem_of_getElem? (i := 22) rfl) rfl (nI_add m 2) ?_
  refine zj_iald (v := (fT (m + 2))) C (List.mem_of_getElem? (i := 23) rfl) rfl tapex1 (zm_in (n := (m + 2)) (N := 340) (by omega) (by decide)) (by rw [nI_clamp (by omega)]) ?_
  refine zj_iast C (List.mem_of_getElem? (i := 24) rfl) rfl k4x1 (zm_in (N := 8) hr (by decide)) (fun cA hcA => ?_)
  rw [nI_clamp (by omega : r < 2 ^ 31)]
  have hnx2 : ∀ i, i ≠ P + 4 → (x1.set (P + 4) (b8, .inl (cA, 8, .inl (upd fu r (fT (m + 2))))))[i]? = x1[i]? := fun i hi => List.getElem?_set_ne (Ne.symm hi)
  have hAx2 : zx_as (x1.set (P + 4) (b8, .inl (cA, 8, .inl (upd fu r (fT (m + 2)))))) = zx_as x1 := zx_as_set hcA
  have hrx2 := zm_row_set (g := upd fu r (fT (m + 2))) k4x1 hcA
  generalize x1.set (P + 4) (b8, .inl (cA, 8, .inl (upd fu r (fT (m + 2))))) = x2 at hnx2 hAx2 hrx2 ⊢
  have cellx2 := (hnx2 P (by omega)).trans cellx1
  have tapex2 := zm_row_keep tapex1 (hnx2 1 (by omega))
  have seatx2 := zm_row_keep seatx1 (hnx2 (P + 1) (by omega))
  have k2x2 := zm_row_keep k2x1 (hnx2 (P + 2) (by omega))
  have k3x2 := zm_row_keep hrx1 (hnx2 (P + 3) (by omega))
  have k5x2 := zm_row_keep k5x1 (hnx2 (P + 5) (by omega))
  refine zj_aload_n C (List.mem_of_getElem? (i := 25) rfl) rfl rfl rfl ?_
  refine zj_get C (List.mem_of_getElem? (i := 26) rfl) rfl rfl cellx2 rfl rfl ?_
  refine zj_iload_n C (List.mem_of_getElem? (i := 27) rfl) rfl rfl rfl ?_
  refine zj_aload_n C (List.mem_of_getElem? (i := 28) rfl) rfl rfl rfl ?_
  refine zj_iload_n C (List.mem_of_getElem? (i := 29) rfl) rfl rfl rfl ?_
  refine zj_iconst (v := 3) C (List.mem_of_getElem? (i := 30) rfl) rfl (by decide) ?_
  refine zj_iadd (v := (nI (m + 3))) C (List.mem_of_getElem? (i := 31) rfl) rfl (nI_add m 3) ?_
  refine zj_iald (v := (fT (m + 3))) C (List.mem_of_getElem? (i := 32) rfl) rfl tapex2 (zm_in (n := (m + 3)) (N := 340) (by omega) (by decide)) (by rw [nI_clamp (by omega)]) ?_
  refine zj_iast C (List.mem_of_getElem? (i := 33) rfl) rfl k5x2 (zm_in (N := 8) hr (by decide)) (fun cA hcA => ?_)
  rw [nI_clamp (by omega : r < 2 ^ 31)]
  have hnx3 : ∀ i, i ≠ P + 5 → (x2.set (P + 5) (b9, .inl (cA, 8, .inl (upd fz r (fT (m + 3))))))[i]? = x2[i]? := fun i hi => List.getElem?_set_ne (Ne.symm hi)
  have hAx3 : zx_as (x2.set (P + 5) (b9, .inl (cA, 8, .inl (upd fz r (fT (m + 3)))))) = zx_as x2 := zx_as_set hcA
  have hrx3 := zm_row_set (g := upd fz r (fT (m + 3))) k5x2 hcA
  generalize x2.set (P + 5) (b9, .inl (cA, 8, .inl (upd fz r (fT (m + 3))))) = x3 at hnx3 hAx3 hrx3 ⊢
  have cellx3 := (hnx3 P (by omega)).trans cellx2
  have tapex3 := zm_row_keep tapex2 (hnx3 1 (by omega))
  have seatx3 := zm_row_keep seatx2 (hnx3 (P + 1) (by omega))
  have k2x3 := zm_row_keep k2x2 (hnx3 (P + 2) (by omega))
  have k3x3 := zm_row_keep k3x2 (hnx3 (P + 3) (by omega))
  have k4x3 := zm_row_keep hrx2 (hnx3 (P + 4) (by omega))
  have hfr : zo_fr P ws x3 := fun i hi => (hnx3 i (by omega)).trans ((hnx2 i (by omega)).trans ((hnx1 i (by omega)).trans (hnx0 i (by omega))))
  have hob : zo_O tys x3 P a h0 h1 h2 rl h4 := ⟨b5, b6, b7, b8, b9, cellx3, ⟨_, seatx3⟩, ⟨_, k2x3⟩, ⟨_, k3x3⟩, ⟨_, k4x3⟩, _, hrx3⟩
  refine zj_aload_n C (List.mem_of_getElem? (i := 34) rfl) rfl rfl rfl ?_
  refine zj_get C (List.mem_of_getElem? (i := 35) rfl) rfl rfl cellx3 rfl rfl ?_
  refine zj_iload_n C (List.mem_of_getElem? (i := 36) rfl) rfl rfl rfl ?_
  refine zj_iald (v := (fT m)) C (List.mem_of_getElem? (i := 37) rfl) rfl k2x3 (zm_in (N := 8) hr (by decide)) (by rw [nI_clamp (by omega)]; simp [upd]) ?_
  refine zj_iconst (v := 5) C (List.mem_of_getElem? (i := 38) rfl) rfl (by decide) ?_
  refine zj_icmp_gt (tgt := 92) C (List.mem_of_getElem? (i := 39) rfl) rfl (by decide) (fun b0 => ?_) (fun b0 => ?_)
  · have b0 := Int32.lt_iff_toInt_lt.mp b0
    refine zj_iconst (v := 0) C (List.mem_of_getElem? (i := 62) rfl) rfl (by decide) ?_
    exact KRi 93 _ _ _ (List.mem_of_getElem? (i := 63) rfl) (by decide) (Or.inr ⟨rfl, Or.inl rfl⟩) (hAx3.trans (hAx2.trans (hAx1.trans hAx0))) ⟨hob, hfr, Or.inr ⟨rfl, fun h => by omega⟩⟩
  have b0 : ¬ (5 : Int32).toInt < (fT m).toInt := fun h => b0 (Int32.lt_iff_toInt_lt.mpr h)
  refine zj_aload_n C (List.mem_of_getElem? (i := 40) rfl) rfl rfl rfl ?_
  refine zj_get C (List.mem_of_getElem? (i := 41) rfl) rfl rfl cellx3 rfl rfl ?_
  refine zj_iload_n C (List.mem_of_getElem? (i := 42) rfl) rfl rfl rfl ?_
  refine zj_iald (v := (fT (m + 1))) C (List.mem_of_getElem? (i := 43) rfl) rfl k3x3 (zm_in (N := 8) hr (by decide)) (by rw [nI_clamp (by omega)]; simp [upd]) ?_
  refine zj_iconst (v := 1) C (List.mem_of_getElem? (i := 44) rfl) rfl (by decide) ?_
  refine zj_bipush (v := 30) C (List.mem_of_getElem? (i := 45) rfl) rfl (by decide) ?_
  refine zj_callS (As := [.int (fT (m + 1)), .int 1, .int 30]) (rest := []) C (List.mem_of_getElem? (i := 46) rfl) rfl rfl (Or.inr rfl) (zm_W_mono (zo_within_W (x := fT (m + 1)) (lo := 1) (hi := 30)) (by decide)) rfl rfl (Nat.le_of_ble_eq_true rfl) rfl ⟨rfl, rfl, rfl, rfl⟩ (fun v w2 hw2A hw2Z => ?_)
  obtain ⟨he, hv1⟩ := hw2Z
  subst he
  rw [c1, c30] at hv1
  rcases hv1 with ⟨hv1, hc⟩ | ⟨hv1, hc⟩
  rotate_left
  · subst hv1
    refine zj_if_eq (tgt := 92) C (List.mem_of_getElem? (i := 47) rfl) rfl (by decide) (fun hd => ?_) (fun hd => ?_)
    rotate_left
    · exact absurd rfl hd
    refine zj_iconst (v := 0) C (List.mem_of_getElem? (i := 62) rfl) rfl (by decide) ?_
    exact KRi 93 _ _ _ (List.mem_of_getElem? (i := 63) rfl) (by decide) (Or.inr ⟨rfl, Or.inl rfl⟩) (hAx3.trans (hAx2.trans (hAx1.trans hAx0))) ⟨hob, hfr, Or.inr ⟨rfl, fun h => hc h.2.1⟩⟩
  subst hv1
  refine zj_if_eq (tgt := 92) C (List.mem_of_getElem? (i := 47) rfl) rfl (by decide) (fun hd => ?_) (fun hd => ?_)
  · exact absurd hd (by decide)
  refine zj_aload_n C (List.mem_of_getElem? (i := 48) rfl) rfl rfl rfl ?_
  refine zj_get C (List.mem_of_getElem? (i := 49) rfl) rfl rfl cellx3 rfl rfl ?_
  refine zj_iload_n C (List.mem_of_getElem? (i := 50) rfl) rfl rfl rfl ?_
  refine zj_iald (v := (fT (m + 2))) C (List.mem_of_getElem? (i := 51) rfl) rfl k4x3 (zm_in (N := 8) hr (by decide)) (by rw [nI_clamp (by omega)]; simp [upd]) ?_
  refine zj_iconst (v := 5) C (List.mem_of_getElem? (i := 52) rfl) rfl (by decide) ?_
  refine zj_icmp_gt (tgt := 92) C (List.mem_of_getElem? (i := 53) rfl) rfl (by decide) (fun b2 => ?_) (fun b2 => ?_)
  · have b2 := Int32.lt_iff_toInt_lt.mp b2
    refine zj_iconst (v := 0) C (List.mem_of_getElem? (i := 62) rfl) rfl (by decide) ?_
    exact KRi 93 _ _ _ (List.mem_of_getElem? (i := 63) rfl) (by decide) (Or.inr ⟨rfl, Or.inl rfl⟩) (hAx3.trans (hAx2.trans (hAx1.trans hAx0))) ⟨hob, hfr, Or.inr ⟨rfl, fun h => by omega⟩⟩
  have b2 : ¬ (5 : Int32).toInt < (fT (m + 2)).toInt := fun h => b2 (Int32.lt_iff_toInt_lt.mpr h)
  refine zj_aload_n C (List.mem_of_getElem? (i := 54) rfl) rfl rfl rfl ?_
  refine zj_get C (List.mem_of_getElem? (i := 55) rfl) rfl rfl cellx3 rfl rfl ?_
  refine zj_iload_n C (List.mem_of_getElem? (i := 56) rfl) rfl rfl rfl ?_
  refine zj_iald (v := (fT (m + 3))) C (List.mem_of_getElem? (i := 57) rfl) rfl hrx3 (zm_in (N := 8) hr (by decide)) (by rw [nI_clamp (by omega)]; simp [upd]) ?_
  refine zj_bipush (v := 9) C (List.mem_of_getElem? (i := 58) rfl) rfl (by decide) ?_
  refine zj_icmp_gt (tgt := 92) C (List.mem_of_getElem? (i := 59) rfl) rfl (by decide) (fun b3 => ?_) (fun b3 => ?_)
  · have b3 := Int32.lt_iff_toInt_lt.mp b3
    refine zj_iconst (v := 0) C (List.mem_of_getElem? (i := 62) rfl) rfl (by decide) ?_
    exact KRi 93 _ _ _ (List.mem_of_getElem? (i := 63) rfl) (by decide) (Or.inr ⟨rfl, Or.inl rfl⟩) (hAx3.trans (hAx2.trans (hAx1.trans hAx0))) ⟨hob, hfr, Or.inr ⟨rfl, fun h => by omega⟩⟩
  have b3 : ¬ (9 : Int32).toInt < (fT (m + 3)).toInt := fun h => b3 (Int32.lt_iff_toInt_lt.mpr h)
  refine zj_iconst (v := 1) C (List.mem_of_getElem? (i := 60) rfl) rfl (by decide) ?_
  refine zj_goto (tgt := 93) C (List.mem_of_getElem? (i := 61) rfl) (by decide) ?_
  exact KRi 93 _ _ _ (List.mem_of_getElem? (i := 63) rfl) (by decide) (Or.inr ⟨rfl, Or.inr rfl⟩) (hAx3.trans (hAx2.trans (hAx1.trans hAx0))) ⟨hob, hfr, Or.inl ⟨rfl, by omega, hc, by omega, by omega⟩⟩
theorem zo_fr_tr {P : Nat} {w0 w1 w2 : va_W} (h1 : zo_fr P w0 w1) (h2 : zo_fr P w1 w2) : zo_fr P w0 w2 := fun i hi => (h2 i hi).trans (h1 i hi)
theorem zo_good {g : Nat → Int} {r : Nat} (h0 : ∀ k, 0 ≤ g k ∨ 340 ≤ k) (hr : r < 8) (h : g (4 + 4 * r) ≤ 5 ∧ (1 ≤ g (4 + 4 * r + 1) ∧ g (4 + 4 * r + 1) ≤ 30) ∧ g (4 + 4 * r + 2) ≤ 5 ∧ g (4 + 4 * r + 3) ≤ 9) : ∀ k, 4 + 4 * r ≤ k → k < 4 + 4 * r + 4 → zo_lo k ≤ g k ∧ g k ≤ zo_hi k := by
  intro k h1 h2
  obtain ⟨h3, h4, h5, h6⟩ := h
  unfold zo_lo zo_hi
  rcases (by omega : k = 4 + 4 * r ∨ k = 4 + 4 * r + 1 ∨ k = 4 + 4 * r + 2 ∨ k = 4 + 4 * r + 3) with rfl | rfl | rfl | rfl
  · have := h0 (4 + 4 * r)
    rw [if_neg (by omega), if_neg (by omega), if_neg (by omega), if_neg (by omega), if_neg (by omega)]
    omega
  · rw [if_neg (by omega), if_pos (by omega), if_neg (by omega), if_pos (by omega)]
    exact h4
  · have := h0 (4 + 4 * r + 2)
    rw [if_neg (by omega), if_neg (by omega), if_neg (by omega), if_neg (by omega), if_neg (by omega)]
    omega
  · have := h0 (4 + 4 * r + 3)
    rw [if_neg (by omega), if_neg (by omega), if_neg (by omega), if_neg (by omega), if_pos (by omega)]
    omega
theorem zo_bad {g : Nat → Int} {r : Nat} (h : ∀ k, 4 + 4 * r ≤ k → k < 4 + 4 * r + 4 → zo_lo k ≤ g k ∧ g k ≤ zo_hi k) : g (4 + 4 * r) ≤ 5 ∧ (1 ≤ g (4 + 4 * r + 1) ∧ g (4 + 4 * r + 1) ≤ 30) ∧ g (4 + 4 * r + 2) ≤ 5 ∧ g (4 + 4 * r + 3) ≤ 9 := by
  have h0 := (h (4 + 4 * r) (by omega) (by omega)).2
  have h1 := h (4 + 4 * r + 1) (by omega) (by omega)
  have h2 := (h (4 + 4 * r + 2) (by omega) (by omega)).2
  have h3 := (h (4 + 4 * r + 3) (by omega) (by omega)).2
  unfold zo_lo zo_hi at h1
  unfold zo_hi at h0 h2 h3
  rw [if_neg (by omega), if_neg (by omega), if_neg (by omega)] at h0
  rw [if_neg (by omega), if_pos (by omega), if_neg (by omega), if_pos (by omega)] at h1
  rw [if_neg (by omega), if_neg (by omega), if_neg (by omega)] at h2
  rw [if_neg (by omega), if_neg (by omega), if_pos (by omega)] at h3
  exact ⟨h0, h1, h2, h3⟩
set_option maxHeartbeats 4000000 in
theorem zo_tape_W {l : Launch} {tys : List (ClassId × FieldType)} {ex : List Nat} {ws0 : va_W} {P a aT : Nat} {h0 h1 h2 rl h4 : Int32} {fT : Nat → Int32} {t : Nat} (ht : t ≤ 340) (hP : 1 < P) (hT : zj_row tys ws0 1 aT 340 .int fT) (hf : ∀ k, k < 340 → 0 ≤ (fT k).toInt ∧ (fT k).toInt ≤ 255) (ho : zo_O tys ws0 P a h0 h1 h2 rl h4) : zj_W l 3 19 (zm_X ex tys [.ref a, .ref aT, .int (nI t)] ws0) (fun _ _ _ v ws' => zo_fr P ws0 ws' ∧ ((v = some (.int 1) ∧ zo_ok (fun k => (fT k).toInt) t ∧ zo_O tys ws' P a h0 h1 h2 (nI (t / 4 - 1)) h4) ∨ (v = some (.int 0) ∧ ¬ zo_ok (fun k => (fT k).toInt) t ∧ ∃ rl', zo_O tys ws' P a h0 h1 h2 rl' h4))) := by
  refine zj_enterW (md := zx_m19) rfl rfl ?_ ?_
  · rintro ex tys av ws ⟨-, -, rfl, -⟩
    exact Nat.le_of_ble_eq_true rfl
  intro p e R s mi args below meth c Q D A ex nL own cc tys ws av hX C hnL KRi KRv KRa
  subst hnL
  obtain ⟨h1, h2, h3, h4⟩ := hX
  subst h1
  subst h2
  subst h3
  subst h4
  have hf0 : ∀ k, 0 ≤ (fT k).toInt ∨ 340 ≤ k := fun k => by
    rcases Nat.lt_or_ge k 340 with h | h
    · exact Or.inl (hf k h).1
    · exact Or.inr h
  have rf0 : zo_fr P ws ws := fun _ _ => rfl
  refine zj_iload_n C (List.mem_of_getElem? (i := 0) rfl) rfl rfl rfl ?_
  refine zj_bipush (v := 8) C (List.mem_of_getElem? (i := 1) rfl) rfl (by decide) ?_
  refine zj_icmp_lt (tgt := 18) C (List.mem_of_getElem? (i := 2) rfl) rfl (by decide) (fun b1 => ?_) (fun b1 => ?_)
  · have b1 : t < 8 := (nI_ltI (a := t) (b := 8) (by omega) (by decide)).mp b1
    refine zj_iconst (v := 0) C (List.mem_of_getElem? (i := 10) rfl) rfl (by decide) ?_
    exact KRi 19 _ _ _ (List.mem_of_getElem? (i := 11) rfl) (by decide) (Or.inr ⟨rfl, Or.inl rfl⟩) rfl ⟨rf0, Or.inr ⟨rfl, fun h => by have := h.1; omega, rl, ho⟩⟩
  have b1 : ¬ t < 8 := fun h => b1 ((nI_ltI (a := t) (b := 8) (by omega) (by decide)).mpr h)
  refine zj_iload_n C (List.mem_of_getElem? (i := 3) rfl) rfl rfl rfl ?_
  refine zj_bipush (v := 36) C (List.mem_of_getElem? (i := 4) rfl) rfl (by decide) ?_
  refine zj_icmp_gt (tgt := 18) C (List.mem_of_getElem? (i := 5) rfl) rfl (by decide) (fun b2 => ?_) (fun b2 => ?_)
  · have b2 : 36 < t := (nI_ltI (a := 36) (b := t) (by decide) (by omega)).mp b2
    refine zj_iconst (v := 0) C (List.mem_of_getElem? (i := 10) rfl) rfl (by decide) ?_
    exact KRi 19 _ _ _ (List.mem_of_getElem? (i := 11) rfl) (by decide) (Or.inr ⟨rfl, Or.inl rfl⟩) rfl ⟨rf0, Or.inr ⟨rfl, fun h => by have := h.1; omega, rl, ho⟩⟩
  have b2 : ¬ 36 < t := fun h => b2 ((nI_ltI (a := 36) (b := t) (by decide) (by omega)).mpr h)
  refine zj_iload_n C (List.mem_of_getElem? (i := 6) rfl) rfl rfl rfl ?_
  refine zj_iconst (v := 4) C (List.mem_of_getElem? (i := 7) rfl) rfl (by decide) ?_
  refine zj_irem (v := (nI (t % 4))) C (List.mem_of_getElem? (i := 8) rfl) rfl (by decide) (pk_rem (d := 4) (by omega) (by decide) (by decide)) ?_
  refine zj_if_eq (tgt := 20) C (List.mem_of_getElem? (i := 9) rfl) rfl (by decide) (fun b3 => ?_) (fun b3 => ?_)
  rotate_left
  · have b3 : ¬ t % 4 = 0 := fun h => b3 (by rw [h]; rfl)
    refine zj_iconst (v := 0) C (List.mem_of_getElem? (i := 10) rfl) rfl (by decide) ?_
    exact KRi 19 _ _ _ (List.mem_of_getElem? (i := 11) rfl) (by decide) (Or.inr ⟨rfl, Or.inl rfl⟩) rfl ⟨rf0, Or.inr ⟨rfl, fun h => by have := h.1; omega, rl, ho⟩⟩
  have b3 : t % 4 = 0 := by
    have h1 := congrArg Int32.toInt b3
    rw [nI_toInt (by omega)] at h1
    have h2 : (0 : Int32).toInt = 0 := rfl
    omega
  have roles : ∀ (N r : Nat) (ws1 : va_W), r + N = t / 4 - 1 → zo_O tys ws1 P a h0 h1 h2 (nI (t / 4 - 1)) h4 → zj_row tys ws1 1 aT 340 .int fT → zo_fr P ws ws1 → zx_as ws1 = zx_as ws → (∀ k, k < 4 + 4 * r → zo_lo k ≤ (fT k).toInt ∧ (fT k).toInt ≤ zo_hi k) → zj_go p l e R s mi args below meth c Q D A (zx_mV zx_m19.2.1) 66 [(3, .int (nI r)), (0, .ref a), (1, .ref aT), (2, .int (nI t))] [] ws1 := by
    intro N
    induction N with
    | zero =>
      intro r ws1 hr ho1 hT1 hF1 hA1 hk
      have hr : r = t / 4 - 1 := by omega
      subst hr
      have ho11 := ho1
      obtain ⟨b5, b6, b7, b8, b9, hp, hrest⟩ := ho1
      refine zj_iload_n C (List.mem_of_getElem? (i := 43) rfl) rfl rfl rfl ?_
      refine zj_aload_n C (List.mem_of_getElem? (i := 44) rfl) rfl rfl rfl ?_
      refine zj_get C (List.mem_of_getElem? (i := 45) rfl) rfl rfl hp rfl rfl ?_
      refine zj_icmp_ge (tgt := 96) C (List.mem_of_getElem? (i := 46) rfl) rfl (by decide) (fun hq => ?_) (fun hq => ?_)
      rotate_left
      · exact absurd (Int32.le_refl _) hq
      refine zj_iconst (v := 1) C (List.mem_of_getElem? (i := 61) rfl) rfl (by decide) ?_
      exact KRi 97 _ _ _ (List.mem_of_getElem? (i := 62) rfl) (by decide) (Or.inr ⟨rfl, Or.inr rfl⟩) hA1 ⟨hF1, Or.inl ⟨rfl, ⟨⟨by omega, by omega, b3⟩, fun k h => hk k (by omega)⟩, ho11⟩⟩
    | succ N ih =>
      intro r ws1 hr ho1 hT1 hF1 hA1 hk
      have ho11 := ho1
      obtain ⟨b5, b6, b7, b8, b9, hp, hrest⟩ := ho1
      refine zj_iload_n C (List.mem_of_getElem? (i := 43) rfl) rfl rfl rfl ?_
      refine zj_aload_n C (List.mem_of_getElem? (i := 44) rfl) rfl rfl rfl ?_
      refine zj_get C (List.mem_of_getElem? (i := 45) rfl) rfl rfl hp rfl rfl ?_
      refine zj_icmp_ge (tgt := 96) C (List.mem_of_getElem? (i := 46) rfl) rfl (by decide) (fun hq => ?_) (fun hq => ?_)
      · exact absurd ((nI_leI (a := t / 4 - 1) (b := r) (by omega) (by omega)).mp hq) (by omega)
      refine zj_aload_n C (List.mem_of_getElem? (i := 47) rfl) rfl rfl rfl ?_
      refine zj_iload_n C (List.mem_of_getElem? (i := 48) rfl) rfl rfl rfl ?_
      refine zj_aload_n C (List.mem_of_getElem? (i := 49) rfl) rfl rfl rfl ?_
      refine zj_iconst (v := 4) C (List.mem_of_getElem? (i := 50) rfl) rfl (by decide) ?_
      refine zj_iconst (v := 4) C (List.mem_of_getElem? (i := 51) rfl) rfl (by decide) ?_
      refine zj_iload_n C (List.mem_of_getElem? (i := 52) rfl) rfl rfl rfl ?_
      refine zj_imul (v := (nI (4 * r))) C (List.mem_of_getElem? (i := 53) rfl) rfl (pk_mul 4 r) ?_
      refine zj_iadd (v := (nI (4 + 4 * r))) C (List.mem_of_getElem? (i := 54) rfl) rfl (nI_add 4 (4 * r)) ?_
      refine zj_callV (As := [.int (nI r), .ref aT, .int (nI (4 + 4 * r))]) (rest := []) C (List.mem_of_getElem? (i := 55) rfl) rfl rfl rfl (by decide) (zm_W_mono (zo_role_W (r := r) (m := 4 + 4 * r) (by omega) (by omega) hP hT1 ho11) (by decide)) rfl rfl hp rfl (Nat.le_of_ble_eq_true rfl) rfl ⟨rfl, rfl, rfl, rfl⟩ (fun v w2 hw2A hw2Z => ?_)
      obtain ⟨ho2, hF2, hv⟩ := hw2Z
      have hT2 := zm_row_keep hT1 (hF2 1 (by omega))
      rcases hv with ⟨hv, hg⟩ | ⟨hv, hg⟩
      · subst hv
        refine zj_if_ne (tgt := 90) C (List.mem_of_getElem? (i := 56) rfl) rfl (by decide) (fun hd => ?_) (fun hd => ?_)
        rotate_left
        · exact absurd hd (by decide)
        refine zj_iinc (k := 0) (v := (nI (r + 1))) C (List.mem_of_getElem? (i := 59) rfl) rfl rfl (nI_succ r).symm (by decide) rfl ?_
        refine zj_goto (tgt := 66) C (List.mem_of_getElem? (i := 60) rfl) (by decide) ?_
        refine ih (r + 1) w2 (by omega) ho2 hT2 (zo_fr_tr hF1 hF2) (hw2A.trans hA1) (fun k h => ?_)
        rcases Nat.lt_or_ge k (4 + 4 * r) with h3 | h3
        · exact hk k h3
        · exact zo_good (g := fun k => (fT k).toInt) hf0 (by omega) hg k h3 (by omega)
      · subst hv
        refine zj_if_ne (tgt := 90) C (List.mem_of_getElem? (i := 56) rfl) rfl (by decide) (fun hd => ?_) (fun hd => ?_)
        · exact absurd rfl hd
        refine zj_iconst (v := 0) C (List.mem_of_getElem? (i := 57) rfl) rfl (by decide) ?_
        exact KRi 89 _ _ _ (List.mem_of_getElem? (i := 58) rfl) (by decide) (Or.inr ⟨rfl, Or.inl rfl⟩) (hw2A.trans hA1) ⟨zo_fr_tr hF1 hF2, Or.inr ⟨rfl, fun h => hg (zo_bad (g := fun k => (fT k).toInt) (fun k h3 h4 => h.2 k (by omega))), _, ho2⟩⟩
  have seats : ∀ (N j : Nat) (ws1 : va_W), j + N = 4 → zo_O tys ws1 P a h0 h1 h2 rl h4 → zj_row tys ws1 1 aT 340 .int fT → zo_fr P ws ws1 → zx_as ws1 = zx_as ws → (∀ k, k < j → zo_lo k ≤ (fT k).toInt ∧ (fT k).toInt ≤ zo_hi k) → zj_go p l e R s mi args below meth c Q D A (zx_mV zx_m19.2.1) 22 [(3, .int (nI j)), (0, .ref a), (1, .ref aT), (2, .int (nI t))] [] ws1 := by
    intro N
    induction N with
    | zero =>
      intro j ws1 hj ho1 hT1 hF1 hA1 hk
      have hj : j = 4 := by omega
      subst hj
      have ho11 := ho1
      obtain ⟨b5, b6, b7, b8, b9, hp, ⟨fS, hS⟩, hrest⟩ := ho1
      refine zj_iload_n C (List.mem_of_getElem? (i := 14) rfl) rfl rfl rfl ?_
      refine zj_iconst (v := 4) C (List.mem_of_getElem? (i := 15) rfl) rfl (by decide) ?_
      refine zj_icmp_ge (tgt := 55) C (List.mem_of_getElem? (i := 16) rfl) rfl (by decide) (fun hq => ?_) (fun hq => ?_)
      rotate_left
      · exact absurd (Int32.le_refl _) hq
      refine zj_aload_n C (List.mem_of_getElem? (i := 34) rfl) rfl rfl rfl ?_
      refine zj_iload_n C (List.mem_of_getElem? (i := 35) rfl) rfl rfl rfl ?_
      refine zj_iconst (v := 4) C (List.mem_of_getElem? (i := 36) rfl) rfl (by decide) ?_
      refine zj_idiv (v := (nI (t / 4))) C (List.mem_of_getElem? (i := 37) rfl) rfl (by decide) (pk_div (d := 4) (by omega) (by decide) (by decide)) ?_
      refine zj_iconst (v := 1) C (List.mem_of_getElem? (i := 38) rfl) rfl (by decide) ?_
      refine zj_isub (v := (nI (t / 4 - 1))) C (List.mem_of_getElem? (i := 39) rfl) rfl (pk_sub (a := t / 4) (b := 1) (by omega)) ?_
      refine zj_put C (List.mem_of_getElem? (i := 40) rfl) rfl rfl hp rfl (Nat.le_of_ble_eq_true rfl) rfl (zm_fit_i rfl _) ?_
      have hnx : ∀ i, i ≠ P → (ws1.set P (a, .inr (6, [.int h0, .int h1, .int h2, .int (nI (t / 4 - 1)), .int h4, .ref b5, .ref b6, .ref b7, .ref b8, .ref b9])))[i]? = ws1[i]? := fun i hi => List.getElem?_set_ne (Ne.symm hi)
      have hAx : zx_as (ws1.set P (a, .inr (6, [.int h0, .int h1, .int h2, .int (nI (t / 4 - 1)), .int h4, .ref b5, .ref b6, .ref b7, .ref b8, .ref b9]))) = zx_as ws1 := zx_as_set hp
      have hsx : (ws1.set P (a, .inr (6, [.int h0, .int h1, .int h2, .int (nI (t / 4 - 1)), .int h4, .ref b5, .ref b6, .ref b7, .ref b8, .ref b9])))[P]? = some (a, .inr (6, [.int h0, .int h1, .int h2, .int (nI (t / 4 - 1)), .int h4, .ref b5, .ref b6, .ref b7, .ref b8, .ref b9])) := zm_set_self hp
      show zj_go p l e R s mi args below meth c Q D A _ _ _ _ (ws1.set P (a, .inr (6, [.int h0, .int h1, .int h2, .int (nI (t / 4 - 1)), .int h4, .ref b5, .ref b6, .ref b7, .ref b8, .ref b9])))
      generalize ws1.set P (a, .inr (6, [.int h0, .int h1, .int h2, .int (nI (t / 4 - 1)), .int h4, .ref b5, .ref b6, .ref b7, .ref b8, .ref b9])) = x at hnx hAx hsx ⊢
      obtain ⟨⟨f2, r2⟩, ⟨f3, r3⟩, ⟨f4, r4⟩, f5, r5⟩ := hrest
      have hox : zo_O tys x P a h0 h1 h2 (nI (t / 4 - 1)) h4 := ⟨b5, b6, b7, b8, b9, hsx, ⟨fS, zm_row_keep hS (hnx _ (by omega))⟩, ⟨f2, zm_row_keep r2 (hnx _ (by omega))⟩, ⟨f3, zm_row_keep r3 (hnx _ (by omega))⟩, ⟨f4, zm_row_keep r4 (hnx _ (by omega))⟩, f5, zm_row_keep r5 (hnx _ (by omega))⟩
      refine zj_iconst (v := 0) C (List.mem_of_getElem? (i := 41) rfl) rfl (by decide) ?_
      refine zj_istore_n C (List.mem_of_getElem? (i := 42) rfl) rfl rfl (by decide) rfl ?_
      exact roles (t / 4 - 1) 0 x (by omega) hox (zm_row_keep hT1 (hnx 1 (by omega))) (zo_fr_tr hF1 (fun i hi => hnx i (by omega))) (hAx.trans hA1) (fun k h => hk k (by omega))
    | succ N ih =>
      intro j ws1 hj ho1 hT1 hF1 hA1 hk
      have ho11 := ho1
      obtain ⟨b5, b6, b7, b8, b9, hp, ⟨fS, hS⟩, hrest⟩ := ho1
      refine zj_iload_n C (List.mem_of_getElem? (i := 14) rfl) rfl rfl rfl ?_
      refine zj_iconst (v := 4) C (List.mem_of_getElem? (i := 15) rfl) rfl (by decide) ?_
      refine zj_icmp_ge (tgt := 55) C (List.mem_of_getElem? (i := 16) rfl) rfl (by decide) (fun hq => ?_) (fun hq => ?_)
      · exact absurd ((nI_leI (a := 4) (b := j) (by decide) (by omega)).mp hq) (by omega)
      refine zj_aload_n C (List.mem_of_getElem? (i := 17) rfl) rfl rfl rfl ?_
      refine zj_get C (List.mem_of_getElem? (i := 18) rfl) rfl rfl hp rfl rfl ?_
      refine zj_iload_n C (List.mem_of_getElem? (i := 19) rfl) rfl rfl rfl ?_
      refine zj_aload_n C (List.mem_of_getElem? (i := 20) rfl) rfl rfl rfl ?_
      refine zj_iload_n C (List.mem_of_getElem? (i := 21) rfl) rfl rfl rfl ?_
      refine zj_iald (v := (fT j)) C (List.mem_of_getElem? (i := 22) rfl) rfl hT1 (zm_in (N := 340) (by omega) (by decide)) (by rw [nI_clamp (by omega)]) ?_
      refine zj_iast C (List.mem_of_getElem? (i := 23) rfl) rfl hS (zm_in (N := 4) (by omega) (by decide)) (fun cA hcA => ?_)
      rw [nI_clamp (by omega : j < 2 ^ 31)]
      have hnx : ∀ i, i ≠ P + 1 → (ws1.set (P + 1) (b5, .inl (cA, 4, .inl (upd fS j (fT j)))))[i]? = ws1[i]? := fun i hi => List.getElem?_set_ne (Ne.symm hi)
      have hAx : zx_as (ws1.set (P + 1) (b5, .inl (cA, 4, .inl (upd fS j (fT j))))) = zx_as ws1 := zx_as_set hcA
      have hrx := zm_row_set (g := upd fS j (fT j)) hS hcA
      generalize ws1.set (P + 1) (b5, .inl (cA, 4, .inl (upd fS j (fT j)))) = x at hnx hAx hrx ⊢
      have px := (hnx P (by omega)).trans hp
      obtain ⟨⟨f2, r2⟩, ⟨f3, r3⟩, ⟨f4, r4⟩, f5, r5⟩ := hrest
      have hox : zo_O tys x P a h0 h1 h2 rl h4 := ⟨b5, b6, b7, b8, b9, px, ⟨_, hrx⟩, ⟨f2, zm_row_keep r2 (hnx _ (by omega))⟩, ⟨f3, zm_row_keep r3 (hnx _ (by omega))⟩, ⟨f4, zm_row_keep r4 (hnx _ (by omega))⟩, f5, zm_row_keep r5 (hnx _ (by omega))⟩
      have hFx : zo_fr P ws x := zo_fr_tr hF1 (fun i hi => hnx i (by omega))
      refine zj_aload_n C (List.mem_of_getElem? (i := 24) rfl) rfl rfl rfl ?_
      refine zj_get C (List.mem_of_getElem? (i := 25) rfl) rfl rfl px rfl rfl ?_
      refine zj_iload_n C (List.mem_of_getElem? (i := 26) rfl) rfl rfl rfl ?_
      refine zj_iald (v := (fT j)) C (List.mem_of_getElem? (i := 27) rfl) rfl hrx (zm_in (N := 4) (by omega) (by decide)) (by rw [nI_clamp (by omega)]; simp [upd]) ?_
      refine zj_bipush (v := 40) C (List.mem_of_getElem? (i := 28) rfl) rfl (by decide) ?_
      refine zj_icmp_le (tgt := 49) C (List.mem_of_getElem? (i := 29) rfl) rfl (by decide) (fun hb => ?_) (fun hb => ?_)
      rotate_left
      · have hb : ¬ (fT j).toInt ≤ (40 : Int32).toInt := fun h => hb (Int32.le_iff_toInt_le.mpr h)
        have c40 : (40 : Int32).toInt = 40 := rfl
        refine zj_iconst (v := 0) C (List.mem_of_getElem? (i := 30) rfl) rfl (by decide) ?_
        exact KRi 48 _ _ _ (List.mem_of_getElem? (i := 31) rfl) (by decide) (Or.inr ⟨rfl, Or.inl rfl⟩) (hAx.trans hA1) ⟨hFx, Or.inr ⟨rfl, fun h => by have h3 : (fT j).toInt ≤ zo_hi j := (h.2 j (by omega)).2; unfold zo_hi at h3; rw [if_pos (by omega)] at h3; omega, _, hox⟩⟩
      have hb : (fT j).toInt ≤ (40 : Int32).toInt := Int32.le_iff_toInt_le.mp hb
      have c40 : (40 : Int32).toInt = 40 := rfl
      refine zj_iinc (k := 0) (v := (nI (j + 1))) C (List.mem_of_getElem? (i := 32) rfl) rfl rfl (nI_succ j).symm (by decide) rfl ?_
      refine zj_goto (tgt := 22) C (List.mem_of_getElem? (i := 33) rfl) (by decide) ?_
      refine ih (j + 1) x (by omega) hox (zm_row_keep hT1 (hnx 1 (by omega))) hFx (hAx.trans hA1) (fun k h => ?_)
      rcases Nat.lt_or_ge k j with h3 | h3
      · exact hk k h3
      · have h4 : k = j := by omega
        subst h4
        have h5 := (hf k (by omega)).1
        unfold zo_lo zo_hi
        rw [if_pos (by omega), if_pos (by omega)]
        omega
  refine zj_iconst (v := 0) C (List.mem_of_getElem? (i := 12) rfl) rfl (by decide) ?_
  refine zj_istore_n C (List.mem_of_getElem? (i := 13) rfl) rfl rfl (by decide) rfl ?_
  exact seats 4 0 ws rfl ho hT rf0 rfl (fun k h => absurd h (Nat.not_lt_zero _))
end
