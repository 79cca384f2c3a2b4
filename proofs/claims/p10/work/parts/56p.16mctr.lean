noncomputable section
/-! zj: the reference's contract -/
theorem zj_nI_mul (a b : Nat) : nI a * nI b = nI (a * b) := (Int32.ofNat_mul a b).symm
/-- what is known of the reference before -/
def zj_ME (M : zj_M) (ln sg : Int32) (L : List (Nat × Value)) : List (Nat × Value) := (2, .int ln) :: (22, .int sg) :: L
theorem zj_taken_W {l : Launch} {M : zj_M} {ws0 : va_W} {S : Nat} {sz pp at_ tok sp nu ft fa td on sm pm : Int32} {wd : Int64} {fv fe pf : Nat → Int32} (hM : zj_ms M ws0 (zj_ME M (nI M.t) (nI S) (zj_ML M sz pp tok at_ sp nu wd ft fa td on sm pm)) fv fe pf) : zj_W l 1 143 (zj_MX M [.ref M.aM] ws0) (fun _ _ _ v ws' => v = none ∧ zj_ms M ws' (zj_ME M 0 (nI S) (zj_ML M (nI M.t) 0 tok at_ sp nu wd ft fa td on sm pm)) fv fe pf) := by
  refine zj_enterO (md := zx_m143) (ow := zx_oc13) rfl rfl rfl ?_ ?_
  · rintro ex tys av ws ⟨-, rfl, -⟩
    exact Nat.le_of_ble_eq_true rfl
  intro p e R s mi args below meth c Q D A ex nL own cc tys ws av hX C hnL hown KRi KRv KRa
  subst hnL
  obtain ⟨h2, h3, h4⟩ := hX
  subst h2
  subst h3
  subst h4
  refine zj_aload_n C (List.mem_of_getElem? (i := 0) rfl) rfl rfl rfl ?_
  refine zj_aload_n C (List.mem_of_getElem? (i := 1) rfl) rfl rfl rfl ?_
  refine zj_getM C (List.mem_of_getElem? (i := 2) rfl) rfl rfl rfl hM rfl ?_
  refine zj_putM (L' := (zj_ME M (nI M.t) (nI S) (zj_ML M (nI M.t) pp tok at_ sp nu wd ft fa td on sm pm))) C (List.mem_of_getElem? (i := 3) rfl) rfl rfl rfl hM (Nat.le_of_ble_eq_true rfl) (by decide) rfl (zj_fit_i rfl _) (by unfold zj_ME zj_ML; repeat first | exact zj_sub_nil | refine zj_sub_cons rfl ?_) (fun w2 hw2M hw2A => ?_)
  refine zj_aload_n C (List.mem_of_getElem? (i := 4) rfl) rfl rfl rfl ?_
  refine zj_iconst (v := 0) C (List.mem_of_getElem? (i := 5) rfl) rfl (by decide) ?_
  refine zj_putM (L' := (zj_ME M 0 (nI S) (zj_ML M (nI M.t) pp tok at_ sp nu wd ft fa td on sm pm))) C (List.mem_of_getElem? (i := 6) rfl) rfl rfl rfl hw2M (Nat.le_of_ble_eq_true rfl) (by decide) rfl (zj_fit_i rfl _) (by unfold zj_ME zj_ML; repeat first | exact zj_sub_nil | refine zj_sub_cons rfl ?_) (fun w3 hw3M hw3A => ?_)
  refine zj_aload_n C (List.mem_of_getElem? (i := 7) rfl) rfl rfl rfl ?_
  refine zj_iconst (v := 0) C (List.mem_of_getElem? (i := 8) rfl) rfl (by decide) ?_
  refine zj_putM (L' := (zj_ME M 0 (nI S) (zj_ML M (nI M.t) 0 tok at_ sp nu wd ft fa td on sm pm))) C (List.mem_of_getElem? (i := 9) rfl) rfl rfl rfl hw3M (Nat.le_of_ble_eq_true rfl) (by decide) rfl (zj_fit_i rfl _) (by unfold zj_ME zj_ML; repeat first | exact zj_sub_nil | refine zj_sub_cons rfl ?_) (fun w4 hw4M hw4A => ?_)
  exact KRv 18 _ _ (List.mem_of_getElem? (i := 10) rfl) rfl (hw4A.trans (hw3A.trans hw2A)) ⟨rfl, hw4M⟩
theorem zj_isSingerM_W {l : Launch} {M : zj_M} {ws0 : va_W} {S : Nat} {ln xs : Int32} {sz pp at_ tok sp nu ft fa td on sm pm : Int32} {wd : Int64} {fv fe pf : Nat → Int32} (hM : zj_ms M ws0 (zj_ME M ln (nI S) (zj_ML M sz pp tok at_ sp nu wd ft fa td on sm pm)) fv fe pf) (hS : S ≤ 20) : zj_W l 2 149 (zj_MX M [.ref M.aM, .int xs] ws0) (fun _ _ _ v ws' => ws0 = ws' ∧ ((v = some (.int 1) ∧ (0 ≤ xs.toInt ∧ xs.toInt < (S : Int))) ∨ (v = some (.int 0) ∧ ¬ (0 ≤ xs.toInt ∧ xs.toInt < (S : Int))))) := by
  refine zj_enterO (md := zx_m149) (ow := zx_oc13) rfl rfl rfl ?_ ?_
  · rintro ex tys av ws ⟨-, rfl, -⟩
    exact Nat.le_of_ble_eq_true rfl
  intro p e R s mi args below meth c Q D A ex nL own cc tys ws av hX C hnL hown KRi KRv KRa
  subst hnL
  obtain ⟨h2, h3, h4⟩ := hX
  subst h2
  subst h3
  subst h4
  have hs1 : (nI S - 1).toInt = (S : Int) - 1 := by
    have h1 : (nI S).toInt = (S : Int) := nI_toInt (by omega)
    have e1 : (1 : Int32).toInt = 1 := rfl
    rw [zx_subI _ _ (by rw [h1, e1]; omega) (by rw [h1, e1]; omega), h1, e1]
  refine zj_iload_n C (List.mem_of_getElem? (i := 0) rfl) rfl rfl rfl ?_
  refine zj_iconst (v := 0) C (List.mem_of_getElem? (i := 1) rfl) rfl (by decide) ?_
  refine zj_aload_n C (List.mem_of_getElem? (i := 2) rfl) rfl rfl rfl ?_
  refine zj_getM C (List.mem_of_getElem? (i := 3) rfl) rfl rfl rfl hM rfl ?_
  refine zj_iconst (v := 1) C (List.mem_of_getElem? (i := 4) rfl) rfl (by decide) ?_
  refine zj_isub (v := ((nI S) - 1)) C (List.mem_of_getElem? (i := 5) rfl) rfl rfl ?_
  refine zj_callS (As := [.int xs, .int 0, .int (nI S - 1)]) (rest := []) C (List.mem_of_getElem? (i := 6) rfl) rfl rfl (Or.inl rfl) (zj_W_mono (zj_isIn_W (M := M) (ws0 := ws) (x := xs) (lo := 0) (hi := nI S - 1)) (by decide)) rfl rfl (Nat.le_of_ble_eq_true rfl) rfl ⟨rfl, rfl, rfl⟩ (fun v w2 hw2A hw2Z => ?_)
  obtain ⟨hw, hv⟩ := hw2Z
  subst hw
  rw [hs1] at hv
  rcases hv with ⟨hv, hc⟩ | ⟨hv, hc⟩
  · subst hv
    exact KRi 11 _ _ _ (List.mem_of_getElem? (i := 7) rfl) (by decide) (Or.inr ⟨rfl, Or.inr rfl⟩) rfl ⟨rfl, Or.inl ⟨rfl, hc.1, by omega⟩⟩
  subst hv
  exact KRi 11 _ _ _ (List.mem_of_getElem? (i := 7) rfl) (by decide) (Or.inr ⟨rfl, Or.inl rfl⟩) rfl ⟨rfl, Or.inr ⟨rfl, fun h => hc ⟨h.1, by omega⟩⟩⟩
theorem zj_plain_W {l : Launch} {M : zj_M} {ws0 : va_W} {L : List (Nat × Value)} {fv fe pf : Nat → Int32} (hM : zj_ms M ws0 L fv fe pf) (h25 : zj_lk L 25 = some (.ref (M.ad 25))) (h26 : zj_lk L 26 = some (.ref (M.ad 26))) (h29 : zj_lk L 29 = some (.ref (M.ad 29))) : zj_W l 1 145 (zj_MX M [.ref M.aM, .int (nI 20)] ws0) (fun _ _ _ v ws' => v = none ∧ zj_ms M ws' L (upd fv 20 0) (upd fe 20 0) pf) := by
  refine zj_enterO (md := zx_m145) (ow := zx_oc13) rfl rfl rfl ?_ ?_
  · rintro ex tys av ws ⟨-, rfl, -⟩
    exact Nat.le_of_ble_eq_true rfl
  intro p e R s mi args below meth c Q D A ex nL own cc tys ws av hX C hnL hown KRi KRv KRa
  subst hnL
  obtain ⟨h2, h3, h4⟩ := hX
  subst h2
  subst h3
  subst h4
  refine zj_aload_n C (List.mem_of_getElem? (i := 0) rfl) rfl rfl rfl ?_
  refine zj_getM C (List.mem_of_getElem? (i := 1) rfl) rfl rfl rfl hM h25 ?_
  refine zj_iconst (v := 4) C (List.mem_of_getElem? (i := 2) rfl) rfl (by decide) ?_
  refine zj_iload_n C (List.mem_of_getElem? (i := 3) rfl) rfl rfl rfl ?_
  refine zj_imul (v := (nI 80)) C (List.mem_of_getElem? (i := 4) rfl) rfl (zj_nI_mul 4 20) ?_
  refine zj_bipush (v := 12) C (List.mem_of_getElem? (i := 5) rfl) rfl (by decide) ?_
  refine zj_iasM (k := 25) (pl := 234) (N := 84) C (List.mem_of_getElem? (i := 6) rfl) rfl (by decide) hM (vp_in_nI (by decide) (by decide)) (fun w2 hw2M hw2A => ?_)
  refine zj_aload_n C (List.mem_of_getElem? (i := 7) rfl) rfl rfl rfl ?_
  refine zj_getM C (List.mem_of_getElem? (i := 8) rfl) rfl rfl rfl hw2M h25 ?_
  refine zj_iconst (v := 4) C (List.mem_of_getElem? (i := 9) rfl) rfl (by decide) ?_
  refine zj_iload_n C (List.mem_of_getElem? (i := 10) rfl) rfl rfl rfl ?_
  refine zj_imul (v := (nI 80)) C (List.mem_of_getElem? (i := 11) rfl) rfl (zj_nI_mul 4 20) ?_
  refine zj_iconst (v := 1) C (List.mem_of_getElem? (i := 12) rfl) rfl (by decide) ?_
  refine zj_iadd (v := (nI 81)) C (List.mem_of_getElem? (i := 13) rfl) rfl (nI_add 80 1) ?_
  refine zj_bipush (v := 8) C (List.mem_of_getElem? (i := 14) rfl) rfl (by decide) ?_
  refine zj_iasM (k := 25) (pl := 234) (N := 84) C (List.mem_of_getElem? (i := 15) rfl) rfl (by decide) hw2M (vp_in_nI (by decide) (by decide)) (fun w3 hw3M hw3A => ?_)
  refine zj_aload_n C (List.mem_of_getElem? (i := 16) rfl) rfl rfl rfl ?_
  refine zj_getM C (List.mem_of_getElem? (i := 17) rfl) rfl rfl rfl hw3M h25 ?_
  refine zj_iconst (v := 4) C (List.mem_of_getElem? (i := 18) rfl) rfl (by decide) ?_
  refine zj_iload_n C (List.mem_of_getElem? (i := 19) rfl) rfl rfl rfl ?_
  refine zj_imul (v := (nI 80)) C (List.mem_of_getElem? (i := 20) rfl) rfl (zj_nI_mul 4 20) ?_
  refine zj_iconst (v := 2) C (List.mem_of_getElem? (i := 21) rfl) rfl (by decide) ?_
  refine zj_iadd (v := (nI 82)) C (List.mem_of_getElem? (i := 22) rfl) rfl (nI_add 80 2) ?_
  refine zj_iconst (v := 4) C (List.mem_of_getElem? (i := 23) rfl) rfl (by decide) ?_
  refine zj_iasM (k := 25) (pl := 234) (N := 84) C (List.mem_of_getElem? (i := 24) rfl) rfl (by decide) hw3M (vp_in_nI (by decide) (by decide)) (fun w4 hw4M hw4A => ?_)
  refine zj_aload_n C (List.mem_of_getElem? (i := 25) rfl) rfl rfl rfl ?_
  refine zj_getM C (List.mem_of_getElem? (i := 26) rfl) rfl rfl rfl hw4M h25 ?_
  refine zj_iconst (v := 4) C (List.mem_of_getElem? (i := 27) rfl) rfl (by decide) ?_
  refine zj_iload_n C (List.mem_of_getElem? (i := 28) rfl) rfl rfl rfl ?_
  refine zj_imul (v := (4 * (nI 20))) C (List.mem_of_getElem? (i := 29) rfl) rfl rfl ?_
  refine zj_iconst (v := 3) C (List.mem_of_getElem? (i := 30) rfl) rfl (by decide) ?_
  refine zj_iadd (v := ((4 * (nI 20)) + 3)) C (List.mem_of_getElem? (i := 31) rfl) rfl rfl ?_
  refine zj_bipush (v := 100) C (List.mem_of_getElem? (i := 32) rfl) rfl (by decide) ?_
  refine zj_iasM (k := 25) (pl := 234) (N := 84) C (List.mem_of_getElem? (i := 33) rfl) rfl (by decide) hw4M (vp_in_nI (by decide) (by decide)) (fun w5 hw5M hw5A => ?_)
  refine zj_aload_n C (List.mem_of_getElem? (i := 34) rfl) rfl rfl rfl ?_
  refine zj_getM C (List.mem_of_getElem? (i := 35) rfl) rfl rfl rfl hw5M h26 ?_
  refine zj_iload_n C (List.mem_of_getElem? (i := 36) rfl) rfl rfl rfl ?_
  refine zj_iconst (v := 0) C (List.mem_of_getElem? (i := 37) rfl) rfl (by decide) ?_
  refine zj_iasV C (List.mem_of_getElem? (i := 38) rfl) rfl hw5M (vp_in_nI (by decide) (by decide)) (fun w6 hw6M hw6A => ?_)
  rw [nI_clamp (by decide)] at hw6M
  refine zj_aload_n C (List.mem_of_getElem? (i := 39) rfl) rfl rfl rfl ?_
  refine zj_getM C (List.mem_of_getElem? (i := 40) rfl) rfl rfl rfl hw6M h29 ?_
  refine zj_iload_n C (List.mem_of_getElem? (i := 41) rfl) rfl rfl rfl ?_
  refine zj_iconst (v := 0) C (List.mem_of_getElem? (i := 42) rfl) rfl (by decide) ?_
  refine zj_iasE C (List.mem_of_getElem? (i := 43) rfl) rfl hw6M (vp_in_nI (by decide) (by decide)) (fun w7 hw7M hw7A => ?_)
  rw [nI_clamp (by decide)] at hw7M
  exact KRv 59 _ _ (List.mem_of_getElem? (i := 44) rfl) rfl (hw7A.trans (hw6A.trans (hw5A.trans (hw4A.trans (hw3A.trans hw2A))))) ⟨rfl, hw7M⟩
set_option maxHeartbeats 8000000 in
theorem zj_contractM_W {l : Launch} {M : zj_M} {ws0 : va_W} {S : Nat} {xs : Int32} {sz pp at_ tok sp nu ft fa td on sm pm : Int32} {wd : Int64} {fv fe pf : Nat → Int32} (hB : zj_Mok M) (hM0 : zj_ms M ws0 (zj_ME M (nI M.t) (nI S) (zj_ML M sz pp tok at_ sp nu wd ft fa td on sm pm)) fv fe pf) (hS : S ≤ 20) : zj_W l 10 148 (zj_MX M [.ref M.aM, .int xs] ws0) (fun _ _ _ v ws' => ((0 ≤ xs.toInt ∧ xs.toInt < (S : Int)) → ∃ (a : Int32) (k : Nat) (L : List (Nat × Value)) (fv2 fe2 pf2 : Nat → Int32), v = some (.int a) ∧ zj_R (zj_gM M) M.t (0, zj_tk (zj_gM M) M.t 0, 0, 0, 0, 0, 0, [], 0, 0) (zj_f a.toInt k) ∧ zj_ms M ws' L fv2 fe2 pf2 ∧ zj_lk L 44 = some (.int (nI k))) ∧ (¬ (0 ≤ xs.toInt ∧ xs.toInt < (S : Int)) → v = some (.int (-1000)) ∧ ∃ (L : List (Nat × Value)) (fv2 fe2 pf2 : Nat → Int32), zj_ms M ws' L fv2 fe2 pf2 ∧ zj_lk L 44 = some (.int ft))) := by
  refine zj_enterO (md := zx_m148) (ow := zx_oc13) rfl rfl rfl ?_ ?_
  · rintro ex tys av ws ⟨-, rfl, -⟩
    exact Nat.le_of_ble_eq_true rfl
  intro p e R s mi args below meth c Q D A ex nL own cc tys ws av hX C hnL hown KRi KRv KRa
  subst hnL
  obtain ⟨h2, h3, h4⟩ := hX
  subst h2
  subst h3
  subst h4
  refine zj_aload_n C (List.mem_of_getElem? (i := 0) rfl) rfl rfl rfl ?_
  refine zj_iconst (v := 0) C (List.mem_of_getElem? (i := 1) rfl) rfl (by decide) ?_
  refine zj_putM (L' := (zj_ME M (nI M.t) (nI S) (zj_ML M sz pp tok at_ sp nu wd ft fa td on sm pm))) C (List.mem_of_getElem? (i := 2) rfl) rfl rfl rfl hM0 (Nat.le_of_ble_eq_true rfl) (by decide) rfl (zj_fit_i rfl _) (by unfold zj_ME zj_ML; repeat first | exact zj_sub_nil | refine zj_sub_cons rfl ?_) (fun w2 hw2M hw2A => ?_)
  refine zj_aload_n C (List.mem_of_getElem? (i := 3) rfl) rfl rfl rfl ?_
  have hO := hw2M
  obtain ⟨⟨fsO, hO0, -⟩, -⟩ := hO
  refine zj_callV (As := []) (rest := []) C (List.mem_of_getElem? (i := 4) rfl) rfl rfl rfl (by decide) (zj_W_mono (zj_taken_W hw2M) (by decide)) rfl rfl hO0 rfl (Nat.le_of_ble_eq_true rfl) rfl ⟨rfl, rfl, rfl⟩ (fun v w3 hw3A hw3Z => ?_)
  obtain ⟨hv, hM3⟩ := hw3Z
  subst hv
  refine zj_aload_n C (List.mem_of_getElem? (i := 5) rfl) rfl rfl rfl ?_
  refine zj_iload_n C (List.mem_of_getElem? (i := 6) rfl) rfl rfl rfl ?_
  have hO := hM3
  obtain ⟨⟨fsO, hO0, -⟩, -⟩ := hO
  refine zj_callV (As := [.int xs]) (rest := []) C (List.mem_of_getElem? (i := 7) rfl) rfl rfl rfl (by decide) (zj_W_mono (zj_isSingerM_W (xs := xs) hM3 hS) (by decide)) rfl rfl hO0 rfl (Nat.le_of_ble_eq_true rfl) rfl ⟨rfl, rfl, rfl⟩ (fun v w4 hw4A hw4Z => ?_)
  obtain ⟨hw4e, hv⟩ := hw4Z
  subst hw4e
  have hA3 := hw3A.trans hw2A
  rcases hv with ⟨hv, hc⟩ | ⟨hv, hc⟩
  rotate_left
  · subst hv
    refine zj_if_ne (tgt := 21) C (List.mem_of_getElem? (i := 8) rfl) rfl (by decide) (fun hd => ?_) (fun hd => ?_)
    · exact absurd rfl hd
    refine zj_sipush (v := (-1000)) C (List.mem_of_getElem? (i := 9) rfl) rfl (by decide) ?_
    exact KRi 20 _ _ _ (List.mem_of_getElem? (i := 10) rfl) (by decide) (Or.inl rfl) hA3 ⟨fun h => absurd h hc, fun _ => ⟨rfl, _, _, _, _, hM3, rfl⟩⟩
  subst hv
  refine zj_if_ne (tgt := 21) C (List.mem_of_getElem? (i := 8) rfl) rfl (by decide) (fun hd => ?_) (fun hd => ?_)
  rotate_left
  · exact absurd hd (by decide)
  obtain ⟨s0, hs0, rfl⟩ : ∃ s0 : Nat, s0 < 20 ∧ xs = nI s0 := ⟨xs.toInt.toNat, by omega, (zx_nat hc.1).1⟩
  have DONE : ∀ (v : Option Value) (ws5 : va_W), (∃ (a : Int32) (k : Nat) (L : List (Nat × Value)) (fv2 fe2 pf2 : Nat → Int32), v = some (.int a) ∧ zj_R (zj_gM M) M.t (0, zj_tk (zj_gM M) M.t 0, 0, 0, 0, 0, 0, [], 0, 0) (zj_f a.toInt k) ∧ zj_ms M ws5 L fv2 fe2 pf2 ∧ zj_lk L 44 = some (.int (nI k))) → (((0 ≤ (nI s0).toInt ∧ (nI s0).toInt < (S : Int)) → ∃ (a : Int32) (k : Nat) (L : List (Nat × Value)) (fv2 fe2 pf2 : Nat → Int32), v = some (.int a) ∧ zj_R (zj_gM M) M.t (0, zj_tk (zj_gM M) M.t 0, 0, 0, 0, 0, 0, [], 0, 0) (zj_f a.toInt k) ∧ zj_ms M ws5 L fv2 fe2 pf2 ∧ zj_lk L 44 = some (.int (nI k))) ∧ (¬ (0 ≤ (nI s0).toInt ∧ (nI s0).toInt < (S : Int)) → v = some (.int (-1000)) ∧ ∃ (L : List (Nat × Value)) (fv2 fe2 pf2 : Nat → Int32), zj_ms M ws5 L fv2 fe2 pf2 ∧ zj_lk L 44 = some (.int ft))) := fun v ws5 h => ⟨fun _ => h, fun h2 => absurd hc h2⟩
  have c357 : ∀ (j : Nat) (p9 tok9 at9 sp9 nu9 fa9 td9 on9 pm9 : Int32) (wd9 : Int64) (st n : Nat) (fv9 fe9 pf9 : Nat → Int32) (ws9 : va_W), st ≤ 80 → n ≤ 18 → zx_as ws9 = zx_as ws → zj_ms M ws9 (zj_ML M (nI M.t) p9 tok9 at9 sp9 nu9 wd9 0 fa9 td9 on9 (nI st) pm9) fv9 fe9 pf9 → zj_R (zj_gM M) M.t (0, zj_tk (zj_gM M) M.t 0, 0, 0, 0, 0, 0, [], 0, 0) (zj_f (nI n).toInt 0) → zj_go p l e R s mi args below meth c Q D A (zx_mV zx_m148.2.1) 357 [(3, .int (nI j)), (2, .int (nI n)), (0, .ref M.aM), (1, .int (nI s0))] [] ws9 := by
    intro j
    intro p9 tok9 at9 sp9 nu9 fa9 td9 on9 pm9 wd9 st n fv9 fe9 pf9 ws9 hst hn hA hM r9
    refine zj_aload_n C (List.mem_of_getElem? (i := 218) rfl) rfl rfl rfl ?_
    refine zj_dup C (List.mem_of_getElem? (i := 219) rfl) rfl rfl ?_
    refine zj_get6 C (List.mem_of_getElem? (i := 220) rfl) rfl rfl rfl rfl hM (fun tl => ?_)
    refine zj_iconst (v := 1) C (List.mem_of_getElem? (i := 221) rfl) rfl (by decide) ?_
    refine zj_iadd (v := (tl + 1)) C (List.mem_of_getElem? (i := 222) rfl) rfl rfl ?_
    refine zj_put6 C (List.mem_of_getElem? (i := 223) rfl) rfl rfl rfl rfl hM rfl rfl (by unfold zj_ML; simp) (fun w2 hw2M hw2A => ?_)
    refine zj_iload_n C (List.mem_of_getElem? (i := 224) rfl) rfl rfl rfl ?_
    exact KRi 368 _ _ _ (List.mem_of_getElem? (i := 225) rfl) (by decide) (Or.inl rfl) (hw2A.trans hA) (DONE _ _ ⟨_, 0, _, _, _, _, rfl, r9, hw2M, rfl⟩)
  have hm4 : 4 * s0 < 80 := by omega
  have hm100 : 100 * s0 ≤ 1900 := by omega
  have c280 : ∀ (N j : Nat) (p9 tok9 at9 sp9 nu9 fa9 td9 on9 pm9 : Int32) (wd9 : Int64) (st n : Nat) (fv9 fe9 pf9 : Nat → Int32) (ws9 : va_W), st - j ≤ N → j ≤ st → st ≤ 80 → n ≤ 18 → zx_as ws9 = zx_as ws → zj_ms M ws9 (zj_ML M (nI M.t) p9 tok9 at9 sp9 nu9 wd9 0 fa9 td9 on9 (nI st) pm9) fv9 fe9 pf9 → zj_R (zj_gM M) M.t (0, zj_tk (zj_gM M) M.t 0, 0, 0, 0, 0, 0, [], 0, 0) (zj_f (nI n).toInt 0) → zj_go p l e R s mi args below meth c Q D A (zx_mV zx_m148.2.1) 280 [(3, .int (nI j)), (2, .int (nI n)), (0, .ref M.aM), (1, .int (nI s0))] [] ws9 := by
    intro N
    induction N with
    | zero =>
      intro j p9 tok9 at9 sp9 nu9 fa9 td9 on9 pm9 wd9 st n fv9 fe9 pf9 ws9 hN hj hst hn hA hM r9
      refine zj_iload_n C (List.mem_of_getElem? (i := 170) rfl) rfl rfl rfl ?_
      refine zj_aload_n C (List.mem_of_getElem? (i := 171) rfl) rfl rfl rfl ?_
      refine zj_getM C (List.mem_of_getElem? (i := 172) rfl) rfl rfl rfl hM rfl ?_
      refine zj_icmp_ge (tgt := 357) C (List.mem_of_getElem? (i := 173) rfl) rfl (by decide) (fun hb => ?_) (fun hb => ?_)
      · skip
        exact c357 j p9 tok9 at9 sp9 nu9 fa9 td9 on9 pm9 wd9 st n fv9 fe9 pf9 ws9 hst hn hA hM r9
      have hb : j < st := by
        rcases Nat.lt_or_ge j st with h | h
        · exact h
        · exact absurd (nI_le (a := st) (b := j) h (by omega)) hb
      exact absurd hN (by omega)
    | succ N ih =>
      intro j p9 tok9 at9 sp9 nu9 fa9 td9 on9 pm9 wd9 st n fv9 fe9 pf9 ws9 hN hj hst hn hA hM r9
      refine zj_iload_n C (List.mem_of_getElem? (i := 170) rfl) rfl rfl rfl ?_
      refine zj_aload_n C (List.mem_of_getElem? (i := 171) rfl) rfl rfl rfl ?_
      refine zj_getM C (List.mem_of_getElem? (i := 172) rfl) rfl rfl rfl hM rfl ?_
      refine zj_icmp_ge (tgt := 357) C (List.mem_of_getElem? (i := 173) rfl) rfl (by decide) (fun hb => ?_) (fun hb => ?_)
      · skip
        exact c357 j p9 tok9 at9 sp9 nu9 fa9 td9 on9 pm9 wd9 st n fv9 fe9 pf9 ws9 hst hn hA hM r9
      have hb : j < st := by
        rcases Nat.lt_or_ge j st with h | h
        · exact h
        · exact absurd (nI_le (a := st) (b := j) h (by omega)) hb
      refine zj_aload_n C (List.mem_of_getElem? (i := 174) rfl) rfl rfl rfl ?_
      refine zj_getM C (List.mem_of_getElem? (i := 175) rfl) rfl rfl rfl hM rfl ?_
      refine zj_bipush (v := 100) C (List.mem_of_getElem? (i := 176) rfl) rfl (by decide) ?_
      refine zj_iload_n C (List.mem_of_getElem? (i := 177) rfl) rfl rfl rfl ?_
      refine zj_imul (v := (nI (100 * s0))) C (List.mem_of_getElem? (i := 178) rfl) rfl (zj_nI_mul 100 s0) ?_
      refine zj_iload_n C (List.mem_of_getElem? (i := 179) rfl) rfl rfl rfl ?_
      refine zj_iadd (v := (nI (100 * s0 + j))) C (List.mem_of_getElem? (i := 180) rfl) rfl (nI_add (100 * s0) j) ?_
      refine zj_aload_n C (List.mem_of_getElem? (i := 181) rfl) rfl rfl rfl ?_
      refine zj_getM C (List.mem_of_getElem? (i := 182) rfl) rfl rfl rfl hM rfl ?_
      refine zj_sipush (v := 2000) C (List.mem_of_getElem? (i := 183) rfl) rfl (by decide) ?_
      refine zj_iload_n C (List.mem_of_getElem? (i := 184) rfl) rfl rfl rfl ?_
      refine zj_iadd (v := (nI (2000 + j))) C (List.mem_of_getElem? (i := 185) rfl) rfl (nI_add 2000 j) ?_
      refine zj_ialM (k := 33) (pl := 242) (N := 2100) C (List.mem_of_getElem? (i := 186) rfl) rfl (by decide) hM (vp_in_nI (by omega) (by decide)) (fun v33 => ?_)
      refine zj_iasM (k := 33) (pl := 242) (N := 2100) C (List.mem_of_getElem? (i := 187) rfl) rfl (by decide) hM (vp_in_nI (by omega) (by decide)) (fun w33 hw33M hw33A => ?_)
      refine zj_aload_n C (List.mem_of_getElem? (i := 188) rfl) rfl rfl rfl ?_
      refine zj_getM C (List.mem_of_getElem? (i := 189) rfl) rfl rfl rfl hw33M rfl ?_
      refine zj_bipush (v := 100) C (List.mem_of_getElem? (i := 190) rfl) rfl (by decide) ?_
      refine zj_iload_n C (List.mem_of_getElem? (i := 191) rfl) rfl rfl rfl ?_
      refine zj_imul (v := (nI (100 * s0))) C (List.mem_of_getElem? (i := 192) rfl) rfl (zj_nI_mul 100 s0) ?_
      refine zj_iload_n C (List.mem_of_getElem? (i := 193) rfl) rfl rfl rfl ?_
      refine zj_iadd (v := (nI (100 * s0 + j))) C (List.mem_of_getElem? (i := 194) rfl) rfl (nI_add (100 * s0) j) ?_
      refine zj_aload_n C (List.mem_of_getElem? (i := 195) rfl) rfl rfl rfl ?_
      refine zj_getM C (List.mem_of_getElem? (i := 196) rfl) rfl rfl rfl hw33M rfl ?_
      refine zj_sipush (v := 2000) C (List.mem_of_getElem? (i := 197) rfl) rfl (by decide) ?_
      refine zj_iload_n C (List.mem_of_getElem? (i := 198) rfl) rfl rfl rfl ?_
      refine zj_iadd (v := (nI (2000 + j))) C (List.mem_of_getElem? (i := 199) rfl) rfl (nI_add 2000 j) ?_
      refine zj_ialM (k := 34) (pl := 243) (N := 2100) C (List.mem_of_getElem? (i := 200) rfl) rfl (by decide) hw33M (vp_in_nI (by omega) (by decide)) (fun v34 => ?_)
      refine zj_iasM (k := 34) (pl := 243) (N := 2100) C (List.mem_of_getElem? (i := 201) rfl) rfl (by decide) hw33M (vp_in_nI (by omega) (by decide)) (fun w34 hw34M hw34A => ?_)
      refine zj_aload_n C (List.mem_of_getElem? (i := 202) rfl) rfl rfl rfl ?_
      refine zj_getM C (List.mem_of_getElem? (i := 203) rfl) rfl rfl rfl hw34M rfl ?_
      refine zj_bipush (v := 100) C (List.mem_of_getElem? (i := 204) rfl) rfl (by decide) ?_
      refine zj_iload_n C (List.mem_of_getElem? (i := 205) rfl) rfl rfl rfl ?_
      refine zj_imul (v := (nI (100 * s0))) C (List.mem_of_getElem? (i := 206) rfl) rfl (zj_nI_mul 100 s0) ?_
      refine zj_iload_n C (List.mem_of_getElem? (i := 207) rfl) rfl rfl rfl ?_
      refine zj_iadd (v := (nI (100 * s0 + j))) C (List.mem_of_getElem? (i := 208) rfl) rfl (nI_add (100 * s0) j) ?_
      refine zj_aload_n C (List.mem_of_getElem? (i := 209) rfl) rfl rfl rfl ?_
      refine zj_getM C (List.mem_of_getElem? (i := 210) rfl) rfl rfl rfl hw34M rfl ?_
      refine zj_sipush (v := 2000) C (List.mem_of_getElem? (i := 211) rfl) rfl (by decide) ?_
      refine zj_iload_n C (List.mem_of_getElem? (i := 212) rfl) rfl rfl rfl ?_
      refine zj_iadd (v := (nI (2000 + j))) C (List.mem_of_getElem? (i := 213) rfl) rfl (nI_add 2000 j) ?_
      refine zj_ialM (k := 35) (pl := 244) (N := 2100) C (List.mem_of_getElem? (i := 214) rfl) rfl (by decide) hw34M (vp_in_nI (by omega) (by decide)) (fun v35 => ?_)
      refine zj_iasM (k := 35) (pl := 244) (N := 2100) C (List.mem_of_getElem? (i := 215) rfl) rfl (by decide) hw34M (vp_in_nI (by omega) (by decide)) (fun w35 hw35M hw35A => ?_)
      refine zj_iinc (k := 0) (v := (nI (j + 1))) C (List.mem_of_getElem? (i := 216) rfl) rfl rfl (nI_succ j).symm (by decide) rfl ?_
      refine zj_goto (tgt := 280) C (List.mem_of_getElem? (i := 217) rfl) (by decide) ?_
      exact ih (j + 1) p9 tok9 at9 sp9 nu9 fa9 td9 on9 pm9 wd9 st n fv9 fe9 pf9 w35 (by omega) (by omega) hst hn ((hw35A.trans (hw34A.trans hw33A)).trans hA) hw35M r9
  have c203 : ∀ (N j : Nat) (p9 tok9 at9 sp9 nu9 fa9 td9 on9 pm9 : Int32) (wd9 : Int64) (st n : Nat) (fv9 fe9 pf9 : Nat → Int32) (ws9 : va_W), 8 - j ≤ N → j ≤ 8 → st ≤ 80 → n ≤ 18 → zx_as ws9 = zx_as ws → zj_ms M ws9 (zj_ML M (nI M.t) p9 tok9 at9 sp9 nu9 wd9 0 fa9 td9 on9 (nI st) pm9) fv9 fe9 pf9 → zj_R (zj_gM M) M.t (0, zj_tk (zj_gM M) M.t 0, 0, 0, 0, 0, 0, [], 0, 0) (zj_f (nI n).toInt 0) → zj_go p l e R s mi args below meth c Q D A (zx_mV zx_m148.2.1) 203 [(3, .int (nI j)), (2, .int (nI n)), (0, .ref M.aM), (1, .int (nI s0))] [] ws9 := by
    intro N
    induction N with
    | zero =>
      intro j p9 tok9 at9 sp9 nu9 fa9 td9 on9 pm9 wd9 st n fv9 fe9 pf9 ws9 hN hj hst hn hA hM r9
      refine zj_iload_n C (List.mem_of_getElem? (i := 121) rfl) rfl rfl rfl ?_
      refine zj_bipush (v := 8) C (List.mem_of_getElem? (i := 122) rfl) rfl (by decide) ?_
      refine zj_icmp_ge (tgt := 278) C (List.mem_of_getElem? (i := 123) rfl) rfl (by decide) (fun hb => ?_) (fun hb => ?_)
      · skip
        refine zj_iconst (v := 0) C (List.mem_of_getElem? (i := 168) rfl) rfl (by decide) ?_
        refine zj_istore_n C (List.mem_of_getElem? (i := 169) rfl) rfl rfl (by decide) rfl ?_
        exact c280 _ 0 p9 tok9 at9 sp9 nu9 fa9 td9 on9 pm9 wd9 st n fv9 fe9 pf9 ws9 (Nat.le_refl _) (Nat.zero_le _) hst hn hA hM r9
      have hb : j < 8 := by
        rcases Nat.lt_or_ge j 8 with h | h
        · exact h
        · exact absurd (nI_le (a := 8) (b := j) h (by omega)) hb
      exact absurd hN (by omega)
    | succ N ih =>
      intro j p9 tok9 at9 sp9 nu9 fa9 td9 on9 pm9 wd9 st n fv9 fe9 pf9 ws9 hN hj hst hn hA hM r9
      refine zj_iload_n C (List.mem_of_getElem? (i := 121) rfl) rfl rfl rfl ?_
      refine zj_bipush (v := 8) C (List.mem_of_getElem? (i := 122) rfl) rfl (by decide) ?_
      refine zj_icmp_ge (tgt := 278) C (List.mem_of_getElem? (i := 123) rfl) rfl (by decide) (fun hb => ?_) (fun hb => ?_)
      · skip
        refine zj_iconst (v := 0) C (List.mem_of_getElem? (i := 168) rfl) rfl (by decide) ?_
        refine zj_istore_n C (List.mem_of_getElem? (i := 169) rfl) rfl rfl (by decide) rfl ?_
        exact c280 _ 0 p9 tok9 at9 sp9 nu9 fa9 td9 on9 pm9 wd9 st n fv9 fe9 pf9 ws9 (Nat.le_refl _) (Nat.zero_le _) hst hn hA hM r9
      have hb : j < 8 := by
        rcases Nat.lt_or_ge j 8 with h | h
        · exact h
        · exact absurd (nI_le (a := 8) (b := j) h (by omega)) hb
      refine zj_aload_n C (List.mem_of_getElem? (i := 124) rfl) rfl rfl rfl ?_
      refine zj_getM C (List.mem_of_getElem? (i := 125) rfl) rfl rfl rfl hM rfl ?_
      refine zj_bipush (v := 8) C (List.mem_of_getElem? (i := 126) rfl) rfl (by decide) ?_
      refine zj_iload_n C (List.mem_of_getElem? (i := 127) rfl) rfl rfl rfl ?_
      refine zj_imul (v := (nI (8 * s0))) C (List.mem_of_getElem? (i := 128) rfl) rfl (zj_nI_mul 8 s0) ?_
      refine zj_iload_n C (List.mem_of_getElem? (i := 129) rfl) rfl rfl rfl ?_
      refine zj_iadd (v := (nI (8 * s0 + j))) C (List.mem_of_getElem? (i := 130) rfl) rfl (nI_add (8 * s0) j) ?_
      refine zj_aload_n C (List.mem_of_getElem? (i := 131) rfl) rfl rfl rfl ?_
      refine zj_getM C (List.mem_of_getElem? (i := 132) rfl) rfl rfl rfl hM rfl ?_
      refine zj_sipush (v := 160) C (List.mem_of_getElem? (i := 133) rfl) rfl (by decide) ?_
      refine zj_iload_n C (List.mem_of_getElem? (i := 134) rfl) rfl rfl rfl ?_
      refine zj_iadd (v := (nI (160 + j))) C (List.mem_of_getElem? (i := 135) rfl) rfl (nI_add 160 j) ?_
      refine zj_ialM (k := 30) (pl := 239) (N := 168) C (List.mem_of_getElem? (i := 136) rfl) rfl (by decide) hM (vp_in_nI (by omega) (by decide)) (fun v30 => ?_)
      refine zj_iasM (k := 30) (pl := 239) (N := 168) C (List.mem_of_getElem? (i := 137) rfl) rfl (by decide) hM (vp_in_nI (by omega) (by decide)) (fun w30 hw30M hw30A => ?_)
      refine zj_aload_n C (List.mem_of_getElem? (i := 138) rfl) rfl rfl rfl ?_
      refine zj_getM C (List.mem_of_getElem? (i := 139) rfl) rfl rfl rfl hw30M rfl ?_
      refine zj_bipush (v := 8) C (List.mem_of_getElem? (i := 140) rfl) rfl (by decide) ?_
      refine zj_iload_n C (List.mem_of_getElem? (i := 141) rfl) rfl rfl rfl ?_
      refine zj_imul (v := (nI (8 * s0))) C (List.mem_of_getElem? (i := 142) rfl) rfl (zj_nI_mul 8 s0) ?_
      refine zj_iload_n C (List.mem_of_getElem? (i := 143) rfl) rfl rfl rfl ?_
      refine zj_iadd (v := (nI (8 * s0 + j))) C (List.mem_of_getElem? (i := 144) rfl) rfl (nI_add (8 * s0) j) ?_
      refine zj_aload_n C (List.mem_of_getElem? (i := 145) rfl) rfl rfl rfl ?_
      refine zj_getM C (List.mem_of_getElem? (i := 146) rfl) rfl rfl rfl hw30M rfl ?_
      refine zj_sipush (v := 160) C (List.mem_of_getElem? (i := 147) rfl) rfl (by decide) ?_
      refine zj_iload_n C (List.mem_of_getElem? (i := 148) rfl) rfl rfl rfl ?_
      refine zj_iadd (v := (nI (160 + j))) C (List.mem_of_getElem? (i := 149) rfl) rfl (nI_add 160 j) ?_
      refine zj_ialM (k := 31) (pl := 240) (N := 168) C (List.mem_of_getElem? (i := 150) rfl) rfl (by decide) hw30M (vp_in_nI (by omega) (by decide)) (fun v31 => ?_)
      refine zj_iasM (k := 31) (pl := 240) (N := 168) C (List.mem_of_getElem? (i := 151) rfl) rfl (by decide) hw30M (vp_in_nI (by omega) (by decide)) (fun w31 hw31M hw31A => ?_)
      refine zj_aload_n C (List.mem_of_getElem? (i := 152) rfl) rfl rfl rfl ?_
      refine zj_getM C (List.mem_of_getElem? (i := 153) rfl) rfl rfl rfl hw31M rfl ?_
      refine zj_bipush (v := 8) C (List.mem_of_getElem? (i := 154) rfl) rfl (by decide) ?_
      refine zj_iload_n C (List.mem_of_getElem? (i := 155) rfl) rfl rfl rfl ?_
      refine zj_imul (v := (nI (8 * s0))) C (List.mem_of_getElem? (i := 156) rfl) rfl (zj_nI_mul 8 s0) ?_
      refine zj_iload_n C (List.mem_of_getElem? (i := 157) rfl) rfl rfl rfl ?_
      refine zj_iadd (v := (nI (8 * s0 + j))) C (List.mem_of_getElem? (i := 158) rfl) rfl (nI_add (8 * s0) j) ?_
      refine zj_aload_n C (List.mem_of_getElem? (i := 159) rfl) rfl rfl rfl ?_
      refine zj_getM C (List.mem_of_getElem? (i := 160) rfl) rfl rfl rfl hw31M rfl ?_
      refine zj_sipush (v := 160) C (List.mem_of_getElem? (i := 161) rfl) rfl (by decide) ?_
      refine zj_iload_n C (List.mem_of_getElem? (i := 162) rfl) rfl rfl rfl ?_
      refine zj_iadd (v := (nI (160 + j))) C (List.mem_of_getElem? (i := 163) rfl) rfl (nI_add 160 j) ?_
      refine zj_ialM (k := 32) (pl := 241) (N := 168) C (List.mem_of_getElem? (i := 164) rfl) rfl (by decide) hw31M (vp_in_nI (by omega) (by decide)) (fun v32 => ?_)
      refine zj_iasM (k := 32) (pl := 241) (N := 168) C (List.mem_of_getElem? (i := 165) rfl) rfl (by decide) hw31M (vp_in_nI (by omega) (by decide)) (fun w32 hw32M hw32A => ?_)
      refine zj_iinc (k := 0) (v := (nI (j + 1))) C (List.mem_of_getElem? (i := 166) rfl) rfl rfl (nI_succ j).symm (by decide) rfl ?_
      refine zj_goto (tgt := 203) C (List.mem_of_getElem? (i := 167) rfl) (by decide) ?_
      exact ih (j + 1) p9 tok9 at9 sp9 nu9 fa9 td9 on9 pm9 wd9 st n fv9 fe9 pf9 w32 (by omega) (by omega) hst hn ((hw32A.trans (hw31A.trans hw30A)).trans hA) hw32M r9
  have c188 : ∀ (j : Nat) (p9 tok9 at9 sp9 nu9 fa9 td9 on9 pm9 : Int32) (wd9 : Int64) (st n : Nat) (fv9 fe9 pf9 : Nat → Int32) (ws9 : va_W), st ≤ 80 → n ≤ 18 → zx_as ws9 = zx_as ws → zj_ms M ws9 (zj_ML M (nI M.t) p9 tok9 at9 sp9 nu9 wd9 0 fa9 td9 on9 (nI st) pm9) fv9 fe9 pf9 → zj_R (zj_gM M) M.t (0, zj_tk (zj_gM M) M.t 0, 0, 0, 0, 0, 0, [], 0, 0) (zj_f (nI n).toInt 0) → zj_go p l e R s mi args below meth c Q D A (zx_mV zx_m148.2.1) 188 [(3, .int (nI j)), (2, .int (nI n)), (0, .ref M.aM), (1, .int (nI s0))] [] ws9 := by
    intro j
    intro p9 tok9 at9 sp9 nu9 fa9 td9 on9 pm9 wd9 st n fv9 fe9 pf9 ws9 hst hn hA hM r9
    refine zj_aload_n C (List.mem_of_getElem? (i := 111) rfl) rfl rfl rfl ?_
    refine zj_getM C (List.mem_of_getElem? (i := 112) rfl) rfl rfl rfl hM rfl ?_
    refine zj_iload_n C (List.mem_of_getElem? (i := 113) rfl) rfl rfl rfl ?_
    refine zj_aload_n C (List.mem_of_getElem? (i := 114) rfl) rfl rfl rfl ?_
    refine zj_getM C (List.mem_of_getElem? (i := 115) rfl) rfl rfl rfl hM rfl ?_
    refine zj_bipush (v := 20) C (List.mem_of_getElem? (i := 116) rfl) rfl (by decide) ?_
    refine zj_iald (v := (fe9 20)) C (List.mem_of_getElem? (i := 117) rfl) rfl hM.2.2.2.1 (vp_in_nI (n := 20) (by decide) (by decide)) rfl ?_
    refine zj_iasE C (List.mem_of_getElem? (i := 118) rfl) rfl hM (vp_in_nI (by omega) (by decide)) (fun w2 hw2M hw2A => ?_)
    refine zj_iconst (v := 0) C (List.mem_of_getElem? (i := 119) rfl) rfl (by decide) ?_
    refine zj_istore_n C (List.mem_of_getElem? (i := 120) rfl) rfl rfl (by decide) rfl ?_
    exact c203 _ 0 p9 tok9 at9 sp9 nu9 fa9 td9 on9 pm9 wd9 st n _ _ _ w2 (Nat.le_refl _) (Nat.zero_le _) hst hn (hw2A.trans hA) hw2M r9
  have c136 : ∀ (N j : Nat) (p9 tok9 at9 sp9 nu9 fa9 td9 on9 pm9 : Int32) (wd9 : Int64) (st n : Nat) (fv9 fe9 pf9 : Nat → Int32) (ws9 : va_W), 6 - j ≤ N → j ≤ 6 → st ≤ 80 → n ≤ 18 → zx_as ws9 = zx_as ws → zj_ms M ws9 (zj_ML M (nI M.t) p9 tok9 at9 sp9 nu9 wd9 0 fa9 td9 on9 (nI st) pm9) fv9 fe9 pf9 → zj_R (zj_gM M) M.t (0, zj_tk (zj_gM M) M.t 0, 0, 0, 0, 0, 0, [], 0, 0) (zj_f (nI n).toInt 0) → zj_go p l e R s mi args below meth c Q D A (zx_mV zx_m148.2.1) 136 [(3, .int (nI j)), (2, .int (nI n)), (0, .ref M.aM), (1, .int (nI s0))] [] ws9 := by
    intro N
    induction N with
    | zero =>
      intro j p9 tok9 at9 sp9 nu9 fa9 td9 on9 pm9 wd9 st n fv9 fe9 pf9 ws9 hN hj hst hn hA hM r9
      refine zj_iload_n C (List.mem_of_getElem? (i := 78) rfl) rfl rfl rfl ?_
      refine zj_bipush (v := 6) C (List.mem_of_getElem? (i := 79) rfl) rfl (by decide) ?_
      refine zj_icmp_ge (tgt := 188) C (List.mem_of_getElem? (i := 80) rfl) rfl (by decide) (fun hb => ?_) (fun hb => ?_)
      · skip
        exact c188 j p9 tok9 at9 sp9 nu9 fa9 td9 on9 pm9 wd9 st n fv9 fe9 pf9 ws9 hst hn hA hM r9
      have hb : j < 6 := by
        rcases Nat.lt_or_ge j 6 with h | h
        · exact h
        · exact absurd (nI_le (a := 6) (b := j) h (by omega)) hb
      exact absurd hN (by omega)
    | succ N ih =>
      intro j p9 tok9 at9 sp9 nu9 fa9 td9 on9 pm9 wd9 st n fv9 fe9 pf9 ws9 hN hj hst hn hA hM r9
      refine zj_iload_n C (List.mem_of_getElem? (i := 78) rfl) rfl rfl rfl ?_
      refine zj_bipush (v := 6) C (List.mem_of_getElem? (i := 79) rfl) rfl (by decide) ?_
      refine zj_icmp_ge (tgt := 188) C (List.mem_of_getElem? (i := 80) rfl) rfl (by decide) (fun hb => ?_) (fun hb => ?_)
      · skip
        exact c188 j p9 tok9 at9 sp9 nu9 fa9 td9 on9 pm9 wd9 st n fv9 fe9 pf9 ws9 hst hn hA hM r9
      have hb : j < 6 := by
        rcases Nat.lt_or_ge j 6 with h | h
        · exact h
        · exact absurd (nI_le (a := 6) (b := j) h (by omega)) hb
      refine zj_aload_n C (List.mem_of_getElem? (i := 81) rfl) rfl rfl rfl ?_
      refine zj_getM C (List.mem_of_getElem? (i := 82) rfl) rfl rfl rfl hM rfl ?_
      refine zj_bipush (v := 6) C (List.mem_of_getElem? (i := 83) rfl) rfl (by decide) ?_
      refine zj_iload_n C (List.mem_of_getElem? (i := 84) rfl) rfl rfl rfl ?_
      refine zj_imul (v := (nI (6 * s0))) C (List.mem_of_getElem? (i := 85) rfl) rfl (zj_nI_mul 6 s0) ?_
      refine zj_iload_n C (List.mem_of_getElem? (i := 86) rfl) rfl rfl rfl ?_
      refine zj_iadd (v := (nI (6 * s0 + j))) C (List.mem_of_getElem? (i := 87) rfl) rfl (nI_add (6 * s0) j) ?_
      refine zj_aload_n C (List.mem_of_getElem? (i := 88) rfl) rfl rfl rfl ?_
      refine zj_getM C (List.mem_of_getElem? (i := 89) rfl) rfl rfl rfl hM rfl ?_
      refine zj_bipush (v := 120) C (List.mem_of_getElem? (i := 90) rfl) rfl (by decide) ?_
      refine zj_iload_n C (List.mem_of_getElem? (i := 91) rfl) rfl rfl rfl ?_
      refine zj_iadd (v := (nI (120 + j))) C (List.mem_of_getElem? (i := 92) rfl) rfl (nI_add 120 j) ?_
      refine zj_ialM (k := 27) (pl := 236) (N := 126) C (List.mem_of_getElem? (i := 93) rfl) rfl (by decide) hM (vp_in_nI (by omega) (by decide)) (fun v27 => ?_)
      refine zj_iasM (k := 27) (pl := 236) (N := 126) C (List.mem_of_getElem? (i := 94) rfl) rfl (by decide) hM (vp_in_nI (by omega) (by decide)) (fun w27 hw27M hw27A => ?_)
      refine zj_aload_n C (List.mem_of_getElem? (i := 95) rfl) rfl rfl rfl ?_
      refine zj_getM C (List.mem_of_getElem? (i := 96) rfl) rfl rfl rfl hw27M rfl ?_
      refine zj_bipush (v := 6) C (List.mem_of_getElem? (i := 97) rfl) rfl (by decide) ?_
      refine zj_iload_n C (List.mem_of_getElem? (i := 98) rfl) rfl rfl rfl ?_
      refine zj_imul (v := (nI (6 * s0))) C (List.mem_of_getElem? (i := 99) rfl) rfl (zj_nI_mul 6 s0) ?_
      refine zj_iload_n C (List.mem_of_getElem? (i := 100) rfl) rfl rfl rfl ?_
      refine zj_iadd (v := (nI (6 * s0 + j))) C (List.mem_of_getElem? (i := 101) rfl) rfl (nI_add (6 * s0) j) ?_
      refine zj_aload_n C (List.mem_of_getElem? (i := 102) rfl) rfl rfl rfl ?_
      refine zj_getM C (List.mem_of_getElem? (i := 103) rfl) rfl rfl rfl hw27M rfl ?_
      refine zj_bipush (v := 120) C (List.mem_of_getElem? (i := 104) rfl) rfl (by decide) ?_
      refine zj_iload_n C (List.mem_of_getElem? (i := 105) rfl) rfl rfl rfl ?_
      refine zj_iadd (v := (nI (120 + j))) C (List.mem_of_getElem? (i := 106) rfl) rfl (nI_add 120 j) ?_
      refine zj_ialM (k := 28) (pl := 237) (N := 126) C (List.mem_of_getElem? (i := 107) rfl) rfl (by decide) hw27M (vp_in_nI (by omega) (by decide)) (fun v28 => ?_)
      refine zj_iasM (k := 28) (pl := 237) (N := 126) C (List.mem_of_getElem? (i := 108) rfl) rfl (by decide) hw27M (vp_in_nI (by omega) (by decide)) (fun w28 hw28M hw28A => ?_)
      refine zj_iinc (k := 0) (v := (nI (j + 1))) C (List.mem_of_getElem? (i := 109) rfl) rfl rfl (nI_succ j).symm (by decide) rfl ?_
      refine zj_goto (tgt := 136) C (List.mem_of_getElem? (i := 110) rfl) (by decide) ?_
      exact ih (j + 1) p9 tok9 at9 sp9 nu9 fa9 td9 on9 pm9 wd9 st n fv9 fe9 pf9 w28 (by omega) (by omega) hst hn ((hw28A.trans hw27A).trans hA) hw28M r9
  have c121 : ∀ (j : Nat) (p9 tok9 at9 sp9 nu9 fa9 td9 on9 pm9 : Int32) (wd9 : Int64) (st n : Nat) (fv9 fe9 pf9 : Nat → Int32) (ws9 : va_W), st ≤ 80 → n ≤ 18 → zx_as ws9 = zx_as ws → zj_ms M ws9 (zj_ML M (nI M.t) p9 tok9 at9 sp9 nu9 wd9 0 fa9 td9 on9 (nI st) pm9) fv9 fe9 pf9 → zj_R (zj_gM M) M.t (0, zj_tk (zj_gM M) M.t 0, 0, 0, 0, 0, 0, [], 0, 0) (zj_f (nI n).toInt 0) → zj_go p l e R s mi args below meth c Q D A (zx_mV zx_m148.2.1) 121 [(3, .int (nI j)), (2, .int (nI n)), (0, .ref M.aM), (1, .int (nI s0))] [] ws9 := by
    intro j
    intro p9 tok9 at9 sp9 nu9 fa9 td9 on9 pm9 wd9 st n fv9 fe9 pf9 ws9 hst hn hA hM r9
    refine zj_aload_n C (List.mem_of_getElem? (i := 68) rfl) rfl rfl rfl ?_
    refine zj_getM C (List.mem_of_getElem? (i := 69) rfl) rfl rfl rfl hM rfl ?_
    refine zj_iload_n C (List.mem_of_getElem? (i := 70) rfl) rfl rfl rfl ?_
    refine zj_aload_n C (List.mem_of_getElem? (i := 71) rfl) rfl rfl rfl ?_
    refine zj_getM C (List.mem_of_getElem? (i := 72) rfl) rfl rfl rfl hM rfl ?_
    refine zj_bipush (v := 20) C (List.mem_of_getElem? (i := 73) rfl) rfl (by decide) ?_
    refine zj_iald (v := (fv9 20)) C (List.mem_of_getElem? (i := 74) rfl) rfl hM.2.2.1 (vp_in_nI (n := 20) (by decide) (by decide)) rfl ?_
    refine zj_iasV C (List.mem_of_getElem? (i := 75) rfl) rfl hM (vp_in_nI (by omega) (by decide)) (fun w2 hw2M hw2A => ?_)
    refine zj_iconst (v := 0) C (List.mem_of_getElem? (i := 76) rfl) rfl (by decide) ?_
    refine zj_istore_n C (List.mem_of_getElem? (i := 77) rfl) rfl rfl (by decide) rfl ?_
    exact c136 _ 0 p9 tok9 at9 sp9 nu9 fa9 td9 on9 pm9 wd9 st n _ _ _ w2 (Nat.le_refl _) (Nat.zero_le _) hst hn (hw2A.trans hA) hw2M r9
  have c91 : ∀ (N j : Nat) (p9 tok9 at9 sp9 nu9 fa9 td9 on9 pm9 : Int32) (wd9 : Int64) (st n : Nat) (fv9 fe9 pf9 : Nat → Int32) (ws9 : va_W), 4 - j ≤ N → j ≤ 4 → st ≤ 80 → n ≤ 18 → zx_as ws9 = zx_as ws → zj_ms M ws9 (zj_ML M (nI M.t) p9 tok9 at9 sp9 nu9 wd9 0 fa9 td9 on9 (nI st) pm9) fv9 fe9 pf9 → zj_R (zj_gM M) M.t (0, zj_tk (zj_gM M) M.t 0, 0, 0, 0, 0, 0, [], 0, 0) (zj_f (nI n).toInt 0) → zj_go p l e R s mi args below meth c Q D A (zx_mV zx_m148.2.1) 91 [(3, .int (nI j)), (2, .int (nI n)), (0, .ref M.aM), (1, .int (nI s0))] [] ws9 := by
    intro N
    induction N with
    | zero =>
      intro j p9 tok9 at9 sp9 nu9 fa9 td9 on9 pm9 wd9 st n fv9 fe9 pf9 ws9 hN hj hst hn hA hM r9
      refine zj_iload_n C (List.mem_of_getElem? (i := 49) rfl) rfl rfl rfl ?_
      refine zj_iconst (v := 4) C (List.mem_of_getElem? (i := 50) rfl) rfl (by decide) ?_
      refine zj_icmp_ge (tgt := 121) C (List.mem_of_getElem? (i := 51) rfl) rfl (by decide) (fun hb => ?_) (fun hb => ?_)
      · skip
        exact c121 j p9 tok9 at9 sp9 nu9 fa9 td9 on9 pm9 wd9 st n fv9 fe9 pf9 ws9 hst hn hA hM r9
      have hb : j < 4 := by
        rcases Nat.lt_or_ge j 4 with h | h
        · exact h
        · exact absurd (nI_le (a := 4) (b := j) h (by omega)) hb
      exact absurd hN (by omega)
    | succ N ih =>
      intro j p9 tok9 at9 sp9 nu9 fa9 td9 on9 pm9 wd9 st n fv9 fe9 pf9 ws9 hN hj hst hn hA hM r9
      refine zj_iload_n C (List.mem_of_getElem? (i := 49) rfl) rfl rfl rfl ?_
      refine zj_iconst (v := 4) C (List.mem_of_getElem? (i := 50) rfl) rfl (by decide) ?_
      refine zj_icmp_ge (tgt := 121) C (List.mem_of_getElem? (i := 51) rfl) rfl (by decide) (fun hb => ?_) (fun hb => ?_)
      · skip
        exact c121 j p9 tok9 at9 sp9 nu9 fa9 td9 on9 pm9 wd9 st n fv9 fe9 pf9 ws9 hst hn hA hM r9
      have hb : j < 4 := by
        rcases Nat.lt_or_ge j 4 with h | h
        · exact h
        · exact absurd (nI_le (a := 4) (b := j) h (by omega)) hb
      refine zj_aload_n C (List.mem_of_getElem? (i := 52) rfl) rfl rfl rfl ?_
      refine zj_getM C (List.mem_of_getElem? (i := 53) rfl) rfl rfl rfl hM rfl ?_
      refine zj_iconst (v := 4) C (List.mem_of_getElem? (i := 54) rfl) rfl (by decide) ?_
      refine zj_iload_n C (List.mem_of_getElem? (i := 55) rfl) rfl rfl rfl ?_
      refine zj_imul (v := (nI (4 * s0))) C (List.mem_of_getElem? (i := 56) rfl) rfl (zj_nI_mul 4 s0) ?_
      refine zj_iload_n C (List.mem_of_getElem? (i := 57) rfl) rfl rfl rfl ?_
      refine zj_iadd (v := (nI (4 * s0 + j))) C (List.mem_of_getElem? (i := 58) rfl) rfl (nI_add (4 * s0) j) ?_
      refine zj_aload_n C (List.mem_of_getElem? (i := 59) rfl) rfl rfl rfl ?_
      refine zj_getM C (List.mem_of_getElem? (i := 60) rfl) rfl rfl rfl hM rfl ?_
      refine zj_bipush (v := 80) C (List.mem_of_getElem? (i := 61) rfl) rfl (by decide) ?_
      refine zj_iload_n C (List.mem_of_getElem? (i := 62) rfl) rfl rfl rfl ?_
      refine zj_iadd (v := (nI (80 + j))) C (List.mem_of_getElem? (i := 63) rfl) rfl (nI_add 80 j) ?_
      refine zj_ialM (k := 25) (pl := 234) (N := 84) C (List.mem_of_getElem? (i := 64) rfl) rfl (by decide) hM (vp_in_nI (by omega) (by decide)) (fun v25 => ?_)
      refine zj_iasM (k := 25) (pl := 234) (N := 84) C (List.mem_of_getElem? (i := 65) rfl) rfl (by decide) hM (vp_in_nI (by omega) (by decide)) (fun w25 hw25M hw25A => ?_)
      refine zj_iinc (k := 0) (v := (nI (j + 1))) C (List.mem_of_getElem? (i := 66) rfl) rfl rfl (nI_succ j).symm (by decide) rfl ?_
      refine zj_goto (tgt := 91) C (List.mem_of_getElem? (i := 67) rfl) (by decide) ?_
      exact ih (j + 1) p9 tok9 at9 sp9 nu9 fa9 td9 on9 pm9 wd9 st n fv9 fe9 pf9 w25 (by omega) (by omega) hst hn (hw25A.trans hA) hw25M r9
  have rules : ∀ (N n : Nat) (tk : zj_T) (d1 l1 f1 o1 st : Nat) (x1 : Int) (k1 : Nat) (ws1 : va_W), 18 - n ≤ N → n = zj_cnt d1 + l1 + f1 → zj_mr false M ws1 tk d1 l1 f1 o1 st [] 0 → zx_as ws1 = zx_as ws → zj_R (zj_gM M) M.t (0, zj_tk (zj_gM M) M.t 0, 0, 0, 0, 0, 0, [], 0, 0) (0, tk, n, d1, l1, f1, o1, [], x1, k1) → zj_go p l e R s mi args below meth c Q D A (zx_mV zx_m148.2.1) 53 [(2, .int (nI n)), (0, .ref M.aM), (1, .int (nI s0))] [] ws1 := by
    have bad : ∀ (n : Nat) (tk : zj_T) (k : Nat) (ws1 : va_W), zj_mz M ws1 tk k → zx_as ws1 = zx_as ws → zj_R (zj_gM M) M.t (0, zj_tk (zj_gM M) M.t 0, 0, 0, 0, 0, 0, [], 0, 0) (zj_bad tk k) → zj_go p l e R s mi args below meth c Q D A (zx_mV zx_m148.2.1) 76 [(2, .int (nI n)), (0, .ref M.aM), (1, .int (nI s0))] [] ws1 := by
      intro n tk k ws1 hz hA r1
      obtain ⟨hle, L, gv, ge, gp, hM, h44, h45⟩ := hz
      refine zj_iconst (v := -1) C (List.mem_of_getElem? (i := 40) rfl) rfl (by decide) ?_
      refine zj_aload_n C (List.mem_of_getElem? (i := 41) rfl) rfl rfl rfl ?_
      refine zj_getM C (List.mem_of_getElem? (i := 42) rfl) rfl rfl rfl hM h45 ?_
      refine zj_isub (v := (-1 - nI tk.2.2.1)) C (List.mem_of_getElem? (i := 43) rfl) rfl rfl ?_
      have hT := hB.1
      have hpl : (-1 - nI tk.2.2.1).toInt = -1 - (tk.2.2.1 : Int) := by
        have h3 : (nI tk.2.2.1).toInt = (tk.2.2.1 : Int) := nI_toInt (by omega)
        rw [zx_subI _ _ (by rw [h3]; show -2147483648 ≤ -1 - (tk.2.2.1 : Int); omega) (by rw [h3]; show -1 - (tk.2.2.1 : Int) ≤ 2147483647; omega), h3]
        rfl
      exact KRi 82 _ _ _ (List.mem_of_getElem? (i := 44) rfl) (by decide) (Or.inl rfl) hA (DONE _ _ ⟨_, k, L, gv, ge, gp, rfl, by rw [hpl]; exact r1, hM, h44⟩)
    intro N
    induction N with
    | zero =>
      intro n tk d1 l1 f1 o1 st x1 k1 ws1 hN hn h0 hA r0
      have hpc := zj_cnt_le d1
      have h0b := h0
      obtain ⟨⟨tok, sp, nu, fa, pm, wd, fv, fe, pf, hM, ht, hv6, he9, hpk⟩, hbd, hbe, hbf⟩ := h0
      refine zj_aload_n C (List.mem_of_getElem? (i := 30) rfl) rfl rfl rfl ?_
      refine zj_getM C (List.mem_of_getElem? (i := 31) rfl) rfl rfl rfl hM rfl ?_
      refine zj_if_eq (tgt := 89) C (List.mem_of_getElem? (i := 32) rfl) rfl (by decide) (fun hb => ?_) (fun hb => ?_)
      · have h28 : tk.1 = 28 := ht.2.2.2.1.mp hb
        refine zj_iconst (v := 0) C (List.mem_of_getElem? (i := 47) rfl) rfl (by decide) ?_
        refine zj_istore_n C (List.mem_of_getElem? (i := 48) rfl) rfl rfl (by decide) rfl ?_
        exact c91 _ 0 _ _ _ _ _ _ _ _ _ _ st n fv fe pf ws1 (Nat.le_refl _) (Nat.zero_le _) (by omega) (by omega) hA hM (zj_R_tr r0 (zj_R_st (by rw [zj_st, if_pos h28, nI_toInt (by omega)])))
      have h28 : tk.1 ≠ 28 := fun h => hb (ht.2.2.2.1.mpr h)
      refine zj_aload_n C (List.mem_of_getElem? (i := 33) rfl) rfl rfl rfl ?_
      have hO := hM
      obtain ⟨⟨fsO, hO0, -⟩, -⟩ := hO
      refine zj_callV (As := []) (rest := []) C (List.mem_of_getElem? (i := 34) rfl) rfl rfl rfl (by decide) (zj_W_mono (zj_rule_W hB h0b r0 h28) (by decide)) rfl rfl hO0 rfl (Nat.le_of_ble_eq_true rfl) rfl ⟨rfl, rfl, rfl⟩ (fun v w2 hw2A hw2Z => ?_)
      rcases hw2Z with ⟨hv, tk2, d2, l2, f2, o2, st2, P2, h2, hpo, x2, k2, r2⟩ | ⟨hv, tk2, k2, h2, r2⟩
      rotate_left
      · subst hv
        refine zj_if_eq (tgt := 76) C (List.mem_of_getElem? (i := 35) rfl) rfl (by decide) (fun hd => ?_) (fun hd => ?_)
        rotate_left
        · exact absurd rfl hd
        exact bad n tk2 k2 w2 h2 (hw2A.trans hA) r2
      subst hv
      refine zj_if_eq (tgt := 76) C (List.mem_of_getElem? (i := 35) rfl) rfl (by decide) (fun hd => ?_) (fun hd => ?_)
      · exact absurd hd (by decide)
      have h2b := zj_mr_weak h2
      have h2c := h2b
      have hpc2 := zj_cnt_le d2
      obtain ⟨⟨tok2, sp2, nu2, fa2, pm2, wd2, fv2, fe2, pf2, hM2, -⟩, -, hbe2, -⟩ := h2c
      refine zj_aload_n C (List.mem_of_getElem? (i := 36) rfl) rfl rfl rfl ?_
      refine zj_bipush (v := 59) C (List.mem_of_getElem? (i := 37) rfl) rfl (by decide) ?_
      have hO := hM2
      obtain ⟨⟨fsO, hO0, -⟩, -⟩ := hO
      refine zj_callV (As := [.int (zj_sc 24)]) (rest := []) C (List.mem_of_getElem? (i := 38) rfl) rfl rfl rfl (by decide) (zj_W_mono (zj_sign_W (k := 24) hB h2b (by decide) (by decide)) (by decide)) rfl rfl hO0 rfl (Nat.le_of_ble_eq_true rfl) rfl ⟨rfl, rfl, rfl⟩ (fun v w3 hw3A hw3Z => ?_)
      rcases hw3Z with ⟨hv, hc24, h3⟩ | ⟨hv, hc24, h3⟩
      rotate_left
      · subst hv
        refine zj_if_ne (tgt := 83) C (List.mem_of_getElem? (i := 39) rfl) rfl (by decide) (fun hd => ?_) (fun hd => ?_)
        · exact absurd rfl hd
        exact bad n tk2 1 w3 h3 (hw3A.trans (hw2A.trans hA)) (zj_R_tr r2 (zj_R_st (by rw [zj_st, if_neg hc24])))
      subst hv
      refine zj_if_ne (tgt := 83) C (List.mem_of_getElem? (i := 39) rfl) rfl (by decide) (fun hd => ?_) (fun hd => ?_)
      rotate_left
      · exact absurd hd (by decide)
      exact absurd hN (by omega)
    | succ N ih =>
      intro n tk d1 l1 f1 o1 st x1 k1 ws1 hN hn h0 hA r0
      have hpc := zj_cnt_le d1
      have h0b := h0
      obtain ⟨⟨tok, sp, nu, fa, pm, wd, fv, fe, pf, hM, ht, hv6, he9, hpk⟩, hbd, hbe, hbf⟩ := h0
      refine zj_aload_n C (List.mem_of_getElem? (i := 30) rfl) rfl rfl rfl ?_
      refine zj_getM C (List.mem_of_getElem? (i := 31) rfl) rfl rfl rfl hM rfl ?_
      refine zj_if_eq (tgt := 89) C (List.mem_of_getElem? (i := 32) rfl) rfl (by decide) (fun hb => ?_) (fun hb => ?_)
      · have h28 : tk.1 = 28 := ht.2.2.2.1.mp hb
        refine zj_iconst (v := 0) C (List.mem_of_getElem? (i := 47) rfl) rfl (by decide) ?_
        refine zj_istore_n C (List.mem_of_getElem? (i := 48) rfl) rfl rfl (by decide) rfl ?_
        exact c91 _ 0 _ _ _ _ _ _ _ _ _ _ st n fv fe pf ws1 (Nat.le_refl _) (Nat.zero_le _) (by omega) (by omega) hA hM (zj_R_tr r0 (zj_R_st (by rw [zj_st, if_pos h28, nI_toInt (by omega)])))
      have h28 : tk.1 ≠ 28 := fun h => hb (ht.2.2.2.1.mpr h)
      refine zj_aload_n C (List.mem_of_getElem? (i := 33) rfl) rfl rfl rfl ?_
      have hO := hM
      obtain ⟨⟨fsO, hO0, -⟩, -⟩ := hO
      refine zj_callV (As := []) (rest := []) C (List.mem_of_getElem? (i := 34) rfl) rfl rfl rfl (by decide) (zj_W_mono (zj_rule_W hB h0b r0 h28) (by decide)) rfl rfl hO0 rfl (Nat.le_of_ble_eq_true rfl) rfl ⟨rfl, rfl, rfl⟩ (fun v w2 hw2A hw2Z => ?_)
      rcases hw2Z with ⟨hv, tk2, d2, l2, f2, o2, st2, P2, h2, hpo, x2, k2, r2⟩ | ⟨hv, tk2, k2, h2, r2⟩
      rotate_left
      · subst hv
        refine zj_if_eq (tgt := 76) C (List.mem_of_getElem? (i := 35) rfl) rfl (by decide) (fun hd => ?_) (fun hd => ?_)
        rotate_left
        · exact absurd rfl hd
        exact bad n tk2 k2 w2 h2 (hw2A.trans hA) r2
      subst hv
      refine zj_if_eq (tgt := 76) C (List.mem_of_getElem? (i := 35) rfl) rfl (by decide) (fun hd => ?_) (fun hd => ?_)
      · exact absurd hd (by decide)
      have h2b := zj_mr_weak h2
      have h2c := h2b
      have hpc2 := zj_cnt_le d2
      obtain ⟨⟨tok2, sp2, nu2, fa2, pm2, wd2, fv2, fe2, pf2, hM2, -⟩, -, hbe2, -⟩ := h2c
      refine zj_aload_n C (List.mem_of_getElem? (i := 36) rfl) rfl rfl rfl ?_
      refine zj_bipush (v := 59) C (List.mem_of_getElem? (i := 37) rfl) rfl (by decide) ?_
      have hO := hM2
      obtain ⟨⟨fsO, hO0, -⟩, -⟩ := hO
      refine zj_callV (As := [.int (zj_sc 24)]) (rest := []) C (List.mem_of_getElem? (i := 38) rfl) rfl rfl rfl (by decide) (zj_W_mono (zj_sign_W (k := 24) hB h2b (by decide) (by decide)) (by decide)) rfl rfl hO0 rfl (Nat.le_of_ble_eq_true rfl) rfl ⟨rfl, rfl, rfl⟩ (fun v w3 hw3A hw3Z => ?_)
      rcases hw3Z with ⟨hv, hc24, h3⟩ | ⟨hv, hc24, h3⟩
      rotate_left
      · subst hv
        refine zj_if_ne (tgt := 83) C (List.mem_of_getElem? (i := 39) rfl) rfl (by decide) (fun hd => ?_) (fun hd => ?_)
        · exact absurd rfl hd
        exact bad n tk2 1 w3 h3 (hw3A.trans (hw2A.trans hA)) (zj_R_tr r2 (zj_R_st (by rw [zj_st, if_neg hc24])))
      subst hv
      refine zj_if_ne (tgt := 83) C (List.mem_of_getElem? (i := 39) rfl) rfl (by decide) (fun hd => ?_) (fun hd => ?_)
      rotate_left
      · exact absurd hd (by decide)
      refine zj_iinc (k := 0) (v := (nI (n + 1))) C (List.mem_of_getElem? (i := 45) rfl) rfl rfl (nI_succ n).symm (by decide) rfl ?_
      refine zj_goto (tgt := 53) C (List.mem_of_getElem? (i := 46) rfl) (by decide) ?_
      exact ih (n + 1) (zj_nm M tk2) d2 l2 f2 o2 st2 x2 k2 w3 (by omega) (by omega) h3 (hw3A.trans (hw2A.trans hA)) (zj_R_tr r2 (zj_R_st (by rw [zj_st, if_pos hc24]; rfl)))
  refine zj_aload_n C (List.mem_of_getElem? (i := 11) rfl) rfl rfl rfl ?_
  refine zj_iconst (v := 0) C (List.mem_of_getElem? (i := 12) rfl) rfl (by decide) ?_
  refine zj_putM (L' := (zj_ME M 0 (nI S) (zj_ML M (nI M.t) 0 tok at_ sp nu wd 0 fa td on sm pm))) C (List.mem_of_getElem? (i := 13) rfl) rfl rfl rfl hM3 (Nat.le_of_ble_eq_true rfl) (by decide) rfl (zj_fit_i rfl _) (by unfold zj_ME zj_ML; repeat first | exact zj_sub_nil | refine zj_sub_cons rfl ?_) (fun w5 hw5M hw5A => ?_)
  refine zj_aload_n C (List.mem_of_getElem? (i := 14) rfl) rfl rfl rfl ?_
  refine zj_iconst (v := 0) C (List.mem_of_getElem? (i := 15) rfl) rfl (by decide) ?_
  refine zj_putM (L' := (zj_ME M 0 (nI S) (zj_ML M (nI M.t) 0 tok at_ sp nu wd 0 fa 0 on sm pm))) C (List.mem_of_getElem? (i := 16) rfl) rfl rfl rfl hw5M (Nat.le_of_ble_eq_true rfl) (by decide) rfl (zj_fit_i rfl _) (by unfold zj_ME zj_ML; repeat first | exact zj_sub_nil | refine zj_sub_cons rfl ?_) (fun w6 hw6M hw6A => ?_)
  refine zj_aload_n C (List.mem_of_getElem? (i := 17) rfl) rfl rfl rfl ?_
  refine zj_iconst (v := 0) C (List.mem_of_getElem? (i := 18) rfl) rfl (by decide) ?_
  refine zj_putM (L' := (zj_ME M 0 (nI S) (zj_ML M (nI M.t) 0 tok at_ sp nu wd 0 fa 0 on 0 pm))) C (List.mem_of_getElem? (i := 19) rfl) rfl rfl rfl hw6M (Nat.le_of_ble_eq_true rfl) (by decide) rfl (zj_fit_i rfl _) (by unfold zj_ME zj_ML; repeat first | exact zj_sub_nil | refine zj_sub_cons rfl ?_) (fun w7 hw7M hw7A => ?_)
  refine zj_aload_n C (List.mem_of_getElem? (i := 20) rfl) rfl rfl rfl ?_
  refine zj_iconst (v := 0) C (List.mem_of_getElem? (i := 21) rfl) rfl (by decide) ?_
  refine zj_putM (L' := (zj_ME M 0 (nI S) (zj_ML M (nI M.t) 0 tok at_ sp nu wd 0 fa 0 0 0 pm))) C (List.mem_of_getElem? (i := 22) rfl) rfl rfl rfl hw7M (Nat.le_of_ble_eq_true rfl) (by decide) rfl (zj_fit_i rfl _) (by unfold zj_ME zj_ML; repeat first | exact zj_sub_nil | refine zj_sub_cons rfl ?_) (fun w8 hw8M hw8A => ?_)
  refine zj_aload_n C (List.mem_of_getElem? (i := 23) rfl) rfl rfl rfl ?_
  refine zj_bipush (v := 20) C (List.mem_of_getElem? (i := 24) rfl) rfl (by decide) ?_
  have hO := hw8M
  obtain ⟨⟨fsO, hO0, -⟩, -⟩ := hO
  refine zj_callV (As := [.int (nI 20)]) (rest := []) C (List.mem_of_getElem? (i := 25) rfl) rfl rfl rfl (by decide) (zj_W_mono (zj_plain_W hw8M rfl rfl rfl) (by decide)) rfl rfl hO0 rfl (Nat.le_of_ble_eq_true rfl) rfl ⟨rfl, rfl, rfl⟩ (fun v w9 hw9A hw9Z => ?_)
  obtain ⟨hv, hM9⟩ := hw9Z
  subst hv
  have hMa : zj_ms M w9 (zj_ML M (nI M.t) (nI 0) tok at_ sp nu wd 0 fa 0 0 0 pm) _ _ _ := zj_ms_nrm hM9 (by unfold zj_ME zj_ML; repeat first | exact zj_sub_nil | refine zj_sub_cons rfl ?_)
  refine zj_iconst (v := 0) C (List.mem_of_getElem? (i := 26) rfl) rfl (by decide) ?_
  refine zj_istore_n C (List.mem_of_getElem? (i := 27) rfl) rfl rfl (by decide) rfl ?_
  refine zj_aload_n C (List.mem_of_getElem? (i := 28) rfl) rfl rfl rfl ?_
  have hO := hMa
  obtain ⟨⟨fsO, hO0, -⟩, -⟩ := hO
  refine zj_callV (As := []) (rest := []) C (List.mem_of_getElem? (i := 29) rfl) rfl rfl rfl (by decide) (zj_W_mono (zj_next_W hB hMa (Nat.zero_le _)) (by decide)) rfl rfl hO0 rfl (Nat.le_of_ble_eq_true rfl) rfl ⟨rfl, rfl, rfl⟩ (fun v wa hwaA hwaZ => ?_)
  obtain ⟨hv, tokA, spA, nuA, wdA, hMA, htA⟩ := hwaZ
  subst hv
  have hok := zj_tk_ok (g := zj_gM M) (Nat.zero_le M.t)
  exact rules 18 0 (zj_tk (zj_gM M) M.t 0) 0 0 0 0 0 0 0 wa (by omega) rfl ⟨⟨tokA, spA, nuA, _, _, wdA, _, _, _, hMA, htA, if_pos rfl, if_pos rfl, trivial⟩, ⟨hok.2.1, hok.2.2, hok.1, zj_tk_nn⟩, ⟨by decide, by decide, by decide⟩, by decide, by decide, by decide⟩ (hwaA.trans (hw9A.trans (hw8A.trans (hw7A.trans (hw6A.trans (hw5A.trans hA3)))))) (zj_R_rf _)
end
