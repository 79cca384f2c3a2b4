noncomputable section
/-! zj: the reference's next token -/
theorem zj_val_bd {g : Nat → Int} {q : Nat} : ∀ (n : Nat), (∀ j, j < n → 0 ≤ g (q + j) ∧ g (q + j) ≤ 255) → -(23 * (10 : Int) ^ n - 23) ≤ zj_val g q n ∧ zj_val g q n ≤ 23 * (10 : Int) ^ n - 23
  | 0, _ => ⟨(by decide : -((23 : Int) * 1 - 23) ≤ 0), (by decide : (0 : Int) ≤ 23 * 1 - 23)⟩
  | n + 1, h => by
    obtain ⟨h1, h2⟩ := zj_val_bd n (fun j hj => h j (by omega))
    have h3 := h n (by omega)
    rw [zj_val, Int.pow_succ]
    omega
theorem zj_val_b5 {g : Nat → Int} {q n : Nat} (hn : n ≤ 5) (h : ∀ j, j < n → 0 ≤ g (q + j) ∧ g (q + j) ≤ 255) : -2300000 ≤ zj_val g q n ∧ zj_val g q n ≤ 2300000 := by
  obtain ⟨h1, h2⟩ := zj_val_bd n h
  have h3 : (10 : Int) ^ n ≤ 100000 := by
    have h4 : n = 0 ∨ n = 1 ∨ n = 2 ∨ n = 3 ∨ n = 4 ∨ n = 5 := by omega
    rcases h4 with h4 | h4 | h4 | h4 | h4 | h4 <;> rw [h4] <;> decide
  omega
theorem zj_num {x c : Int32} {v : Int} (hx : x.toInt = v) (h1 : -2300000 ≤ v) (h2 : v ≤ 2300000) (h3 : 0 ≤ c.toInt) (h4 : c.toInt ≤ 255) : (10 * x + c - 48).toInt = 10 * v + c.toInt - 48 := by
  have e10 : (10 : Int32).toInt = 10 := rfl
  have e48 : (48 : Int32).toInt = 48 := rfl
  have m1 : (10 * x).toInt = 10 * x.toInt := by
    rw [Int32.toInt_mul, e10, zx_bm (by omega) (by omega)]
  have m2 : (10 * x + c).toInt = 10 * x.toInt + c.toInt := by rw [zx_addI _ _ (by omega) (by omega), m1]
  rw [zx_subI _ _ (by omega) (by omega), m2, e48, hx]
theorem zj_an_dg {c : Int} (h : zj_an c = true) (h2 : zj_sm c = false) : zj_dg c = true := by
  unfold zj_an at h
  rw [h2, Bool.or_false] at h
  exact h
theorem zj_an_sm {c : Int} (h : zj_an c = true) (h2 : zj_dg c = false) : zj_sm c = true := by
  unfold zj_an at h
  rw [h2, Bool.false_or] at h
  exact h
theorem zj_dgsm {c : Int} (h : zj_dg c = true) : zj_sm c = false := by
  have h1 := zj_dg_i.mp h
  cases h2 : zj_sm c with
  | false => rfl
  | true => have h3 := zj_sm_i.mp h2; omega
theorem zj_an_i {c : Int} (h : zj_an c = true) : 48 ≤ c ∧ c ≤ 122 := by
  unfold zj_an at h
  rw [Bool.or_eq_true, zj_dg_i, zj_sm_i] at h
  omega
theorem zj_wd_55 {g : Nat → Int} {q n : Nat} (hn : n ≤ 7) (h : ∀ j, j < n → zj_an (g (q + j)) = true) : 0 ≤ zj_wd g q n ∧ zj_wd g q n < 36028797018963968 := by
  obtain ⟨h1, h2⟩ := zj_wd_lt (g := g) (q := q) n (fun j hj => by have := zj_an_i (h j hj); omega)
  have h3 : (256 : Int) ^ n ≤ 72057594037927936 := by
    have h4 : n = 0 ∨ n = 1 ∨ n = 2 ∨ n = 3 ∨ n = 4 ∨ n = 5 ∨ n = 6 ∨ n = 7 := by omega
    rcases h4 with h4 | h4 | h4 | h4 | h4 | h4 | h4 | h4 <;> rw [h4] <;> decide
  omega
/-- a byte more is packed -/
theorem zj_pack {x : Int64} {c : Int32} {v : Int} (hx : x.toInt = v) (h1 : 0 ≤ v) (h2 : v < 36028797018963968) (h3 : 0 ≤ c.toInt) (h4 : c.toInt ≤ 255) : ((x <<< ((8 : Int32).toInt64 &&& 63)) ||| c.toInt64).toInt = 256 * v + c.toInt := by
  obtain ⟨a, rfl⟩ : ∃ a : Nat, v = (a : Int) := ⟨v.toNat, by omega⟩
  obtain ⟨b, hb⟩ : ∃ b : Nat, c.toInt = (b : Int) := ⟨c.toInt.toNat, by omega⟩
  have ha : a < 2 ^ 55 := by omega
  have hbb : b < 256 := by omega
  have hxe : x = Int64.ofNat a := by
    rw [← Int64.toInt_inj, hx, Int64.toInt_ofNat_of_lt (by omega)]
  have hce : c.toInt64 = Int64.ofNat b := by
    rw [← Int64.toInt_inj, Int32.toInt_toInt64, hb, Int64.toInt_ofNat_of_lt (by omega)]
  have h8 : ((8 : Int32).toInt64 &&& 63) = 8 := by decide
  have hsum : (Int64.ofNat a <<< (8 : Int64)) ||| Int64.ofNat b = Int64.ofNat (a * 256 + b) := by
    apply Int64.toBitVec_inj.mp
    rw [Int64.toBitVec_or, Int64.toBitVec_shiftLeft]
    apply BitVec.eq_of_toNat_eq
    rw [BitVec.toNat_or]
    show ((BitVec.ofNat 64 a) <<< 8).toNat ||| (BitVec.ofNat 64 b).toNat = (BitVec.ofNat 64 (a * 256 + b)).toNat
    rw [BitVec.toNat_shiftLeft, BitVec.toNat_ofNat, BitVec.toNat_ofNat, BitVec.toNat_ofNat, Nat.mod_eq_of_lt (a := a) (by omega), Nat.mod_eq_of_lt (a := b) (by omega), Nat.mod_eq_of_lt (a := a * 256 + b) (by omega), Nat.shiftLeft_eq, Nat.mod_eq_of_lt (by omega), ← Nat.shiftLeft_eq, ← Nat.shiftLeft_add_eq_or_of_lt (by omega), Nat.shiftLeft_eq]
  rw [hxe, hce, h8, hsum, Int64.toInt_ofNat_of_lt (by omega), hb]
  omega
set_option maxHeartbeats 8000000 in
theorem zj_next_W {l : Launch} {M : zj_M} {ws0 : va_W} {q : Nat} {at_ tok sp nu ft fa td on sm pm : Int32} {wd : Int64} {fv fe pf : Nat → Int32} (hB : zj_Mok M) (hM0 : zj_ms M ws0 (zj_ML M (nI M.t) (nI q) tok at_ sp nu wd ft fa td on sm pm) fv fe pf) (hq : q ≤ M.t) : zj_W l 2 150 (zj_MX M [.ref M.aM] ws0) (fun _ _ _ v ws' => v = none ∧ ∃ (tok2 sp2 nu2 : Int32) (wd2 : Int64), zj_ms M ws' (zj_ML M (nI M.t) (nI (zj_tk (zj_gM M) M.t q).2.2.2) tok2 (nI (zj_tk (zj_gM M) M.t q).2.2.1) sp2 nu2 wd2 ft fa td on sm pm) fv fe pf ∧ zj_tok (zj_tk (zj_gM M) M.t q) tok2 nu2 wd2) := by
  refine zj_enterO (md := zx_m150) (ow := zx_oc13) rfl rfl rfl ?_ ?_
  · rintro ex tys av ws ⟨-, rfl, -⟩
    exact Nat.le_of_ble_eq_true rfl
  intro p e R s mi args below meth c Q D A ex nL own cc tys ws av hX C hnL hown KRi KRv KRa
  subst hnL
  obtain ⟨h2, h3, h4⟩ := hX
  subst h2
  subst h3
  subst h4
  have hT := hB.1
  have hby : ∀ i, 0 ≤ zj_gM M i ∧ zj_gM M i ≤ 255 := hB.2.2
  have c178 : ∀ (N e1 q1 : Nat) (al sv c1 nu1 : Int32) (wd1 : Int64) (ws1 : va_W), M.t - e1 ≤ N → q1 ≤ e1 → e1 ≤ M.t → q1 < M.t → zj_an (zj_gM M q1) = true → zx_as ws1 = zx_as ws → zj_ms M ws1 (zj_ML M (nI M.t) (nI e1) tok (nI q1) (nI (e1 - q1)) nu1 wd1 ft fa td on sm pm) fv fe pf → zj_run zj_bl (zj_gM M) M.t q = q1 → ¬ (300 ≤ q1 ∧ 300 < M.t) → zj_run zj_an (zj_gM M) M.t q1 = zj_run zj_an (zj_gM M) M.t e1 → (sv = 1 ∧ zj_sm (zj_gM M q1) = true ∨ sv = 0 ∧ zj_sm (zj_gM M q1) = false) → (∀ j, j < e1 - q1 → zj_an (zj_gM M (q1 + j)) = true) → (al = 0 ∨ al = 1) → (al = 1 ↔ ∀ j, j < e1 - q1 → zj_sm (zj_gM M (q1 + j)) = zj_sm (zj_gM M q1)) → (e1 - q1 ≤ 8 → wd1.toInt = zj_wd (zj_gM M) q1 (e1 - q1)) → (e1 - q1 ≤ 5 → nu1.toInt = zj_val (zj_gM M) q1 (e1 - q1)) → zj_go p l e R s mi args below meth c Q D A (zx_mV zx_m150.2.1) 178 [(3, .int al), (2, .int sv), (1, .int c1), (0, .ref M.aM)] [] ws1 := by
    intro N
    induction N with
    | zero =>
      intro e1 q1 al sv c1 nu1 wd1 ws1 hN hqe he hqt hanq hA hM hrun h300 hre hsv hall hal01 hal hwd hnu
      have fin : ¬ (e1 < M.t ∧ zj_an (zj_gM M e1) = true) → zj_go p l e R s mi args below meth c Q D A (zx_mV zx_m150.2.1) 295 [(3, .int al), (2, .int sv), (1, .int c1), (0, .ref M.aM)] [] ws1 := by
        intro hno
        have hend : zj_run zj_an (zj_gM M) M.t q1 = e1 := by rw [hre, zj_run_e hno]
        have hqe1 : q1 < e1 := by
          rcases Nat.lt_or_ge q1 e1 with h | h
          · exact h
          · have h1 : e1 = q1 := by omega
            subst h1
            exact absurd ⟨hqt, hanq⟩ hno
        have htk : (zj_tk (zj_gM M) M.t q) = zj_t3 (zj_gM M) q1 e1 := by
          rw [zj_tk, hrun, zj_t2, if_neg h300, if_neg (by omega), if_pos hanq, ← zj_run_s hqt hanq, hend]
        have c330 : ∀ (tv : Int32), zj_tok (zj_tk (zj_gM M) M.t q) tv nu1 wd1 → zj_go p l e R s mi args below meth c Q D A (zx_mV zx_m150.2.1) 330 [(3, .int al), (2, .int sv), (1, .int c1), (0, .ref M.aM)] [.int tv, .ref M.aM] ws1 := by
          intro tv htok
          refine zj_putM (L' := (zj_ML M (nI M.t) (nI e1) tv (nI q1) (nI (e1 - q1)) nu1 wd1 ft fa td on sm pm)) C (List.mem_of_getElem? (i := 172) rfl) rfl rfl rfl hM (Nat.le_of_ble_eq_true rfl) (by decide) rfl (zj_fit_i rfl _) (by unfold zj_ML; repeat first | exact zj_sub_nil | refine zj_sub_cons rfl ?_) (fun w9 hw9M hw9A => ?_)
          refine KRv 333 _ _ (List.mem_of_getElem? (i := 173) rfl) rfl (hw9A.trans hA) ⟨rfl, tv, (nI (e1 - q1)), nu1, wd1, ?_, htok⟩
          have hp1 : (zj_tk (zj_gM M) M.t q).2.2.2 = e1 ∧ (zj_tk (zj_gM M) M.t q).2.2.1 = q1 := by
            rw [htk, zj_t3]
            split
            · split <;> exact ⟨rfl, rfl⟩
            · exact ⟨rfl, rfl⟩
          rw [hp1.1, hp1.2]
          exact hw9M
        refine zj_aload_n C (List.mem_of_getElem? (i := 154) rfl) rfl rfl rfl ?_
        refine zj_iload_n C (List.mem_of_getElem? (i := 155) rfl) rfl rfl rfl ?_
        refine zj_if_eq (tgt := 317) C (List.mem_of_getElem? (i := 156) rfl) rfl (by decide) (fun hb => ?_) (fun hb => ?_)
        · have hnall : ∃ j, j < e1 - q1 ∧ zj_sm (zj_gM M (q1 + j)) ≠ zj_sm (zj_gM M q1) := by
            apply Classical.byContradiction
            intro h
            have h1 := hal.mpr (fun j hj => Classical.byContradiction (fun h2 => h ⟨j, hj, h2⟩))
            rw [hb] at h1
            exact absurd h1 (by decide)
          refine zj_iconst (v := 4) C (List.mem_of_getElem? (i := 165) rfl) rfl (by decide) ?_
          refine zj_goto (tgt := 330) C (List.mem_of_getElem? (i := 166) rfl) (by decide) ?_
          refine c330 4 (zj_tok_bad ?_)
          obtain ⟨j, hj, hne⟩ := hnall
          have haj := hall j hj
          rw [htk, zj_t3]
          split
          · rename_i hdg
            rw [if_neg]
            rintro ⟨-, h⟩
            have h1 := zj_all_i.mp h j hj
            refine hne ?_
            rw [zj_dgsm h1, zj_dgsm hdg]
          · rename_i hdg
            refine zj_find_no (by omega) (Or.inr ⟨j, hj, ?_⟩)
            have h1 : zj_sm (zj_gM M q1) = true := zj_an_sm hanq (by simpa using hdg)
            exact zj_an_dg haj (by rw [h1] at hne; simpa using hne)
        have hb : al = 1 := hal01.resolve_left hb
        have hsame := hal.mp hb
        refine zj_aload_n C (List.mem_of_getElem? (i := 157) rfl) rfl rfl rfl ?_
        refine zj_getM C (List.mem_of_getElem? (i := 158) rfl) rfl rfl rfl hM rfl ?_
        refine zj_iload_n C (List.mem_of_getElem? (i := 159) rfl) rfl rfl rfl ?_
        refine zj_if_eq (tgt := 313) C (List.mem_of_getElem? (i := 160) rfl) rfl (by decide) (fun hs => ?_) (fun hs => ?_)
        · have hsm : zj_sm (zj_gM M q1) = false := by
            rcases hsv with ⟨h1, -⟩ | ⟨-, h1⟩
            · rw [h1] at hs; exact absurd hs (by decide)
            · exact h1
          have hdq : zj_dg (zj_gM M q1) = true := zj_an_dg hanq hsm
          have hda : zj_all zj_dg (zj_gM M) q1 (e1 - q1) = true := zj_all_i.mpr (fun j hj => zj_an_dg (hall j hj) ((hsame j hj).trans hsm))
          refine zj_iconst (v := 5) C (List.mem_of_getElem? (i := 163) rfl) rfl (by decide) ?_
          refine zj_icmp_le (tgt := 321) C (List.mem_of_getElem? (i := 164) rfl) rfl (by decide) (fun h5 => ?_) (fun h5 => ?_)
          · have h5 : e1 - q1 ≤ 5 := (nI_leI (a := e1 - q1) (b := 5) (by omega) (by decide)).mp h5
            refine zj_iload_n C (List.mem_of_getElem? (i := 167) rfl) rfl rfl rfl ?_
            refine zj_if_eq (tgt := 329) C (List.mem_of_getElem? (i := 168) rfl) rfl (by decide) (fun hs2 => ?_) (fun hs2 => ?_)
            rotate_left
            · exact absurd hs hs2
            refine zj_iconst (v := 2) C (List.mem_of_getElem? (i := 171) rfl) rfl (by decide) ?_
            refine c330 2 (zj_tok_num ?_ ?_)
            · rw [htk, zj_t3, if_pos hdq, if_pos ⟨h5, hda⟩]
            · rw [htk, zj_t3, if_pos hdq, if_pos ⟨h5, hda⟩]
              exact hnu h5
          have h5 : ¬ e1 - q1 ≤ 5 := fun h => h5 ((nI_leI (a := e1 - q1) (b := 5) (by omega) (by decide)).mpr h)
          refine zj_iconst (v := 4) C (List.mem_of_getElem? (i := 165) rfl) rfl (by decide) ?_
          refine zj_goto (tgt := 330) C (List.mem_of_getElem? (i := 166) rfl) (by decide) ?_
          refine c330 4 (zj_tok_bad ?_)
          rw [htk, zj_t3, if_pos hdq, if_neg (fun h => h5 h.1)]
        have hsm : zj_sm (zj_gM M q1) = true := by
          rcases hsv with ⟨-, h1⟩ | ⟨h1, -⟩
          · exact h1
          · exact absurd h1 hs
        have hdq : ¬ zj_dg (zj_gM M q1) = true := fun h => by rw [zj_dgsm h] at hsm; cases hsm
        refine zj_bipush (v := 8) C (List.mem_of_getElem? (i := 161) rfl) rfl (by decide) ?_
        refine zj_goto (tgt := 314) C (List.mem_of_getElem? (i := 162) rfl) (by decide) ?_
        refine zj_icmp_le (tgt := 321) C (List.mem_of_getElem? (i := 164) rfl) rfl (by decide) (fun h8 => ?_) (fun h8 => ?_)
        · have h8 : e1 - q1 ≤ 8 := (nI_leI (a := e1 - q1) (b := 8) (by omega) (by decide)).mp h8
          refine zj_iload_n C (List.mem_of_getElem? (i := 167) rfl) rfl rfl rfl ?_
          refine zj_if_eq (tgt := 329) C (List.mem_of_getElem? (i := 168) rfl) rfl (by decide) (fun hs2 => ?_) (fun hs2 => ?_)
          · exact absurd hs2 hs
          refine zj_iconst (v := 1) C (List.mem_of_getElem? (i := 169) rfl) rfl (by decide) ?_
          refine zj_goto (tgt := 330) C (List.mem_of_getElem? (i := 170) rfl) (by decide) ?_
          refine c330 1 ?_
          rw [htk, zj_t3, if_neg hdq]
          exact zj_tok_word (by omega) h8 (fun j hj => (hsame j hj).trans hsm) (hwd h8)
        have h8 : ¬ e1 - q1 ≤ 8 := fun h => h8 ((nI_leI (a := e1 - q1) (b := 8) (by omega) (by decide)).mpr h)
        refine zj_iconst (v := 4) C (List.mem_of_getElem? (i := 165) rfl) rfl (by decide) ?_
        refine zj_goto (tgt := 330) C (List.mem_of_getElem? (i := 166) rfl) (by decide) ?_
        refine c330 4 (zj_tok_bad ?_)
        rw [htk, zj_t3, if_neg hdq]
        exact zj_find_no (by omega) (Or.inl (by omega))
      have het : e1 = M.t := by omega
      refine zj_aload_n C (List.mem_of_getElem? (i := 93) rfl) rfl rfl rfl ?_
      have hO := hM
      obtain ⟨⟨fsO, hO0, -⟩, -⟩ := hO
      refine zj_callV (As := []) (rest := []) C (List.mem_of_getElem? (i := 94) rfl) rfl rfl rfl (by decide) (zj_W_mono (zj_peek_W hB hM he) (by decide)) rfl rfl hO0 rfl (Nat.le_of_ble_eq_true rfl) rfl ⟨rfl, rfl, rfl⟩ (fun v wp hwpA hwpZ => ?_)
      obtain ⟨hw, cwp, hv, hcwp⟩ := hwpZ
      subst hw
      subst hv
      refine zj_callS (As := [.int cwp]) (rest := []) C (List.mem_of_getElem? (i := 95) rfl) rfl rfl (Or.inl rfl) (zj_W_mono (zj_isSmallM_W (M := M) (ws0 := ws1) (x := cwp)) (by decide)) rfl rfl (Nat.le_of_ble_eq_true rfl) rfl ⟨rfl, rfl, rfl⟩ (fun v wq hwqA hwqZ => ?_)
      obtain ⟨hw, hwq⟩ := hwqZ
      subst hw
      rcases hwq with ⟨hv, hq1⟩ | ⟨hv, hq1⟩
      · subst hv
        refine zj_if_ne (tgt := 198) C (List.mem_of_getElem? (i := 96) rfl) rfl (by decide) (fun hd => ?_) (fun hd => ?_)
        rotate_left
        · exact absurd hd (by decide)
        have h9 : zj_an cwp.toInt = true := (by unfold zj_an; rw [hq1]; exact Bool.or_true _)
        rcases hcwp with h | h
        · exact absurd h.1 (by omega)
        · rw [h.2] at h9
          exact absurd h9 (by decide)
      subst hv
      refine zj_if_ne (tgt := 198) C (List.mem_of_getElem? (i := 96) rfl) rfl (by decide) (fun hd => ?_) (fun hd => ?_)
      · exact absurd rfl hd
      refine zj_aload_n C (List.mem_of_getElem? (i := 97) rfl) rfl rfl rfl ?_
      have hO := hM
      obtain ⟨⟨fsO, hO0, -⟩, -⟩ := hO
      refine zj_callV (As := []) (rest := []) C (List.mem_of_getElem? (i := 98) rfl) rfl rfl rfl (by decide) (zj_W_mono (zj_peek_W hB hM he) (by decide)) rfl rfl hO0 rfl (Nat.le_of_ble_eq_true rfl) rfl ⟨rfl, rfl, rfl⟩ (fun v wr hwrA hwrZ => ?_)
      obtain ⟨hw, cwr, hv, hcwr⟩ := hwrZ
      subst hw
      subst hv
      refine zj_callS (As := [.int cwr]) (rest := []) C (List.mem_of_getElem? (i := 99) rfl) rfl rfl (Or.inl rfl) (zj_W_mono (zj_isDigitM_W (M := M) (ws0 := ws1) (x := cwr)) (by decide)) rfl rfl (Nat.le_of_ble_eq_true rfl) rfl ⟨rfl, rfl, rfl⟩ (fun v wt hwtA hwtZ => ?_)
      obtain ⟨hw, hwt⟩ := hwtZ
      subst hw
      rcases hwt with ⟨hv, hq2⟩ | ⟨hv, hq2⟩
      · subst hv
        refine zj_if_eq (tgt := 295) C (List.mem_of_getElem? (i := 100) rfl) rfl (by decide) (fun hd2 => ?_) (fun hd2 => ?_)
        · exact absurd hd2 (by decide)
        have h9 : zj_an cwr.toInt = true := (by unfold zj_an; rw [hq2]; rfl)
        rcases hcwr with h | h
        · exact absurd h.1 (by omega)
        · rw [h.2] at h9
          exact absurd h9 (by decide)
      subst hv
      refine zj_if_eq (tgt := 295) C (List.mem_of_getElem? (i := 100) rfl) rfl (by decide) (fun hd2 => ?_) (fun hd2 => ?_)
      rotate_left
      · exact absurd rfl hd2
      refine fin ?_
      rintro ⟨h1, h2⟩
      have e1x : cwp = M.fT e1 := by rcases hcwp with h | h; exact h.2; exact absurd h.1 (by omega)
      have e2x : cwr = M.fT e1 := by rcases hcwr with h | h; exact h.2; exact absurd h.1 (by omega)
      rw [e1x] at hq1
      rw [e2x] at hq2
      have h3 : zj_an (zj_gM M e1) = false := by
        show zj_an (M.fT e1).toInt = false
        unfold zj_an
        rw [hq1, hq2]
        rfl
      rw [h3] at h2
      cases h2
    | succ N ih =>
      intro e1 q1 al sv c1 nu1 wd1 ws1 hN hqe he hqt hanq hA hM hrun h300 hre hsv hall hal01 hal hwd hnu
      have fin : ¬ (e1 < M.t ∧ zj_an (zj_gM M e1) = true) → zj_go p l e R s mi args below meth c Q D A (zx_mV zx_m150.2.1) 295 [(3, .int al), (2, .int sv), (1, .int c1), (0, .ref M.aM)] [] ws1 := by
        intro hno
        have hend : zj_run zj_an (zj_gM M) M.t q1 = e1 := by rw [hre, zj_run_e hno]
        have hqe1 : q1 < e1 := by
          rcases Nat.lt_or_ge q1 e1 with h | h
          · exact h
          · have h1 : e1 = q1 := by omega
            subst h1
            exact absurd ⟨hqt, hanq⟩ hno
        have htk : (zj_tk (zj_gM M) M.t q) = zj_t3 (zj_gM M) q1 e1 := by
          rw [zj_tk, hrun, zj_t2, if_neg h300, if_neg (by omega), if_pos hanq, ← zj_run_s hqt hanq, hend]
        have c330 : ∀ (tv : Int32), zj_tok (zj_tk (zj_gM M) M.t q) tv nu1 wd1 → zj_go p l e R s mi args below meth c Q D A (zx_mV zx_m150.2.1) 330 [(3, .int al), (2, .int sv), (1, .int c1), (0, .ref M.aM)] [.int tv, .ref M.aM] ws1 := by
          intro tv htok
          refine zj_putM (L' := (zj_ML M (nI M.t) (nI e1) tv (nI q1) (nI (e1 - q1)) nu1 wd1 ft fa td on sm pm)) C (List.mem_of_getElem? (i := 172) rfl) rfl rfl rfl hM (Nat.le_of_ble_eq_true rfl) (by decide) rfl (zj_fit_i rfl _) (by unfold zj_ML; repeat first | exact zj_sub_nil | refine zj_sub_cons rfl ?_) (fun w9 hw9M hw9A => ?_)
          refine KRv 333 _ _ (List.mem_of_getElem? (i := 173) rfl) rfl (hw9A.trans hA) ⟨rfl, tv, (nI (e1 - q1)), nu1, wd1, ?_, htok⟩
          have hp1 : (zj_tk (zj_gM M) M.t q).2.2.2 = e1 ∧ (zj_tk (zj_gM M) M.t q).2.2.1 = q1 := by
            rw [htk, zj_t3]
            split
            · split <;> exact ⟨rfl, rfl⟩
            · exact ⟨rfl, rfl⟩
          rw [hp1.1, hp1.2]
          exact hw9M
        refine zj_aload_n C (List.mem_of_getElem? (i := 154) rfl) rfl rfl rfl ?_
        refine zj_iload_n C (List.mem_of_getElem? (i := 155) rfl) rfl rfl rfl ?_
        refine zj_if_eq (tgt := 317) C (List.mem_of_getElem? (i := 156) rfl) rfl (by decide) (fun hb => ?_) (fun hb => ?_)
        · have hnall : ∃ j, j < e1 - q1 ∧ zj_sm (zj_gM M (q1 + j)) ≠ zj_sm (zj_gM M q1) := by
            apply Classical.byContradiction
            intro h
            have h1 := hal.mpr (fun j hj => Classical.byContradiction (fun h2 => h ⟨j, hj, h2⟩))
            rw [hb] at h1
            exact absurd h1 (by decide)
          refine zj_iconst (v := 4) C (List.mem_of_getElem? (i := 165) rfl) rfl (by decide) ?_
          refine zj_goto (tgt := 330) C (List.mem_of_getElem? (i := 166) rfl) (by decide) ?_
          refine c330 4 (zj_tok_bad ?_)
          obtain ⟨j, hj, hne⟩ := hnall
          have haj := hall j hj
          rw [htk, zj_t3]
          split
          · rename_i hdg
            rw [if_neg]
            rintro ⟨-, h⟩
            have h1 := zj_all_i.mp h j hj
            refine hne ?_
            rw [zj_dgsm h1, zj_dgsm hdg]
          · rename_i hdg
            refine zj_find_no (by omega) (Or.inr ⟨j, hj, ?_⟩)
            have h1 : zj_sm (zj_gM M q1) = true := zj_an_sm hanq (by simpa using hdg)
            exact zj_an_dg haj (by rw [h1] at hne; simpa using hne)
        have hb : al = 1 := hal01.resolve_left hb
        have hsame := hal.mp hb
        refine zj_aload_n C (List.mem_of_getElem? (i := 157) rfl) rfl rfl rfl ?_
        refine zj_getM C (List.mem_of_getElem? (i := 158) rfl) rfl rfl rfl hM rfl ?_
        refine zj_iload_n C (List.mem_of_getElem? (i := 159) rfl) rfl rfl rfl ?_
        refine zj_if_eq (tgt := 313) C (List.mem_of_getElem? (i := 160) rfl) rfl (by decide) (fun hs => ?_) (fun hs => ?_)
        · have hsm : zj_sm (zj_gM M q1) = false := by
            rcases hsv with ⟨h1, -⟩ | ⟨-, h1⟩
            · rw [h1] at hs; exact absurd hs (by decide)
            · exact h1
          have hdq : zj_dg (zj_gM M q1) = true := zj_an_dg hanq hsm
          have hda : zj_all zj_dg (zj_gM M) q1 (e1 - q1) = true := zj_all_i.mpr (fun j hj => zj_an_dg (hall j hj) ((hsame j hj).trans hsm))
          refine zj_iconst (v := 5) C (List.mem_of_getElem? (i := 163) rfl) rfl (by decide) ?_
          refine zj_icmp_le (tgt := 321) C (List.mem_of_getElem? (i := 164) rfl) rfl (by decide) (fun h5 => ?_) (fun h5 => ?_)
          · have h5 : e1 - q1 ≤ 5 := (nI_leI (a := e1 - q1) (b := 5) (by omega) (by decide)).mp h5
            refine zj_iload_n C (List.mem_of_getElem? (i := 167) rfl) rfl rfl rfl ?_
            refine zj_if_eq (tgt := 329) C (List.mem_of_getElem? (i := 168) rfl) rfl (by decide) (fun hs2 => ?_) (fun hs2 => ?_)
            rotate_left
            · exact absurd hs hs2
            refine zj_iconst (v := 2) C (List.mem_of_getElem? (i := 171) rfl) rfl (by decide) ?_
            refine c330 2 (zj_tok_num ?_ ?_)
            · rw [htk, zj_t3, if_pos hdq, if_pos ⟨h5, hda⟩]
            · rw [htk, zj_t3, if_pos hdq, if_pos ⟨h5, hda⟩]
              exact hnu h5
          have h5 : ¬ e1 - q1 ≤ 5 := fun h => h5 ((nI_leI (a := e1 - q1) (b := 5) (by omega) (by decide)).mpr h)
          refine zj_iconst (v := 4) C (List.mem_of_getElem? (i := 165) rfl) rfl (by decide) ?_
          refine zj_goto (tgt := 330) C (List.mem_of_getElem? (i := 166) rfl) (by decide) ?_
          refine c330 4 (zj_tok_bad ?_)
          rw [htk, zj_t3, if_pos hdq, if_neg (fun h => h5 h.1)]
        have hsm : zj_sm (zj_gM M q1) = true := by
          rcases hsv with ⟨-, h1⟩ | ⟨h1, -⟩
          · exact h1
          · exact absurd h1 hs
        have hdq : ¬ zj_dg (zj_gM M q1) = true := fun h => by rw [zj_dgsm h] at hsm; cases hsm
        refine zj_bipush (v := 8) C (List.mem_of_getElem? (i := 161) rfl) rfl (by decide) ?_
        refine zj_goto (tgt := 314) C (List.mem_of_getElem? (i := 162) rfl) (by decide) ?_
        refine zj_icmp_le (tgt := 321) C (List.mem_of_getElem? (i := 164) rfl) rfl (by decide) (fun h8 => ?_) (fun h8 => ?_)
        · have h8 : e1 - q1 ≤ 8 := (nI_leI (a := e1 - q1) (b := 8) (by omega) (by decide)).mp h8
          refine zj_iload_n C (List.mem_of_getElem? (i := 167) rfl) rfl rfl rfl ?_
          refine zj_if_eq (tgt := 329) C (List.mem_of_getElem? (i := 168) rfl) rfl (by decide) (fun hs2 => ?_) (fun hs2 => ?_)
          · exact absurd hs2 hs
          refine zj_iconst (v := 1) C (List.mem_of_getElem? (i := 169) rfl) rfl (by decide) ?_
          refine zj_goto (tgt := 330) C (List.mem_of_getElem? (i := 170) rfl) (by decide) ?_
          refine c330 1 ?_
          rw [htk, zj_t3, if_neg hdq]
          exact zj_tok_word (by omega) h8 (fun j hj => (hsame j hj).trans hsm) (hwd h8)
        have h8 : ¬ e1 - q1 ≤ 8 := fun h => h8 ((nI_leI (a := e1 - q1) (b := 8) (by omega) (by decide)).mpr h)
        refine zj_iconst (v := 4) C (List.mem_of_getElem? (i := 165) rfl) rfl (by decide) ?_
        refine zj_goto (tgt := 330) C (List.mem_of_getElem? (i := 166) rfl) (by decide) ?_
        refine c330 4 (zj_tok_bad ?_)
        rw [htk, zj_t3, if_neg hdq]
        exact zj_find_no (by omega) (Or.inl (by omega))
      have more : e1 < M.t → zj_an (zj_gM M e1) = true → zj_go p l e R s mi args below meth c Q D A (zx_mV zx_m150.2.1) 198 [(3, .int al), (2, .int sv), (1, .int c1), (0, .ref M.aM)] [] ws1 := by
        intro hlt han
        have hn1 : e1 + 1 - q1 = (e1 - q1) + 1 := by omega
        have hqn : q1 + (e1 - q1) = e1 := by omega
        have hbe := hby e1
        have c272 : ∀ (al2 nu2 : Int32) (wd2 : Int64) (ws2 : va_W), zx_as ws2 = zx_as ws → zj_ms M ws2 (zj_ML M (nI M.t) (nI e1) tok (nI q1) (nI (e1 - q1)) nu2 wd2 ft fa td on sm pm) fv fe pf → (al2 = 0 ∨ al2 = 1) → (al2 = 1 ↔ ∀ j, j < e1 + 1 - q1 → zj_sm (zj_gM M (q1 + j)) = zj_sm (zj_gM M q1)) → (e1 + 1 - q1 ≤ 8 → wd2.toInt = zj_wd (zj_gM M) q1 (e1 + 1 - q1)) → (e1 + 1 - q1 ≤ 5 → nu2.toInt = zj_val (zj_gM M) q1 (e1 + 1 - q1)) → zj_go p l e R s mi args below meth c Q D A (zx_mV zx_m150.2.1) 272 [(3, .int al2), (2, .int sv), (1, .int c1), (0, .ref M.aM)] [] ws2 := by
          intro al2 nu2 wd2 ws2 hA2 hM2 h01 hal2 hwd2 hnu2
          refine zj_aload_n C (List.mem_of_getElem? (i := 141) rfl) rfl rfl rfl ?_
          refine zj_dup C (List.mem_of_getElem? (i := 142) rfl) rfl rfl ?_
          refine zj_getM C (List.mem_of_getElem? (i := 143) rfl) rfl rfl rfl hM2 rfl ?_
          refine zj_iconst (v := 1) C (List.mem_of_getElem? (i := 144) rfl) rfl (by decide) ?_
          refine zj_iadd (v := (nI (e1 - q1 + 1))) C (List.mem_of_getElem? (i := 145) rfl) rfl (nI_1 _) ?_
          refine zj_putM (L' := (zj_ML M (nI M.t) (nI e1) tok (nI q1) (nI (e1 - q1 + 1)) nu2 wd2 ft fa td on sm pm)) C (List.mem_of_getElem? (i := 146) rfl) rfl rfl rfl hM2 (Nat.le_of_ble_eq_true rfl) (by decide) rfl (zj_fit_i rfl _) (by unfold zj_ML; repeat first | exact zj_sub_nil | refine zj_sub_cons rfl ?_) (fun w3 hw3M hw3A => ?_)
          refine zj_aload_n C (List.mem_of_getElem? (i := 147) rfl) rfl rfl rfl ?_
          refine zj_dup C (List.mem_of_getElem? (i := 148) rfl) rfl rfl ?_
          refine zj_getM C (List.mem_of_getElem? (i := 149) rfl) rfl rfl rfl hw3M rfl ?_
          refine zj_iconst (v := 1) C (List.mem_of_getElem? (i := 150) rfl) rfl (by decide) ?_
          refine zj_iadd (v := (nI (e1 + 1))) C (List.mem_of_getElem? (i := 151) rfl) rfl (nI_1 _) ?_
          refine zj_putM (L' := (zj_ML M (nI M.t) (nI (e1 + 1)) tok (nI q1) (nI (e1 - q1 + 1)) nu2 wd2 ft fa td on sm pm)) C (List.mem_of_getElem? (i := 152) rfl) rfl rfl rfl hw3M (Nat.le_of_ble_eq_true rfl) (by decide) rfl (zj_fit_i rfl _) (by unfold zj_ML; repeat first | exact zj_sub_nil | refine zj_sub_cons rfl ?_) (fun w4 hw4M hw4A => ?_)
          refine zj_goto (tgt := 178) C (List.mem_of_getElem? (i := 153) rfl) (by decide) ?_
          rw [← hn1] at hw4M
          refine ih (e1 + 1) q1 al2 sv c1 nu2 wd2 w4 (by omega) (by omega) (by omega) hqt hanq (hw4A.trans (hw3A.trans hA2)) hw4M hrun h300 (by rw [hre, zj_run_s hlt han]) hsv (fun j hj => ?_) h01 hal2 hwd2 hnu2
          by_cases hj2 : j = e1 - q1
          · rw [hj2, hqn]; exact han
          · exact hall j (by omega)
        have c245 : ∀ (al2 : Int32) (wd2 : Int64) (ws2 : va_W), zx_as ws2 = zx_as ws → zj_ms M ws2 (zj_ML M (nI M.t) (nI e1) tok (nI q1) (nI (e1 - q1)) nu1 wd2 ft fa td on sm pm) fv fe pf → (al2 = 0 ∨ al2 = 1) → (al2 = 1 ↔ ∀ j, j < e1 + 1 - q1 → zj_sm (zj_gM M (q1 + j)) = zj_sm (zj_gM M q1)) → (e1 + 1 - q1 ≤ 8 → wd2.toInt = zj_wd (zj_gM M) q1 (e1 + 1 - q1)) → zj_go p l e R s mi args below meth c Q D A (zx_mV zx_m150.2.1) 245 [(3, .int al2), (2, .int sv), (1, .int c1), (0, .ref M.aM)] [] ws2 := by
          intro al2 wd2 ws2 hA2 hM2 h01 hal2 hwd2
          refine zj_aload_n C (List.mem_of_getElem? (i := 126) rfl) rfl rfl rfl ?_
          refine zj_getM C (List.mem_of_getElem? (i := 127) rfl) rfl rfl rfl hM2 rfl ?_
          refine zj_iconst (v := 5) C (List.mem_of_getElem? (i := 128) rfl) rfl (by decide) ?_
          refine zj_icmp_ge (tgt := 272) C (List.mem_of_getElem? (i := 129) rfl) rfl (by decide) (fun hb => ?_) (fun hb => ?_)
          · have hb : 5 ≤ e1 - q1 := (nI_leI (a := 5) (b := e1 - q1) (by decide) (by omega)).mp hb
            exact c272 al2 nu1 wd2 ws2 hA2 hM2 h01 hal2 hwd2 (fun h => absurd h (by omega))
          have hb : e1 - q1 < 5 := by
            rcases Nat.lt_or_ge (e1 - q1) 5 with h | h
            · exact h
            · exact absurd ((nI_leI (a := 5) (b := e1 - q1) (by decide) (by omega)).mpr h) hb
          refine zj_aload_n C (List.mem_of_getElem? (i := 130) rfl) rfl rfl rfl ?_
          refine zj_bipush (v := 10) C (List.mem_of_getElem? (i := 131) rfl) rfl (by decide) ?_
          refine zj_aload_n C (List.mem_of_getElem? (i := 132) rfl) rfl rfl rfl ?_
          refine zj_getM C (List.mem_of_getElem? (i := 133) rfl) rfl rfl rfl hM2 rfl ?_
          refine zj_imul (v := (10 * nu1)) C (List.mem_of_getElem? (i := 134) rfl) rfl rfl ?_
          refine zj_aload_n C (List.mem_of_getElem? (i := 135) rfl) rfl rfl rfl ?_
          have hO := hM2
          obtain ⟨⟨fsO, hO0, -⟩, -⟩ := hO
          refine zj_callV (As := []) (rest := [.int (10 * nu1), .ref M.aM]) C (List.mem_of_getElem? (i := 136) rfl) rfl rfl rfl (by decide) (zj_W_mono (zj_peek_W hB hM2 he) (by decide)) rfl rfl hO0 rfl (Nat.le_of_ble_eq_true rfl) rfl ⟨rfl, rfl, rfl⟩ (fun v wp hwpA hwpZ => ?_)
          obtain ⟨hw, cwp, hv, hcwp⟩ := hwpZ
          subst hw
          subst hv
          have e1x : cwp = M.fT e1 := by rcases hcwp with h | h; exact h.2; exact absurd h.1 (by omega)
          subst e1x
          refine zj_iadd (v := ((10 * nu1) + (M.fT e1))) C (List.mem_of_getElem? (i := 137) rfl) rfl rfl ?_
          refine zj_bipush (v := 48) C (List.mem_of_getElem? (i := 138) rfl) rfl (by decide) ?_
          refine zj_isub (v := (((10 * nu1) + (M.fT e1)) - 48)) C (List.mem_of_getElem? (i := 139) rfl) rfl rfl ?_
          refine zj_putM (L' := (zj_ML M (nI M.t) (nI e1) tok (nI q1) (nI (e1 - q1)) (((10 * nu1) + (M.fT e1)) - 48) wd2 ft fa td on sm pm)) C (List.mem_of_getElem? (i := 140) rfl) rfl rfl rfl hM2 (Nat.le_of_ble_eq_true rfl) (by decide) rfl (zj_fit_i rfl _) (by unfold zj_ML; repeat first | exact zj_sub_nil | refine zj_sub_cons rfl ?_) (fun w3 hw3M hw3A => ?_)
          refine c272 al2 _ wd2 w3 (hw3A.trans hA2) hw3M h01 hal2 hwd2 (fun h => ?_)
          have hv5 := zj_val_b5 (g := zj_gM M) (q := q1) (n := e1 - q1) (by omega) (fun j _ => hby _)
          rw [hn1, zj_val, hqn]
          exact zj_num (hnu (by omega)) hv5.1 hv5.2 hbe.1 hbe.2
        have c219 : ∀ (al2 : Int32), (al2 = 0 ∨ al2 = 1) → (al2 = 1 ↔ ∀ j, j < e1 + 1 - q1 → zj_sm (zj_gM M (q1 + j)) = zj_sm (zj_gM M q1)) → zj_go p l e R s mi args below meth c Q D A (zx_mV zx_m150.2.1) 219 [(3, .int al2), (2, .int sv), (1, .int c1), (0, .ref M.aM)] [] ws1 := by
          intro al2 h01 hal2
          refine zj_aload_n C (List.mem_of_getElem? (i := 112) rfl) rfl rfl rfl ?_
          refine zj_getM C (List.mem_of_getElem? (i := 113) rfl) rfl rfl rfl hM rfl ?_
          refine zj_bipush (v := 8) C (List.mem_of_getElem? (i := 114) rfl) rfl (by decide) ?_
          refine zj_icmp_ge (tgt := 245) C (List.mem_of_getElem? (i := 115) rfl) rfl (by decide) (fun hb => ?_) (fun hb => ?_)
          · have hb : 8 ≤ e1 - q1 := (nI_leI (a := 8) (b := e1 - q1) (by decide) (by omega)).mp hb
            exact c245 al2 wd1 ws1 hA hM h01 hal2 (fun h => absurd h (by omega))
          have hb : e1 - q1 < 8 := by
            rcases Nat.lt_or_ge (e1 - q1) 8 with h | h
            · exact h
            · exact absurd ((nI_leI (a := 8) (b := e1 - q1) (by decide) (by omega)).mpr h) hb
          refine zj_aload_n C (List.mem_of_getElem? (i := 116) rfl) rfl rfl rfl ?_
          refine zj_aload_n C (List.mem_of_getElem? (i := 117) rfl) rfl rfl rfl ?_
          refine zj_getM C (List.mem_of_getElem? (i := 118) rfl) rfl rfl rfl hM rfl ?_
          refine zj_bipush (v := 8) C (List.mem_of_getElem? (i := 119) rfl) rfl (by decide) ?_
          refine zj_lshl (v := (wd1 <<< ((8 : Int32).toInt64 &&& 63))) C (List.mem_of_getElem? (i := 120) rfl) rfl rfl ?_
          refine zj_aload_n C (List.mem_of_getElem? (i := 121) rfl) rfl rfl rfl ?_
          have hO := hM
          obtain ⟨⟨fsO, hO0, -⟩, -⟩ := hO
          refine zj_callV (As := []) (rest := [.long (wd1 <<< ((8 : Int32).toInt64 &&& 63)), .ref M.aM]) C (List.mem_of_getElem? (i := 122) rfl) rfl rfl rfl (by decide) (zj_W_mono (zj_peek_W hB hM he) (by decide)) rfl rfl hO0 rfl (Nat.le_of_ble_eq_true rfl) rfl ⟨rfl, rfl, rfl⟩ (fun v wp hwpA hwpZ => ?_)
          obtain ⟨hw, cwp, hv, hcwp⟩ := hwpZ
          subst hw
          subst hv
          have e1x : cwp = M.fT e1 := by rcases hcwp with h | h; exact h.2; exact absurd h.1 (by omega)
          subst e1x
          refine zj_i2l (v := (M.fT e1).toInt64) C (List.mem_of_getElem? (i := 123) rfl) rfl rfl ?_
          refine zj_lor (v := (wd1 <<< ((8 : Int32).toInt64 &&& 63) ||| (M.fT e1).toInt64)) C (List.mem_of_getElem? (i := 124) rfl) rfl rfl ?_
          refine zj_putM (L' := (zj_ML M (nI M.t) (nI e1) tok (nI q1) (nI (e1 - q1)) nu1 (wd1 <<< ((8 : Int32).toInt64 &&& 63) ||| (M.fT e1).toInt64) ft fa td on sm pm)) C (List.mem_of_getElem? (i := 125) rfl) rfl rfl rfl hM (Nat.le_of_ble_eq_true rfl) (by decide) rfl (zj_fit_l rfl _) (by unfold zj_ML; repeat first | exact zj_sub_nil | refine zj_sub_cons rfl ?_) (fun w3 hw3M hw3A => ?_)
          refine c245 al2 _ w3 (hw3A.trans hA) hw3M h01 hal2 (fun h => ?_)
          have hw8 := zj_wd_55 (g := zj_gM M) (q := q1) (n := e1 - q1) (by omega) hall
          rw [hn1, zj_wd, hqn]
          exact zj_pack (hwd (by omega)) hw8.1 hw8.2 hbe.1 hbe.2
        refine zj_iload_n C (List.mem_of_getElem? (i := 101) rfl) rfl rfl rfl ?_
        refine zj_if_eq (tgt := 217) C (List.mem_of_getElem? (i := 102) rfl) rfl (by decide) (fun hb => ?_) (fun hb => ?_)
        · skip
          refine zj_iconst (v := 0) C (List.mem_of_getElem? (i := 110) rfl) rfl (by decide) ?_
          refine zj_istore_n C (List.mem_of_getElem? (i := 111) rfl) rfl rfl (by decide) rfl ?_
          exact c219 0 (Or.inl rfl) ⟨fun h => absurd h (by decide), fun h => by rw [hal.mpr (fun j hj => h j (by omega))] at hb; exact absurd hb (by decide)⟩
        have hb : al = 1 := hal01.resolve_left hb
        have hsame := hal.mp hb
        refine zj_aload_n C (List.mem_of_getElem? (i := 103) rfl) rfl rfl rfl ?_
        have hO := hM
        obtain ⟨⟨fsO, hO0, -⟩, -⟩ := hO
        refine zj_callV (As := []) (rest := []) C (List.mem_of_getElem? (i := 104) rfl) rfl rfl rfl (by decide) (zj_W_mono (zj_peek_W hB hM he) (by decide)) rfl rfl hO0 rfl (Nat.le_of_ble_eq_true rfl) rfl ⟨rfl, rfl, rfl⟩ (fun v wp hwpA hwpZ => ?_)
        obtain ⟨hw, cwp, hv, hcwp⟩ := hwpZ
        subst hw
        subst hv
        have e1x : cwp = M.fT e1 := by rcases hcwp with h | h; exact h.2; exact absurd h.1 (by omega)
        subst e1x
        refine zj_callS (As := [.int (M.fT e1)]) (rest := []) C (List.mem_of_getElem? (i := 105) rfl) rfl rfl (Or.inl rfl) (zj_W_mono (zj_isSmallM_W (M := M) (ws0 := ws1) (x := (M.fT e1))) (by decide)) rfl rfl (Nat.le_of_ble_eq_true rfl) rfl ⟨rfl, rfl, rfl⟩ (fun v wq hwqA hwqZ => ?_)
        obtain ⟨hw, hwq⟩ := hwqZ
        subst hw
        have hsv2 : (sv = 1 ↔ zj_sm (zj_gM M q1) = true) := by
          rcases hsv with ⟨h1, h2⟩ | ⟨h1, h2⟩
          · exact ⟨fun _ => h2, fun _ => h1⟩
          · rw [h1, h2]; decide
        have hsv01 : sv = 0 ∨ sv = 1 := by rcases hsv with h | h; exact Or.inr h.1; exact Or.inl h.1
        rcases hwq with ⟨hv, hq1⟩ | ⟨hv, hq1⟩
        · subst hv
          have hq1 : zj_sm (zj_gM M e1) = true := hq1
          refine zj_iload_n C (List.mem_of_getElem? (i := 106) rfl) rfl rfl rfl ?_
          refine zj_icmp_ne (tgt := 217) C (List.mem_of_getElem? (i := 107) rfl) rfl (by decide) (fun hd => ?_) (fun hd => ?_)
          · have hne : zj_sm (zj_gM M q1) ≠ zj_sm (zj_gM M e1) := by
              intro h
              rw [hq1] at h
              exact hd (hsv2.mpr h).symm
            refine zj_iconst (v := 0) C (List.mem_of_getElem? (i := 110) rfl) rfl (by decide) ?_
            refine zj_istore_n C (List.mem_of_getElem? (i := 111) rfl) rfl rfl (by decide) rfl ?_
            exact c219 0 (Or.inl rfl) ⟨fun h => absurd h (by decide), fun h => absurd (by have h1 := h (e1 - q1) (by omega); rw [hqn] at h1; exact h1.symm) hne⟩
          have heq : zj_sm (zj_gM M e1) = zj_sm (zj_gM M q1) := by
            rw [hq1]
            exact (hsv2.mp hd.symm).symm
          refine zj_iconst (v := 1) C (List.mem_of_getElem? (i := 108) rfl) rfl (by decide) ?_
          refine zj_goto (tgt := 218) C (List.mem_of_getElem? (i := 109) rfl) (by decide) ?_
          refine zj_istore_n C (List.mem_of_getElem? (i := 111) rfl) rfl rfl (by decide) rfl ?_
          exact c219 1 (Or.inr rfl) ⟨fun _ j hj => by by_cases hj2 : j = e1 - q1; (rw [hj2, hqn]; exact heq); exact hsame j (by omega), fun _ => rfl⟩
        · subst hv
          have hq1 : zj_sm (zj_gM M e1) = false := hq1
          refine zj_iload_n C (List.mem_of_getElem? (i := 106) rfl) rfl rfl rfl ?_
          refine zj_icmp_ne (tgt := 217) C (List.mem_of_getElem? (i := 107) rfl) rfl (by decide) (fun hd => ?_) (fun hd => ?_)
          · have hne : zj_sm (zj_gM M q1) ≠ zj_sm (zj_gM M e1) := by
              intro h
              rw [hq1] at h
              rcases hsv01 with h1 | h1
              · exact hd h1.symm
              · rw [hsv2.mp h1] at h; cases h
            refine zj_iconst (v := 0) C (List.mem_of_getElem? (i := 110) rfl) rfl (by decide) ?_
            refine zj_istore_n C (List.mem_of_getElem? (i := 111) rfl) rfl rfl (by decide) rfl ?_
            exact c219 0 (Or.inl rfl) ⟨fun h => absurd h (by decide), fun h => absurd (by have h1 := h (e1 - q1) (by omega); rw [hqn] at h1; exact h1.symm) hne⟩
          have heq : zj_sm (zj_gM M e1) = zj_sm (zj_gM M q1) := by
            rw [hq1]
            rcases hsv with ⟨h1, h2⟩ | ⟨h1, h2⟩
            · rw [h1] at hd; exact absurd hd (by decide)
            · exact h2.symm
          refine zj_iconst (v := 1) C (List.mem_of_getElem? (i := 108) rfl) rfl (by decide) ?_
          refine zj_goto (tgt := 218) C (List.mem_of_getElem? (i := 109) rfl) (by decide) ?_
          refine zj_istore_n C (List.mem_of_getElem? (i := 111) rfl) rfl rfl (by decide) rfl ?_
          exact c219 1 (Or.inr rfl) ⟨fun _ j hj => by by_cases hj2 : j = e1 - q1; (rw [hj2, hqn]; exact heq); exact hsame j (by omega), fun _ => rfl⟩
      refine zj_aload_n C (List.mem_of_getElem? (i := 93) rfl) rfl rfl rfl ?_
      have hO := hM
      obtain ⟨⟨fsO, hO0, -⟩, -⟩ := hO
      refine zj_callV (As := []) (rest := []) C (List.mem_of_getElem? (i := 94) rfl) rfl rfl rfl (by decide) (zj_W_mono (zj_peek_W hB hM he) (by decide)) rfl rfl hO0 rfl (Nat.le_of_ble_eq_true rfl) rfl ⟨rfl, rfl, rfl⟩ (fun v wp hwpA hwpZ => ?_)
      obtain ⟨hw, cwp, hv, hcwp⟩ := hwpZ
      subst hw
      subst hv
      refine zj_callS (As := [.int cwp]) (rest := []) C (List.mem_of_getElem? (i := 95) rfl) rfl rfl (Or.inl rfl) (zj_W_mono (zj_isSmallM_W (M := M) (ws0 := ws1) (x := cwp)) (by decide)) rfl rfl (Nat.le_of_ble_eq_true rfl) rfl ⟨rfl, rfl, rfl⟩ (fun v wq hwqA hwqZ => ?_)
      obtain ⟨hw, hwq⟩ := hwqZ
      subst hw
      rcases hwq with ⟨hv, hq1⟩ | ⟨hv, hq1⟩
      · subst hv
        refine zj_if_ne (tgt := 198) C (List.mem_of_getElem? (i := 96) rfl) rfl (by decide) (fun hd => ?_) (fun hd => ?_)
        rotate_left
        · exact absurd hd (by decide)
        have h9 : zj_an cwp.toInt = true := (by unfold zj_an; rw [hq1]; exact Bool.or_true _)
        rcases hcwp with h | h
        · rw [h.2] at h9
          exact more h.1 h9
        · rw [h.2] at h9
          exact absurd h9 (by decide)
      subst hv
      refine zj_if_ne (tgt := 198) C (List.mem_of_getElem? (i := 96) rfl) rfl (by decide) (fun hd => ?_) (fun hd => ?_)
      · exact absurd rfl hd
      refine zj_aload_n C (List.mem_of_getElem? (i := 97) rfl) rfl rfl rfl ?_
      have hO := hM
      obtain ⟨⟨fsO, hO0, -⟩, -⟩ := hO
      refine zj_callV (As := []) (rest := []) C (List.mem_of_getElem? (i := 98) rfl) rfl rfl rfl (by decide) (zj_W_mono (zj_peek_W hB hM he) (by decide)) rfl rfl hO0 rfl (Nat.le_of_ble_eq_true rfl) rfl ⟨rfl, rfl, rfl⟩ (fun v wr hwrA hwrZ => ?_)
      obtain ⟨hw, cwr, hv, hcwr⟩ := hwrZ
      subst hw
      subst hv
      refine zj_callS (As := [.int cwr]) (rest := []) C (List.mem_of_getElem? (i := 99) rfl) rfl rfl (Or.inl rfl) (zj_W_mono (zj_isDigitM_W (M := M) (ws0 := ws1) (x := cwr)) (by decide)) rfl rfl (Nat.le_of_ble_eq_true rfl) rfl ⟨rfl, rfl, rfl⟩ (fun v wt hwtA hwtZ => ?_)
      obtain ⟨hw, hwt⟩ := hwtZ
      subst hw
      rcases hwt with ⟨hv, hq2⟩ | ⟨hv, hq2⟩
      · subst hv
        refine zj_if_eq (tgt := 295) C (List.mem_of_getElem? (i := 100) rfl) rfl (by decide) (fun hd2 => ?_) (fun hd2 => ?_)
        · exact absurd hd2 (by decide)
        have h9 : zj_an cwr.toInt = true := (by unfold zj_an; rw [hq2]; rfl)
        rcases hcwr with h | h
        · rw [h.2] at h9
          exact more h.1 h9
        · rw [h.2] at h9
          exact absurd h9 (by decide)
      subst hv
      refine zj_if_eq (tgt := 295) C (List.mem_of_getElem? (i := 100) rfl) rfl (by decide) (fun hd2 => ?_) (fun hd2 => ?_)
      rotate_left
      · exact absurd rfl hd2
      refine fin ?_
      rintro ⟨h1, h2⟩
      have e1x : cwp = M.fT e1 := by rcases hcwp with h | h; exact h.2; exact absurd h.1 (by omega)
      have e2x : cwr = M.fT e1 := by rcases hcwr with h | h; exact h.2; exact absurd h.1 (by omega)
      rw [e1x] at hq1
      rw [e2x] at hq2
      have h3 : zj_an (zj_gM M e1) = false := by
        show zj_an (M.fT e1).toInt = false
        unfold zj_an
        rw [hq1, hq2]
        rfl
      rw [h3] at h2
      cases h2
  have c77 : ∀ (q1 : Nat) (ws1 : va_W), q1 ≤ M.t → zx_as ws1 = zx_as ws → zj_ms M ws1 (zj_ML M (nI M.t) (nI q1) tok (nI q1) 0 nu wd ft fa td on sm pm) fv fe pf → zj_run zj_bl (zj_gM M) M.t q = q1 → ¬ (300 ≤ q1 ∧ 300 < M.t) → zj_go p l e R s mi args below meth c Q D A (zx_mV zx_m150.2.1) 77 [(0, .ref M.aM)] [] ws1 := by
    intro q1 ws1 hq1 hA hM hrun h300
    refine zj_aload_n C (List.mem_of_getElem? (i := 37) rfl) rfl rfl rfl ?_
    have hO := hM
    obtain ⟨⟨fsO, hO0, -⟩, -⟩ := hO
    refine zj_callV (As := []) (rest := []) C (List.mem_of_getElem? (i := 38) rfl) rfl rfl rfl (by decide) (zj_W_mono (zj_peek_W hB hM hq1) (by decide)) rfl rfl hO0 rfl (Nat.le_of_ble_eq_true rfl) rfl ⟨rfl, rfl, rfl⟩ (fun v wp hwpA hwpZ => ?_)
    obtain ⟨hw, cwp, hv, hcwp⟩ := hwpZ
    subst hw
    subst hv
    refine zj_istore_n C (List.mem_of_getElem? (i := 39) rfl) rfl rfl (by decide) rfl ?_
    refine zj_iload_n C (List.mem_of_getElem? (i := 40) rfl) rfl rfl rfl ?_
    refine zj_if_ge (tgt := 92) C (List.mem_of_getElem? (i := 41) rfl) rfl (by decide) (fun hb => ?_) (fun hb => ?_)
    rotate_left
    · have hq1t : q1 = M.t := by
        rcases hcwp with h | h
        · exact absurd (Int32.le_iff_toInt_le.mpr (by rw [h.2]; exact (hB.2.2 q1).1)) hb
        · exact h.1
      have htk : (zj_tk (zj_gM M) M.t q) = (28, 0, q1, q1) := by rw [zj_tk, hrun, zj_t2, if_neg h300, if_pos (by omega)]
      refine zj_aload_n C (List.mem_of_getElem? (i := 42) rfl) rfl rfl rfl ?_
      refine zj_iconst (v := 0) C (List.mem_of_getElem? (i := 43) rfl) rfl (by decide) ?_
      refine zj_putM (L' := (zj_ML M (nI M.t) (nI q1) 0 (nI q1) 0 nu wd ft fa td on sm pm)) C (List.mem_of_getElem? (i := 44) rfl) rfl rfl rfl hM (Nat.le_of_ble_eq_true rfl) (by decide) rfl (zj_fit_i rfl _) (by unfold zj_ML; repeat first | exact zj_sub_nil | refine zj_sub_cons rfl ?_) (fun w2 hw2M hw2A => ?_)
      exact KRv 91 _ _ (List.mem_of_getElem? (i := 45) rfl) rfl (hw2A.trans hA) ⟨rfl, 0, _, _, _, by rw [htk]; exact hw2M, by rw [htk]; exact zj_tok_end rfl⟩
    have hqt : q1 < M.t ∧ cwp = M.fT q1 := by
      rcases hcwp with h | h
      · exact h
      · rw [h.2] at hb
        exact absurd hb (by decide)
    obtain ⟨hqt, hcq⟩ := hqt
    subst hcq
    have hbq := hB.2.2 q1
    have c161 : zj_an (zj_gM M q1) = true → zj_go p l e R s mi args below meth c Q D A (zx_mV zx_m150.2.1) 161 [(1, .int (M.fT q1)), (0, .ref M.aM)] [] ws1 := by
      intro han
      refine zj_iload_n C (List.mem_of_getElem? (i := 82) rfl) rfl rfl rfl ?_
      refine zj_callS (As := [.int (M.fT q1)]) (rest := []) C (List.mem_of_getElem? (i := 83) rfl) rfl rfl (Or.inl rfl) (zj_W_mono (zj_isSmallM_W (M := M) (ws0 := ws1) (x := (M.fT q1))) (by decide)) rfl rfl (Nat.le_of_ble_eq_true rfl) rfl ⟨rfl, rfl, rfl⟩ (fun v wq hwqA hwqZ => ?_)
      obtain ⟨hw, hwq⟩ := hwqZ
      subst hw
      obtain ⟨sv, hv, hsv⟩ : ∃ sv : Int32, v = some (.int sv) ∧ (sv = 1 ∧ zj_sm (zj_gM M q1) = true ∨ sv = 0 ∧ zj_sm (zj_gM M q1) = false) := by
        rcases hwq with ⟨h1, h2⟩ | ⟨h1, h2⟩
        · exact ⟨1, h1, Or.inl ⟨rfl, h2⟩⟩
        · exact ⟨0, h1, Or.inr ⟨rfl, h2⟩⟩
      subst hv
      refine zj_istore_n C (List.mem_of_getElem? (i := 84) rfl) rfl rfl (by decide) rfl ?_
      refine zj_iconst (v := 1) C (List.mem_of_getElem? (i := 85) rfl) rfl (by decide) ?_
      refine zj_istore_n C (List.mem_of_getElem? (i := 86) rfl) rfl rfl (by decide) rfl ?_
      refine zj_aload_n C (List.mem_of_getElem? (i := 87) rfl) rfl rfl rfl ?_
      refine zj_lconst (v := 0) C (List.mem_of_getElem? (i := 88) rfl) rfl (by decide) ?_
      refine zj_putM (L' := (zj_ML M (nI M.t) (nI q1) tok (nI q1) 0 nu 0 ft fa td on sm pm)) C (List.mem_of_getElem? (i := 89) rfl) rfl rfl rfl hM (Nat.le_of_ble_eq_true rfl) (by decide) rfl (zj_fit_l rfl _) (by unfold zj_ML; repeat first | exact zj_sub_nil | refine zj_sub_cons rfl ?_) (fun w2 hw2M hw2A => ?_)
      refine zj_aload_n C (List.mem_of_getElem? (i := 90) rfl) rfl rfl rfl ?_
      refine zj_iconst (v := 0) C (List.mem_of_getElem? (i := 91) rfl) rfl (by decide) ?_
      refine zj_putM (L' := (zj_ML M (nI M.t) (nI q1) tok (nI q1) 0 0 0 ft fa td on sm pm)) C (List.mem_of_getElem? (i := 92) rfl) rfl rfl rfl hw2M (Nat.le_of_ble_eq_true rfl) (by decide) rfl (zj_fit_i rfl _) (by unfold zj_ML; repeat first | exact zj_sub_nil | refine zj_sub_cons rfl ?_) (fun w3 hw3M hw3A => ?_)
      refine c178 (M.t - q1) q1 q1 1 sv (M.fT q1) 0 0 w3 (Nat.le_refl _) (Nat.le_refl _) (by omega) hqt han (hw3A.trans (hw2A.trans hA)) (by rw [Nat.sub_self]; exact hw3M) hrun h300 rfl hsv (fun j hj => absurd hj (by omega)) (Or.inr rfl) ⟨fun _ j hj => absurd hj (by omega), fun _ => rfl⟩ (fun _ => by rw [Nat.sub_self]; rfl) (fun _ => by rw [Nat.sub_self]; rfl)
    refine zj_iload_n C (List.mem_of_getElem? (i := 46) rfl) rfl rfl rfl ?_
    refine zj_callS (As := [.int (M.fT q1)]) (rest := []) C (List.mem_of_getElem? (i := 47) rfl) rfl rfl (Or.inl rfl) (zj_W_mono (zj_isSmallM_W (M := M) (ws0 := ws1) (x := (M.fT q1))) (by decide)) rfl rfl (Nat.le_of_ble_eq_true rfl) rfl ⟨rfl, rfl, rfl⟩ (fun v wq hwqA hwqZ => ?_)
    obtain ⟨hw, hwq⟩ := hwqZ
    subst hw
    rcases hwq with ⟨hv, hs1⟩ | ⟨hv, hs1⟩
    · subst hv
      refine zj_if_ne (tgt := 161) C (List.mem_of_getElem? (i := 48) rfl) rfl (by decide) (fun hd => ?_) (fun hd => ?_)
      rotate_left
      · exact absurd hd (by decide)
      exact c161 (by show zj_an (M.fT q1).toInt = true; unfold zj_an; rw [hs1]; exact Bool.or_true _)
    subst hv
    refine zj_if_ne (tgt := 161) C (List.mem_of_getElem? (i := 48) rfl) rfl (by decide) (fun hd => ?_) (fun hd => ?_)
    · exact absurd rfl hd
    refine zj_iload_n C (List.mem_of_getElem? (i := 49) rfl) rfl rfl rfl ?_
    refine zj_callS (As := [.int (M.fT q1)]) (rest := []) C (List.mem_of_getElem? (i := 50) rfl) rfl rfl (Or.inl rfl) (zj_W_mono (zj_isDigitM_W (M := M) (ws0 := ws1) (x := (M.fT q1))) (by decide)) rfl rfl (Nat.le_of_ble_eq_true rfl) rfl ⟨rfl, rfl, rfl⟩ (fun v wr hwrA hwrZ => ?_)
    obtain ⟨hw, hwr⟩ := hwrZ
    subst hw
    rcases hwr with ⟨hv, hs2⟩ | ⟨hv, hs2⟩
    · subst hv
      refine zj_if_ne (tgt := 161) C (List.mem_of_getElem? (i := 51) rfl) rfl (by decide) (fun hd2 => ?_) (fun hd2 => ?_)
      rotate_left
      · exact absurd hd2 (by decide)
      exact c161 (by show zj_an (M.fT q1).toInt = true; unfold zj_an; rw [hs2]; rfl)
    subst hv
    refine zj_if_ne (tgt := 161) C (List.mem_of_getElem? (i := 51) rfl) rfl (by decide) (fun hd2 => ?_) (fun hd2 => ?_)
    · exact absurd rfl hd2
    have hna : ¬ zj_an (zj_gM M q1) = true := by
      show ¬ zj_an (M.fT q1).toInt = true
      unfold zj_an
      rw [hs1, hs2]
      decide
    have htk : (zj_tk (zj_gM M) M.t q) = (zj_find (zj_gM M) q1 1, 0, q1, q1 + 1) := by rw [zj_tk, hrun, zj_t2, if_neg h300, if_neg (by omega), if_neg hna]
    have c142 : ∀ tv : Int32, (tv = 3 ∧ ((M.fT q1).toInt = 59 ∨ (M.fT q1).toInt = 40 ∨ (M.fT q1).toInt = 41 ∨ (M.fT q1).toInt = 60 ∨ (M.fT q1).toInt = 61 ∨ (M.fT q1).toInt = 62) ∨ tv = 4 ∧ ¬ ((M.fT q1).toInt = 59 ∨ (M.fT q1).toInt = 40 ∨ (M.fT q1).toInt = 41 ∨ (M.fT q1).toInt = 60 ∨ (M.fT q1).toInt = 61 ∨ (M.fT q1).toInt = 62)) → zj_go p l e R s mi args below meth c Q D A (zx_mV zx_m150.2.1) 142 [(1, .int (M.fT q1)), (0, .ref M.aM)] [.int tv, .ref M.aM] ws1 := by
      intro tv htv
      refine zj_putM (L' := (zj_ML M (nI M.t) (nI q1) tv (nI q1) 0 nu wd ft fa td on sm pm)) C (List.mem_of_getElem? (i := 71) rfl) rfl rfl rfl hM (Nat.le_of_ble_eq_true rfl) (by decide) rfl (zj_fit_i rfl _) (by unfold zj_ML; repeat first | exact zj_sub_nil | refine zj_sub_cons rfl ?_) (fun w2 hw2M hw2A => ?_)
      refine zj_aload_n C (List.mem_of_getElem? (i := 72) rfl) rfl rfl rfl ?_
      refine zj_iload_n C (List.mem_of_getElem? (i := 73) rfl) rfl rfl rfl ?_
      refine zj_putM (L' := (zj_ML M (nI M.t) (nI q1) tv (nI q1) 0 (M.fT q1) wd ft fa td on sm pm)) C (List.mem_of_getElem? (i := 74) rfl) rfl rfl rfl hw2M (Nat.le_of_ble_eq_true rfl) (by decide) rfl (zj_fit_i rfl _) (by unfold zj_ML; repeat first | exact zj_sub_nil | refine zj_sub_cons rfl ?_) (fun w3 hw3M hw3A => ?_)
      refine zj_aload_n C (List.mem_of_getElem? (i := 75) rfl) rfl rfl rfl ?_
      refine zj_dup C (List.mem_of_getElem? (i := 76) rfl) rfl rfl ?_
      refine zj_getM C (List.mem_of_getElem? (i := 77) rfl) rfl rfl rfl hw3M rfl ?_
      refine zj_iconst (v := 1) C (List.mem_of_getElem? (i := 78) rfl) rfl (by decide) ?_
      refine zj_iadd (v := (nI (q1 + 1))) C (List.mem_of_getElem? (i := 79) rfl) rfl (nI_1 _) ?_
      refine zj_putM (L' := (zj_ML M (nI M.t) (nI (q1 + 1)) tv (nI q1) 0 (M.fT q1) wd ft fa td on sm pm)) C (List.mem_of_getElem? (i := 80) rfl) rfl rfl rfl hw3M (Nat.le_of_ble_eq_true rfl) (by decide) rfl (zj_fit_i rfl _) (by unfold zj_ML; repeat first | exact zj_sub_nil | refine zj_sub_cons rfl ?_) (fun w4 hw4M hw4A => ?_)
      exact KRv 160 _ _ (List.mem_of_getElem? (i := 81) rfl) rfl (hw4A.trans (hw3A.trans (hw2A.trans hA))) ⟨rfl, tv, _, _, _, by rw [htk]; exact hw4M, by rw [htk]; exact zj_tok_sign hna rfl htv⟩
    refine zj_aload_n C (List.mem_of_getElem? (i := 52) rfl) rfl rfl rfl ?_
    refine zj_iload_n C (List.mem_of_getElem? (i := 53) rfl) rfl rfl rfl ?_
    refine zj_bipush (v := 59) C (List.mem_of_getElem? (i := 54) rfl) rfl (by decide) ?_
    refine zj_icmp_eq (tgt := 137) C (List.mem_of_getElem? (i := 55) rfl) rfl (by decide) (fun h59 => ?_) (fun h59 => ?_)
    · have h59 : (M.fT q1).toInt = 59 := by rw [h59]; rfl
      refine zj_iconst (v := 3) C (List.mem_of_getElem? (i := 68) rfl) rfl (by decide) ?_
      refine zj_goto (tgt := 142) C (List.mem_of_getElem? (i := 69) rfl) (by decide) ?_
      exact c142 3 (Or.inl ⟨rfl, by omega⟩)
    have h59 : ¬ (M.fT q1).toInt = 59 := fun h => h59 (Int32.toInt_inj.mp h)
    refine zj_iload_n C (List.mem_of_getElem? (i := 56) rfl) rfl rfl rfl ?_
    refine zj_bipush (v := 40) C (List.mem_of_getElem? (i := 57) rfl) rfl (by decide) ?_
    refine zj_icmp_eq (tgt := 137) C (List.mem_of_getElem? (i := 58) rfl) rfl (by decide) (fun h40 => ?_) (fun h40 => ?_)
    · have h40 : (M.fT q1).toInt = 40 := by rw [h40]; rfl
      refine zj_iconst (v := 3) C (List.mem_of_getElem? (i := 68) rfl) rfl (by decide) ?_
      refine zj_goto (tgt := 142) C (List.mem_of_getElem? (i := 69) rfl) (by decide) ?_
      exact c142 3 (Or.inl ⟨rfl, by omega⟩)
    have h40 : ¬ (M.fT q1).toInt = 40 := fun h => h40 (Int32.toInt_inj.mp h)
    refine zj_iload_n C (List.mem_of_getElem? (i := 59) rfl) rfl rfl rfl ?_
    refine zj_bipush (v := 41) C (List.mem_of_getElem? (i := 60) rfl) rfl (by decide) ?_
    refine zj_icmp_eq (tgt := 137) C (List.mem_of_getElem? (i := 61) rfl) rfl (by decide) (fun h41 => ?_) (fun h41 => ?_)
    · have h41 : (M.fT q1).toInt = 41 := by rw [h41]; rfl
      refine zj_iconst (v := 3) C (List.mem_of_getElem? (i := 68) rfl) rfl (by decide) ?_
      refine zj_goto (tgt := 142) C (List.mem_of_getElem? (i := 69) rfl) (by decide) ?_
      exact c142 3 (Or.inl ⟨rfl, by omega⟩)
    have h41 : ¬ (M.fT q1).toInt = 41 := fun h => h41 (Int32.toInt_inj.mp h)
    refine zj_iload_n C (List.mem_of_getElem? (i := 62) rfl) rfl rfl rfl ?_
    refine zj_bipush (v := 60) C (List.mem_of_getElem? (i := 63) rfl) rfl (by decide) ?_
    refine zj_icmp_lt (tgt := 141) C (List.mem_of_getElem? (i := 64) rfl) rfl (by decide) (fun h60 => ?_) (fun h60 => ?_)
    · have h60 : (M.fT q1).toInt < 60 := Int32.lt_iff_toInt_lt.mp h60
      refine zj_iconst (v := 4) C (List.mem_of_getElem? (i := 70) rfl) rfl (by decide) ?_
      exact c142 4 (Or.inr ⟨rfl, by omega⟩)
    have h60 : ¬ (M.fT q1).toInt < 60 := fun h => h60 (Int32.lt_iff_toInt_lt.mpr h)
    refine zj_iload_n C (List.mem_of_getElem? (i := 65) rfl) rfl rfl rfl ?_
    refine zj_bipush (v := 62) C (List.mem_of_getElem? (i := 66) rfl) rfl (by decide) ?_
    refine zj_icmp_gt (tgt := 141) C (List.mem_of_getElem? (i := 67) rfl) rfl (by decide) (fun h62 => ?_) (fun h62 => ?_)
    · have h62 : 62 < (M.fT q1).toInt := Int32.lt_iff_toInt_lt.mp h62
      refine zj_iconst (v := 4) C (List.mem_of_getElem? (i := 70) rfl) rfl (by decide) ?_
      exact c142 4 (Or.inr ⟨rfl, by omega⟩)
    have h62 : ¬ 62 < (M.fT q1).toInt := fun h => h62 (Int32.lt_iff_toInt_lt.mpr h)
    refine zj_iconst (v := 3) C (List.mem_of_getElem? (i := 68) rfl) rfl (by decide) ?_
    refine zj_goto (tgt := 142) C (List.mem_of_getElem? (i := 69) rfl) (by decide) ?_
    exact c142 3 (Or.inl ⟨rfl, by omega⟩)
  have c31 : ∀ (q1 : Nat) (ws1 : va_W), q1 ≤ M.t → zx_as ws1 = zx_as ws → zj_ms M ws1 (zj_ML M (nI M.t) (nI q1) tok at_ sp nu wd ft fa td on sm pm) fv fe pf → zj_run zj_bl (zj_gM M) M.t q = q1 → zj_go p l e R s mi args below meth c Q D A (zx_mV zx_m150.2.1) 31 [(0, .ref M.aM)] [] ws1 := by
    intro q1 ws1 hq1 hA hM hrun
    refine zj_aload_n C (List.mem_of_getElem? (i := 15) rfl) rfl rfl rfl ?_
    refine zj_aload_n C (List.mem_of_getElem? (i := 16) rfl) rfl rfl rfl ?_
    refine zj_getM C (List.mem_of_getElem? (i := 17) rfl) rfl rfl rfl hM rfl ?_
    refine zj_putM (L' := (zj_ML M (nI M.t) (nI q1) tok (nI q1) sp nu wd ft fa td on sm pm)) C (List.mem_of_getElem? (i := 18) rfl) rfl rfl rfl hM (Nat.le_of_ble_eq_true rfl) (by decide) rfl (zj_fit_i rfl _) (by unfold zj_ML; repeat first | exact zj_sub_nil | refine zj_sub_cons rfl ?_) (fun w2 hw2M hw2A => ?_)
    refine zj_aload_n C (List.mem_of_getElem? (i := 19) rfl) rfl rfl rfl ?_
    refine zj_iconst (v := 0) C (List.mem_of_getElem? (i := 20) rfl) rfl (by decide) ?_
    refine zj_putM (L' := (zj_ML M (nI M.t) (nI q1) tok (nI q1) 0 nu wd ft fa td on sm pm)) C (List.mem_of_getElem? (i := 21) rfl) rfl rfl rfl hw2M (Nat.le_of_ble_eq_true rfl) (by decide) rfl (zj_fit_i rfl _) (by unfold zj_ML; repeat first | exact zj_sub_nil | refine zj_sub_cons rfl ?_) (fun w3 hw3M hw3A => ?_)
    have hA3 := hw3A.trans (hw2A.trans hA)
    refine zj_aload_n C (List.mem_of_getElem? (i := 22) rfl) rfl rfl rfl ?_
    refine zj_getM C (List.mem_of_getElem? (i := 23) rfl) rfl rfl rfl hw3M rfl ?_
    refine zj_sipush (v := 300) C (List.mem_of_getElem? (i := 24) rfl) rfl (by decide) ?_
    refine zj_icmp_le (tgt := 77) C (List.mem_of_getElem? (i := 25) rfl) rfl (by decide) (fun hb => ?_) (fun hb => ?_)
    · have hb : M.t ≤ 300 := (nI_leI (a := M.t) (b := 300) (by omega) (by decide)).mp hb
      exact c77 q1 w3 hq1 hA3 hw3M hrun (fun h => by omega)
    have hb : 300 < M.t := by
      rcases Nat.lt_or_ge 300 M.t with h | h
      · exact h
      · exact absurd (nI_le (b := 300) h (by decide)) hb
    refine zj_aload_n C (List.mem_of_getElem? (i := 26) rfl) rfl rfl rfl ?_
    refine zj_getM C (List.mem_of_getElem? (i := 27) rfl) rfl rfl rfl hw3M rfl ?_
    refine zj_sipush (v := 300) C (List.mem_of_getElem? (i := 28) rfl) rfl (by decide) ?_
    refine zj_icmp_lt (tgt := 77) C (List.mem_of_getElem? (i := 29) rfl) rfl (by decide) (fun hb2 => ?_) (fun hb2 => ?_)
    · have hb2 : q1 < 300 := (nI_ltI (a := q1) (b := 300) (by omega) (by decide)).mp hb2
      exact c77 q1 w3 hq1 hA3 hw3M hrun (fun h => by omega)
    have hb2 : 300 ≤ q1 := by
      rcases Nat.lt_or_ge q1 300 with h | h
      · exact absurd (nI_lt (b := 300) h (by decide)) hb2
      · exact h
    have htk : (zj_tk (zj_gM M) M.t q) = (29, 0, 300, q1) := by rw [zj_tk, hrun, zj_t2, if_pos ⟨hb2, hb⟩]
    refine zj_aload_n C (List.mem_of_getElem? (i := 30) rfl) rfl rfl rfl ?_
    refine zj_sipush (v := 300) C (List.mem_of_getElem? (i := 31) rfl) rfl (by decide) ?_
    refine zj_putM (L' := (zj_ML M (nI M.t) (nI q1) tok (nI 300) 0 nu wd ft fa td on sm pm)) C (List.mem_of_getElem? (i := 32) rfl) rfl rfl rfl hw3M (Nat.le_of_ble_eq_true rfl) (by decide) rfl (zj_fit_i rfl _) (by unfold zj_ML; repeat first | exact zj_sub_nil | refine zj_sub_cons rfl ?_) (fun w4 hw4M hw4A => ?_)
    refine zj_aload_n C (List.mem_of_getElem? (i := 33) rfl) rfl rfl rfl ?_
    refine zj_iconst (v := 4) C (List.mem_of_getElem? (i := 34) rfl) rfl (by decide) ?_
    refine zj_putM (L' := (zj_ML M (nI M.t) (nI q1) 4 (nI 300) 0 nu wd ft fa td on sm pm)) C (List.mem_of_getElem? (i := 35) rfl) rfl rfl rfl hw4M (Nat.le_of_ble_eq_true rfl) (by decide) rfl (zj_fit_i rfl _) (by unfold zj_ML; repeat first | exact zj_sub_nil | refine zj_sub_cons rfl ?_) (fun w5 hw5M hw5A => ?_)
    exact KRv 76 _ _ (List.mem_of_getElem? (i := 36) rfl) rfl (hw5A.trans (hw4A.trans hA3)) ⟨rfl, 4, _, _, _, by rw [htk]; exact hw5M, by rw [htk]; exact zj_tok_bad rfl⟩
  have c0 : ∀ (N q1 : Nat) (ws1 : va_W), M.t - q1 ≤ N → q1 ≤ M.t → zx_as ws1 = zx_as ws → zj_ms M ws1 (zj_ML M (nI M.t) (nI q1) tok at_ sp nu wd ft fa td on sm pm) fv fe pf → zj_run zj_bl (zj_gM M) M.t q = zj_run zj_bl (zj_gM M) M.t q1 → zj_go p l e R s mi args below meth c Q D A (zx_mV zx_m150.2.1) 0 [(0, .ref M.aM)] [] ws1 := by
    intro N
    induction N with
    | zero =>
      intro q1 ws1 hN hq1 hA hM hrun
      refine zj_aload_n C (List.mem_of_getElem? (i := 0) rfl) rfl rfl rfl ?_
      have hO := hM
      obtain ⟨⟨fsO, hO0, -⟩, -⟩ := hO
      refine zj_callV (As := []) (rest := []) C (List.mem_of_getElem? (i := 1) rfl) rfl rfl rfl (by decide) (zj_W_mono (zj_peek_W hB hM hq1) (by decide)) rfl rfl hO0 rfl (Nat.le_of_ble_eq_true rfl) rfl ⟨rfl, rfl, rfl⟩ (fun v wp hwpA hwpZ => ?_)
      obtain ⟨hw, cwp, hv, hcwp⟩ := hwpZ
      subst hw
      subst hv
      refine zj_bipush (v := 32) C (List.mem_of_getElem? (i := 2) rfl) rfl (by decide) ?_
      refine zj_icmp_eq (tgt := 18) C (List.mem_of_getElem? (i := 3) rfl) rfl (by decide) (fun hb => ?_) (fun hb => ?_)
      · rcases hcwp with h | h
        · exact absurd h.1 (by omega)
        · rw [h.2] at hb
          exact absurd hb (by decide)
      refine zj_aload_n C (List.mem_of_getElem? (i := 4) rfl) rfl rfl rfl ?_
      have hO := hM
      obtain ⟨⟨fsO, hO0, -⟩, -⟩ := hO
      refine zj_callV (As := []) (rest := []) C (List.mem_of_getElem? (i := 5) rfl) rfl rfl rfl (by decide) (zj_W_mono (zj_peek_W hB hM hq1) (by decide)) rfl rfl hO0 rfl (Nat.le_of_ble_eq_true rfl) rfl ⟨rfl, rfl, rfl⟩ (fun v wq hwqA hwqZ => ?_)
      obtain ⟨hw, cwq, hv, hcwq⟩ := hwqZ
      subst hw
      subst hv
      refine zj_bipush (v := 10) C (List.mem_of_getElem? (i := 6) rfl) rfl (by decide) ?_
      refine zj_icmp_ne (tgt := 31) C (List.mem_of_getElem? (i := 7) rfl) rfl (by decide) (fun hb2 => ?_) (fun hb2 => ?_)
      · refine c31 q1 ws1 hq1 hA hM ?_
        rw [hrun, zj_run_e]
        rintro ⟨h1, h2⟩
        have ea : cwp = M.fT q1 := by rcases hcwp with h | h; exact h.2; exact absurd h.1 (by omega)
        have eb : cwq = M.fT q1 := by rcases hcwq with h | h; exact h.2; exact absurd h.1 (by omega)
        rcases zj_blank.mp h2 with h | h
        · exact hb (ea.trans h)
        · exact hb2 (eb.trans h)
      · rcases hcwq with h | h
        · exact absurd h.1 (by omega)
        · rw [h.2] at hb2
          exact absurd hb2 (by decide)
    | succ N ih =>
      intro q1 ws1 hN hq1 hA hM hrun
      have more : q1 < M.t → zj_bl (zj_gM M q1) = true → zj_go p l e R s mi args below meth c Q D A (zx_mV zx_m150.2.1) 18 [(0, .ref M.aM)] [] ws1 := by
        intro hlt hbl
        refine zj_aload_n C (List.mem_of_getElem? (i := 8) rfl) rfl rfl rfl ?_
        refine zj_dup C (List.mem_of_getElem? (i := 9) rfl) rfl rfl ?_
        refine zj_getM C (List.mem_of_getElem? (i := 10) rfl) rfl rfl rfl hM rfl ?_
        refine zj_iconst (v := 1) C (List.mem_of_getElem? (i := 11) rfl) rfl (by decide) ?_
        refine zj_iadd (v := (nI (q1 + 1))) C (List.mem_of_getElem? (i := 12) rfl) rfl (nI_1 _) ?_
        refine zj_putM (L' := (zj_ML M (nI M.t) (nI (q1 + 1)) tok at_ sp nu wd ft fa td on sm pm)) C (List.mem_of_getElem? (i := 13) rfl) rfl rfl rfl hM (Nat.le_of_ble_eq_true rfl) (by decide) rfl (zj_fit_i rfl _) (by unfold zj_ML; repeat first | exact zj_sub_nil | refine zj_sub_cons rfl ?_) (fun w2 hw2M hw2A => ?_)
        refine zj_goto (tgt := 0) C (List.mem_of_getElem? (i := 14) rfl) (by decide) ?_
        exact ih (q1 + 1) w2 (by omega) (by omega) (hw2A.trans hA) hw2M (by rw [hrun, zj_run_s hlt hbl])
      refine zj_aload_n C (List.mem_of_getElem? (i := 0) rfl) rfl rfl rfl ?_
      have hO := hM
      obtain ⟨⟨fsO, hO0, -⟩, -⟩ := hO
      refine zj_callV (As := []) (rest := []) C (List.mem_of_getElem? (i := 1) rfl) rfl rfl rfl (by decide) (zj_W_mono (zj_peek_W hB hM hq1) (by decide)) rfl rfl hO0 rfl (Nat.le_of_ble_eq_true rfl) rfl ⟨rfl, rfl, rfl⟩ (fun v wp hwpA hwpZ => ?_)
      obtain ⟨hw, cwp, hv, hcwp⟩ := hwpZ
      subst hw
      subst hv
      refine zj_bipush (v := 32) C (List.mem_of_getElem? (i := 2) rfl) rfl (by decide) ?_
      refine zj_icmp_eq (tgt := 18) C (List.mem_of_getElem? (i := 3) rfl) rfl (by decide) (fun hb => ?_) (fun hb => ?_)
      · rcases hcwp with h | h
        · exact more h.1 (zj_blank.mpr (Or.inl (by rw [← h.2]; exact hb)))
        · rw [h.2] at hb
          exact absurd hb (by decide)
      refine zj_aload_n C (List.mem_of_getElem? (i := 4) rfl) rfl rfl rfl ?_
      have hO := hM
      obtain ⟨⟨fsO, hO0, -⟩, -⟩ := hO
      refine zj_callV (As := []) (rest := []) C (List.mem_of_getElem? (i := 5) rfl) rfl rfl rfl (by decide) (zj_W_mono (zj_peek_W hB hM hq1) (by decide)) rfl rfl hO0 rfl (Nat.le_of_ble_eq_true rfl) rfl ⟨rfl, rfl, rfl⟩ (fun v wq hwqA hwqZ => ?_)
      obtain ⟨hw, cwq, hv, hcwq⟩ := hwqZ
      subst hw
      subst hv
      refine zj_bipush (v := 10) C (List.mem_of_getElem? (i := 6) rfl) rfl (by decide) ?_
      refine zj_icmp_ne (tgt := 31) C (List.mem_of_getElem? (i := 7) rfl) rfl (by decide) (fun hb2 => ?_) (fun hb2 => ?_)
      · refine c31 q1 ws1 hq1 hA hM ?_
        rw [hrun, zj_run_e]
        rintro ⟨h1, h2⟩
        have ea : cwp = M.fT q1 := by rcases hcwp with h | h; exact h.2; exact absurd h.1 (by omega)
        have eb : cwq = M.fT q1 := by rcases hcwq with h | h; exact h.2; exact absurd h.1 (by omega)
        rcases zj_blank.mp h2 with h | h
        · exact hb (ea.trans h)
        · exact hb2 (eb.trans h)
      · rcases hcwq with h | h
        · exact more h.1 (zj_blank.mpr (Or.inr (by rw [← h.2]; exact hb2)))
        · rw [h.2] at hb2
          exact absurd hb2 (by decide)
  exact c0 (M.t - q) q ws (Nat.le_refl _) hq rfl hM0 rfl
end
