noncomputable section
/-! zk: advance -/
def zj_fl (t : Nat) (tk : zj_T) (x o : Int32) (a k7 : Nat) (k8 : Int32) : List Value := [.int (nI t), .int (nI tk.2.2.2), .int (nI tk.2.2.1), .int x, .int o, .ref a, .ref k7, .int k8]
theorem zj_blank {c : Int32} : zj_bl c.toInt = true ↔ c = 32 ∨ c = 10 := by
  unfold zj_bl
  rw [Bool.or_eq_true, decide_eq_true_iff, decide_eq_true_iff]
  constructor
  · rintro (h | h)
    · exact Or.inl (Int32.toInt_inj.mp h)
    · exact Or.inr (Int32.toInt_inj.mp h)
  · rintro (h | h)
    · exact Or.inl (by rw [h]; rfl)
    · exact Or.inr (by rw [h]; rfl)
theorem zj_fd_lt {g : Nat → Int} {q n : Nat} : ∀ (m k : Nat), k + m ≤ 30 → zj_fd g q n m k < 30
  | 0, _, _ => by
    rw [zj_fd]
    decide
  | m + 1, k, h => by
    rw [zj_fd]
    split
    · omega
    · exact zj_fd_lt m (k + 1) (by omega)
theorem zj_find_lt {g : Nat → Int} {q n : Nat} : zj_find g q n < 30 := zj_fd_lt 30 0 (Nat.le_refl _)
theorem zj_fd_27 {g : Nat → Int} {q n : Nat} : ∀ (m k : Nat), k + m ≤ 30 → zj_fd g q n m k ≠ 27 ∧ zj_fd g q n m k ≠ 28
  | 0, _, _ => by
    rw [zj_fd]
    decide
  | m + 1, k, h => by
    rw [zj_fd]
    split
    · rename_i hk
      obtain ⟨h1, h2⟩ := hk
      obtain ⟨h3, -⟩ := zj_like_i.mp h2
      have h4 : ∀ k, k < 30 → (zx_txt.getD k []).length ≠ 0 → k ≠ 27 ∧ k ≠ 28 := by decide
      exact h4 k (by omega) (by omega)
    · exact zj_fd_27 m (k + 1) (by omega)
theorem zj_find_27 {g : Nat → Int} {q n : Nat} : zj_find g q n ≠ 27 := (zj_fd_27 30 0 (Nat.le_refl _)).1
set_option maxHeartbeats 4000000 in
theorem zj_advance_W {l : Launch} {tys0 : List (ClassId × FieldType)} {ws0 : va_W} {ex0 : List Nat} {aR aT t p0 k6 k7 : Nat} {ak : Nat → Nat} {fT : Nat → Int32} {pl0 x0 o k8 : Int32} (hR0 : zj_RS tys0 ws0 aR aT fT [.int (nI t), .int (nI p0), .int pl0, .int x0, .int o, .ref k6, .ref k7, .int k8]) (ht : t ≤ 340) (hp : p0 ≤ t) (hf : ∀ i, i < 340 → 0 ≤ (fT i).toInt ∧ (fT i).toInt ≤ 255) (hex : ∀ j, j < 30 → ex0[8 + j]? = some (ak j)) :
    zj_W l 10 27 (fun ex tys av ws => ex = ex0 ∧ tys = tys0 ∧ av = [.ref aR] ∧ ws = ws0) (fun _ _ _ v ws' => v = none ∧ (∀ i, i ≠ 198 → ws'[i]? = ws0[i]?) ∧ ∃ x' : Int32, zj_RS tys0 ws' aR aT fT (zj_fl t (zj_tk (fun i => (fT i).toInt) t p0) x' o (ak (zj_tk (fun i => (fT i).toInt) t p0).1) k7 k8) ∧ ((zj_tk (fun i => (fT i).toInt) t p0).1 = 27 → x'.toInt = (zj_tk (fun i => (fT i).toInt) t p0).2.1)) := by
  refine zj_enterW (md := zx_m27) rfl rfl ?_ ?_
  · rintro ex tys av ws ⟨-, -, rfl, -⟩
    exact Nat.le_of_ble_eq_true rfl
  intro p e R s mi args below meth c Q D A ex nL own cc tys ws av hX C hnL KRi KRv KRa
  subst hnL
  obtain ⟨h1, h2, h3, h4⟩ := hX
  subst h1
  subst h2
  subst h3
  subst h4
  have hx36 := hex 28 (by decide)
  have hx37 := hex 29 (by decide)
  have fin : ∀ (tk : zj_T) (ws1 : va_W) (x1 : Int32) (pc : Nat), (pc, Instr.return_, 1) ∈ zx_m27.1 → zj_tk (fun i => (fT i).toInt) t p0 = tk → (∀ i, i ≠ 198 → ws1[i]? = ws[i]?) → zx_as ws1 = zx_as ws → zj_RS tys ws1 aR aT fT (zj_fl t tk x1 o (ak tk.1) k7 k8) → (tk.1 = 27 → x1.toInt = tk.2.1) → zj_go p l e R s mi args below meth c Q D A (zx_mV zx_m27.2.1) pc [(0, .ref aR)] [] ws1 := by
    intro tk ws1 x1 pc hpc htk hK hAs hR hx
    subst htk
    exact KRv pc _ ws1 hpc rfl hAs ⟨rfl, hK, x1, hR, hx⟩
  have c208 : ∀ (q e1 : Nat) (x1 : Int32) (k1 : Nat) (ws1 : va_W), q < e1 → e1 ≤ t → zj_RS tys ws1 aR aT fT [.int (nI t), .int (nI e1), .int (nI q), .int x1, .int o, .ref k1, .ref k7, .int k8] → zx_as ws1 = zx_as ws → (∀ i, i ≠ 198 → ws1[i]? = ws[i]?) → zj_tk (fun i => (fT i).toInt) t p0 = zj_t3 (fun i => (fT i).toInt) q e1 → zj_go p l e R s mi args below meth c Q D A (zx_mV zx_m27.2.1) 208 [(0, .ref aR)] [] ws1 := by
    intro q e1 x1 k1 ws1 hq he hR hAs hK htk
    refine zj_aload_n C (List.mem_of_getElem? (i := 100) rfl) rfl rfl rfl ?_
    refine zj_aload_n C (List.mem_of_getElem? (i := 101) rfl) rfl rfl rfl ?_
    refine zj_get C (List.mem_of_getElem? (i := 102) rfl) rfl rfl hR.1 rfl rfl ?_
    refine zj_aload_n C (List.mem_of_getElem? (i := 103) rfl) rfl rfl rfl ?_
    refine zj_get C (List.mem_of_getElem? (i := 104) rfl) rfl rfl hR.1 rfl rfl ?_
    refine zj_iald (v := (fT q)) C (List.mem_of_getElem? (i := 105) rfl) rfl hR.2 (vp_in_nI (by omega) (by decide)) (by rw [nI_clamp (by omega)]) ?_
    refine zj_callS (As := [.int (fT q)]) (rest := [.ref aR]) C (List.mem_of_getElem? (i := 106) rfl) rfl rfl (Or.inl rfl) (zj_W_mono (zj_isDigit_W (d := 8) (x := fT q)) (by decide)) rfl rfl (Nat.le_of_ble_eq_true rfl) rfl rfl (fun v ws2 _ hZ => ?_)
    obtain ⟨hw2, r, hv, hr⟩ := hZ
    subst hw2
    subst hv
    refine zj_if_eq (tgt := 231) C (List.mem_of_getElem? (i := 107) rfl) rfl (by decide) (fun hd => ?_) (fun hd => ?_)
    · have hnd : ¬ zj_dg (fT q).toInt = true := fun h => hr.mpr h hd
      refine zj_aload_n C (List.mem_of_getElem? (i := 111) rfl) rfl rfl rfl ?_
      refine zj_get C (List.mem_of_getElem? (i := 112) rfl) rfl rfl hR.1 rfl rfl ?_
      refine zj_aload_n C (List.mem_of_getElem? (i := 113) rfl) rfl rfl rfl ?_
      refine zj_get C (List.mem_of_getElem? (i := 114) rfl) rfl rfl hR.1 rfl rfl ?_
      refine zj_aload_n C (List.mem_of_getElem? (i := 115) rfl) rfl rfl rfl ?_
      refine zj_get C (List.mem_of_getElem? (i := 116) rfl) rfl rfl hR.1 rfl rfl ?_
      have hq1 : (nI q).toInt = (q : Int) := nI_toInt (by omega)
      have he1 : (nI e1).toInt = (e1 : Int) := nI_toInt (by omega)
      refine zj_callS (As := [.ref aT, .int (nI q), .int (nI e1)]) (rest := [.ref aR]) C (List.mem_of_getElem? (i := 117) rfl) rfl rfl (by decide) (zj_W_mono (zj_find_W (ex0 := ex) hR.2 (by rw [hq1]; omega) (by rw [he1]; omega)) (by decide)) rfl rfl (Nat.le_of_ble_eq_true rfl) rfl ⟨rfl, rfl, rfl, rfl⟩ (fun v ws2 _ hZ => ?_)
      obtain ⟨hw2, a, ha, hv⟩ := hZ
      subst hw2
      subst hv
      rw [hq1, he1, show ((q : Int)).toNat = q by omega, show ((e1 : Int) - (q : Int)).toNat = e1 - q by omega] at ha
      have hfl : zj_find (fun i => (fT i).toInt) q (e1 - q) < 30 := zj_find_lt
      rw [hex _ hfl] at ha
      have ha : ak (zj_find (fun i => (fT i).toInt) q (e1 - q)) = a := Option.some.inj ha
      subst ha
      refine zj_putR (k := 5) C (List.mem_of_getElem? (i := 118) rfl) rfl rfl hR rfl rfl (Nat.le_of_ble_eq_true rfl) rfl (zj_fit_r rfl _) (fun ws3 hRws3 hAws3 hKws3 => ?_)
      exact fin (zj_find (fun i => (fT i).toInt) q (e1 - q), 0, q, e1) ws3 x1 249 (List.mem_of_getElem? (i := 119) rfl) (by rw [htk, zj_t3, if_neg hnd]) (fun i hi => (hKws3 i hi).trans (hK i hi)) (hAws3.trans hAs) hRws3 (fun h => absurd h (by have := zj_find_27 (g := (fun i => (fT i).toInt)) (q := q) (n := e1 - q); exact this))
    have hdg : zj_dg (fT q).toInt = true := hr.mp hd
    refine zj_aload_n C (List.mem_of_getElem? (i := 108) rfl) rfl rfl rfl ?_
    refine zj_callV (As := []) (rest := [.ref aR]) C (List.mem_of_getElem? (i := 109) rfl) rfl rfl rfl (by decide) (zj_W_mono (zj_readNumber_W (d := 7) (ex0 := ex) hR (by omega) (by omega) hf (hex 27 (by decide)) (hex 29 (by decide))) (by decide)) rfl rfl hR.1 rfl (Nat.le_of_ble_eq_true rfl) rfl ⟨rfl, rfl, rfl, rfl⟩ (fun v ws2 hA2 hZ => ?_)
    obtain ⟨hK2, x2, hR2, hif⟩ := hZ
    by_cases hc5 : e1 - q ≤ 5 ∧ zj_all zj_dg (fun i => (fT i).toInt) q (e1 - q) = true
    · rw [if_pos hc5] at hif
      obtain ⟨hv, hval⟩ := hif
      subst hv
      refine zj_goto (tgt := 246) C (List.mem_of_getElem? (i := 110) rfl) (by decide) ?_
      refine zj_putR (k := 5) C (List.mem_of_getElem? (i := 118) rfl) rfl rfl hR2 rfl rfl (Nat.le_of_ble_eq_true rfl) rfl (zj_fit_r rfl _) (fun ws3 hRws3 hAws3 hKws3 => ?_)
      exact fin (27, zj_val (fun i => (fT i).toInt) q (e1 - q), q, e1) ws3 x2 249 (List.mem_of_getElem? (i := 119) rfl) (by rw [htk, zj_t3, if_pos hdg, if_pos hc5]) (fun i hi => (hKws3 i hi).trans ((hK2 i hi).trans (hK i hi))) (hAws3.trans (hA2.trans hAs)) hRws3 (fun h => hval)
    · rw [if_neg hc5] at hif
      have hv := hif
      subst hv
      refine zj_goto (tgt := 246) C (List.mem_of_getElem? (i := 110) rfl) (by decide) ?_
      refine zj_putR (k := 5) C (List.mem_of_getElem? (i := 118) rfl) rfl rfl hR2 rfl rfl (Nat.le_of_ble_eq_true rfl) rfl (zj_fit_r rfl _) (fun ws3 hRws3 hAws3 hKws3 => ?_)
      exact fin (29, 0, q, e1) ws3 x2 249 (List.mem_of_getElem? (i := 119) rfl) (by rw [htk, zj_t3, if_pos hdg, if_neg hc5]) (fun i hi => (hKws3 i hi).trans ((hK2 i hi).trans (hK i hi))) (hAws3.trans (hA2.trans hAs)) hRws3 (fun h => absurd (show (29 : Nat) = 27 from h) (by decide))
  have c154 : ∀ (N e1 q : Nat) (x1 : Int32) (k1 : Nat) (ws1 : va_W), t - e1 ≤ N → q < e1 → e1 ≤ t → zj_RS tys ws1 aR aT fT [.int (nI t), .int (nI e1), .int (nI q), .int x1, .int o, .ref k1, .ref k7, .int k8] → zx_as ws1 = zx_as ws → (∀ i, i ≠ 198 → ws1[i]? = ws[i]?) → zj_tk (fun i => (fT i).toInt) t p0 = zj_t3 (fun i => (fT i).toInt) q (zj_run zj_an (fun i => (fT i).toInt) t e1) → zj_go p l e R s mi args below meth c Q D A (zx_mV zx_m27.2.1) 154 [(0, .ref aR)] [] ws1 := by
    intro N
    induction N with
    | zero =>
      intro e1 q x1 k1 ws1 hN hq he hR hAs hK htk
      have het : e1 = t := by omega
      refine zj_aload_n C (List.mem_of_getElem? (i := 74) rfl) rfl rfl rfl ?_
      refine zj_get C (List.mem_of_getElem? (i := 75) rfl) rfl rfl hR.1 rfl rfl ?_
      refine zj_aload_n C (List.mem_of_getElem? (i := 76) rfl) rfl rfl rfl ?_
      refine zj_get C (List.mem_of_getElem? (i := 77) rfl) rfl rfl hR.1 rfl rfl ?_
      refine zj_icmp_ge (tgt := 208) C (List.mem_of_getElem? (i := 78) rfl) rfl (by decide) (fun hb => ?_) (fun hb => ?_)
      · rw [zj_run_e (by omega)] at htk
        exact c208 q e1 x1 k1 ws1 hq he hR hAs hK htk
      exact absurd (nI_le (a := t) (b := e1) (by omega) (by omega)) hb
    | succ N ih =>
      intro e1 q x1 k1 ws1 hN hq he hR hAs hK htk
      refine zj_aload_n C (List.mem_of_getElem? (i := 74) rfl) rfl rfl rfl ?_
      refine zj_get C (List.mem_of_getElem? (i := 75) rfl) rfl rfl hR.1 rfl rfl ?_
      refine zj_aload_n C (List.mem_of_getElem? (i := 76) rfl) rfl rfl rfl ?_
      refine zj_get C (List.mem_of_getElem? (i := 77) rfl) rfl rfl hR.1 rfl rfl ?_
      refine zj_icmp_ge (tgt := 208) C (List.mem_of_getElem? (i := 78) rfl) rfl (by decide) (fun hb => ?_) (fun hb => ?_)
      · have h6 := (nI_leI (a := t) (b := e1) (by omega) (by omega)).mp hb
        rw [zj_run_e (by omega)] at htk
        exact c208 q e1 x1 k1 ws1 hq he hR hAs hK htk
      have hlt : e1 < t := by
        rcases Nat.lt_or_ge e1 t with h | h
        · exact h
        · exact absurd (nI_le h (by omega)) hb
      have more : zj_an (fT e1).toInt = true → zj_go p l e R s mi args below meth c Q D A (zx_mV zx_m27.2.1) 195 [(0, .ref aR)] [] ws1 := by
        intro han
        refine zj_aload_n C (List.mem_of_getElem? (i := 93) rfl) rfl rfl rfl ?_
        refine zj_dup C (List.mem_of_getElem? (i := 94) rfl) rfl rfl ?_
        refine zj_get C (List.mem_of_getElem? (i := 95) rfl) rfl rfl hR.1 rfl rfl ?_
        refine zj_iconst (v := 1) C (List.mem_of_getElem? (i := 96) rfl) rfl (by decide) ?_
        refine zj_iadd (v := (nI (e1 + 1))) C (List.mem_of_getElem? (i := 97) rfl) rfl (nI_1 e1) ?_
        refine zj_putR (k := 1) C (List.mem_of_getElem? (i := 98) rfl) rfl rfl hR rfl rfl (Nat.le_of_ble_eq_true rfl) rfl (zj_fit_i rfl _) (fun ws3 hRws3 hAws3 hKws3 => ?_)
        refine zj_goto (tgt := 154) C (List.mem_of_getElem? (i := 99) rfl) (by decide) ?_
        refine ih (e1 + 1) q x1 k1 ws3 (by omega) (by omega) (by omega) hRws3 (hAws3.trans hAs) (fun i hi => (hKws3 i hi).trans (hK i hi)) ?_
        rw [← zj_run_s hlt han]
        exact htk
      have stop : ¬ zj_an (fT e1).toInt = true → zj_go p l e R s mi args below meth c Q D A (zx_mV zx_m27.2.1) 208 [(0, .ref aR)] [] ws1 := by
        intro han
        rw [zj_run_e (fun h => han h.2)] at htk
        exact c208 q e1 x1 k1 ws1 hq he hR hAs hK htk
      refine zj_aload_n C (List.mem_of_getElem? (i := 79) rfl) rfl rfl rfl ?_
      refine zj_get C (List.mem_of_getElem? (i := 80) rfl) rfl rfl hR.1 rfl rfl ?_
      refine zj_aload_n C (List.mem_of_getElem? (i := 81) rfl) rfl rfl rfl ?_
      refine zj_get C (List.mem_of_getElem? (i := 82) rfl) rfl rfl hR.1 rfl rfl ?_
      refine zj_iald (v := (fT e1)) C (List.mem_of_getElem? (i := 83) rfl) rfl hR.2 (vp_in_nI (by omega) (by decide)) (by rw [nI_clamp (by omega)]) ?_
      refine zj_callS (As := [.int (fT e1)]) (rest := []) C (List.mem_of_getElem? (i := 84) rfl) rfl rfl (Or.inl rfl) (zj_W_mono (zj_isDigit_W (d := 8) (x := fT e1)) (by decide)) rfl rfl (Nat.le_of_ble_eq_true rfl) rfl rfl (fun v ws2 _ hZ => ?_)
      obtain ⟨hw2, r, hv, hr⟩ := hZ
      subst hw2
      subst hv
      refine zj_if_ne (tgt := 195) C (List.mem_of_getElem? (i := 85) rfl) rfl (by decide) (fun hd => ?_) (fun hd => ?_)
      · exact more (by unfold zj_an; rw [hr.mp hd]; rfl)
      refine zj_aload_n C (List.mem_of_getElem? (i := 86) rfl) rfl rfl rfl ?_
      refine zj_get C (List.mem_of_getElem? (i := 87) rfl) rfl rfl hR.1 rfl rfl ?_
      refine zj_aload_n C (List.mem_of_getElem? (i := 88) rfl) rfl rfl rfl ?_
      refine zj_get C (List.mem_of_getElem? (i := 89) rfl) rfl rfl hR.1 rfl rfl ?_
      refine zj_iald (v := (fT e1)) C (List.mem_of_getElem? (i := 90) rfl) rfl hR.2 (vp_in_nI (by omega) (by decide)) (by rw [nI_clamp (by omega)]) ?_
      refine zj_callS (As := [.int (fT e1)]) (rest := []) C (List.mem_of_getElem? (i := 91) rfl) rfl rfl (Or.inl rfl) (zj_W_mono (zj_isLetter_W (d := 8) (x := fT e1)) (by decide)) rfl rfl (Nat.le_of_ble_eq_true rfl) rfl rfl (fun v ws2 _ hZ => ?_)
      obtain ⟨hw2, r2, hv, hr2⟩ := hZ
      subst hw2
      subst hv
      refine zj_if_eq (tgt := 208) C (List.mem_of_getElem? (i := 92) rfl) rfl (by decide) (fun he2 => ?_) (fun he2 => ?_)
      · refine stop (fun h => ?_)
        unfold zj_an at h
        rw [Bool.or_eq_true] at h
        rcases h with h | h
        · exact hr.mpr h hd
        · exact hr2.mpr h he2
      exact more (by unfold zj_an; rw [Bool.or_eq_true]; exact Or.inr (hr2.mp he2))
  have c95 : ∀ (q : Nat) (ws1 : va_W), q ≤ t → zj_RS tys ws1 aR aT fT [.int (nI t), .int (nI q), .int (nI q), .int x0, .int o, .ref k6, .ref k7, .int k8] → zx_as ws1 = zx_as ws → (∀ i, i ≠ 198 → ws1[i]? = ws[i]?) → zj_run zj_bl (fun i => (fT i).toInt) t p0 = q → ¬ (300 ≤ q ∧ 300 < t) → zj_go p l e R s mi args below meth c Q D A (zx_mV zx_m27.2.1) 95 [(0, .ref aR)] [] ws1 := by
    intro q ws1 hq hR hAs hK hrun h300
    refine zj_aload_n C (List.mem_of_getElem? (i := 45) rfl) rfl rfl rfl ?_
    refine zj_get C (List.mem_of_getElem? (i := 46) rfl) rfl rfl hR.1 rfl rfl ?_
    refine zj_aload_n C (List.mem_of_getElem? (i := 47) rfl) rfl rfl rfl ?_
    refine zj_get C (List.mem_of_getElem? (i := 48) rfl) rfl rfl hR.1 rfl rfl ?_
    refine zj_icmp_lt (tgt := 114) C (List.mem_of_getElem? (i := 49) rfl) rfl (by decide) (fun hb => ?_) (fun hb => ?_)
    rotate_left
    · have h6 : t ≤ q := by
        rcases Nat.lt_or_ge q t with h | h
        · exact absurd (nI_lt h (by omega)) hb
        · exact h
      refine zj_aload_n C (List.mem_of_getElem? (i := 50) rfl) rfl rfl rfl ?_
      refine zj_gets C (List.mem_of_getElem? (i := 51) rfl) rfl rfl hx36 ?_
      refine zj_putR (k := 5) C (List.mem_of_getElem? (i := 52) rfl) rfl rfl hR rfl rfl (Nat.le_of_ble_eq_true rfl) rfl (zj_fit_r rfl _) (fun ws3 hRws3 hAws3 hKws3 => ?_)
      exact fin (28, 0, q, q) ws3 x0 113 (List.mem_of_getElem? (i := 53) rfl) (by rw [zj_tk, hrun, zj_t2, if_neg h300, if_pos h6]) (fun i hi => (hKws3 i hi).trans (hK i hi)) (hAws3.trans hAs) hRws3 (fun h => absurd (show (28 : Nat) = 27 from h) (by decide))
    have hlt := (nI_ltI (a := q) (b := t) (by omega) (by omega)).mp hb
    refine zj_aload_n C (List.mem_of_getElem? (i := 54) rfl) rfl rfl rfl ?_
    refine zj_dup C (List.mem_of_getElem? (i := 55) rfl) rfl rfl ?_
    refine zj_get C (List.mem_of_getElem? (i := 56) rfl) rfl rfl hR.1 rfl rfl ?_
    refine zj_iconst (v := 1) C (List.mem_of_getElem? (i := 57) rfl) rfl (by decide) ?_
    refine zj_iadd (v := (nI (q + 1))) C (List.mem_of_getElem? (i := 58) rfl) rfl (nI_1 q) ?_
    refine zj_putR (k := 1) C (List.mem_of_getElem? (i := 59) rfl) rfl rfl hR rfl rfl (Nat.le_of_ble_eq_true rfl) rfl (zj_fit_i rfl _) (fun ws3 hRws3 hAws3 hKws3 => ?_)
    have hK3 : ∀ i, i ≠ 198 → ws3[i]? = ws[i]? := fun i hi => (hKws3 i hi).trans (hK i hi)
    have hA3 := hAws3.trans hAs
    have htk : zj_tk (fun i => (fT i).toInt) t p0 = if zj_an (fT q).toInt = true then zj_t3 (fun i => (fT i).toInt) q (zj_run zj_an (fun i => (fT i).toInt) t (q + 1)) else (zj_find (fun i => (fT i).toInt) q 1, 0, q, q + 1) := by
      rw [zj_tk, hrun, zj_t2, if_neg h300, if_neg (by omega)]
    have more : zj_an (fT q).toInt = true → zj_go p l e R s mi args below meth c Q D A (zx_mV zx_m27.2.1) 154 [(0, .ref aR)] [] ws3 := by
      intro han
      rw [if_pos han] at htk
      exact c154 (t - (q + 1)) (q + 1) q x0 k6 ws3 (Nat.le_refl _) (by omega) (by omega) hRws3 hA3 hK3 htk
    have stop : ¬ zj_an (fT q).toInt = true → zj_go p l e R s mi args below meth c Q D A (zx_mV zx_m27.2.1) 208 [(0, .ref aR)] [] ws3 := by
      intro han
      rw [if_neg han] at htk
      refine c208 q (q + 1) x0 k6 ws3 (by omega) (by omega) hRws3 hA3 hK3 ?_
      rw [htk, zj_t3, if_neg (fun h => han (by unfold zj_an; rw [h]; rfl)), show q + 1 - q = 1 by omega]
    refine zj_aload_n C (List.mem_of_getElem? (i := 60) rfl) rfl rfl rfl ?_
    refine zj_get C (List.mem_of_getElem? (i := 61) rfl) rfl rfl hRws3.1 rfl rfl ?_
    refine zj_aload_n C (List.mem_of_getElem? (i := 62) rfl) rfl rfl rfl ?_
    refine zj_get C (List.mem_of_getElem? (i := 63) rfl) rfl rfl hRws3.1 rfl rfl ?_
    refine zj_iald (v := (fT q)) C (List.mem_of_getElem? (i := 64) rfl) rfl hRws3.2 (vp_in_nI (by omega) (by decide)) (by rw [nI_clamp (by omega)]) ?_
    refine zj_callS (As := [.int (fT q)]) (rest := []) C (List.mem_of_getElem? (i := 65) rfl) rfl rfl (Or.inl rfl) (zj_W_mono (zj_isDigit_W (d := 8) (x := fT q)) (by decide)) rfl rfl (Nat.le_of_ble_eq_true rfl) rfl rfl (fun v ws2 _ hZ => ?_)
    obtain ⟨hw2, r, hv, hr⟩ := hZ
    subst hw2
    subst hv
    refine zj_if_ne (tgt := 154) C (List.mem_of_getElem? (i := 66) rfl) rfl (by decide) (fun hd => ?_) (fun hd => ?_)
    · exact more (by unfold zj_an; rw [hr.mp hd]; rfl)
    refine zj_aload_n C (List.mem_of_getElem? (i := 67) rfl) rfl rfl rfl ?_
    refine zj_get C (List.mem_of_getElem? (i := 68) rfl) rfl rfl hRws3.1 rfl rfl ?_
    refine zj_aload_n C (List.mem_of_getElem? (i := 69) rfl) rfl rfl rfl ?_
    refine zj_get C (List.mem_of_getElem? (i := 70) rfl) rfl rfl hRws3.1 rfl rfl ?_
    refine zj_iald (v := (fT q)) C (List.mem_of_getElem? (i := 71) rfl) rfl hRws3.2 (vp_in_nI (by omega) (by decide)) (by rw [nI_clamp (by omega)]) ?_
    refine zj_callS (As := [.int (fT q)]) (rest := []) C (List.mem_of_getElem? (i := 72) rfl) rfl rfl (Or.inl rfl) (zj_W_mono (zj_isLetter_W (d := 8) (x := fT q)) (by decide)) rfl rfl (Nat.le_of_ble_eq_true rfl) rfl rfl (fun v ws2 _ hZ => ?_)
    obtain ⟨hw2, r2, hv, hr2⟩ := hZ
    subst hw2
    subst hv
    refine zj_if_eq (tgt := 208) C (List.mem_of_getElem? (i := 73) rfl) rfl (by decide) (fun he2 => ?_) (fun he2 => ?_)
    · refine stop (fun h => ?_)
      unfold zj_an at h
      rw [Bool.or_eq_true] at h
      rcases h with h | h
      · exact hr.mpr h hd
      · exact hr2.mpr h he2
    exact more (by unfold zj_an; rw [Bool.or_eq_true]; exact Or.inr (hr2.mp he2))
  have c52 : ∀ (q : Nat) (ws1 : va_W), q ≤ t → zj_RS tys ws1 aR aT fT [.int (nI t), .int (nI q), .int pl0, .int x0, .int o, .ref k6, .ref k7, .int k8] → zx_as ws1 = zx_as ws → (∀ i, i ≠ 198 → ws1[i]? = ws[i]?) → zj_run zj_bl (fun i => (fT i).toInt) t p0 = q → zj_go p l e R s mi args below meth c Q D A (zx_mV zx_m27.2.1) 52 [(0, .ref aR)] [] ws1 := by
    intro q ws1 hq hR hAs hK hrun
    refine zj_aload_n C (List.mem_of_getElem? (i := 26) rfl) rfl rfl rfl ?_
    refine zj_aload_n C (List.mem_of_getElem? (i := 27) rfl) rfl rfl rfl ?_
    refine zj_get C (List.mem_of_getElem? (i := 28) rfl) rfl rfl hR.1 rfl rfl ?_
    refine zj_putR (k := 2) C (List.mem_of_getElem? (i := 29) rfl) rfl rfl hR rfl rfl (Nat.le_of_ble_eq_true rfl) rfl (zj_fit_i rfl _) (fun ws3 hRws3 hAws3 hKws3 => ?_)
    have hK3 : ∀ i, i ≠ 198 → ws3[i]? = ws[i]? := fun i hi => (hKws3 i hi).trans (hK i hi)
    have hA3 := hAws3.trans hAs
    refine zj_aload_n C (List.mem_of_getElem? (i := 30) rfl) rfl rfl rfl ?_
    refine zj_get C (List.mem_of_getElem? (i := 31) rfl) rfl rfl hRws3.1 rfl rfl ?_
    refine zj_sipush (v := 300) C (List.mem_of_getElem? (i := 32) rfl) rfl (by decide) ?_
    refine zj_icmp_lt (tgt := 95) C (List.mem_of_getElem? (i := 33) rfl) rfl (by decide) (fun hb => ?_) (fun hb => ?_)
    · have h6 : ¬ 300 ≤ q := fun h => absurd hb (nI_nlt (a := q) (b := 300) h (by omega))
      exact c95 q ws3 hq hRws3 hA3 hK3 hrun (fun h => h6 h.1)
    have h6 : 300 ≤ q := by
      rcases Nat.lt_or_ge q 300 with h | h
      · exact absurd (nI_lt (b := 300) h (by decide)) hb
      · exact h
    refine zj_aload_n C (List.mem_of_getElem? (i := 34) rfl) rfl rfl rfl ?_
    refine zj_get C (List.mem_of_getElem? (i := 35) rfl) rfl rfl hRws3.1 rfl rfl ?_
    refine zj_sipush (v := 300) C (List.mem_of_getElem? (i := 36) rfl) rfl (by decide) ?_
    refine zj_icmp_le (tgt := 95) C (List.mem_of_getElem? (i := 37) rfl) rfl (by decide) (fun hb2 => ?_) (fun hb2 => ?_)
    · have h7 := (nI_leI (a := t) (b := 300) (by omega) (by decide)).mp hb2
      exact c95 q ws3 hq hRws3 hA3 hK3 hrun (fun h => by omega)
    have h7 : 300 < t := by
      rcases Nat.lt_or_ge 300 t with h | h
      · exact h
      · exact absurd (nI_le (b := 300) h (by decide)) hb2
    refine zj_aload_n C (List.mem_of_getElem? (i := 38) rfl) rfl rfl rfl ?_
    refine zj_sipush (v := 300) C (List.mem_of_getElem? (i := 39) rfl) rfl (by decide) ?_
    refine zj_putR (k := 2) C (List.mem_of_getElem? (i := 40) rfl) rfl rfl hRws3 rfl rfl (Nat.le_of_ble_eq_true rfl) rfl (zj_fit_i rfl _) (fun ws4 hRws4 hAws4 hKws4 => ?_)
    refine zj_aload_n C (List.mem_of_getElem? (i := 41) rfl) rfl rfl rfl ?_
    refine zj_gets C (List.mem_of_getElem? (i := 42) rfl) rfl rfl hx37 ?_
    refine zj_putR (k := 5) C (List.mem_of_getElem? (i := 43) rfl) rfl rfl hRws4 rfl rfl (Nat.le_of_ble_eq_true rfl) rfl (zj_fit_r rfl _) (fun ws5 hRws5 hAws5 hKws5 => ?_)
    exact fin (29, 0, 300, q) ws5 x0 94 (List.mem_of_getElem? (i := 44) rfl) (by rw [zj_tk, hrun, zj_t2, if_pos ⟨h6, h7⟩]) (fun i hi => (hKws5 i hi).trans ((hKws4 i hi).trans (hK3 i hi))) (hAws5.trans (hAws4.trans hA3)) hRws5 (fun h => absurd (show (29 : Nat) = 27 from h) (by decide))
  have c0 : ∀ (N q : Nat) (ws1 : va_W), t - q ≤ N → q ≤ t → zj_RS tys ws1 aR aT fT [.int (nI t), .int (nI q), .int pl0, .int x0, .int o, .ref k6, .ref k7, .int k8] → zx_as ws1 = zx_as ws → (∀ i, i ≠ 198 → ws1[i]? = ws[i]?) → zj_run zj_bl (fun i => (fT i).toInt) t p0 = zj_run zj_bl (fun i => (fT i).toInt) t q → zj_go p l e R s mi args below meth c Q D A (zx_mV zx_m27.2.1) 0 [(0, .ref aR)] [] ws1 := by
    intro N
    induction N with
    | zero =>
      intro q ws1 hN hq hR hAs hK hrun
      refine zj_aload_n C (List.mem_of_getElem? (i := 0) rfl) rfl rfl rfl ?_
      refine zj_get C (List.mem_of_getElem? (i := 1) rfl) rfl rfl hR.1 rfl rfl ?_
      refine zj_aload_n C (List.mem_of_getElem? (i := 2) rfl) rfl rfl rfl ?_
      refine zj_get C (List.mem_of_getElem? (i := 3) rfl) rfl rfl hR.1 rfl rfl ?_
      refine zj_icmp_ge (tgt := 52) C (List.mem_of_getElem? (i := 4) rfl) rfl (by decide) (fun hb => ?_) (fun hb => ?_)
      · exact c52 q ws1 hq hR hAs hK (by rw [hrun, zj_run_e (by omega)])
      exact absurd (nI_le (a := t) (b := q) (by omega) (by omega)) hb
    | succ N ih =>
      intro q ws1 hN hq hR hAs hK hrun
      refine zj_aload_n C (List.mem_of_getElem? (i := 0) rfl) rfl rfl rfl ?_
      refine zj_get C (List.mem_of_getElem? (i := 1) rfl) rfl rfl hR.1 rfl rfl ?_
      refine zj_aload_n C (List.mem_of_getElem? (i := 2) rfl) rfl rfl rfl ?_
      refine zj_get C (List.mem_of_getElem? (i := 3) rfl) rfl rfl hR.1 rfl rfl ?_
      refine zj_icmp_ge (tgt := 52) C (List.mem_of_getElem? (i := 4) rfl) rfl (by decide) (fun hb => ?_) (fun hb => ?_)
      · have h6 := (nI_leI (a := t) (b := q) (by omega) (by omega)).mp hb
        exact c52 q ws1 hq hR hAs hK (by rw [hrun, zj_run_e (by omega)])
      have hlt : q < t := by
        rcases Nat.lt_or_ge q t with h | h
        · exact h
        · exact absurd (nI_le h (by omega)) hb
      have more : zj_bl (fT q).toInt = true → zj_go p l e R s mi args below meth c Q D A (zx_mV zx_m27.2.1) 39 [(0, .ref aR)] [] ws1 := by
        intro hbl
        refine zj_aload_n C (List.mem_of_getElem? (i := 19) rfl) rfl rfl rfl ?_
        refine zj_dup C (List.mem_of_getElem? (i := 20) rfl) rfl rfl ?_
        refine zj_get C (List.mem_of_getElem? (i := 21) rfl) rfl rfl hR.1 rfl rfl ?_
        refine zj_iconst (v := 1) C (List.mem_of_getElem? (i := 22) rfl) rfl (by decide) ?_
        refine zj_iadd (v := (nI (q + 1))) C (List.mem_of_getElem? (i := 23) rfl) rfl (nI_1 q) ?_
        refine zj_putR (k := 1) C (List.mem_of_getElem? (i := 24) rfl) rfl rfl hR rfl rfl (Nat.le_of_ble_eq_true rfl) rfl (zj_fit_i rfl _) (fun ws3 hRws3 hAws3 hKws3 => ?_)
        refine zj_goto (tgt := 0) C (List.mem_of_getElem? (i := 25) rfl) (by decide) ?_
        refine ih (q + 1) ws3 (by omega) (by omega) hRws3 (hAws3.trans hAs) (fun i hi => (hKws3 i hi).trans (hK i hi)) ?_
        rw [hrun, zj_run_s hlt hbl]
      refine zj_aload_n C (List.mem_of_getElem? (i := 5) rfl) rfl rfl rfl ?_
      refine zj_get C (List.mem_of_getElem? (i := 6) rfl) rfl rfl hR.1 rfl rfl ?_
      refine zj_aload_n C (List.mem_of_getElem? (i := 7) rfl) rfl rfl rfl ?_
      refine zj_get C (List.mem_of_getElem? (i := 8) rfl) rfl rfl hR.1 rfl rfl ?_
      refine zj_iald (v := (fT q)) C (List.mem_of_getElem? (i := 9) rfl) rfl hR.2 (vp_in_nI (by omega) (by decide)) (by rw [nI_clamp (by omega)]) ?_
      refine zj_bipush (v := 32) C (List.mem_of_getElem? (i := 10) rfl) rfl (by decide) ?_
      refine zj_icmp_eq (tgt := 39) C (List.mem_of_getElem? (i := 11) rfl) rfl (by decide) (fun h32 => ?_) (fun h32 => ?_)
      · exact more (zj_blank.mpr (Or.inl h32))
      refine zj_aload_n C (List.mem_of_getElem? (i := 12) rfl) rfl rfl rfl ?_
      refine zj_get C (List.mem_of_getElem? (i := 13) rfl) rfl rfl hR.1 rfl rfl ?_
      refine zj_aload_n C (List.mem_of_getElem? (i := 14) rfl) rfl rfl rfl ?_
      refine zj_get C (List.mem_of_getElem? (i := 15) rfl) rfl rfl hR.1 rfl rfl ?_
      refine zj_iald (v := (fT q)) C (List.mem_of_getElem? (i := 16) rfl) rfl hR.2 (vp_in_nI (by omega) (by decide)) (by rw [nI_clamp (by omega)]) ?_
      refine zj_bipush (v := 10) C (List.mem_of_getElem? (i := 17) rfl) rfl (by decide) ?_
      refine zj_icmp_ne (tgt := 52) C (List.mem_of_getElem? (i := 18) rfl) rfl (by decide) (fun h10 => ?_) (fun h10 => ?_)
      · refine c52 q ws1 hq hR hAs hK ?_
        rw [hrun, zj_run_e]
        rintro ⟨-, h⟩
        rcases zj_blank.mp h with h | h
        · exact h32 h
        · exact h10 h
      exact more (zj_blank.mpr (Or.inr h10))
  exact c0 (t - p0) p0 ws (Nat.le_refl _) hp hR0 rfl (fun _ _ => rfl) rfl
end
