noncomputable section
/-! jf: Token.find -/
theorem jf_PR : zx_PRt[243]? = some (⟨"OperaHouse$Token", "find", "([III)LOperaHouse$Token;"⟩, prog_10_method_4_code, 6, some (Jvm.ClassFile.FieldType.object "OperaHouse$Token")) := rfl
theorem jf_rm : zx_rmt[243]? = some (0, 0) := rfl
theorem jf_len : ∀ j, j < 30 → (zx_txt.getD j []).length ≤ 7 := by decide
theorem jf_ids : ∀ j, j < 30 → ∃ q ∈ zx_Yt.1, q.1 = 8 + j := by decide
theorem jf_bad : ("OperaHouse$Token", "BAD", "LOperaHouse$Token;", 37) ∈ zx_sts := List.mem_of_getElem? (i := 29) rfl
theorem jf_i : ∀ j, j < 30 → 8 + j ∈ ([8, 9, 10, 11, 12, 13, 14, 15, 16, 17, 18, 19, 20, 21, 22, 23, 24, 25, 26, 27, 28, 29, 30, 31, 32, 33, 34, 35, 36, 37] : List Nat) := by decide
theorem jf_ok {l : Launch} : vN l 9 vECF := by
  intro y cc maxL ret rm hPR hrm D A b ex ρ tys ws sz av hG hh ha hA0 hIv
  cases jf_PR.symm.trans hPR
  cases jf_rm.symm.trans hrm
  match av, ha with
  | [], ha => exact ha.elim
  | [_], ha => exact ha.2.elim
  | [_, _], ha => exact ha.2.2.elim
  | _ :: _ :: _ :: _ :: _, ha => exact ha.2.2.2.elim
  | [x0, x1, x2], ⟨h0, h1, h2, _⟩ =>
  rcases h0 with ⟨h4, -⟩ | ⟨i0, a, h4, h5, rfl⟩
  · cases h4
  have hi0 : i0 = 64 := List.mem_singleton.mp h4
  subst hi0
  obtain ⟨f, rfl, hf⟩ := h1
  obtain ⟨t, rfl, ht⟩ := h2
  have hfb := zx_rng_ok hG (e := ([(0, 1)], 0)) (t := (0, 340)) rfl hf
  have htb := zx_rng_ok hG (e := ([(1, 1)], 0)) (t := (0, 340)) rfl ht
  have hfb : 0 ≤ f.toInt ∧ f.toInt ≤ 340 := hfb
  have htb : 0 ≤ t.toInt ∧ t.toInt ≤ 340 := htb
  clear hf ht
  obtain ⟨q0, hq0, cA, t0, htys, hrow⟩ := zx_F2_get (i := 0) hh rfl
  rcases hrow with ⟨-, fr, hq1, -⟩ | ⟨h3, -⟩
  case inr =>
    have h3 : 3 ≤ 0 := h3
    omega
  obtain ⟨qa, qe⟩ := q0
  have hq1 : qe = .inl (cA, 340, .inl fr) := hq1
  subst hq1
  have hqa : qa = a := by
    have h6 : (zx_as ws)[0]? = some a := h5
    rw [zx_as, List.getElem?_map, hq0] at h6
    exact Option.some.inj h6
  subst hqa
  have htys : tys[t0]? = some (cA, .int) := htys
  refine Met.ofW (cc := prog_10_method_4_code) (maxL := 6) (ret := some (Jvm.ClassFile.FieldType.object "OperaHouse$Token")) (by decide) rfl ?_
  intro p e s m args below meth c s₁ B hml hv
  obtain ⟨rfl, hsz, hP, hK, hD, hCX, hnw, hao⟩ := hv
  have hx := B.exec
  have hb := B.bytes
  have hr := B.returns
  have hts0 := atoms_spec B.pre
  have hts : ∀ w ∈ zx_Ts, w.before ([.ref qa, .int f, .int t] : List Value).toArray s = true := fun w hw => hts0 w (List.mem_cons_of_mem _ hw)
  have hown : s.vm.findClass "OperaHouse$Token" = some m.cls := findClass_of_methodNamed B.named
  have hlocks := B.notSynchronized
  have hcall : CallFix p m c prog_10_method_4_code 6 s ([.ref qa, .int f, .int t] : List Value).toArray zx_Ts "OperaHouse$Token" := ⟨hx, hb, hml, hown, hts⟩
  have hA : ∀ q, s.heap.size ≤ q → A q := fun q hq => hA0 q (by rw [← hsz]; exact hq)
  obtain ⟨⟨hst, ⟨aA, hZA, hTA⟩, ⟨⟨v9, hv9, hM9⟩, hC9⟩, htx⟩, hYt⟩ := hCX
  have hN : ∀ q : Nat, jN q → A q := fun _ h => h.elim
  have hex : ∀ j, j < 30 → ex[8 + j]? = some (ex.getD (8 + j) 0) := by
    intro j hj
    obtain ⟨q, k1, k2⟩ := jf_ids j hj
    obtain ⟨a9, -, k3, -⟩ := hYt q k1
    rw [k2] at k3
    rw [k3, List.getD_eq_getElem?_getD, k3]
    rfl
  obtain ⟨aB, hB1, hB2⟩ := hst _ jf_bad
  have hB1 : ex[37]? = some aB := hB1
  have hl := lv_entry ([.ref qa, .int f, .int t] : List Value) (n := 6) (Nat.le_of_ble_eq_true rfl)
  rw [lg_entry_eq]
  generalize (lg_sl ([.ref qa, .int f, .int t] : List Value) ++ List.replicate (6 - (lg_sl ([.ref qa, .int f, .int t] : List Value)).length) Slot.unset).toArray = ls at hl ⊢
  have hl : lv_has ls 6 [(0, .ref qa), (1, .int f), (2, .int t)] := hl
  have fin : ∀ (j : Nat) (a9 : Nat), j < 30 → ex[8 + j]? = some a9 → ∀ (H : Heap) (locs : List Loc), va_P D vwCl ws H → va_S A s.heap H locs → ∀ u : State, u.heap = H → s.WarmedH u.vm → zx_Qc D vwCl A b ex ρ ws [] vECF.2.2.2.2.1 ([.ref qa, .int f, .int t] : List Value).toArray s (.returned (some (.ref a9))) u := by
    intro j a9 hj hja H locs hP hS u hu hW
    refine ⟨⟨_, List.mem_cons_self, some (.ref a9), [], tys, ws, rfl, ?_, va_K.moved hW.alike hK, by rw [hu]; exact hP, hD, zx_KP_rf ws [], ?_, ?_⟩, hS.F hu⟩
    · rw [List.append_nil]
      exact hG
    · rw [List.append_nil]
      exact hh
    · exact Or.inr ⟨8 + j, a9, jf_i j hj, by rw [zx_ad, if_pos (by omega)]; exact hja, rfl⟩
  have h126 := jw 4 (w := .fieldLink "OperaHouse$Token" 126 "OperaHouse$Token" "ALL" "[LOperaHouse$Token;") rfl
  have outer : ∀ (N k : Nat), 31 ≤ k + N → k ≤ 30 → ∀ (H : Heap) (locs : List Loc), va_P D vwCl ws H → va_S A s.heap H locs → ∀ ls : Array Slot, lv_has ls 6 [(0, .ref qa), (1, .int f), (2, .int t), (3, .int (nI k))] → W p l e ({ frames := 9, cells := 0, slots := 0, locals := 100 * 9 } : Room) s m ([.ref qa, .int f, .int t] : List Value).toArray below meth c H locs 0 0 (MQ below (zx_Qc D vwCl A b ex ρ ws [] vECF.2.2.2.2.1) ([.ref qa, .int f, .int t] : List Value).toArray s 0 0 A) (F0 m 2 ls []) := by
    intro N
    induction N with
    | zero =>
      intro k h1 h2
      exact absurd h1 (by omega)
    | succ N ih =>
    intro k hkN hk H locs hP hS ls hl
    refine lv_iload_n hx hb (jd_find_2) rfl (lv_at hl 3 rfl) ?_
    refine va_gets hx hb hZA hS hown (hts _ h126) (fun _ h => h) (jd_find_3) ?_
    refine va_tlen hx hb hTA hS rfl (jd_find_6) ?_
    refine lv_icmp_ge (tgt := 98) hx hb (jd_find_7) (by decide) (fun hge => ?_) (fun hge => ?_)
    · refine va_gets hx hb hB2 hS hown (hts _ (jw 5 (w := .fieldLink "OperaHouse$Token" 93 "OperaHouse$Token" "BAD" "LOperaHouse$Token;") rfl)) (fun _ h => h) (jd_find_98) ?_
      exact W.aret hx hb hr (Or.inl ⟨_, rfl⟩) (Or.inr ⟨_, rfl⟩) (fin 29 aB (by decide) hB1 H locs hP hS) hS.2.2 (jd_find_101)
    have hk30 : k < 30 := by
      rcases Nat.lt_or_ge k 30 with h | h
      · exact h
      · exact absurd (nI_le (a := 30) (b := k) h (by omega)) hge
    have hki : vp_in (nI k) 30 := vp_in_iff.mpr (by rw [nI_toInt (by omega)]; omega)
    have hkc : (nI k).toNatClampNeg = k := nI_clamp (by omega)
    obtain ⟨aK, aV, x1, x2, x3, x4, x5⟩ := htx k hk30
    have hn7 := jf_len k hk30
    generalize (zx_txt.getD k []).length = n at x5 hn7
    have hFT : ∀ H1 : Heap, (∀ q : Nat, q < s.heap.size → ¬ A q → H1[q]? = s.heap[q]?) → jT aK aV n (fun j => Int32.ofNat ((zx_txt.getD k []).getD j 0)) s H1 := fun H1 hq =>
      ⟨(hC9.kept hq).narrow hN, ⟨v9, hv9, (hM9.kept hq).narrow hN⟩, (x2.kept hq).narrow hN, (x3.kept hq).narrow hN, (x4.kept hq).narrow hN, (x5.kept hq).narrow hN⟩
    refine va_gets hx hb hZA hS hown (hts _ h126) (fun _ h => h) (jd_find_10) ?_
    refine lv_iload_n hx hb (jd_find_13) rfl (lv_at hl 3 rfl) ?_
    refine vb_tq hx hb hTA hS hki (v := .ref (ex.getD (8 + k) 0)) (by rw [hkc]) (jd_find_14) ?_
    refine vk_getf hx hb x1 hS hown (hts _ (jw 6 (w := .fieldLink "OperaHouse$Token" 115 "OperaHouse$Token" "text" "Ljava/lang/String;") rfl)) (fun _ h => h) (jd_find_15) ?_
    refine lv_astore (nL := 6) (lv' := [(4, .ref aK), (0, .ref qa), (1, .int f), (2, .int t), (3, .int (nI k))]) hx hb (jd_find_18) hl (by decide) rfl (fun ls hl => ?_)
    refine lv_iconst (v := 0) hx hb (jd_find_20) (by decide) ?_
    refine lv_istore (nL := 6) (lv' := [(5, .int 0), (4, .ref aK), (0, .ref qa), (1, .int f), (2, .int t), (3, .int (nI k))]) hx hb (jd_find_21) hl (by decide) rfl (fun ls hl => ?_)
    have next : ∀ (H : Heap) (locs : List Loc), va_P D vwCl ws H → va_S A s.heap H locs → ∀ (x : Int32) (ls : Array Slot), lv_has ls 6 [(5, .int x), (4, .ref aK), (0, .ref qa), (1, .int f), (2, .int t), (3, .int (nI k))] → W p l e ({ frames := 9, cells := 0, slots := 0, locals := 100 * 9 } : Room) s m ([.ref qa, .int f, .int t] : List Value).toArray below meth c H locs 0 0 (MQ below (zx_Qc D vwCl A b ex ρ ws [] vECF.2.2.2.2.1) ([.ref qa, .int f, .int t] : List Value).toArray s 0 0 A) (F0 m 92 ls []) := by
      intro H locs hP hS x ls hl
      refine lv_iinc (nL := 6) (k := 5) (v := nI (k + 1)) (lv' := [(3, .int (nI (k + 1))), (5, .int x), (4, .ref aK), (0, .ref qa), (1, .int f), (2, .int t)]) hx hb (jd_find_92) hl rfl (nI_succ k).symm (by decide) rfl (fun ls hl => ?_)
      refine lv_goto (tgt := 2) hx hb (jd_find_95) (by decide) ?_
      exact ih (k + 1) (by omega) (by omega) H locs hP hS ls (lv_sub hl [3, 4, 5, 0] rfl)
    have found : ∀ (H : Heap) (locs : List Loc), va_P D vwCl ws H → va_S A s.heap H locs → ∀ (x : Int32) (ls : Array Slot), lv_has ls 6 [(5, .int x), (4, .ref aK), (0, .ref qa), (1, .int f), (2, .int t), (3, .int (nI k))] → W p l e ({ frames := 9, cells := 0, slots := 0, locals := 100 * 9 } : Room) s m ([.ref qa, .int f, .int t] : List Value).toArray below meth c H locs 0 0 (MQ below (zx_Qc D vwCl A b ex ρ ws [] vECF.2.2.2.2.1) ([.ref qa, .int f, .int t] : List Value).toArray s 0 0 A) (F0 m 63 ls []) := by
      intro H locs hP hS x ls hl
      refine lv_iload hx hb (jd_find_63) (lv_at hl 0 rfl) ?_
      refine lv_if_le (tgt := 92) hx hb (jd_find_65) (by decide) (fun _ => next H locs hP hS x ls hl) (fun _ => ?_)
      refine lv_iload hx hb (jd_find_68) (lv_at hl 0 rfl) ?_
      refine lv_aload hx hb (jd_find_70) (lv_at hl 1 rfl) ?_
      obtain ⟨cell, o1, o2, o3, o4⟩ := x2.kept hS.2.1
      refine jV (n := 0) (As := []) (b := aK) (rest := [.int x]) jT_W hcall jt_len (jw 29 (w := .methodLink "OperaHouse$Token" 129 jy_len) rfl) (jw 8 (w := .initialized "java/lang/String") rfl) (jw 31 (w := .code jy_len prog_22_method_54_code 1 (some .int)) rfl) (jw 32 (w := .instanceMethod jy_len) rfl) (jw 33 (w := .selects "java/lang/String" jy_len jy_len) rfl) ⟨by decide, by decide, by decide⟩ ⟨Nat.le_of_ble_eq_true rfl, Nat.le_of_ble_eq_true rfl⟩ rfl ⟨cell, o1, o2, o3⟩ (hFT H hS.2.1) hS hl.1 (Nat.le_of_ble_eq_true rfl) ⟨Nat.zero_le _, Nat.zero_le _⟩ (jd_find_72) (fun H1 locs1 hz hkp hS1 => ?_)
      have hP1 : va_P D vwCl ws H1 := hP.kept (fun k9 q9 hq9 => hkp q9.1 ((hP k9 q9 hq9).lt))
      refine lv_icmp_ne (tgt := 92) hx hb (jd_find_75) (by decide) (fun _ => next H1 locs1 hP1 hS1 x ls hl) (fun _ => ?_)
      refine lv_iload hx hb (jd_find_78) (lv_at hl 0 rfl) ?_
      refine lv_iload_n hx hb (jd_find_80) rfl (lv_at hl 4 rfl) ?_
      refine lv_iload_n hx hb (jd_find_81) rfl (lv_at hl 3 rfl) ?_
      refine lv_isub hx hb (jd_find_82) ?_
      refine lv_icmp_ne (tgt := 92) hx hb (jd_find_83) (by decide) (fun _ => next H1 locs1 hP1 hS1 x ls hl) (fun _ => ?_)
      refine va_gets hx hb hZA hS1 hown (hts _ h126) (fun _ h => h) (jd_find_86) ?_
      refine lv_iload_n hx hb (jd_find_89) rfl (lv_at hl 5 rfl) ?_
      refine vb_tq hx hb hTA hS1 hki (v := .ref (ex.getD (8 + k) 0)) (by rw [hkc]) (jd_find_90) ?_
      exact W.aret hx hb hr (Or.inl ⟨_, rfl⟩) (Or.inr ⟨_, rfl⟩) (fin k _ hk30 (hex k hk30) H1 locs1 hP1 hS1) hS1.2.2 (jd_find_91)
    have inner : ∀ (N j : Nat), n + 1 ≤ j + N → j ≤ n → ∀ (H : Heap) (locs : List Loc), va_P D vwCl ws H → va_S A s.heap H locs → ∀ ls : Array Slot, lv_has ls 6 [(5, .int (nI j)), (4, .ref aK), (0, .ref qa), (1, .int f), (2, .int t), (3, .int (nI k))] → W p l e ({ frames := 9, cells := 0, slots := 0, locals := 100 * 9 } : Room) s m ([.ref qa, .int f, .int t] : List Value).toArray below meth c H locs 0 0 (MQ below (zx_Qc D vwCl A b ex ρ ws [] vECF.2.2.2.2.1) ([.ref qa, .int f, .int t] : List Value).toArray s 0 0 A) (F0 m 23 ls []) := by
      intro N
      induction N with
      | zero =>
        intro j h1 h2
        exact absurd h1 (by omega)
      | succ N ihj =>
      intro j hjN hj H locs hP hS ls hl
      refine lv_iload hx hb (jd_find_23) (lv_at hl 0 rfl) ?_
      refine lv_aload hx hb (jd_find_25) (lv_at hl 1 rfl) ?_
      obtain ⟨cell, o1, o2, o3, o4⟩ := x2.kept hS.2.1
      refine jV (n := 0) (As := []) (b := aK) (rest := [.int (nI j)]) jT_W hcall jt_len (jw 29 (w := .methodLink "OperaHouse$Token" 129 jy_len) rfl) (jw 8 (w := .initialized "java/lang/String") rfl) (jw 31 (w := .code jy_len prog_22_method_54_code 1 (some .int)) rfl) (jw 32 (w := .instanceMethod jy_len) rfl) (jw 33 (w := .selects "java/lang/String" jy_len jy_len) rfl) ⟨by decide, by decide, by decide⟩ ⟨Nat.le_of_ble_eq_true rfl, Nat.le_of_ble_eq_true rfl⟩ rfl ⟨cell, o1, o2, o3⟩ (hFT H hS.2.1) hS hl.1 (Nat.le_of_ble_eq_true rfl) ⟨Nat.zero_le _, Nat.zero_le _⟩ (jd_find_27) (fun H locs hz hkp hS => ?_)
      have hP : va_P D vwCl ws H := hP.kept (fun k9 q9 hq9 => hkp q9.1 ((hP k9 q9 hq9).lt))
      have hsh : Int32.ofNat n >>> ((0 : Int32) &&& 31) = nI n := by
        have h7 : ∀ z, z ≤ 7 → Int32.ofNat z >>> ((0 : Int32) &&& 31) = nI z := by decide
        exact h7 n hn7
      rw [hsh]
      refine lv_icmp_ge (tgt := 63) hx hb (jd_find_30) (by decide) (fun _ => found H locs hP hS _ ls hl) (fun hlt => ?_)
      have hjn : j < n := by
        rcases Nat.lt_or_ge j n with h | h
        · exact h
        · exact absurd (nI_le h (by omega)) hlt
      have hjI : (nI j).toInt = (j : Int) := nI_toInt (by omega)
      have hfj : (f + nI j).toInt = f.toInt + j := by
        rw [zx_addI f (nI j) (by rw [hjI]; omega) (by rw [hjI]; omega), hjI]
      refine lv_iload_n hx hb (jd_find_33) rfl (lv_at hl 3 rfl) ?_
      refine lv_iload hx hb (jd_find_34) (lv_at hl 0 rfl) ?_
      refine lv_iadd hx hb (jd_find_36) ?_
      refine lv_iload_n hx hb (jd_find_37) rfl (lv_at hl 4 rfl) ?_
      refine lv_icmp_ge (tgt := 63) hx hb (jd_find_38) (by decide) (fun _ => found H locs hP hS _ ls hl) (fun hft => ?_)
      have hft : f.toInt + j < t.toInt := by
        by_cases h : f.toInt + j < t.toInt
        · exact h
        · exact absurd (Int32.le_iff_toInt_le.mpr (by rw [hfj]; omega)) hft
      refine lv_aload hx hb (jd_find_41) (lv_at hl 1 rfl) ?_
      refine lv_iload hx hb (jd_find_43) (lv_at hl 0 rfl) ?_
      obtain ⟨cell, o1, o2, o3, o4⟩ := x2.kept hS.2.1
      refine jV (n := 1) (As := [.int (nI j)]) (b := aK) (rest := []) jT_W hcall (jt_at (i := nI j) (by omega) (vp_in_iff.mpr (by rw [hjI]; omega))) (jw 34 (w := .methodLink "OperaHouse$Token" 135 jy_at) rfl) (jw 8 (w := .initialized "java/lang/String") rfl) (jw 36 (w := .code jy_at prog_22_method_56_code 2 (some .char)) rfl) (jw 37 (w := .instanceMethod jy_at) rfl) (jw 38 (w := .selects "java/lang/String" jy_at jy_at) rfl) ⟨by decide, by decide, by decide⟩ ⟨Nat.le_of_ble_eq_true rfl, Nat.le_of_ble_eq_true rfl⟩ rfl ⟨cell, o1, o2, o3⟩ (hFT H hS.2.1) hS hl.1 (Nat.le_of_ble_eq_true rfl) ⟨Nat.zero_le _, Nat.zero_le _⟩ (jd_find_45) (fun H locs hz hkp hS => ?_)
      have hP : va_P D vwCl ws H := hP.kept (fun k9 q9 hq9 => hkp q9.1 ((hP k9 q9 hq9).lt))
      refine lv_aload_n hx hb (jd_find_48) rfl (lv_at hl 2 rfl) ?_
      refine lv_iload_n hx hb (jd_find_49) rfl (lv_at hl 3 rfl) ?_
      refine lv_iload hx hb (jd_find_50) (lv_at hl 0 rfl) ?_
      refine lv_iadd hx hb (jd_find_52) ?_
      refine va_iald hx hb hK hP 0 t0 hq0 htys (vp_in_iff.mpr (by rw [hfj]; omega)) (jd_find_53) ?_
      refine lv_icmp_ne (tgt := 63) hx hb (jd_find_54) (by decide) (fun _ => found H locs hP hS _ ls hl) (fun _ => ?_)
      refine lv_iinc (nL := 6) (k := 0) (v := nI (j + 1)) (lv' := [(5, .int (nI (j + 1))), (4, .ref aK), (0, .ref qa), (1, .int f), (2, .int t), (3, .int (nI k))]) hx hb (jd_find_57) hl rfl (nI_succ j).symm (by decide) rfl (fun ls hl => ?_)
      refine lv_goto (tgt := 23) hx hb (jd_find_60) (by decide) ?_
      exact ihj (j + 1) (by omega) (by omega) H locs hP hS ls hl
    exact inner (n + 1) 0 (by omega) (Nat.zero_le _) H locs hP hS ls hl
  refine lv_iconst (v := 0) hx hb (jd_find_0) (by decide) ?_
  refine lv_istore_n (nL := 6) (lv' := [(3, .int 0), (0, .ref qa), (1, .int f), (2, .int t)]) hx hb (jd_find_1) rfl hl (by decide) rfl (fun ls hl => ?_)
  exact outer 31 0 (by omega) (by omega) s.heap [] hP va_S.rf ls (lv_sub hl [1, 2, 3, 0] rfl)
end
