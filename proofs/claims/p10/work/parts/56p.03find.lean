noncomputable section
/-! zk: Token.find: which token -/
theorem jf_chr : ∀ k, k < 30 → ∀ j, j < 8 → (jch (Int32.ofNat ((zx_txt.getD k []).getD j 0))).toInt = (((zx_txt.getD k []).getD j 0 : Nat) : Int) := by decide
theorem zj_W_mono {l : Launch} {d d' j : Nat} {X : List Nat → List (ClassId × FieldType) → List Value → va_W → Prop} {Z : List Nat → List Value → va_W → Option Value → va_W → Prop} (h : zj_W l d j X Z) (hd : d ≤ d') : zj_W l d' j X Z :=
  fun y cc maxL ret rm h1 h2 D A ex tys ws sz av h3 h4 => zx_Met_imp (h y cc maxL ret rm h1 h2 D A ex tys ws sz av h3 h4) ⟨hd, Nat.le_refl _, Nat.le_refl _, Nat.mul_le_mul_left _ hd⟩ (fun _ _ h => ⟨h, fun _ q => q⟩) (fun _ _ _ _ _ h _ => h)
theorem zj_find_W {l : Launch} {tys0 : List (ClassId × FieldType)} {ws0 : va_W} {ex0 : List Nat} {qa : Nat} {f t : Int32} {fr : Nat → Int32} (hrow : zj_row tys0 ws0 1 qa 340 .int fr) (hfb : 0 ≤ f.toInt ∧ f.toInt ≤ 340) (htb : 0 ≤ t.toInt ∧ t.toInt ≤ 340) : zj_W l 9 243 (fun ex tys av ws => ex = ex0 ∧ tys = tys0 ∧ av = [.ref qa, .int f, .int t] ∧ ws = ws0) (fun _ _ _ v ws' => ws' = ws0 ∧ ∃ a, ex0[8 + zj_find (fun i => (fr i).toInt) f.toInt.toNat (t.toInt - f.toInt).toNat]? = some a ∧ v = some (.ref a)) := by
  intro y cc maxL ret rm hPR hrm D A ex tys ws sz av hA0 hX
  cases jf_PR.symm.trans hPR
  cases jf_rm.symm.trans hrm
  obtain ⟨h1, h2, h3, h4⟩ := hX
  subst h1
  subst h2
  subst h3
  subst h4
  obtain ⟨cA, t0, hq0, htys⟩ := hrow
  refine Met.ofW (cc := prog_10_method_4_code) (maxL := 6) (ret := some (Jvm.ClassFile.FieldType.object "OperaHouse$Token")) (by decide) rfl ?_
  intro p e s m args below meth c s₁ B hml hv
  obtain ⟨rfl, hsz, hP, hK, hD, hCX, hnw, hao⟩ := hv
  have hx := B.exec
  have hb := B.bytes
  have hr := B.returns
  have hts0 := atoms_spec B.pre
  have hts : ∀ w ∈ zx_Ts, w.before ([.ref qa, .int f, .int t] : List Value).toArray s = true := fun w hw => hts0 w (List.mem_cons_of_mem _ hw)
  have hown : s.vm.findClass "OperaHouse$Token" = some m.cls := findClass_of_methodNamed B.named
  have hlocks := B.notSynchronized
  have hcall : CallFix p m c prog_10_method_4_code 6 s ([.ref qa, .int f, .int t] : List Value).toArray zx_Ts "OperaHouse$Token" := ⟨hx, hb, hml, hown, hts⟩
  have hA : ∀ q, s.heap.size ≤ q → A q := fun q hq => hA0 q (by rw [← hsz]; exact hq)
  obtain ⟨⟨hst, ⟨⟨aA, hZA, hTA⟩, ⟨⟨v9, hv9, hM9⟩, hC9⟩, htx⟩, -⟩, hYt⟩ := hCX
  have hN : ∀ q : Nat, jN q → A q := fun _ h => h.elim
  have hex : ∀ j, j < 30 → ex[8 + j]? = some (ex.getD (8 + j) 0) := by
    intro j hj
    obtain ⟨q, k1, k2⟩ := jf_ids j hj
    obtain ⟨a9, -, k3, -⟩ := hYt q k1
    rw [k2] at k3
    rw [k3, List.getD_eq_getElem?_getD, k3]
    rfl
  obtain ⟨aB, hB1, hB2⟩ := hst _ jf_bad
  have hB1 : ex[37]? = some aB := hB1
  have hl := lv_entry ([.ref qa, .int f, .int t] : List Value) (n := 6) (Nat.le_of_ble_eq_true rfl)
  rw [lg_entry_eq]
  generalize (lg_sl ([.ref qa, .int f, .int t] : List Value) ++ List.replicate (6 - (lg_sl ([.ref qa, .int f, .int t] : List Value)).length) Slot.unset).toArray = ls at hl ⊢
  have hl : lv_has ls 6 [(0, .ref qa), (1, .int f), (2, .int t)] := hl
  have fin : ∀ (j : Nat) (a9 : Nat), j < 30 → ex[8 + j]? = some a9 → zj_find (fun i => (fr i).toInt) f.toInt.toNat (t.toInt - f.toInt).toNat = j → ∀ (H : Heap) (locs : List Loc), va_P D vwCl ws H → va_S A s.heap H locs → ∀ u : State, u.heap = H → s.WarmedH u.vm → zj_Q D A tys ws (fun v ws' => ws' = ws ∧ ∃ a, ex[8 + zj_find (fun i => (fr i).toInt) f.toInt.toNat (t.toInt - f.toInt).toNat]? = some a ∧ v = some (.ref a)) ([.ref qa, .int f, .int t] : List Value).toArray s (.returned (some (.ref a9))) u := by
    intro j a9 hj hja hjz H locs hP hS u hu hW
    exact ⟨⟨some (.ref a9), ws, rfl, va_K.moved hW.alike hK, by rw [hu]; exact hP, hD, rfl, rfl, a9, by rw [hjz]; exact hja, rfl⟩, hS.F hu⟩
  have h126 := jw 4 (w := .fieldLink "OperaHouse$Token" 126 "OperaHouse$Token" "ALL" "[LOperaHouse$Token;") rfl
  have outer : ∀ (N k : Nat), 31 ≤ k + N → k ≤ 30 → zj_fd (fun i => (fr i).toInt) f.toInt.toNat (t.toInt - f.toInt).toNat (30 - k) k = zj_find (fun i => (fr i).toInt) f.toInt.toNat (t.toInt - f.toInt).toNat → ∀ (H : Heap) (locs : List Loc), va_P D vwCl ws H → va_S A s.heap H locs → ∀ ls : Array Slot, lv_has ls 6 [(0, .ref qa), (1, .int f), (2, .int t), (3, .int (nI k))] → W p l e ({ frames := 9, cells := 0, slots := 0, locals := 100 * 9 } : Room) s m ([.ref qa, .int f, .int t] : List Value).toArray below meth c H locs 0 0 (MQ below (zj_Q D A tys ws (fun v ws' => ws' = ws ∧ ∃ a, ex[8 + zj_find (fun i => (fr i).toInt) f.toInt.toNat (t.toInt - f.toInt).toNat]? = some a ∧ v = some (.ref a))) ([.ref qa, .int f, .int t] : List Value).toArray s 0 0 A) (F0 m 2 ls []) := by
    intro N
    induction N with
    | zero =>
      intro k h1 h2
      exact absurd h1 (by omega)
    | succ N ih =>
    intro k hkN hk hfd H locs hP hS ls hl
    refine lv_iload_n hx hb (jd_find_2) rfl (lv_at hl 3 rfl) ?_
    refine va_gets hx hb hZA hS hown (hts _ h126) (fun _ h => h) (jd_find_3) ?_
    refine va_tlen hx hb hTA hS rfl (jd_find_6) ?_
    refine lv_icmp_ge (tgt := 98) hx hb (jd_find_7) (by decide) (fun hge => ?_) (fun hge => ?_)
    · refine va_gets hx hb hB2 hS hown (hts _ (jw 5 (w := .fieldLink "OperaHouse$Token" 93 "OperaHouse$Token" "BAD" "LOperaHouse$Token;") rfl)) (fun _ h => h) (jd_find_98) ?_
      exact W.aret hx hb hr (Or.inl ⟨_, rfl⟩) (Or.inr ⟨_, rfl⟩) (fin 29 aB (by decide) hB1 (by
        have hk30 : k = 30 := by
          rcases Nat.lt_or_ge k 30 with h | h
          · exact absurd (Int32.le_iff_toInt_le.mp hge) (by rw [nI_toInt (by omega)]; show ¬ (30 : Int) ≤ k; omega)
          · omega
        subst hk30
        exact hfd.symm) H locs hP hS) hS.2.2 (jd_find_101)
    have hk30 : k < 30 := by
      rcases Nat.lt_or_ge k 30 with h | h
      · exact h
      · exact absurd (nI_le (a := 30) (b := k) h (by omega)) hge
    have hki : vp_in (nI k) 30 := vp_in_iff.mpr (by rw [nI_toInt (by omega)]; omega)
    have hkc : (nI k).toNatClampNeg = k := nI_clamp (by omega)
    obtain ⟨aK, aV, x1, x2, x3, x4, x5⟩ := htx k hk30
    have hn7 := jf_len k hk30
    generalize hnl : (zx_txt.getD k []).length = n at x5 hn7
    have htx2 := jf_chr k hk30
    have hFT : ∀ H1 : Heap, (∀ q : Nat, q < s.heap.size → ¬ A q → H1[q]? = s.heap[q]?) → jT aK aV n (fun j => Int32.ofNat ((zx_txt.getD k []).getD j 0)) s H1 := fun H1 hq =>
      ⟨(hC9.kept hq).narrow hN, ⟨v9, hv9, (hM9.kept hq).narrow hN⟩, (x2.kept hq).narrow hN, (x3.kept hq).narrow hN, (x4.kept hq).narrow hN, (x5.kept hq).narrow hN⟩
    refine va_gets hx hb hZA hS hown (hts _ h126) (fun _ h => h) (jd_find_10) ?_
    refine lv_iload_n hx hb (jd_find_13) rfl (lv_at hl 3 rfl) ?_
    refine vb_tq hx hb hTA hS hki (v := .ref (ex.getD (8 + k) 0)) (by rw [hkc]) (jd_find_14) ?_
    refine vk_getf hx hb x1 hS hown (hts _ (jw 6 (w := .fieldLink "OperaHouse$Token" 115 "OperaHouse$Token" "text" "Ljava/lang/String;") rfl)) (fun _ h => h) (jd_find_15) ?_
    refine lv_astore (nL := 6) (lv' := [(4, .ref aK), (0, .ref qa), (1, .int f), (2, .int t), (3, .int (nI k))]) hx hb (jd_find_18) hl (by decide) rfl (fun ls hl => ?_)
    refine lv_iconst (v := 0) hx hb (jd_find_20) (by decide) ?_
    refine lv_istore (nL := 6) (lv' := [(5, .int 0), (4, .ref aK), (0, .ref qa), (1, .int f), (2, .int t), (3, .int (nI k))]) hx hb (jd_find_21) hl (by decide) rfl (fun ls hl => ?_)
    have next : ¬ (0 < (t.toInt - f.toInt).toNat ∧ zj_like (fun i => (fr i).toInt) f.toInt.toNat (t.toInt - f.toInt).toNat (zx_txt.getD k []) = true) → ∀ (H : Heap) (locs : List Loc), va_P D vwCl ws H → va_S A s.heap H locs → ∀ (x : Int32) (ls : Array Slot), lv_has ls 6 [(5, .int x), (4, .ref aK), (0, .ref qa), (1, .int f), (2, .int t), (3, .int (nI k))] → W p l e ({ frames := 9, cells := 0, slots := 0, locals := 100 * 9 } : Room) s m ([.ref qa, .int f, .int t] : List Value).toArray below meth c H locs 0 0 (MQ below (zj_Q D A tys ws (fun v ws' => ws' = ws ∧ ∃ a, ex[8 + zj_find (fun i => (fr i).toInt) f.toInt.toNat (t.toInt - f.toInt).toNat]? = some a ∧ v = some (.ref a))) ([.ref qa, .int f, .int t] : List Value).toArray s 0 0 A) (F0 m 92 ls []) := by
      intro hno H locs hP hS x ls hl
      refine lv_iinc (nL := 6) (k := 5) (v := nI (k + 1)) (lv' := [(3, .int (nI (k + 1))), (5, .int x), (4, .ref aK), (0, .ref qa), (1, .int f), (2, .int t)]) hx hb (jd_find_92) hl rfl (nI_succ k).symm (by decide) rfl (fun ls hl => ?_)
      refine lv_goto (tgt := 2) hx hb (jd_find_95) (by decide) ?_
      refine ih (k + 1) (by omega) (by omega) ?_ H locs hP hS ls (lv_sub hl [3, 4, 5, 0] rfl)
      rw [← hfd, show 30 - k = (30 - (k + 1)) + 1 by omega, zj_fd, if_neg hno]
    have found : ∀ (j : Nat), j ≤ n → (∀ i, i < j → f.toInt + i < t.toInt ∧ (fr (f.toInt.toNat + i)).toInt = (((zx_txt.getD k []).getD i 0 : Nat) : Int)) → (j = n ∨ t.toInt ≤ f.toInt + j ∨ (j < n ∧ (fr (f.toInt.toNat + j)).toInt ≠ (((zx_txt.getD k []).getD j 0 : Nat) : Int))) → ∀ (H : Heap) (locs : List Loc), va_P D vwCl ws H → va_S A s.heap H locs → ∀ (ls : Array Slot), lv_has ls 6 [(5, .int (nI j)), (4, .ref aK), (0, .ref qa), (1, .int f), (2, .int t), (3, .int (nI k))] → W p l e ({ frames := 9, cells := 0, slots := 0, locals := 100 * 9 } : Room) s m ([.ref qa, .int f, .int t] : List Value).toArray below meth c H locs 0 0 (MQ below (zj_Q D A tys ws (fun v ws' => ws' = ws ∧ ∃ a, ex[8 + zj_find (fun i => (fr i).toInt) f.toInt.toNat (t.toInt - f.toInt).toNat]? = some a ∧ v = some (.ref a))) ([.ref qa, .int f, .int t] : List Value).toArray s 0 0 A) (F0 m 63 ls []) := by
      intro j hjn hpre hstop H locs hP hS ls hl
      have hjI : (nI j).toInt = (j : Int) := nI_toInt (by omega)
      -- if it were this word, all of it would have been looked at
      have hall : (0 < (t.toInt - f.toInt).toNat ∧ zj_like (fun i => (fr i).toInt) f.toInt.toNat (t.toInt - f.toInt).toNat (zx_txt.getD k []) = true) → j = n ∧ (t.toInt - f.toInt).toNat = n := by
        rintro ⟨h1, h2⟩
        obtain ⟨h3, h4⟩ := zj_like_i.mp h2
        rw [hnl] at h3
        refine ⟨?_, h3⟩
        rcases hstop with h5 | h5 | ⟨h5, h6⟩
        · exact h5
        · omega
        · exact absurd (h4 j (by omega)) h6
      refine lv_iload hx hb (jd_find_63) (lv_at hl 0 rfl) ?_
      refine lv_if_le (tgt := 92) hx hb (jd_find_65) (by decide) (fun hle => next (fun h => by
        obtain ⟨h1, h2⟩ := hall h
        have h3 := Int32.le_iff_toInt_le.mp hle
        rw [hjI] at h3
        have h3 : (j : Int) ≤ 0 := h3
        have h4 := h.1
        omega) H locs hP hS (nI j) ls hl) (fun hpos => ?_)
      refine lv_iload hx hb (jd_find_68) (lv_at hl 0 rfl) ?_
      refine lv_aload hx hb (jd_find_70) (lv_at hl 1 rfl) ?_
      obtain ⟨cell, o1, o2, o3, o4⟩ := x2.kept hS.2.1
      refine jV (n := 0) (As := []) (b := aK) (rest := [.int (nI j)]) jT_W hcall jt_len (jw 29 (w := .methodLink "OperaHouse$Token" 129 jy_len) rfl) (jw 8 (w := .initialized "java/lang/String") rfl) (jw 31 (w := .code jy_len prog_22_method_54_code 1 (some .int)) rfl) (jw 32 (w := .instanceMethod jy_len) rfl) (jw 33 (w := .selects "java/lang/String" jy_len jy_len) rfl) ⟨by decide, by decide, by decide⟩ ⟨Nat.le_of_ble_eq_true rfl, Nat.le_of_ble_eq_true rfl⟩ rfl ⟨cell, o1, o2, o3⟩ (hFT H hS.2.1) hS hl.1 (Nat.le_of_ble_eq_true rfl) ⟨Nat.zero_le _, Nat.zero_le _⟩ (jd_find_72) (fun H1 locs1 hz hkp hS1 => ?_)
      have hsh : Int32.ofNat n >>> ((0 : Int32) &&& 31) = nI n := by
        have h7 : ∀ z, z ≤ 7 → Int32.ofNat z >>> ((0 : Int32) &&& 31) = nI z := by decide
        exact h7 n hn7
      rw [hsh]
      have hP1 : va_P D vwCl ws H1 := hP.kept (fun k9 q9 hq9 => hkp q9.1 ((hP k9 q9 hq9).lt))
      refine lv_icmp_ne (tgt := 92) hx hb (jd_find_75) (by decide) (fun hne => next (fun h => by
        obtain ⟨h1, h2⟩ := hall h
        rw [h1] at hne
        exact hne rfl) H1 locs1 hP1 hS1 (nI j) ls hl) (fun heq1 => ?_)
      refine lv_iload hx hb (jd_find_78) (lv_at hl 0 rfl) ?_
      refine lv_iload_n hx hb (jd_find_80) rfl (lv_at hl 4 rfl) ?_
      refine lv_iload_n hx hb (jd_find_81) rfl (lv_at hl 3 rfl) ?_
      refine lv_isub hx hb (jd_find_82) ?_
      have hsb : (t - f).toInt = t.toInt - f.toInt := by
        rw [zx_subI t f (by omega) (by omega)]
      refine lv_icmp_ne (tgt := 92) hx hb (jd_find_83) (by decide) (fun hne => next (fun h => by
        obtain ⟨h1, h2⟩ := hall h
        have h3 := h.1
        exact hne (Int32.toInt_inj.mp (by rw [hjI, hsb]; omega))) H1 locs1 hP1 hS1 (nI j) ls hl) (fun heq2 => ?_)
      have hj0 : 0 < j := by
        rcases Nat.eq_zero_or_pos j with h | h
        · subst h
          exact absurd (Int32.le_iff_toInt_le.mpr (by rw [hjI]; exact Int.le_refl _)) hpos
        · exact h
      have hjn2 : j = n := by
        have h1 : (nI j).toInt = (nI n).toInt := by rw [heq1]
        rw [hjI, nI_toInt (by omega)] at h1
        omega
      have hjt : (j : Int) = t.toInt - f.toInt := by rw [← hjI, heq2, hsb]
      have hfk : zj_find (fun i => (fr i).toInt) f.toInt.toNat (t.toInt - f.toInt).toNat = k := by
        rw [← hfd, show 30 - k = (30 - (k + 1)) + 1 by omega, zj_fd, if_pos]
        exact ⟨by omega, zj_like_i.mpr ⟨by rw [hnl]; omega, fun i hi => (hpre i (by omega)).2⟩⟩
      refine va_gets hx hb hZA hS1 hown (hts _ h126) (fun _ h => h) (jd_find_86) ?_
      refine lv_iload_n hx hb (jd_find_89) rfl (lv_at hl 5 rfl) ?_
      refine vb_tq hx hb hTA hS1 hki (v := .ref (ex.getD (8 + k) 0)) (by rw [hkc]) (jd_find_90) ?_
      exact W.aret hx hb hr (Or.inl ⟨_, rfl⟩) (Or.inr ⟨_, rfl⟩) (fin k _ hk30 (hex k hk30) hfk H1 locs1 hP1 hS1) hS1.2.2 (jd_find_91)
    have inner : ∀ (N j : Nat), n + 1 ≤ j + N → j ≤ n → (∀ i, i < j → f.toInt + i < t.toInt ∧ (fr (f.toInt.toNat + i)).toInt = (((zx_txt.getD k []).getD i 0 : Nat) : Int)) → ∀ (H : Heap) (locs : List Loc), va_P D vwCl ws H → va_S A s.heap H locs → ∀ ls : Array Slot, lv_has ls 6 [(5, .int (nI j)), (4, .ref aK), (0, .ref qa), (1, .int f), (2, .int t), (3, .int (nI k))] → W p l e ({ frames := 9, cells := 0, slots := 0, locals := 100 * 9 } : Room) s m ([.ref qa, .int f, .int t] : List Value).toArray below meth c H locs 0 0 (MQ below (zj_Q D A tys ws (fun v ws' => ws' = ws ∧ ∃ a, ex[8 + zj_find (fun i => (fr i).toInt) f.toInt.toNat (t.toInt - f.toInt).toNat]? = some a ∧ v = some (.ref a))) ([.ref qa, .int f, .int t] : List Value).toArray s 0 0 A) (F0 m 23 ls []) := by
      intro N
      induction N with
      | zero =>
        intro j h1 h2
        exact absurd h1 (by omega)
      | succ N ihj =>
      intro j hjN hj hpre H locs hP hS ls hl
      refine lv_iload hx hb (jd_find_23) (lv_at hl 0 rfl) ?_
      refine lv_aload hx hb (jd_find_25) (lv_at hl 1 rfl) ?_
      obtain ⟨cell, o1, o2, o3, o4⟩ := x2.kept hS.2.1
      refine jV (n := 0) (As := []) (b := aK) (rest := [.int (nI j)]) jT_W hcall jt_len (jw 29 (w := .methodLink "OperaHouse$Token" 129 jy_len) rfl) (jw 8 (w := .initialized "java/lang/String") rfl) (jw 31 (w := .code jy_len prog_22_method_54_code 1 (some .int)) rfl) (jw 32 (w := .instanceMethod jy_len) rfl) (jw 33 (w := .selects "java/lang/String" jy_len jy_len) rfl) ⟨by decide, by decide, by decide⟩ ⟨Nat.le_of_ble_eq_true rfl, Nat.le_of_ble_eq_true rfl⟩ rfl ⟨cell, o1, o2, o3⟩ (hFT H hS.2.1) hS hl.1 (Nat.le_of_ble_eq_true rfl) ⟨Nat.zero_le _, Nat.zero_le _⟩ (jd_find_27) (fun H locs hz hkp hS => ?_)
      have hP : va_P D vwCl ws H := hP.kept (fun k9 q9 hq9 => hkp q9.1 ((hP k9 q9 hq9).lt))
      have hsh : Int32.ofNat n >>> ((0 : Int32) &&& 31) = nI n := by
        have h7 : ∀ z, z ≤ 7 → Int32.ofNat z >>> ((0 : Int32) &&& 31) = nI z := by decide
        exact h7 n hn7
      rw [hsh]
      refine lv_icmp_ge (tgt := 63) hx hb (jd_find_30) (by decide) (fun hge => found j hj hpre (Or.inl (by
        have h1 := Int32.le_iff_toInt_le.mp hge
        rw [nI_toInt (by omega), nI_toInt (by omega)] at h1
        omega)) H locs hP hS ls hl) (fun hlt => ?_)
      have hjn : j < n := by
        rcases Nat.lt_or_ge j n with h | h
        · exact h
        · exact absurd (nI_le h (by omega)) hlt
      have hjI : (nI j).toInt = (j : Int) := nI_toInt (by omega)
      have hfj : (f + nI j).toInt = f.toInt + j := by
        rw [zx_addI f (nI j) (by rw [hjI]; omega) (by rw [hjI]; omega), hjI]
      refine lv_iload_n hx hb (jd_find_33) rfl (lv_at hl 3 rfl) ?_
      refine lv_iload hx hb (jd_find_34) (lv_at hl 0 rfl) ?_
      refine lv_iadd hx hb (jd_find_36) ?_
      refine lv_iload_n hx hb (jd_find_37) rfl (lv_at hl 4 rfl) ?_
      refine lv_icmp_ge (tgt := 63) hx hb (jd_find_38) (by decide) (fun hge => found j hj hpre (Or.inr (Or.inl (by
        have h1 := Int32.le_iff_toInt_le.mp hge
        rw [hfj] at h1
        exact h1))) H locs hP hS ls hl) (fun hft => ?_)
      have hft : f.toInt + j < t.toInt := by
        by_cases h : f.toInt + j < t.toInt
        · exact h
        · exact absurd (Int32.le_iff_toInt_le.mpr (by rw [hfj]; omega)) hft
      refine lv_aload hx hb (jd_find_41) (lv_at hl 1 rfl) ?_
      refine lv_iload hx hb (jd_find_43) (lv_at hl 0 rfl) ?_
      obtain ⟨cell, o1, o2, o3, o4⟩ := x2.kept hS.2.1
      refine jV (n := 1) (As := [.int (nI j)]) (b := aK) (rest := []) jT_W hcall (jt_at (i := nI j) (by omega) (vp_in_iff.mpr (by rw [hjI]; omega))) (jw 34 (w := .methodLink "OperaHouse$Token" 135 jy_at) rfl) (jw 8 (w := .initialized "java/lang/String") rfl) (jw 36 (w := .code jy_at prog_22_method_56_code 2 (some .char)) rfl) (jw 37 (w := .instanceMethod jy_at) rfl) (jw 38 (w := .selects "java/lang/String" jy_at jy_at) rfl) ⟨by decide, by decide, by decide⟩ ⟨Nat.le_of_ble_eq_true rfl, Nat.le_of_ble_eq_true rfl⟩ rfl ⟨cell, o1, o2, o3⟩ (hFT H hS.2.1) hS hl.1 (Nat.le_of_ble_eq_true rfl) ⟨Nat.zero_le _, Nat.zero_le _⟩ (jd_find_45) (fun H locs hz hkp hS => ?_)
      have hP : va_P D vwCl ws H := hP.kept (fun k9 q9 hq9 => hkp q9.1 ((hP k9 q9 hq9).lt))
      refine lv_aload_n hx hb (jd_find_48) rfl (lv_at hl 2 rfl) ?_
      refine lv_iload_n hx hb (jd_find_49) rfl (lv_at hl 3 rfl) ?_
      refine lv_iload hx hb (jd_find_50) (lv_at hl 0 rfl) ?_
      refine lv_iadd hx hb (jd_find_52) ?_
      refine va_iald hx hb hK hP 1 t0 hq0 htys (vp_in_iff.mpr (by rw [hfj]; omega)) (jd_find_53) ?_
      have hix : (f + nI j).toNatClampNeg = f.toInt.toNat + j := by
        show (f + nI j).toInt.toNat = f.toInt.toNat + j
        rw [hfj]
        omega
      have hjc : (nI j).toNatClampNeg = j := nI_clamp (by omega)
      have hch : (jch (Int32.ofNat ((zx_txt.getD k []).getD (nI j).toNatClampNeg 0))).toInt = (((zx_txt.getD k []).getD j 0 : Nat) : Int) := by
        rw [hjc]
        exact htx2 j (by omega)
      refine lv_icmp_ne (tgt := 63) hx hb (jd_find_54) (by decide) (fun hne => found j hj hpre (Or.inr (Or.inr ⟨hjn, fun h9 => hne (Int32.toInt_inj.mp (by
        rw [hch, hix]
        exact h9.symm))⟩)) H locs hP hS ls hl) (fun heq => ?_)
      have hnew : (fr (f.toInt.toNat + j)).toInt = (((zx_txt.getD k []).getD j 0 : Nat) : Int) := by
        rw [← hch, ← hix, heq]
      refine lv_iinc (nL := 6) (k := 0) (v := nI (j + 1)) (lv' := [(5, .int (nI (j + 1))), (4, .ref aK), (0, .ref qa), (1, .int f), (2, .int t), (3, .int (nI k))]) hx hb (jd_find_57) hl rfl (nI_succ j).symm (by decide) rfl (fun ls hl => ?_)
      refine lv_goto (tgt := 23) hx hb (jd_find_60) (by decide) ?_
      exact ihj (j + 1) (by omega) (by omega) (fun i hi => by
        by_cases e : i = j
        · subst e; exact ⟨hft, hnew⟩
        · exact hpre i (by omega)) H locs hP hS ls hl
    exact inner (n + 1) 0 (by omega) (Nat.zero_le _) (fun i hi => absurd hi (Nat.not_lt_zero _)) H locs hP hS ls hl
  refine lv_iconst (v := 0) hx hb (jd_find_0) (by decide) ?_
  refine lv_istore_n (nL := 6) (lv' := [(3, .int 0), (0, .ref qa), (1, .int f), (2, .int t)]) hx hb (jd_find_1) rfl hl (by decide) rfl (fun ls hl => ?_)
  exact outer 31 0 (by omega) (by omega) rfl s.heap [] hP va_S.rf ls (lv_sub hl [1, 2, 3, 0] rfl)
end
