noncomputable section
/-! zk: digits, letters, numbers -/
def zj_Xc (x : Int32) (_ : List Nat) (_ : List (ClassId × FieldType)) (av : List Value) (_ : va_W) : Prop := av = [.int x]
def zj_Zc (P : Int → Bool) (x : Int32) (_ : List Nat) (_ : List Value) (ws : va_W) (v : Option Value) (ws' : va_W) : Prop := ws' = ws ∧ ∃ r : Int32, v = some (.int r) ∧ (r ≠ 0 ↔ P x.toInt = true)
theorem zj_isDigit_W {l : Launch} {d : Nat} {x : Int32} : zj_W l (d + 1) 28 (zj_Xc x) (zj_Zc zj_dg x) := by
  refine zj_enterW (md := zx_m28) rfl rfl ?_ ?_
  · rintro ex tys av ws rfl
    exact Nat.le_of_ble_eq_true rfl
  intro p e R s mi args below meth c Q D A ex nL own cc tys ws av hX C hnL KRi KRv KRa
  subst hnL
  have hX : av = [.int x] := hX
  subst hX
  refine zj_iload_n C (List.mem_of_getElem? (i := 0) rfl) rfl rfl rfl ?_
  refine zj_bipush (v := 48) C (List.mem_of_getElem? (i := 1) rfl) rfl (by decide) ?_
  refine zj_icmp_lt (tgt := 16) C (List.mem_of_getElem? (i := 2) rfl) rfl (by decide) (fun h1 => ?_) (fun h1 => ?_)
  · have h1 := Int32.lt_iff_toInt_lt.mp h1
    have h1 : x.toInt < 48 := h1
    refine zj_iconst (v := 0) C (List.mem_of_getElem? (i := 8) rfl) rfl (by decide) ?_
    exact KRi 17 _ _ _ (List.mem_of_getElem? (i := 9) rfl) (by decide) (Or.inr ⟨rfl, Or.inl rfl⟩) rfl ⟨rfl, _, rfl, ⟨fun h => absurd rfl h, fun h => by
          unfold zj_dg at h
          rw [Bool.and_eq_true, decide_eq_true_iff, decide_eq_true_iff] at h
          omega⟩⟩
  have h1 : ¬ x.toInt < 48 := fun h => h1 (Int32.lt_iff_toInt_lt.mpr h)
  refine zj_iload_n C (List.mem_of_getElem? (i := 3) rfl) rfl rfl rfl ?_
  refine zj_bipush (v := 57) C (List.mem_of_getElem? (i := 4) rfl) rfl (by decide) ?_
  refine zj_icmp_gt (tgt := 16) C (List.mem_of_getElem? (i := 5) rfl) rfl (by decide) (fun h2 => ?_) (fun h2 => ?_)
  · have h2 := Int32.lt_iff_toInt_lt.mp h2
    have h2 : 57 < x.toInt := h2
    refine zj_iconst (v := 0) C (List.mem_of_getElem? (i := 8) rfl) rfl (by decide) ?_
    exact KRi 17 _ _ _ (List.mem_of_getElem? (i := 9) rfl) (by decide) (Or.inr ⟨rfl, Or.inl rfl⟩) rfl ⟨rfl, _, rfl, ⟨fun h => absurd rfl h, fun h => by
          unfold zj_dg at h
          rw [Bool.and_eq_true, decide_eq_true_iff, decide_eq_true_iff] at h
          omega⟩⟩
  have h2 : ¬ 57 < x.toInt := fun h => h2 (Int32.lt_iff_toInt_lt.mpr h)
  refine zj_iconst (v := 1) C (List.mem_of_getElem? (i := 6) rfl) rfl (by decide) ?_
  refine zj_goto (tgt := 17) C (List.mem_of_getElem? (i := 7) rfl) (by decide) ?_
  exact KRi 17 _ _ _ (List.mem_of_getElem? (i := 9) rfl) (by decide) (Or.inr ⟨rfl, Or.inr rfl⟩) rfl ⟨rfl, _, rfl, ⟨fun _ => by
        unfold zj_dg
        rw [Bool.and_eq_true, decide_eq_true_iff, decide_eq_true_iff]
        omega, fun _ => by decide⟩⟩
theorem zj_isLetter_W {l : Launch} {d : Nat} {x : Int32} : zj_W l (d + 1) 29 (zj_Xc x) (zj_Zc zj_sm x) := by
  refine zj_enterW (md := zx_m29) rfl rfl ?_ ?_
  · rintro ex tys av ws rfl
    exact Nat.le_of_ble_eq_true rfl
  intro p e R s mi args below meth c Q D A ex nL own cc tys ws av hX C hnL KRi KRv KRa
  subst hnL
  have hX : av = [.int x] := hX
  subst hX
  refine zj_iload_n C (List.mem_of_getElem? (i := 0) rfl) rfl rfl rfl ?_
  refine zj_bipush (v := 97) C (List.mem_of_getElem? (i := 1) rfl) rfl (by decide) ?_
  refine zj_icmp_lt (tgt := 16) C (List.mem_of_getElem? (i := 2) rfl) rfl (by decide) (fun h1 => ?_) (fun h1 => ?_)
  · have h1 := Int32.lt_iff_toInt_lt.mp h1
    have h1 : x.toInt < 97 := h1
    refine zj_iconst (v := 0) C (List.mem_of_getElem? (i := 8) rfl) rfl (by decide) ?_
    exact KRi 17 _ _ _ (List.mem_of_getElem? (i := 9) rfl) (by decide) (Or.inr ⟨rfl, Or.inl rfl⟩) rfl ⟨rfl, _, rfl, ⟨fun h => absurd rfl h, fun h => by
          unfold zj_sm at h
          rw [Bool.and_eq_true, decide_eq_true_iff, decide_eq_true_iff] at h
          omega⟩⟩
  have h1 : ¬ x.toInt < 97 := fun h => h1 (Int32.lt_iff_toInt_lt.mpr h)
  refine zj_iload_n C (List.mem_of_getElem? (i := 3) rfl) rfl rfl rfl ?_
  refine zj_bipush (v := 122) C (List.mem_of_getElem? (i := 4) rfl) rfl (by decide) ?_
  refine zj_icmp_gt (tgt := 16) C (List.mem_of_getElem? (i := 5) rfl) rfl (by decide) (fun h2 => ?_) (fun h2 => ?_)
  · have h2 := Int32.lt_iff_toInt_lt.mp h2
    have h2 : 122 < x.toInt := h2
    refine zj_iconst (v := 0) C (List.mem_of_getElem? (i := 8) rfl) rfl (by decide) ?_
    exact KRi 17 _ _ _ (List.mem_of_getElem? (i := 9) rfl) (by decide) (Or.inr ⟨rfl, Or.inl rfl⟩) rfl ⟨rfl, _, rfl, ⟨fun h => absurd rfl h, fun h => by
          unfold zj_sm at h
          rw [Bool.and_eq_true, decide_eq_true_iff, decide_eq_true_iff] at h
          omega⟩⟩
  have h2 : ¬ 122 < x.toInt := fun h => h2 (Int32.lt_iff_toInt_lt.mpr h)
  refine zj_iconst (v := 1) C (List.mem_of_getElem? (i := 6) rfl) rfl (by decide) ?_
  refine zj_goto (tgt := 17) C (List.mem_of_getElem? (i := 7) rfl) (by decide) ?_
  exact KRi 17 _ _ _ (List.mem_of_getElem? (i := 9) rfl) (by decide) (Or.inr ⟨rfl, Or.inr rfl⟩) rfl ⟨rfl, _, rfl, ⟨fun _ => by
        unfold zj_sm
        rw [Bool.and_eq_true, decide_eq_true_iff, decide_eq_true_iff]
        omega, fun _ => by decide⟩⟩
/-- the reader, its tape; what else it holds: fields told as a list -/
def zj_RS (tys : List (ClassId × FieldType)) (ws : va_W) (aR aT : Nat) (fT : Nat → Int32) (r : List Value) : Prop := ws[198]? = some (aR, .inr (7, .ref aT :: r)) ∧ zj_row tys ws 1 aT 340 .int fT
section ZKR
variable {p : Program} {l : Launch} {e : Env} {R : Room} {s : State} {mi : MethodId} {args : Array Value} {below : List Frame} {meth : Method} {c : Code} {Q : State → Prop} {D : va_G} {A : Nat → Prop} {ex : List Nat} {nL : Nat} {own : String} {cc : ByteArray} {d : Nat} {md : zx_MD} {tys : List (ClassId × FieldType)}
variable {pc n : Nat} {lv lv' : List (Nat × Value)} {kc : List Value} {ws : va_W}
/-- the reader's own field is written -/
theorem zj_putR (C : zj_cx p R s mi args meth c A ex nL own cc d md D tys) {ix aR aT k : Nat} {q : Nat × Nat × Nat × Bool} {fT : Nat → Int32} {r : List Value} {v : Value} (hd : (pc, Instr.putfield ix, 3) ∈ md.1) (hn : pc + 3 = n) (hq : zx_mF md.2.1 ix = some q) (hR : zj_RS tys ws aR aT fT r) (hc : q.1 = 7) (hk : q.2.1 = k + 1) (hl2 : k < r.length) (hf : q.2.2.2 = false) (hfit : ∀ ty, zx_tag ty = q.2.2.1 → narrow ty v = v ∧ fits ty v = true) (h : ∀ ws', zj_RS tys ws' aR aT fT (r.set k v) → zx_as ws' = zx_as ws → (∀ i, i ≠ 198 → ws'[i]? = ws[i]?) → zj_go p l e R s mi args below meth c Q D A nL n lv kc ws') : zj_go p l e R s mi args below meth c Q D A nL pc lv (v :: .ref aR :: kc) ws := by
  obtain ⟨h1, cA, t0, h2, h3⟩ := hR
  refine zj_put C hd hn hq h1 hc.symm (by rw [hk, List.length_cons]; omega) hf hfit ?_
  rw [hk]
  have hlt := (List.getElem?_eq_some_iff.mp h1).1
  refine h _ ⟨?_, cA, t0, ?_, h3⟩ (zx_as_set h1) (fun i hi => List.getElem?_set_ne (Ne.symm hi))
  · rw [List.getElem?_set]
    simp only [if_true]
    rw [if_pos hlt]
    rfl
  · rw [List.getElem?_set_ne (by decide)]
    exact h2
end ZKR
theorem zj_mul10 {x c : Int32} (h1 : 0 ≤ x.toInt) (h2 : x.toInt ≤ 99999) (h3 : 0 ≤ c.toInt) (h4 : c.toInt ≤ 255) : (x * 10 + c - 48).toInt = 10 * x.toInt + c.toInt - 48 := by
  have e10 : (10 : Int32).toInt = 10 := rfl
  have e48 : (48 : Int32).toInt = 48 := rfl
  have m1 : (x * 10).toInt = 10 * x.toInt := by
    rw [Int32.toInt_mul, e10, zx_bm (by omega) (by omega)]
    omega
  have m2 : (x * 10 + c).toInt = 10 * x.toInt + c.toInt := by rw [zx_addI _ _ (by omega) (by omega), m1]
  rw [zx_subI _ _ (by omega) (by omega), m2, e48]
/-- readNumber: from place to at -/
theorem zj_readNumber_W {l : Launch} {d : Nat} {tys0 : List (ClassId × FieldType)} {ws0 : va_W} {ex0 : List Nat} {aR aT t e1 q1 k6 k7 a35 a37 : Nat} {fT : Nat → Int32} {x0 o k8 : Int32} (hR0 : zj_RS tys0 ws0 aR aT fT [.int (nI t), .int (nI e1), .int (nI q1), .int x0, .int o, .ref k6, .ref k7, .int k8]) (hqe : q1 ≤ e1) (he : e1 ≤ 340) (hf : ∀ i, i < 340 → 0 ≤ (fT i).toInt ∧ (fT i).toInt ≤ 255) (hx35 : ex0[35]? = some a35) (hx37 : ex0[37]? = some a37) :
    zj_W l (d + 2) 30 (fun ex tys av ws => ex = ex0 ∧ tys = tys0 ∧ av = [.ref aR] ∧ ws = ws0) (fun _ _ _ v ws' => (∀ i, i ≠ 198 → ws'[i]? = ws0[i]?) ∧ ∃ x' : Int32, zj_RS tys0 ws' aR aT fT [.int (nI t), .int (nI e1), .int (nI q1), .int x', .int o, .ref k6, .ref k7, .int k8] ∧ (if e1 - q1 ≤ 5 ∧ zj_all zj_dg (fun i => (fT i).toInt) q1 (e1 - q1) = true then v = some (.ref a35) ∧ x'.toInt = zj_val (fun i => (fT i).toInt) q1 (e1 - q1) else v = some (.ref a37))) := by
  refine zj_enterW (md := zx_m30) rfl rfl ?_ ?_
  · rintro ex tys av ws ⟨-, -, rfl, -⟩
    exact Nat.le_of_ble_eq_true rfl
  intro p e R s mi args below meth c Q D A ex nL own cc tys ws av hX C hnL KRi KRv KRa
  subst hnL
  obtain ⟨h1, h2, h3, h4⟩ := hX
  subst h1
  subst h2
  subst h3
  subst h4
  have hsub : (nI e1 - nI q1).toInt = (e1 : Int) - q1 := pk_sub_toInt (by omega) (by omega)
  refine zj_aload_n C (List.mem_of_getElem? (i := 0) rfl) rfl rfl rfl ?_
  refine zj_get C (List.mem_of_getElem? (i := 1) rfl) rfl rfl hR0.1 rfl rfl ?_
  refine zj_aload_n C (List.mem_of_getElem? (i := 2) rfl) rfl rfl rfl ?_
  refine zj_get C (List.mem_of_getElem? (i := 3) rfl) rfl rfl hR0.1 rfl rfl ?_
  refine zj_isub (v := ((nI e1) - (nI q1))) C (List.mem_of_getElem? (i := 4) rfl) rfl rfl ?_
  refine zj_iconst (v := 5) C (List.mem_of_getElem? (i := 5) rfl) rfl (by decide) ?_
  refine zj_icmp_le (tgt := 17) C (List.mem_of_getElem? (i := 6) rfl) rfl (by decide) (fun h5 => ?_) (fun h5 => ?_)
  rotate_left
  · have h5 : ¬ (e1 : Int) - q1 ≤ 5 := fun h => h5 (Int32.le_iff_toInt_le.mpr (by rw [hsub]; exact h))
    refine zj_gets C (List.mem_of_getElem? (i := 7) rfl) rfl rfl hx37 ?_
    exact KRa 16 _ _ _ (List.mem_of_getElem? (i := 8) rfl) rfl rfl ⟨fun _ _ => rfl, x0, hR0, by rw [if_neg (fun h => h5 (by omega))]⟩
  have h5 : (e1 : Int) - q1 ≤ 5 := by
    have h6 := Int32.le_iff_toInt_le.mp h5
    rw [hsub] at h6
    exact h6
  have loop : ∀ (N j : Nat) (x : Int32) (ws1 : va_W), e1 - j ≤ N → q1 ≤ j → j ≤ e1 → zj_RS tys ws1 aR aT fT [.int (nI t), .int (nI e1), .int (nI q1), .int x, .int o, .ref k6, .ref k7, .int k8] → zx_as ws1 = zx_as ws → (∀ i, i ≠ 198 → ws1[i]? = ws[i]?) → zj_all zj_dg (fun i => (fT i).toInt) q1 (j - q1) = true → x.toInt = zj_val (fun i => (fT i).toInt) q1 (j - q1) → zj_go p l e R s mi args below meth c Q D A (zx_mV zx_m30.2.1) 27 [(1, .int (nI j)), (0, .ref aR)] [] ws1 := by
    intro N
    induction N with
    | zero =>
      intro j x ws1 hN hj1 hj2 hR hAs hK hall hval
      have hje : j = e1 := by omega
      subst hje
      refine zj_iload_n C (List.mem_of_getElem? (i := 15) rfl) rfl rfl rfl ?_
      refine zj_aload_n C (List.mem_of_getElem? (i := 16) rfl) rfl rfl rfl ?_
      refine zj_get C (List.mem_of_getElem? (i := 17) rfl) rfl rfl hR.1 rfl rfl ?_
      refine zj_icmp_ge (tgt := 78) C (List.mem_of_getElem? (i := 18) rfl) rfl (by decide) (fun hb => ?_) (fun hb => ?_)
      · skip
        refine zj_gets C (List.mem_of_getElem? (i := 42) rfl) rfl rfl hx35 ?_
        exact KRa 81 _ _ _ (List.mem_of_getElem? (i := 43) rfl) rfl hAs ⟨hK, x, hR, by rw [if_pos ⟨by omega, hall⟩]; exact ⟨rfl, hval⟩⟩
      exact absurd (Int32.le_iff_toInt_le.mpr (Int.le_refl _)) hb
    | succ N ih =>
      intro j x ws1 hN hj1 hj2 hR hAs hK hall hval
      refine zj_iload_n C (List.mem_of_getElem? (i := 15) rfl) rfl rfl rfl ?_
      refine zj_aload_n C (List.mem_of_getElem? (i := 16) rfl) rfl rfl rfl ?_
      refine zj_get C (List.mem_of_getElem? (i := 17) rfl) rfl rfl hR.1 rfl rfl ?_
      refine zj_icmp_ge (tgt := 78) C (List.mem_of_getElem? (i := 18) rfl) rfl (by decide) (fun hb => ?_) (fun hb => ?_)
      · have hje : j = e1 := by
          have h6 := (nI_leI (a := e1) (b := j) (by omega) (by omega)).mp hb
          omega
        subst hje
        refine zj_gets C (List.mem_of_getElem? (i := 42) rfl) rfl rfl hx35 ?_
        exact KRa 81 _ _ _ (List.mem_of_getElem? (i := 43) rfl) rfl hAs ⟨hK, x, hR, by rw [if_pos ⟨by omega, hall⟩]; exact ⟨rfl, hval⟩⟩
      have hlt : j < e1 := by
        rcases Nat.lt_or_ge j e1 with h | h
        · exact h
        · exact absurd (nI_le h (by omega)) hb
      refine zj_aload_n C (List.mem_of_getElem? (i := 19) rfl) rfl rfl rfl ?_
      refine zj_get C (List.mem_of_getElem? (i := 20) rfl) rfl rfl hR.1 rfl rfl ?_
      refine zj_iload_n C (List.mem_of_getElem? (i := 21) rfl) rfl rfl rfl ?_
      refine zj_iald (v := (fT j)) C (List.mem_of_getElem? (i := 22) rfl) rfl hR.2 (vp_in_nI (by omega) (by decide)) (by rw [nI_clamp (by omega)]) ?_
      refine zj_callS (As := [.int (fT j)]) (rest := []) C (List.mem_of_getElem? (i := 23) rfl) rfl rfl (Or.inl rfl) (zj_isDigit_W (x := fT j)) rfl rfl (Nat.zero_le _) rfl rfl (fun v ws2 _ hZ => ?_)
      obtain ⟨hw2, r, hv, hr⟩ := hZ
      subst hw2
      subst hv
      have hdj := hf j (by omega)
      refine zj_if_ne (tgt := 51) C (List.mem_of_getElem? (i := 24) rfl) rfl (by decide) (fun hd => ?_) (fun hd => ?_)
      rotate_left
      · have hnd : ¬ zj_dg (fT j).toInt = true := fun h => hr.mpr h hd
        refine zj_gets C (List.mem_of_getElem? (i := 25) rfl) rfl rfl hx37 ?_
        exact KRa 50 _ _ _ (List.mem_of_getElem? (i := 26) rfl) rfl hAs ⟨hK, x, hR, by
          rw [if_neg]
          rintro ⟨-, h⟩
          have h7 := zj_all_i.mp h (j - q1) (by omega)
          rw [show q1 + (j - q1) = j by omega] at h7
          exact hnd h7⟩
      have hdg : zj_dg (fT j).toInt = true := hr.mp hd
      refine zj_aload_n C (List.mem_of_getElem? (i := 27) rfl) rfl rfl rfl ?_
      refine zj_aload_n C (List.mem_of_getElem? (i := 28) rfl) rfl rfl rfl ?_
      refine zj_get C (List.mem_of_getElem? (i := 29) rfl) rfl rfl hR.1 rfl rfl ?_
      refine zj_bipush (v := 10) C (List.mem_of_getElem? (i := 30) rfl) rfl (by decide) ?_
      refine zj_imul (v := (x * 10)) C (List.mem_of_getElem? (i := 31) rfl) rfl rfl ?_
      refine zj_aload_n C (List.mem_of_getElem? (i := 32) rfl) rfl rfl rfl ?_
      refine zj_get C (List.mem_of_getElem? (i := 33) rfl) rfl rfl hR.1 rfl rfl ?_
      refine zj_iload_n C (List.mem_of_getElem? (i := 34) rfl) rfl rfl rfl ?_
      refine zj_iald (v := (fT j)) C (List.mem_of_getElem? (i := 35) rfl) rfl hR.2 (vp_in_nI (by omega) (by decide)) (by rw [nI_clamp (by omega)]) ?_
      refine zj_iadd (v := ((x * 10) + (fT j))) C (List.mem_of_getElem? (i := 36) rfl) rfl rfl ?_
      refine zj_bipush (v := 48) C (List.mem_of_getElem? (i := 37) rfl) rfl (by decide) ?_
      refine zj_isub (v := (((x * 10) + (fT j)) - 48)) C (List.mem_of_getElem? (i := 38) rfl) rfl rfl ?_
      have hvb := zj_val_b (g := (fun i => (fT i).toInt)) (q := q1) (n := j - q1) (by omega) hall
      have hpw : (10 : Int) ^ (j - q1) ≤ 10 ^ 4 := by
        have h8 : j - q1 = 0 ∨ j - q1 = 1 ∨ j - q1 = 2 ∨ j - q1 = 3 ∨ j - q1 = 4 := by omega
        rcases h8 with h8 | h8 | h8 | h8 | h8 <;> rw [h8] <;> decide
      have hm := zj_mul10 (x := x) (c := fT j) (by rw [hval]; exact hvb.1) (by rw [hval]; omega) hdj.1 hdj.2
      refine zj_putR (k := 3) C (List.mem_of_getElem? (i := 39) rfl) rfl rfl hR rfl rfl (Nat.le_of_ble_eq_true rfl) rfl (zj_fit_i rfl _) (fun ws2 hR2 hAs2 hK2 => ?_)
      refine zj_iinc (k := 0) (v := (nI (j + 1))) C (List.mem_of_getElem? (i := 40) rfl) rfl rfl (nI_succ j).symm (by decide) rfl ?_
      refine zj_goto (tgt := 27) C (List.mem_of_getElem? (i := 41) rfl) (by decide) ?_
      refine ih (j + 1) _ ws2 (by omega) (by omega) (by omega) hR2 (hAs2.trans hAs) (fun i hi => (hK2 i hi).trans (hK i hi)) ?_ ?_
      · rw [show j + 1 - q1 = (j - q1) + 1 by omega, zj_all, hall, show q1 + (j - q1) = j by omega]
        exact hdg
      · rw [show j + 1 - q1 = (j - q1) + 1 by omega, zj_val, show q1 + (j - q1) = j by omega, ← hval]
        exact hm
  refine zj_aload_n C (List.mem_of_getElem? (i := 9) rfl) rfl rfl rfl ?_
  refine zj_iconst (v := 0) C (List.mem_of_getElem? (i := 10) rfl) rfl (by decide) ?_
  refine zj_putR (k := 3) C (List.mem_of_getElem? (i := 11) rfl) rfl rfl hR0 rfl rfl (Nat.le_of_ble_eq_true rfl) rfl (zj_fit_i rfl _) (fun ws2 hR2 hAs2 hK2 => ?_)
  refine zj_aload_n C (List.mem_of_getElem? (i := 12) rfl) rfl rfl rfl ?_
  refine zj_get C (List.mem_of_getElem? (i := 13) rfl) rfl rfl hR2.1 rfl rfl ?_
  refine zj_istore_n C (List.mem_of_getElem? (i := 14) rfl) rfl rfl (by decide) rfl ?_
  refine loop (e1 - q1) q1 0 ws2 (Nat.le_refl _) (Nat.le_refl _) hqe hR2 hAs2 hK2 ?_ ?_
  · rw [Nat.sub_self]
    rfl
  · rw [Nat.sub_self]
    rfl
end
