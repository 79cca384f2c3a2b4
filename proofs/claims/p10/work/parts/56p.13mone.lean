noncomputable section
/-! zj: the reference's rules and conditions -/
def zj_hd (P : List Nat) : Prop := ∀ r, P ≠ 20 :: r
theorem zj_wf_tl {x : Nat} {r : List Nat} (h : zj_wf (x :: r) = true) : zj_wf r = true := by
  unfold zj_wf at h
  rw [Bool.and_eq_true] at h
  exact h.2
theorem zj_wf_hd {x : Nat} {r : List Nat} (h : zj_wf (x :: r) = true) (hx : x = 21 ∨ x = 22) : zj_hd r := by
  intro r2 hr
  subst hr
  unfold zj_wf at h
  rcases hx with rfl | rfl <;> simp at h
theorem zj_wf_cons {x : Nat} {r : List Nat} (h : zj_wf r = true) (hx : (x = 21 ∨ x = 22) → zj_hd r) : zj_wf (x :: r) = true := by
  rw [zj_wf.eq_def]
  simp only [Bool.and_eq_true]
  refine ⟨?_, h⟩
  cases r with
  | nil => rfl
  | cons y r2 =>
    simp only [Bool.not_eq_true', Bool.and_eq_false_iff, Bool.or_eq_false_iff, beq_eq_false_iff_ne]
    by_cases h1 : x = 21
    · exact Or.inr (fun h2 => hx (Or.inl h1) r2 (by rw [h2]))
    · by_cases h2 : x = 22
      · exact Or.inr (fun h3 => hx (Or.inr h2) r2 (by rw [h3]))
      · exact Or.inl ⟨h1, h2⟩
def zj_el (P : List Nat) : Prop := ∀ x ∈ P, 20 ≤ x ∧ x ≤ 23
theorem zj_pl_el {f : Nat → Int32} : ∀ (P : List Nat), zj_pl f P → zj_el P
  | [], _ => fun x hx => nomatch hx
  | y :: r, h => fun x hx => by
    rcases List.mem_cons.mp hx with rfl | hx
    · exact h.2.1
    · exact zj_pl_el r h.2.2 x hx
theorem zj_el_tl {x : Nat} {r : List Nat} (h : zj_el (x :: r)) : zj_el r := fun y hy => h y (List.mem_cons_of_mem _ hy)
/-- where no not lies on top: nothing open, or a bracket -/
theorem zj_os_top : ∀ (P : List Nat), zj_el P → zj_wf P = true → zj_hd P → zj_os P = [] ∨ ∃ s, zj_os P = false :: s
  | [], _, _, _ => Or.inl rfl
  | x :: r, h0, h1, h2 => by
    have hx := h0 x List.mem_cons_self
    rw [zj_os]
    split
    · rename_i h3
      exact absurd (by rw [h3]) (h2 r)
    · split
      · exact Or.inr ⟨_, rfl⟩
      · exact zj_os_top r (zj_el_tl h0) (zj_wf_tl h1) (zj_wf_hd h1 (by omega))
theorem zj_dn_el {b : Nat} : ∀ (P : List Nat), zj_el P → zj_el (zj_dn b P)
  | [], h => h
  | x :: r, h => by
    rw [zj_dn]
    split
    · exact zj_dn_el r (zj_el_tl h)
    · exact h
theorem zj_dn_wf {b : Nat} : ∀ (P : List Nat), zj_wf P = true → zj_wf (zj_dn b P) = true
  | [], h => h
  | x :: r, h => by
    rw [zj_dn]
    split
    · exact zj_dn_wf r (zj_wf_tl h)
    · exact h
/-- joints come down: what is open stays -/
theorem zj_dn_j {b : Nat} (hb : b ≤ 2) : ∀ (P : List Nat), zj_el P → zj_wf P = true → zj_hd P → zj_os (zj_dn b P) = zj_os P ∧ zj_hd (zj_dn b P)
  | [], _, _, h => ⟨rfl, h⟩
  | x :: r, h0, h1, h2 => by
    have hx := h0 x List.mem_cons_self
    rw [zj_dn]
    split
    · rename_i h3
      have h4 : x = 21 ∨ x = 22 := by
        have h5 : x ≠ 20 := fun h => h2 r (by rw [h])
        omega
      obtain ⟨h5, h6⟩ := zj_dn_j hb r (zj_el_tl h0) (zj_wf_tl h1) (zj_wf_hd h1 h4)
      refine ⟨?_, h6⟩
      rw [h5, zj_os, if_neg (by omega), if_neg (by omega)]
    · exact ⟨rfl, h2⟩
/-- nots come down -/
theorem zj_dn_n {g : Nat → Int} {t : Nat} {tk : zj_T} {n1 d1 l1 f1 o1 : Nat} {x1 : Int} {k1 : Nat} : ∀ (P : List Nat), zj_el P → zj_wf P = true → zj_R g t (8, tk, n1, d1, l1, f1, o1, zj_os P, x1, k1) (8, tk, n1, d1, l1, f1, o1, zj_os (zj_dn 3 P), x1, k1) ∧ zj_hd (zj_dn 3 P) ∧ (zj_os (zj_dn 3 P)).length ≤ (zj_os P).length
  | [], _, _ => ⟨zj_R_rf _, (fun r (h : ([] : List Nat) = 20 :: r) => nomatch h), Nat.le_refl _⟩
  | x :: r, h0, h1 => by
    have hx := h0 x List.mem_cons_self
    rw [zj_dn]
    split
    · rename_i h3
      have h4 : x = 20 := by
        have h5 := h3.2
        unfold zj_bi at h5
        split at h5
        · assumption
        · split at h5 <;> omega
      obtain ⟨h5, h6, h7⟩ := zj_dn_n (g := g) (t := t) (tk := tk) (n1 := n1) (d1 := d1) (l1 := l1) (f1 := f1) (o1 := o1) (x1 := x1) (k1 := k1) r (zj_el_tl h0) (zj_wf_tl h1)
      rw [show zj_os (x :: r) = true :: zj_os r by rw [zj_os, if_pos h4]]
      exact ⟨zj_R_tr (zj_R_st (by rw [zj_st]; rfl)) h5, h6, by rw [List.length_cons]; omega⟩
    · rename_i h3
      refine ⟨zj_R_rf _, fun r2 h => ?_, Nat.le_refl _⟩
      cases h
      exact h3 ⟨by decide, by decide⟩
/-- all joints down: a bracket on top, or nothing -/
theorem zj_dn_1 : ∀ (P : List Nat), zj_el P → zj_dn 1 P = [] ∨ ∃ r, zj_dn 1 P = 23 :: r
  | [], _ => Or.inl rfl
  | x :: r, h0 => by
    have hx := h0 x List.mem_cons_self
    rw [zj_dn]
    split
    · exact zj_dn_1 r (zj_el_tl h0)
    · rename_i h3
      have h4 : x = 23 := by
        apply Classical.byContradiction
        intro h5
        refine h3 ⟨h5, ?_⟩
        unfold zj_bi
        split
        · decide
        · split <;> decide
      exact Or.inr ⟨r, by rw [h4]⟩
theorem zj_perm1 {p : Program} {l : Launch} {e : Env} {R : Room} {s : State} {mi : MethodId} {args : Array Value} {below : List Frame} {meth : Method} {c : Code} {Q : State → Prop} {D : va_G} {A : Nat → Prop} {ex : List Nat} {nL : Nat} {own : String} {cc : ByteArray} {d : Nat} {md : zx_MD} {tys : List (ClassId × FieldType)} {pc : Nat} {lv : List (Nat × Value)} {kc : List Value} {ws : va_W} {v : Value} (_ : zj_cx p R s mi args meth c A ex nL own cc d md D tys) (hl : zj_lk lv 0 = some v) (h : zj_go p l e R s mi args below meth c Q D A nL pc [(0, v)] kc ws) : zj_go p l e R s mi args below meth c Q D A nL pc lv kc ws :=
  fun H locs ls hP hD hS hv => h H locs ls hP hD hS ⟨hv.1, hv.2.1, fun q hq => by
    rcases List.mem_cons.mp hq with rfl | hq
    · exact hv.2.2 _ (zj_lk_mem hl)
    · cases hq⟩
theorem zj_perm3 {p : Program} {l : Launch} {e : Env} {R : Room} {s : State} {mi : MethodId} {args : Array Value} {below : List Frame} {meth : Method} {c : Code} {Q : State → Prop} {D : va_G} {A : Nat → Prop} {ex : List Nat} {nL : Nat} {own : String} {cc : ByteArray} {d : Nat} {md : zx_MD} {tys : List (ClassId × FieldType)} {pc : Nat} {lv : List (Nat × Value)} {kc : List Value} {ws : va_W} {v0 v1 v2 : Value} (_ : zj_cx p R s mi args meth c A ex nL own cc d md D tys) (h0 : zj_lk lv 0 = some v0) (h1 : zj_lk lv 1 = some v1) (h2 : zj_lk lv 2 = some v2) (h : zj_go p l e R s mi args below meth c Q D A nL pc [(2, v2), (1, v1), (0, v0)] kc ws) : zj_go p l e R s mi args below meth c Q D A nL pc lv kc ws :=
  fun H locs ls hP hD hS hv => h H locs ls hP hD hS ⟨hv.1, hv.2.1, fun q hq => by
    rcases List.mem_cons.mp hq with rfl | hq
    · exact hv.2.2 _ (zj_lk_mem h2)
    · rcases List.mem_cons.mp hq with rfl | hq
      · exact hv.2.2 _ (zj_lk_mem h1)
      · rcases List.mem_cons.mp hq with rfl | hq
        · exact hv.2.2 _ (zj_lk_mem h0)
        · cases hq⟩
/-- what begins, one step on -/
theorem zj_oneR {M : zj_M} {tk : zj_T} {n1 d1 l1 f1 o1 : Nat} {s : List Bool} {x1 : Int} {k1 : Nat} (ho : o1 < 40) (hs : s.length < 12) (hb : tk.1 = 10 ∨ (11 ≤ tk.1 ∧ tk.1 ≤ 20) ∨ tk.1 = 25) :
    (tk.1 = 10 → zj_R (zj_gM M) M.t (7, tk, n1, d1, l1, f1, o1, s, x1, k1) (7, zj_nm M tk, n1, d1, l1, f1, o1 + 1, true :: s, x1, k1)) ∧ (tk.1 = 25 → zj_R (zj_gM M) M.t (7, tk, n1, d1, l1, f1, o1, s, x1, k1) (7, zj_nm M tk, n1, d1, l1, f1, o1 + 1, false :: s, x1, k1)) ∧ ((11 ≤ tk.1 ∧ tk.1 < 18) → zj_R (zj_gM M) M.t (7, tk, n1, d1, l1, f1, o1, s, x1, k1) (8, zj_nm M tk, n1, d1, l1, f1, o1 + 1, s, x1, k1)) ∧ ((18 ≤ tk.1 ∧ tk.1 ≤ 20) → zj_R (zj_gM M) M.t (7, tk, n1, d1, l1, f1, o1, s, x1, k1) (10, zj_nm M tk, n1, d1, l1, f1, o1 + 1, s, x1, k1)) := by
  refine ⟨fun h => zj_R_st ?_, fun h => zj_R_st ?_, fun h => zj_R_st ?_, fun h => zj_R_st ?_⟩
  · rw [zj_st, if_neg (by omega), if_neg (by omega), if_pos h]; rfl
  · rw [zj_st, if_neg (by omega), if_neg (by omega), if_neg (by omega), if_pos h]; rfl
  · rw [zj_st, if_neg (by omega), if_neg (by omega), if_neg (by omega), if_neg (by omega), if_neg (by omega)]; rfl
  · rw [zj_st, if_neg (by omega), if_neg (by omega), if_neg (by omega), if_neg (by omega), if_pos (by omega)]; rfl
set_option maxHeartbeats 8000000 in
theorem zj_oneM_W {l : Launch} {M : zj_M} {ws0 : va_W} {tk : zj_T} {d1 l1 f1 o1 st : Nat} {P : List Nat} {c0 : zj_C} {n1 : Nat} {x1 : Int} {k1 : Nat} (hB : zj_Mok M) (h0 : zj_mr true M ws0 tk d1 l1 f1 o1 st P 0) (hw : zj_wf P = true) (hs : (zj_os P).length ≤ 12) (r0 : zj_R (zj_gM M) M.t c0 (7, tk, n1, d1, l1, f1, o1, (zj_os P), x1, k1)) : zj_W l 4 161 (zj_MX M [.ref M.aM] ws0) (zj_Zm true M c0 (fun tk' d' l' f' o' st' P' => d1 = d' ∧ l1 = l' ∧ f1 = f' ∧ o1 < o' ∧ zj_wf P' = true ∧ zj_hd P' ∧ (zj_os P').length ≤ 12 ∧ st' + P'.length < 2 * o' ∧ P'.length < o' ∧ zj_R (zj_gM M) M.t c0 (8, tk', n1, d1, l1, f1, o', (zj_os P'), x1, k1))) := by
  refine zj_enterO (md := zx_m161) (ow := zx_oc13) rfl rfl rfl ?_ ?_
  · rintro ex tys av ws ⟨-, rfl, -⟩
    exact Nat.le_of_ble_eq_true rfl
  intro p e R s mi args below meth c Q D A ex nL own cc tys ws av hX C hnL hown KRi KRv KRa
  subst hnL
  obtain ⟨h2, h3, h4⟩ := hX
  subst h2
  subst h3
  subst h4
  have loop : ∀ (N : Nat) (tk : zj_T) (o2 st : Nat) (P : List Nat) (ws1 : va_W) (lv : List (Nat × Value)), 40 - o2 ≤ N → o1 ≤ o2 → zj_mr true M ws1 tk d1 l1 f1 o2 st P 0 → zx_as ws1 = zx_as ws → zj_wf P = true → (zj_os P).length ≤ 12 → zj_R (zj_gM M) M.t c0 (7, tk, n1, d1, l1, f1, o2, (zj_os P), x1, k1) → zj_lk lv 0 = some (.ref M.aM) → zj_go p l e R s mi args below meth c Q D A (zx_mV zx_m161.2.1) 0 lv [] ws1 := by
    intro N
    induction N with
    | zero =>
      intro tk o2 st P ws1 lv hN ho12 h0 hA hw hs r0 hlv
      have h00 := h0
      obtain ⟨⟨tok, sp, nu, fa, pm, wd, fv, fe, pf, hM, ht, hv6, he9, hpl⟩, hbd, hbd2, hbd3⟩ := h0
      obtain ⟨hpm, hpl⟩ := hpl
      subst hpm
      have hel := zj_pl_el P hpl
      have begun : ∀ (nv av : Int32) (lv2 : List (Nat × Value)), ((11 ≤ tk.1 ∧ tk.1 ≤ 20 ∧ av = nI (tk.1 - 11)) ∨ (¬ (11 ≤ tk.1 ∧ tk.1 ≤ 20) ∧ av = -1)) → (tk.1 = 10 ∨ (11 ≤ tk.1 ∧ tk.1 ≤ 20) ∨ tk.1 = 25) → (nv = 1 ∧ tk.1 = 10 ∨ nv = 0 ∧ tk.1 ≠ 10) → zj_lk lv2 0 = some (.ref M.aM) → zj_lk lv2 1 = some (.int nv) → zj_lk lv2 2 = some (.int av) → zj_go p l e R s mi args below meth c Q D A (zx_mV zx_m161.2.1) 36 lv2 [] ws1 := by
        intro nv av lv2 hav hbeg hnv hl0 hl1 hl2
        refine zj_perm3 C hl0 hl1 hl2 ?_
        refine zj_aload_n C (List.mem_of_getElem? (i := 19) rfl) rfl rfl rfl ?_
        refine zj_getM C (List.mem_of_getElem? (i := 20) rfl) rfl rfl rfl hM rfl ?_
        refine zj_bipush (v := 40) C (List.mem_of_getElem? (i := 21) rfl) rfl (by decide) ?_
        refine zj_icmp_eq (tgt := 54) C (List.mem_of_getElem? (i := 22) rfl) rfl (by decide) (fun hb => ?_) (fun hb => ?_)
        · have hb : o2 = 40 := zj_nI_eq (by omega) (by decide) hb
          refine zj_aload_n C (List.mem_of_getElem? (i := 27) rfl) rfl rfl rfl ?_
          refine zj_iconst (v := 4) C (List.mem_of_getElem? (i := 28) rfl) rfl (by decide) ?_
          have hO := hM
          obtain ⟨⟨fsO, hO0, -⟩, -⟩ := hO
          refine zj_callV (As := [.int (nI 4)]) (rest := []) C (List.mem_of_getElem? (i := 29) rfl) rfl rfl rfl (by decide) (zj_W_mono (zj_badM_W (k := 4) h00) (by decide)) rfl rfl hO0 rfl (Nat.le_of_ble_eq_true rfl) rfl ⟨rfl, rfl, rfl⟩ (fun v w5 hw5A hw5Z => ?_)
          obtain ⟨hv, h9⟩ := hw5Z
          subst hv
          exact KRi 59 _ _ _ (List.mem_of_getElem? (i := 30) rfl) (by decide) (Or.inr ⟨rfl, Or.inl rfl⟩) (hw5A.trans hA) (Or.inr ⟨rfl, tk, 4, h9, zj_R_tr r0 (zj_R_st (by rw [zj_st, if_neg (by omega), if_pos (by omega)]))⟩)
        have hb : o2 ≠ 40 := fun h => hb (by rw [h]; rfl)
        exact absurd hbd3.1 (by omega)
      refine zj_perm1 C hlv ?_
      refine zj_aload_n C (List.mem_of_getElem? (i := 0) rfl) rfl rfl rfl ?_
      refine zj_ldc2 (v := zj_wc 10) C (List.mem_of_getElem? (i := 1) rfl) rfl (zj_long hown (k := 10) (ix := 405) (by decide)) ?_
      have hO := hM
      obtain ⟨⟨fsO, hO0, -⟩, -⟩ := hO
      refine zj_callV (As := [.long (zj_wc 10)]) (rest := []) C (List.mem_of_getElem? (i := 2) rfl) rfl rfl rfl (by decide) (zj_W_mono (zj_isWord_W (k := 10) h00 (by decide)) (by decide)) rfl rfl hO0 rfl (Nat.le_of_ble_eq_true rfl) rfl ⟨rfl, rfl, rfl⟩ (fun v w2 hw2A hw2Z => ?_)
      obtain ⟨hw, hv⟩ := hw2Z
      subst hw
      rcases hv with ⟨hv, hc10⟩ | ⟨hv, hc10⟩
      · subst hv
        refine zj_istore_n C (List.mem_of_getElem? (i := 3) rfl) rfl rfl (by decide) rfl ?_
        refine zj_aload_n C (List.mem_of_getElem? (i := 4) rfl) rfl rfl rfl ?_
        have hO := hM
        obtain ⟨⟨fsO, hO0, -⟩, -⟩ := hO
        refine zj_callV (As := []) (rest := []) C (List.mem_of_getElem? (i := 5) rfl) rfl rfl rfl (by decide) (zj_W_mono (zj_atom_W h00) (by decide)) rfl rfl hO0 rfl (Nat.le_of_ble_eq_true rfl) rfl ⟨rfl, rfl, rfl⟩ (fun v w3 hw3A hw3Z => ?_)
        obtain ⟨hw3e, hv⟩ := hw3Z
        subst hw3e
        have hat : ∃ av : Int32, v = some (.int av) ∧ ((11 ≤ tk.1 ∧ tk.1 ≤ 20 ∧ av = nI (tk.1 - 11)) ∨ (¬ (11 ≤ tk.1 ∧ tk.1 ≤ 20) ∧ av = -1)) := by
          rcases hv with ⟨a, a1, a2, a3⟩ | ⟨a1, a2⟩
          · exact ⟨nI a, a3, Or.inl ⟨by omega, by omega, by rw [a1, Nat.add_sub_cancel_left]⟩⟩
          · exact ⟨-1, a2, Or.inr ⟨a1, rfl⟩⟩
        obtain ⟨av, hv, hav⟩ := hat
        subst hv
        refine zj_istore_n C (List.mem_of_getElem? (i := 6) rfl) rfl rfl (by decide) rfl ?_
        refine zj_iload_n C (List.mem_of_getElem? (i := 7) rfl) rfl rfl rfl ?_
        refine zj_if_ne (tgt := 36) C (List.mem_of_getElem? (i := 8) rfl) rfl (by decide) (fun hd => ?_) (fun hd => ?_)
        rotate_left
        · exact absurd hd (by decide)
        exact begun 1 av _ hav (Or.inl hc10) (Or.inl ⟨rfl, hc10⟩) rfl rfl rfl
      · subst hv
        refine zj_istore_n C (List.mem_of_getElem? (i := 3) rfl) rfl rfl (by decide) rfl ?_
        refine zj_aload_n C (List.mem_of_getElem? (i := 4) rfl) rfl rfl rfl ?_
        have hO := hM
        obtain ⟨⟨fsO, hO0, -⟩, -⟩ := hO
        refine zj_callV (As := []) (rest := []) C (List.mem_of_getElem? (i := 5) rfl) rfl rfl rfl (by decide) (zj_W_mono (zj_atom_W h00) (by decide)) rfl rfl hO0 rfl (Nat.le_of_ble_eq_true rfl) rfl ⟨rfl, rfl, rfl⟩ (fun v w3 hw3A hw3Z => ?_)
        obtain ⟨hw3e, hv⟩ := hw3Z
        subst hw3e
        have hat : ∃ av : Int32, v = some (.int av) ∧ ((11 ≤ tk.1 ∧ tk.1 ≤ 20 ∧ av = nI (tk.1 - 11)) ∨ (¬ (11 ≤ tk.1 ∧ tk.1 ≤ 20) ∧ av = -1)) := by
          rcases hv with ⟨a, a1, a2, a3⟩ | ⟨a1, a2⟩
          · exact ⟨nI a, a3, Or.inl ⟨by omega, by omega, by rw [a1, Nat.add_sub_cancel_left]⟩⟩
          · exact ⟨-1, a2, Or.inr ⟨a1, rfl⟩⟩
        obtain ⟨av, hv, hav⟩ := hat
        subst hv
        refine zj_istore_n C (List.mem_of_getElem? (i := 6) rfl) rfl rfl (by decide) rfl ?_
        refine zj_iload_n C (List.mem_of_getElem? (i := 7) rfl) rfl rfl rfl ?_
        refine zj_if_ne (tgt := 36) C (List.mem_of_getElem? (i := 8) rfl) rfl (by decide) (fun hd => ?_) (fun hd => ?_)
        · exact absurd rfl hd
        refine zj_iload_n C (List.mem_of_getElem? (i := 9) rfl) rfl rfl rfl ?_
        refine zj_if_ge (tgt := 36) C (List.mem_of_getElem? (i := 10) rfl) rfl (by decide) (fun ha => ?_) (fun ha => ?_)
        · refine begun 0 av _ hav ?_ (Or.inr ⟨rfl, hc10⟩) rfl rfl rfl
          rcases hav with ⟨a1, a2, -⟩ | ⟨-, a2⟩
          · exact Or.inr (Or.inl ⟨a1, a2⟩)
          · rw [a2] at ha; exact absurd ha (by decide)
        have ha : ¬ (11 ≤ tk.1 ∧ tk.1 ≤ 20) := by
          rcases hav with ⟨a1, a2, a3⟩ | ⟨a1, -⟩
          · exact absurd (by rw [a3]; exact nI_pos' (by omega)) ha
          · exact a1
        refine zj_aload_n C (List.mem_of_getElem? (i := 11) rfl) rfl rfl rfl ?_
        refine zj_bipush (v := 40) C (List.mem_of_getElem? (i := 12) rfl) rfl (by decide) ?_
        have hO := hM
        obtain ⟨⟨fsO, hO0, -⟩, -⟩ := hO
        refine zj_callV (As := [.int (zj_sc 25)]) (rest := []) C (List.mem_of_getElem? (i := 13) rfl) rfl rfl rfl (by decide) (zj_W_mono (zj_isSign_W (k := 25) h00 (by decide) (by decide)) (by decide)) rfl rfl hO0 rfl (Nat.le_of_ble_eq_true rfl) rfl ⟨rfl, rfl, rfl⟩ (fun v w4 hw4A hw4Z => ?_)
        obtain ⟨hw4e, hv⟩ := hw4Z
        subst hw4e
        rcases hv with ⟨hv, hc25⟩ | ⟨hv, hc25⟩
        · subst hv
          refine zj_if_ne (tgt := 36) C (List.mem_of_getElem? (i := 14) rfl) rfl (by decide) (fun hd2 => ?_) (fun hd2 => ?_)
          rotate_left
          · exact absurd hd2 (by decide)
          exact begun 0 av _ hav (Or.inr (Or.inr hc25)) (Or.inr ⟨rfl, hc10⟩) rfl rfl rfl
        subst hv
        refine zj_if_ne (tgt := 36) C (List.mem_of_getElem? (i := 14) rfl) rfl (by decide) (fun hd2 => ?_) (fun hd2 => ?_)
        · exact absurd rfl hd2
        refine zj_aload_n C (List.mem_of_getElem? (i := 15) rfl) rfl rfl rfl ?_
        refine zj_iconst (v := 1) C (List.mem_of_getElem? (i := 16) rfl) rfl (by decide) ?_
        have hO := hM
        obtain ⟨⟨fsO, hO0, -⟩, -⟩ := hO
        refine zj_callV (As := [.int (nI 1)]) (rest := []) C (List.mem_of_getElem? (i := 17) rfl) rfl rfl rfl (by decide) (zj_W_mono (zj_badM_W (k := 1) h00) (by decide)) rfl rfl hO0 rfl (Nat.le_of_ble_eq_true rfl) rfl ⟨rfl, rfl, rfl⟩ (fun v w5 hw5A hw5Z => ?_)
        obtain ⟨hv, h9⟩ := hw5Z
        subst hv
        exact KRi 35 _ _ _ (List.mem_of_getElem? (i := 18) rfl) (by decide) (Or.inr ⟨rfl, Or.inl rfl⟩) (hw5A.trans hA) (Or.inr ⟨rfl, tk, 1, h9, zj_R_tr r0 (zj_R_st (by rw [zj_st, if_pos (by omega)]))⟩)
    | succ N ih =>
      intro tk o2 st P ws1 lv hN ho12 h0 hA hw hs r0 hlv
      have h00 := h0
      obtain ⟨⟨tok, sp, nu, fa, pm, wd, fv, fe, pf, hM, ht, hv6, he9, hpl⟩, hbd, hbd2, hbd3⟩ := h0
      obtain ⟨hpm, hpl⟩ := hpl
      subst hpm
      have hel := zj_pl_el P hpl
      have begun : ∀ (nv av : Int32) (lv2 : List (Nat × Value)), ((11 ≤ tk.1 ∧ tk.1 ≤ 20 ∧ av = nI (tk.1 - 11)) ∨ (¬ (11 ≤ tk.1 ∧ tk.1 ≤ 20) ∧ av = -1)) → (tk.1 = 10 ∨ (11 ≤ tk.1 ∧ tk.1 ≤ 20) ∨ tk.1 = 25) → (nv = 1 ∧ tk.1 = 10 ∨ nv = 0 ∧ tk.1 ≠ 10) → zj_lk lv2 0 = some (.ref M.aM) → zj_lk lv2 1 = some (.int nv) → zj_lk lv2 2 = some (.int av) → zj_go p l e R s mi args below meth c Q D A (zx_mV zx_m161.2.1) 36 lv2 [] ws1 := by
        intro nv av lv2 hav hbeg hnv hl0 hl1 hl2
        refine zj_perm3 C hl0 hl1 hl2 ?_
        refine zj_aload_n C (List.mem_of_getElem? (i := 19) rfl) rfl rfl rfl ?_
        refine zj_getM C (List.mem_of_getElem? (i := 20) rfl) rfl rfl rfl hM rfl ?_
        refine zj_bipush (v := 40) C (List.mem_of_getElem? (i := 21) rfl) rfl (by decide) ?_
        refine zj_icmp_eq (tgt := 54) C (List.mem_of_getElem? (i := 22) rfl) rfl (by decide) (fun hb => ?_) (fun hb => ?_)
        · have hb : o2 = 40 := zj_nI_eq (by omega) (by decide) hb
          refine zj_aload_n C (List.mem_of_getElem? (i := 27) rfl) rfl rfl rfl ?_
          refine zj_iconst (v := 4) C (List.mem_of_getElem? (i := 28) rfl) rfl (by decide) ?_
          have hO := hM
          obtain ⟨⟨fsO, hO0, -⟩, -⟩ := hO
          refine zj_callV (As := [.int (nI 4)]) (rest := []) C (List.mem_of_getElem? (i := 29) rfl) rfl rfl rfl (by decide) (zj_W_mono (zj_badM_W (k := 4) h00) (by decide)) rfl rfl hO0 rfl (Nat.le_of_ble_eq_true rfl) rfl ⟨rfl, rfl, rfl⟩ (fun v w5 hw5A hw5Z => ?_)
          obtain ⟨hv, h9⟩ := hw5Z
          subst hv
          exact KRi 59 _ _ _ (List.mem_of_getElem? (i := 30) rfl) (by decide) (Or.inr ⟨rfl, Or.inl rfl⟩) (hw5A.trans hA) (Or.inr ⟨rfl, tk, 4, h9, zj_R_tr r0 (zj_R_st (by rw [zj_st, if_neg (by omega), if_pos (by omega)]))⟩)
        have hb : o2 ≠ 40 := fun h => hb (by rw [h]; rfl)
        refine zj_aload_n C (List.mem_of_getElem? (i := 23) rfl) rfl rfl rfl ?_
        have hO := hM
        obtain ⟨⟨fsO, hO0, -⟩, -⟩ := hO
        refine zj_callV (As := []) (rest := []) C (List.mem_of_getElem? (i := 24) rfl) rfl rfl rfl (by decide) (zj_W_mono (zj_open_W h00) (by decide)) rfl rfl hO0 rfl (Nat.le_of_ble_eq_true rfl) rfl ⟨rfl, rfl, rfl⟩ (fun v w5 hw5A hw5Z => ?_)
        obtain ⟨hw5e, hv⟩ := hw5Z
        subst hw5e
        subst hv
        refine zj_bipush (v := 12) C (List.mem_of_getElem? (i := 25) rfl) rfl (by decide) ?_
        refine zj_icmp_ne (tgt := 60) C (List.mem_of_getElem? (i := 26) rfl) rfl (by decide) (fun hb2 => ?_) (fun hb2 => ?_)
        rotate_left
        · have hb2 : (zj_os P).length = 12 := zj_nI_eq (by omega) (by decide) hb2
          refine zj_aload_n C (List.mem_of_getElem? (i := 27) rfl) rfl rfl rfl ?_
          refine zj_iconst (v := 4) C (List.mem_of_getElem? (i := 28) rfl) rfl (by decide) ?_
          have hO := hM
          obtain ⟨⟨fsO, hO0, -⟩, -⟩ := hO
          refine zj_callV (As := [.int (nI 4)]) (rest := []) C (List.mem_of_getElem? (i := 29) rfl) rfl rfl rfl (by decide) (zj_W_mono (zj_badM_W (k := 4) h00) (by decide)) rfl rfl hO0 rfl (Nat.le_of_ble_eq_true rfl) rfl ⟨rfl, rfl, rfl⟩ (fun v w6 hw6A hw6Z => ?_)
          obtain ⟨hv, h9⟩ := hw6Z
          subst hv
          exact KRi 59 _ _ _ (List.mem_of_getElem? (i := 30) rfl) (by decide) (Or.inr ⟨rfl, Or.inl rfl⟩) (hw6A.trans hA) (Or.inr ⟨rfl, tk, 4, h9, zj_R_tr r0 (zj_R_st (by rw [zj_st, if_neg (by omega), if_pos (by omega)]))⟩)
        have hb2 : (zj_os P).length ≠ 12 := fun h => hb2 (by rw [h]; rfl)
        refine zj_aload_n C (List.mem_of_getElem? (i := 31) rfl) rfl rfl rfl ?_
        refine zj_dup C (List.mem_of_getElem? (i := 32) rfl) rfl rfl ?_
        refine zj_getM C (List.mem_of_getElem? (i := 33) rfl) rfl rfl rfl hM rfl ?_
        refine zj_iconst (v := 1) C (List.mem_of_getElem? (i := 34) rfl) rfl (by decide) ?_
        refine zj_iadd (v := (nI (o2 + 1))) C (List.mem_of_getElem? (i := 35) rfl) rfl (nI_1 _) ?_
        refine zj_putM (L' := (zj_ML M (nI M.t) (nI tk.2.2.2) tok (nI tk.2.2.1) sp nu wd 0 fa (nI d1) (nI (o2 + 1)) (nI st) (nI P.length))) C (List.mem_of_getElem? (i := 36) rfl) rfl rfl rfl hM (Nat.le_of_ble_eq_true rfl) (by decide) rfl (zj_fit_i rfl _) (by unfold zj_ML; repeat first | exact zj_sub_nil | refine zj_sub_cons rfl ?_) (fun w6 hw6M hw6A => ?_)
        have h6 : zj_mr true M w6 tk d1 l1 f1 (o2 + 1) st P 0 := ⟨⟨tok, sp, nu, fa, _, wd, fv, fe, pf, hw6M, ht, hv6, he9, rfl, hpl⟩, hbd, hbd2, by omega, by omega, by omega⟩
        refine zj_aload_n C (List.mem_of_getElem? (i := 37) rfl) rfl rfl rfl ?_
        have hO := hw6M
        obtain ⟨⟨fsO, hO0, -⟩, -⟩ := hO
        refine zj_callV (As := []) (rest := []) C (List.mem_of_getElem? (i := 38) rfl) rfl rfl rfl (by decide) (zj_W_mono (zj_next_m hB h6) (by decide)) rfl rfl hO0 rfl (Nat.le_of_ble_eq_true rfl) rfl ⟨rfl, rfl, rfl⟩ (fun v w7 hw7A hw7Z => ?_)
        obtain ⟨hv, h7⟩ := hw7Z
        subst hv
        have hA7 := hw7A.trans (hw6A.trans hA)
        have hr7 := zj_oneR (M := M) (tk := tk) (n1 := n1) (d1 := d1) (l1 := l1) (f1 := f1) (o1 := o2) (s := zj_os P) (x1 := x1) (k1 := k1) (by omega) (by omega) hbeg
        generalize htk2 : zj_nm M tk = tk2 at h7 hr7
        have h77 := h7
        obtain ⟨⟨tok7, sp7, nu7, fa7, pm7, wd7, fv7, fe7, pf7, hM7, ht7, hv67, he97, hpl7⟩, hbd7, hbd27, hbd37⟩ := h7
        obtain ⟨hpm7, hpl7⟩ := hpl7
        subst hpm7
        refine zj_iload_n C (List.mem_of_getElem? (i := 39) rfl) rfl rfl rfl ?_
        refine zj_if_ge (tgt := 111) C (List.mem_of_getElem? (i := 40) rfl) rfl (by decide) (fun ha => ?_) (fun ha => ?_)
        · have hatom : ∃ a, tk.1 = 11 + a ∧ a < 10 ∧ av = nI a := by
            rcases hav with h | h
            · exact ⟨tk.1 - 11, by omega, by omega, h.2.2⟩
            · rw [h.2] at ha; exact absurd ha (by decide)
          obtain ⟨a, ha1, ha2, rfl⟩ := hatom
          clear ha
          have fin : ∀ (tk4 : zj_T) (ws4 : va_W) (lv4 : List (Nat × Value)), zj_mr true M ws4 tk4 d1 l1 f1 (o2 + 1) (st + 1) P 0 → zx_as ws4 = zx_as ws → zj_R (zj_gM M) M.t c0 (8, tk4, n1, d1, l1, f1, (o2 + 1), (zj_os P), x1, k1) → zj_lk lv4 0 = some (.ref M.aM) → zj_go p l e R s mi args below meth c Q D A (zx_mV zx_m161.2.1) 197 lv4 [] ws4 := by
            intro tk4 ws4 lv4 h4 hA4 r4 hl4
            refine zj_perm1 C hl4 ?_
            have h44 := h4
            obtain ⟨⟨tok4, sp4, nu4, fa4, pm4, wd4, fv4, fe4, pf4, hM4, -⟩, -⟩ := h44
            refine zj_aload_n C (List.mem_of_getElem? (i := 104) rfl) rfl rfl rfl ?_
            refine zj_iconst (v := 3) C (List.mem_of_getElem? (i := 105) rfl) rfl (by decide) ?_
            have hO := hM4
            obtain ⟨⟨fsO, hO0, -⟩, -⟩ := hO
            refine zj_callV (As := [.int (nI 3)]) (rest := []) C (List.mem_of_getElem? (i := 106) rfl) rfl rfl rfl (by decide) (zj_W_mono (zj_down_W (b := 3) h4 (by decide)) (by decide)) rfl rfl hO0 rfl (Nat.le_of_ble_eq_true rfl) rfl ⟨rfl, rfl, rfl⟩ (fun v w8 hw8A hw8Z => ?_)
            obtain ⟨hv, h8⟩ := hw8Z
            subst hv
            obtain ⟨e1, e2, e3⟩ := zj_dn_n (g := zj_gM M) (t := M.t) (tk := tk4) (n1 := n1) (d1 := d1) (l1 := l1) (f1 := f1) (o1 := o2 + 1) (x1 := x1) (k1 := k1) P hel hw
            have hdl := zj_dn_len (b := 3) P
            refine zj_iconst (v := 1) C (List.mem_of_getElem? (i := 107) rfl) rfl (by decide) ?_
            exact KRi 203 _ _ _ (List.mem_of_getElem? (i := 108) rfl) (by decide) (Or.inr ⟨rfl, Or.inr rfl⟩) (hw8A.trans hA4) (Or.inl ⟨rfl, tk4, d1, l1, f1, o2 + 1, _, _, h8, rfl, rfl, rfl, by omega, zj_dn_wf P hw, e2, by omega, by omega, by omega, zj_R_tr r4 e1⟩)
          refine zj_iload_n C (List.mem_of_getElem? (i := 58) rfl) rfl rfl rfl ?_
          refine zj_bipush (v := 7) C (List.mem_of_getElem? (i := 59) rfl) rfl (by decide) ?_
          refine zj_icmp_ge (tgt := 127) C (List.mem_of_getElem? (i := 60) rfl) rfl (by decide) (fun h7 => ?_) (fun h7 => ?_)
          rotate_left
          · have h7 : a < 7 := by
              rcases Nat.lt_or_ge a 7 with h | h
              · exact h
              · exact absurd ((nI_leI (a := 7) (b := a) (by decide) (by omega)).mpr h) h7
            refine zj_aload_n C (List.mem_of_getElem? (i := 61) rfl) rfl rfl rfl ?_
            refine zj_iload_n C (List.mem_of_getElem? (i := 62) rfl) rfl rfl rfl ?_
            refine zj_iconst (v := 0) C (List.mem_of_getElem? (i := 63) rfl) rfl (by decide) ?_
            refine zj_iconst (v := 0) C (List.mem_of_getElem? (i := 64) rfl) rfl (by decide) ?_
            have hO := hM7
            obtain ⟨⟨fsO, hO0, -⟩, -⟩ := hO
            refine zj_callV (As := [.int (nI a), .int 0, .int 0]) (rest := []) C (List.mem_of_getElem? (i := 65) rfl) rfl rfl rfl (by decide) (zj_W_mono (zj_write_W (xa := nI a) (xb := 0) (xc := 0) h77 (by omega)) (by decide)) rfl rfl hO0 rfl (Nat.le_of_ble_eq_true rfl) rfl ⟨rfl, rfl, rfl⟩ (fun v w8 hw8A hw8Z => ?_)
            obtain ⟨hv, h8⟩ := hw8Z
            subst hv
            refine zj_goto (tgt := 197) C (List.mem_of_getElem? (i := 66) rfl) (by decide) ?_
            exact fin tk2 w8 _ h8 (hw8A.trans hA7) (zj_R_tr r0 (hr7.2.2.1 (by omega))) rfl
          have h7 : 7 ≤ a := (nI_leI (a := 7) (b := a) (by decide) (by omega)).mp h7
          have r8 := zj_R_tr r0 (hr7.2.2.2 (by omega))
          have meas : (21 ≤ tk2.1 ∧ tk2.1 ≤ 23) → zj_go p l e R s mi args below meth c Q D A (zx_mV zx_m161.2.1) 160 [(2, .int (nI a)), (1, .int nv), (0, .ref M.aM)] [] w7 := by
            intro hsg
            have r9 := zj_R_tr r8 (zj_R_st (c' := (11, (zj_nm M tk2), n1, d1, l1, f1, (o2 + 1), (zj_os P), x1, k1)) (by rw [zj_st, if_pos hsg]; rfl))
            refine zj_aload_n C (List.mem_of_getElem? (i := 83) rfl) rfl rfl rfl ?_
            refine zj_getM C (List.mem_of_getElem? (i := 84) rfl) rfl rfl rfl hM7 rfl ?_
            refine zj_istore_n C (List.mem_of_getElem? (i := 85) rfl) rfl rfl (by decide) rfl ?_
            refine zj_aload_n C (List.mem_of_getElem? (i := 86) rfl) rfl rfl rfl ?_
            have hO := hM7
            obtain ⟨⟨fsO, hO0, -⟩, -⟩ := hO
            refine zj_callV (As := []) (rest := []) C (List.mem_of_getElem? (i := 87) rfl) rfl rfl rfl (by decide) (zj_W_mono (zj_next_m hB h77) (by decide)) rfl rfl hO0 rfl (Nat.le_of_ble_eq_true rfl) rfl ⟨rfl, rfl, rfl⟩ (fun v w8 hw8A hw8Z => ?_)
            obtain ⟨hv, h8⟩ := hw8Z
            subst hv
            generalize zj_nm M tk2 = tk3 at h8 r9
            have h88 := h8
            obtain ⟨⟨tok8, sp8, nu8, fa8, pm8, wd8, fv8, fe8, pf8, hM8, ht8, hv68, he98, hpl8⟩, hbd8, hbd28, hbd38⟩ := h8
            obtain ⟨hpm8, hpl8⟩ := hpl8
            subst hpm8
            refine zj_aload_n C (List.mem_of_getElem? (i := 88) rfl) rfl rfl rfl ?_
            refine zj_getM C (List.mem_of_getElem? (i := 89) rfl) rfl rfl rfl hM8 rfl ?_
            refine zj_iconst (v := 2) C (List.mem_of_getElem? (i := 90) rfl) rfl (by decide) ?_
            refine zj_icmp_eq (tgt := 183) C (List.mem_of_getElem? (i := 91) rfl) rfl (by decide) (fun hn => ?_) (fun hn => ?_)
            rotate_left
            · have hn : tk3.1 ≠ 27 := fun h => hn (ht8.2.2.1.mpr h)
              refine zj_aload_n C (List.mem_of_getElem? (i := 92) rfl) rfl rfl rfl ?_
              refine zj_iconst (v := 1) C (List.mem_of_getElem? (i := 93) rfl) rfl (by decide) ?_
              have hO := hM8
              obtain ⟨⟨fsO, hO0, -⟩, -⟩ := hO
              refine zj_callV (As := [.int (nI 1)]) (rest := []) C (List.mem_of_getElem? (i := 94) rfl) rfl rfl rfl (by decide) (zj_W_mono (zj_badM_W (k := 1) h88) (by decide)) rfl rfl hO0 rfl (Nat.le_of_ble_eq_true rfl) rfl ⟨rfl, rfl, rfl⟩ (fun v w9 hw9A hw9Z => ?_)
              obtain ⟨hv, h9⟩ := hw9Z
              subst hv
              exact KRi 182 _ _ _ (List.mem_of_getElem? (i := 95) rfl) (by decide) (Or.inr ⟨rfl, Or.inl rfl⟩) (hw9A.trans (hw8A.trans hA7)) (Or.inr ⟨rfl, tk3, 1, h9, zj_R_tr r9 (zj_R_st (by rw [zj_st, if_neg hn]))⟩)
            have hn : tk3.1 = 27 := ht8.2.2.1.mp hn
            refine zj_aload_n C (List.mem_of_getElem? (i := 96) rfl) rfl rfl rfl ?_
            refine zj_iload_n C (List.mem_of_getElem? (i := 97) rfl) rfl rfl rfl ?_
            refine zj_iload_n C (List.mem_of_getElem? (i := 98) rfl) rfl rfl rfl ?_
            refine zj_aload_n C (List.mem_of_getElem? (i := 99) rfl) rfl rfl rfl ?_
            refine zj_getM C (List.mem_of_getElem? (i := 100) rfl) rfl rfl rfl hM8 rfl ?_
            have hO := hM8
            obtain ⟨⟨fsO, hO0, -⟩, -⟩ := hO
            refine zj_callV (As := [.int (nI a), .int nu7, .int nu8]) (rest := []) C (List.mem_of_getElem? (i := 101) rfl) rfl rfl rfl (by decide) (zj_W_mono (zj_write_W (xa := nI a) (xb := nu7) (xc := nu8) h88 (by omega)) (by decide)) rfl rfl hO0 rfl (Nat.le_of_ble_eq_true rfl) rfl ⟨rfl, rfl, rfl⟩ (fun v w9 hw9A hw9Z => ?_)
            obtain ⟨hv, h9⟩ := hw9Z
            subst hv
            have h99 := h9
            obtain ⟨⟨tok9, sp9, nu9, fa9, pm9, wd9, fv9, fe9, pf9, hM9, -⟩, -⟩ := h99
            refine zj_aload_n C (List.mem_of_getElem? (i := 102) rfl) rfl rfl rfl ?_
            have hO := hM9
            obtain ⟨⟨fsO, hO0, -⟩, -⟩ := hO
            refine zj_callV (As := []) (rest := []) C (List.mem_of_getElem? (i := 103) rfl) rfl rfl rfl (by decide) (zj_W_mono (zj_next_m hB h9) (by decide)) rfl rfl hO0 rfl (Nat.le_of_ble_eq_true rfl) rfl ⟨rfl, rfl, rfl⟩ (fun v wa hwaA hwaZ => ?_)
            obtain ⟨hv, ha9⟩ := hwaZ
            subst hv
            exact fin _ wa _ ha9 (hwaA.trans (hw9A.trans (hw8A.trans hA7))) (zj_R_tr r9 (zj_R_st (by rw [zj_st, if_pos hn]; rfl))) rfl
          refine zj_aload_n C (List.mem_of_getElem? (i := 67) rfl) rfl rfl rfl ?_
          refine zj_bipush (v := 60) C (List.mem_of_getElem? (i := 68) rfl) rfl (by decide) ?_
          have hO := hM7
          obtain ⟨⟨fsO, hO0, -⟩, -⟩ := hO
          refine zj_callV (As := [.int (zj_sc 21)]) (rest := []) C (List.mem_of_getElem? (i := 69) rfl) rfl rfl rfl (by decide) (zj_W_mono (zj_isSign_W (k := 21) h77 (by decide) (by decide)) (by decide)) rfl rfl hO0 rfl (Nat.le_of_ble_eq_true rfl) rfl ⟨rfl, rfl, rfl⟩ (fun v w8 hw8A hw8Z => ?_)
          obtain ⟨hw8e, hv⟩ := hw8Z
          subst hw8e
          rcases hv with ⟨hv, hs21⟩ | ⟨hv, hs21⟩
          · subst hv
            refine zj_if_ne (tgt := 160) C (List.mem_of_getElem? (i := 70) rfl) rfl (by decide) (fun hd => ?_) (fun hd => ?_)
            rotate_left
            · exact absurd hd (by decide)
            exact meas (by omega)
          subst hv
          refine zj_if_ne (tgt := 160) C (List.mem_of_getElem? (i := 70) rfl) rfl (by decide) (fun hd => ?_) (fun hd => ?_)
          · exact absurd rfl hd
          refine zj_aload_n C (List.mem_of_getElem? (i := 71) rfl) rfl rfl rfl ?_
          refine zj_bipush (v := 61) C (List.mem_of_getElem? (i := 72) rfl) rfl (by decide) ?_
          have hO := hM7
          obtain ⟨⟨fsO, hO0, -⟩, -⟩ := hO
          refine zj_callV (As := [.int (zj_sc 22)]) (rest := []) C (List.mem_of_getElem? (i := 73) rfl) rfl rfl rfl (by decide) (zj_W_mono (zj_isSign_W (k := 22) h77 (by decide) (by decide)) (by decide)) rfl rfl hO0 rfl (Nat.le_of_ble_eq_true rfl) rfl ⟨rfl, rfl, rfl⟩ (fun v w8 hw8A hw8Z => ?_)
          obtain ⟨hw8e, hv⟩ := hw8Z
          subst hw8e
          rcases hv with ⟨hv, hs22⟩ | ⟨hv, hs22⟩
          · subst hv
            refine zj_if_ne (tgt := 160) C (List.mem_of_getElem? (i := 74) rfl) rfl (by decide) (fun hd => ?_) (fun hd => ?_)
            rotate_left
            · exact absurd hd (by decide)
            exact meas (by omega)
          subst hv
          refine zj_if_ne (tgt := 160) C (List.mem_of_getElem? (i := 74) rfl) rfl (by decide) (fun hd => ?_) (fun hd => ?_)
          · exact absurd rfl hd
          refine zj_aload_n C (List.mem_of_getElem? (i := 75) rfl) rfl rfl rfl ?_
          refine zj_bipush (v := 62) C (List.mem_of_getElem? (i := 76) rfl) rfl (by decide) ?_
          have hO := hM7
          obtain ⟨⟨fsO, hO0, -⟩, -⟩ := hO
          refine zj_callV (As := [.int (zj_sc 23)]) (rest := []) C (List.mem_of_getElem? (i := 77) rfl) rfl rfl rfl (by decide) (zj_W_mono (zj_isSign_W (k := 23) h77 (by decide) (by decide)) (by decide)) rfl rfl hO0 rfl (Nat.le_of_ble_eq_true rfl) rfl ⟨rfl, rfl, rfl⟩ (fun v w8 hw8A hw8Z => ?_)
          obtain ⟨hw8e, hv⟩ := hw8Z
          subst hw8e
          rcases hv with ⟨hv, hs23⟩ | ⟨hv, hs23⟩
          · subst hv
            refine zj_if_ne (tgt := 160) C (List.mem_of_getElem? (i := 78) rfl) rfl (by decide) (fun hd => ?_) (fun hd => ?_)
            rotate_left
            · exact absurd hd (by decide)
            exact meas (by omega)
          subst hv
          refine zj_if_ne (tgt := 160) C (List.mem_of_getElem? (i := 78) rfl) rfl (by decide) (fun hd => ?_) (fun hd => ?_)
          · exact absurd rfl hd
          refine zj_aload_n C (List.mem_of_getElem? (i := 79) rfl) rfl rfl rfl ?_
          refine zj_iconst (v := 1) C (List.mem_of_getElem? (i := 80) rfl) rfl (by decide) ?_
          have hO := hM7
          obtain ⟨⟨fsO, hO0, -⟩, -⟩ := hO
          refine zj_callV (As := [.int (nI 1)]) (rest := []) C (List.mem_of_getElem? (i := 81) rfl) rfl rfl rfl (by decide) (zj_W_mono (zj_badM_W (k := 1) h77) (by decide)) rfl rfl hO0 rfl (Nat.le_of_ble_eq_true rfl) rfl ⟨rfl, rfl, rfl⟩ (fun v w8 hw8A hw8Z => ?_)
          obtain ⟨hv, h9⟩ := hw8Z
          subst hv
          exact KRi 159 _ _ _ (List.mem_of_getElem? (i := 82) rfl) (by decide) (Or.inr ⟨rfl, Or.inl rfl⟩) (hw8A.trans hA7) (Or.inr ⟨rfl, tk2, 1, h9, zj_R_tr r8 (zj_R_st (by rw [zj_st, if_neg (by omega)]))⟩)
        have hna : ¬ (11 ≤ tk.1 ∧ tk.1 ≤ 20) := by
          rcases hav with ⟨a1, a2, a3⟩ | ⟨a1, -⟩
          · exact absurd (by rw [a3]; exact nI_pos' (by omega)) ha
          · exact a1
        have push : ∀ (xv : Nat), (xv = 20 ∧ tk.1 = 10 ∨ xv = 23 ∧ tk.1 = 25) → zj_go p l e R s mi args below meth c Q D A (zx_mV zx_m161.2.1) 97 [(2, .int av), (1, .int nv), (0, .ref M.aM)] [.int (nI xv), .int (nI P.length), .ref (M.ad 36)] w7 := by
          intro xv hxv
          refine zj_iasP C (List.mem_of_getElem? (i := 50) rfl) rfl hM7 (vp_in_nI (by omega) (by decide)) (fun w8 hw8M hw8A => ?_)
          rw [nI_clamp (by omega)] at hw8M
          refine zj_aload_n C (List.mem_of_getElem? (i := 51) rfl) rfl rfl rfl ?_
          refine zj_dup C (List.mem_of_getElem? (i := 52) rfl) rfl rfl ?_
          refine zj_getM C (List.mem_of_getElem? (i := 53) rfl) rfl rfl rfl hw8M rfl ?_
          refine zj_iconst (v := 1) C (List.mem_of_getElem? (i := 54) rfl) rfl (by decide) ?_
          refine zj_iadd (v := (nI (P.length + 1))) C (List.mem_of_getElem? (i := 55) rfl) rfl (nI_1 _) ?_
          refine zj_putM (L' := (zj_ML M (nI M.t) (nI tk2.2.2.2) tok7 (nI tk2.2.2.1) sp7 nu7 wd7 0 fa7 (nI d1) (nI (o2 + 1)) (nI st) (nI (P.length + 1)))) C (List.mem_of_getElem? (i := 56) rfl) rfl rfl rfl hw8M (Nat.le_of_ble_eq_true rfl) (by decide) rfl (zj_fit_i rfl _) (by unfold zj_ML; repeat first | exact zj_sub_nil | refine zj_sub_cons rfl ?_) (fun w9 hw9M hw9A => ?_)
          refine zj_goto (tgt := 0) C (List.mem_of_getElem? (i := 57) rfl) (by decide) ?_
          have h9 : zj_mr true M w9 tk2 d1 l1 f1 (o2 + 1) st (xv :: P) 0 := ⟨⟨tok7, sp7, nu7, fa7, _, wd7, fv7, fe7, _, hw9M, ht7, hv67, he97, rfl, zj_pl_push (by omega) hpl7⟩, hbd7, hbd27, by omega, by rw [List.length_cons]; omega, by rw [List.length_cons]; omega⟩
          refine ih tk2 (o2 + 1) st (xv :: P) w9 _ (by omega) (by omega) h9 (hw9A.trans (hw8A.trans hA7)) (zj_wf_cons hw (fun h => by omega)) ?_ ?_ rfl
          · rw [zj_os]
            split
            · rw [List.length_cons]; omega
            · split
              · rw [List.length_cons]; omega
              · omega
          · rcases hxv with ⟨rfl, hx⟩ | ⟨rfl, hx⟩
            · exact zj_R_tr r0 (hr7.1 hx)
            · exact zj_R_tr r0 (hr7.2.1 hx)
        refine zj_aload_n C (List.mem_of_getElem? (i := 41) rfl) rfl rfl rfl ?_
        refine zj_getM C (List.mem_of_getElem? (i := 42) rfl) rfl rfl rfl hM7 rfl ?_
        refine zj_aload_n C (List.mem_of_getElem? (i := 43) rfl) rfl rfl rfl ?_
        refine zj_getM C (List.mem_of_getElem? (i := 44) rfl) rfl rfl rfl hM7 rfl ?_
        refine zj_iload_n C (List.mem_of_getElem? (i := 45) rfl) rfl rfl rfl ?_
        refine zj_if_eq (tgt := 95) C (List.mem_of_getElem? (i := 46) rfl) rfl (by decide) (fun hq => ?_) (fun hq => ?_)
        · have hnv0 : tk.1 ≠ 10 := by
            rcases hnv with h | h
            · rw [h.1] at hq; exact absurd hq (by decide)
            · exact h.2
          refine zj_bipush (v := 23) C (List.mem_of_getElem? (i := 49) rfl) rfl (by decide) ?_
          exact push 23 (Or.inr ⟨rfl, by omega⟩)
        have hnv1 : tk.1 = 10 := by
          rcases hnv with h | h
          · exact h.2
          · exact absurd h.1 hq
        refine zj_bipush (v := 20) C (List.mem_of_getElem? (i := 47) rfl) rfl (by decide) ?_
        refine zj_goto (tgt := 97) C (List.mem_of_getElem? (i := 48) rfl) (by decide) ?_
        exact push 20 (Or.inl ⟨rfl, hnv1⟩)
      refine zj_perm1 C hlv ?_
      refine zj_aload_n C (List.mem_of_getElem? (i := 0) rfl) rfl rfl rfl ?_
      refine zj_ldc2 (v := zj_wc 10) C (List.mem_of_getElem? (i := 1) rfl) rfl (zj_long hown (k := 10) (ix := 405) (by decide)) ?_
      have hO := hM
      obtain ⟨⟨fsO, hO0, -⟩, -⟩ := hO
      refine zj_callV (As := [.long (zj_wc 10)]) (rest := []) C (List.mem_of_getElem? (i := 2) rfl) rfl rfl rfl (by decide) (zj_W_mono (zj_isWord_W (k := 10) h00 (by decide)) (by decide)) rfl rfl hO0 rfl (Nat.le_of_ble_eq_true rfl) rfl ⟨rfl, rfl, rfl⟩ (fun v w2 hw2A hw2Z => ?_)
      obtain ⟨hw, hv⟩ := hw2Z
      subst hw
      rcases hv with ⟨hv, hc10⟩ | ⟨hv, hc10⟩
      · subst hv
        refine zj_istore_n C (List.mem_of_getElem? (i := 3) rfl) rfl rfl (by decide) rfl ?_
        refine zj_aload_n C (List.mem_of_getElem? (i := 4) rfl) rfl rfl rfl ?_
        have hO := hM
        obtain ⟨⟨fsO, hO0, -⟩, -⟩ := hO
        refine zj_callV (As := []) (rest := []) C (List.mem_of_getElem? (i := 5) rfl) rfl rfl rfl (by decide) (zj_W_mono (zj_atom_W h00) (by decide)) rfl rfl hO0 rfl (Nat.le_of_ble_eq_true rfl) rfl ⟨rfl, rfl, rfl⟩ (fun v w3 hw3A hw3Z => ?_)
        obtain ⟨hw3e, hv⟩ := hw3Z
        subst hw3e
        have hat : ∃ av : Int32, v = some (.int av) ∧ ((11 ≤ tk.1 ∧ tk.1 ≤ 20 ∧ av = nI (tk.1 - 11)) ∨ (¬ (11 ≤ tk.1 ∧ tk.1 ≤ 20) ∧ av = -1)) := by
          rcases hv with ⟨a, a1, a2, a3⟩ | ⟨a1, a2⟩
          · exact ⟨nI a, a3, Or.inl ⟨by omega, by omega, by rw [a1, Nat.add_sub_cancel_left]⟩⟩
          · exact ⟨-1, a2, Or.inr ⟨a1, rfl⟩⟩
        obtain ⟨av, hv, hav⟩ := hat
        subst hv
        refine zj_istore_n C (List.mem_of_getElem? (i := 6) rfl) rfl rfl (by decide) rfl ?_
        refine zj_iload_n C (List.mem_of_getElem? (i := 7) rfl) rfl rfl rfl ?_
        refine zj_if_ne (tgt := 36) C (List.mem_of_getElem? (i := 8) rfl) rfl (by decide) (fun hd => ?_) (fun hd => ?_)
        rotate_left
        · exact absurd hd (by decide)
        exact begun 1 av _ hav (Or.inl hc10) (Or.inl ⟨rfl, hc10⟩) rfl rfl rfl
      · subst hv
        refine zj_istore_n C (List.mem_of_getElem? (i := 3) rfl) rfl rfl (by decide) rfl ?_
        refine zj_aload_n C (List.mem_of_getElem? (i := 4) rfl) rfl rfl rfl ?_
        have hO := hM
        obtain ⟨⟨fsO, hO0, -⟩, -⟩ := hO
        refine zj_callV (As := []) (rest := []) C (List.mem_of_getElem? (i := 5) rfl) rfl rfl rfl (by decide) (zj_W_mono (zj_atom_W h00) (by decide)) rfl rfl hO0 rfl (Nat.le_of_ble_eq_true rfl) rfl ⟨rfl, rfl, rfl⟩ (fun v w3 hw3A hw3Z => ?_)
        obtain ⟨hw3e, hv⟩ := hw3Z
        subst hw3e
        have hat : ∃ av : Int32, v = some (.int av) ∧ ((11 ≤ tk.1 ∧ tk.1 ≤ 20 ∧ av = nI (tk.1 - 11)) ∨ (¬ (11 ≤ tk.1 ∧ tk.1 ≤ 20) ∧ av = -1)) := by
          rcases hv with ⟨a, a1, a2, a3⟩ | ⟨a1, a2⟩
          · exact ⟨nI a, a3, Or.inl ⟨by omega, by omega, by rw [a1, Nat.add_sub_cancel_left]⟩⟩
          · exact ⟨-1, a2, Or.inr ⟨a1, rfl⟩⟩
        obtain ⟨av, hv, hav⟩ := hat
        subst hv
        refine zj_istore_n C (List.mem_of_getElem? (i := 6) rfl) rfl rfl (by decide) rfl ?_
        refine zj_iload_n C (List.mem_of_getElem? (i := 7) rfl) rfl rfl rfl ?_
        refine zj_if_ne (tgt := 36) C (List.mem_of_getElem? (i := 8) rfl) rfl (by decide) (fun hd => ?_) (fun hd => ?_)
        · exact absurd rfl hd
        refine zj_iload_n C (List.mem_of_getElem? (i := 9) rfl) rfl rfl rfl ?_
        refine zj_if_ge (tgt := 36) C (List.mem_of_getElem? (i := 10) rfl) rfl (by decide) (fun ha => ?_) (fun ha => ?_)
        · refine begun 0 av _ hav ?_ (Or.inr ⟨rfl, hc10⟩) rfl rfl rfl
          rcases hav with ⟨a1, a2, -⟩ | ⟨-, a2⟩
          · exact Or.inr (Or.inl ⟨a1, a2⟩)
          · rw [a2] at ha; exact absurd ha (by decide)
        have ha : ¬ (11 ≤ tk.1 ∧ tk.1 ≤ 20) := by
          rcases hav with ⟨a1, a2, a3⟩ | ⟨a1, -⟩
          · exact absurd (by rw [a3]; exact nI_pos' (by omega)) ha
          · exact a1
        refine zj_aload_n C (List.mem_of_getElem? (i := 11) rfl) rfl rfl rfl ?_
        refine zj_bipush (v := 40) C (List.mem_of_getElem? (i := 12) rfl) rfl (by decide) ?_
        have hO := hM
        obtain ⟨⟨fsO, hO0, -⟩, -⟩ := hO
        refine zj_callV (As := [.int (zj_sc 25)]) (rest := []) C (List.mem_of_getElem? (i := 13) rfl) rfl rfl rfl (by decide) (zj_W_mono (zj_isSign_W (k := 25) h00 (by decide) (by decide)) (by decide)) rfl rfl hO0 rfl (Nat.le_of_ble_eq_true rfl) rfl ⟨rfl, rfl, rfl⟩ (fun v w4 hw4A hw4Z => ?_)
        obtain ⟨hw4e, hv⟩ := hw4Z
        subst hw4e
        rcases hv with ⟨hv, hc25⟩ | ⟨hv, hc25⟩
        · subst hv
          refine zj_if_ne (tgt := 36) C (List.mem_of_getElem? (i := 14) rfl) rfl (by decide) (fun hd2 => ?_) (fun hd2 => ?_)
          rotate_left
          · exact absurd hd2 (by decide)
          exact begun 0 av _ hav (Or.inr (Or.inr hc25)) (Or.inr ⟨rfl, hc10⟩) rfl rfl rfl
        subst hv
        refine zj_if_ne (tgt := 36) C (List.mem_of_getElem? (i := 14) rfl) rfl (by decide) (fun hd2 => ?_) (fun hd2 => ?_)
        · exact absurd rfl hd2
        refine zj_aload_n C (List.mem_of_getElem? (i := 15) rfl) rfl rfl rfl ?_
        refine zj_iconst (v := 1) C (List.mem_of_getElem? (i := 16) rfl) rfl (by decide) ?_
        have hO := hM
        obtain ⟨⟨fsO, hO0, -⟩, -⟩ := hO
        refine zj_callV (As := [.int (nI 1)]) (rest := []) C (List.mem_of_getElem? (i := 17) rfl) rfl rfl rfl (by decide) (zj_W_mono (zj_badM_W (k := 1) h00) (by decide)) rfl rfl hO0 rfl (Nat.le_of_ble_eq_true rfl) rfl ⟨rfl, rfl, rfl⟩ (fun v w5 hw5A hw5Z => ?_)
        obtain ⟨hv, h9⟩ := hw5Z
        subst hv
        exact KRi 35 _ _ _ (List.mem_of_getElem? (i := 18) rfl) (by decide) (Or.inr ⟨rfl, Or.inl rfl⟩) (hw5A.trans hA) (Or.inr ⟨rfl, tk, 1, h9, zj_R_tr r0 (zj_R_st (by rw [zj_st, if_pos (by omega)]))⟩)
  exact loop 40 tk o1 st P ws _ (by omega) (Nat.le_refl _) h0 rfl hw hs r0 rfl
end
