noncomputable section
/-! zj: all of the reading -/
/-- the paper, whatever it says -/
def zj_pg (K : zj_K) (ws : va_W) (aL aS aB aN : Nat) (r : List Value) : Prop := ws[K.I 0]? = some (K.aP, .inr (1, .ref aL :: .ref aS :: .ref aB :: .ref aN :: r)) ∧ (∃ f, zj_row K.tys ws (K.I 1) aL 4 .int f) ∧ (∃ f, zj_row K.tys ws (K.I 2) aS 8 .int f) ∧ (∃ f, zj_row K.tys ws (K.I 3) aB 9 .int f) ∧ ∃ f, zj_row K.tys ws (K.I 4) aN 80 .int f
theorem zj_pg_keep {K : zj_K} {ws ws' : va_W} {aL aS aB aN : Nat} {r : List Value} (hk : ∀ j, j < 5 → ws'[K.I j]? = ws[K.I j]?) (h : zj_pg K ws aL aS aB aN r) : zj_pg K ws' aL aS aB aN r := by
  obtain ⟨h0, ⟨f1, h1⟩, ⟨f2, h2⟩, ⟨f3, h3⟩, f4, h4⟩ := h
  exact ⟨(hk 0 (by decide)).trans h0, ⟨f1, zj_row_keep h1 (hk 1 (by decide))⟩, ⟨f2, zj_row_keep h2 (hk 2 (by decide))⟩, ⟨f3, zj_row_keep h3 (hk 3 (by decide))⟩, f4, zj_row_keep h4 (hk 4 (by decide))⟩
section ZKP
variable {p : Program} {l : Launch} {e : Env} {R : Room} {s : State} {mi : MethodId} {args : Array Value} {below : List Frame} {meth : Method} {c : Code} {Q : State → Prop} {D : va_G} {A : Nat → Prop} {ex : List Nat} {nL : Nat} {own : String} {cc : ByteArray} {d : Nat} {md : zx_MD}
variable {pc n : Nat} {lv lv' : List (Nat × Value)} {kc : List Value} {ws : va_W}
variable {K : zj_K}
/-- a number of the paper is written -/
theorem zj_putP (C : zj_cx p R s mi args meth c A ex nL own cc d md D K.tys) (hB : zj_Kok K) {ix k aL aS aB aN : Nat} {q : Nat × Nat × Nat × Bool} {r : List Value} {v : Value} (hd : (pc, Instr.putfield ix, 3) ∈ md.1) (hn : pc + 3 = n) (hq : zx_mF md.2.1 ix = some q) (hR : zj_pg K ws aL aS aB aN r) (hc : q.1 = 1) (hk : q.2.1 = k + 4) (hl2 : k < r.length) (hf : q.2.2.2 = false) (hfit : ∀ ty, zx_tag ty = q.2.2.1 → narrow ty v = v ∧ fits ty v = true) (h : ∀ ws', zj_pg K ws' aL aS aB aN (r.set k v) → zx_as ws' = zx_as ws → (∀ i, (∀ j, j < 5 → i ≠ K.I j) → ws'[i]? = ws[i]?) → zj_go p l e R s mi args below meth c Q D A nL n lv kc ws') : zj_go p l e R s mi args below meth c Q D A nL pc lv (v :: .ref K.aP :: kc) ws := by
  obtain ⟨h0, ⟨f1, h1⟩, ⟨f2, h2⟩, ⟨f3, h3⟩, f4, h4⟩ := hR
  have hJ := hB.2.2.2.2.2.1
  refine zj_put C hd hn hq h0 hc.symm (by rw [hk]; simp only [List.length_cons]; omega) hf hfit ?_
  rw [hk]
  have hlt := (List.getElem?_eq_some_iff.mp h0).1
  have hne : ∀ j, 0 < j → j < 5 → K.I 0 ≠ K.I j := fun j h5 h6 h7 => absurd (hJ _ _ (by decide) h6 h7) (by omega)
  refine h _ ⟨?_, ⟨f1, zj_row_keep h1 (List.getElem?_set_ne (hne 1 (by decide) (by decide)))⟩, ⟨f2, zj_row_keep h2 (List.getElem?_set_ne (hne 2 (by decide) (by decide)))⟩, ⟨f3, zj_row_keep h3 (List.getElem?_set_ne (hne 3 (by decide) (by decide)))⟩, f4, zj_row_keep h4 (List.getElem?_set_ne (hne 4 (by decide) (by decide)))⟩ (zx_as_set h0) (fun i hi => List.getElem?_set_ne (fun h9 => ?_))
  · rw [List.getElem?_set]
    simp only [if_true]
    rw [if_pos hlt]
    rfl
  · exact hi 0 (by decide) h9.symm
/-- a limit of the paper is written -/
theorem zj_iastP (C : zj_cx p R s mi args meth c A ex nL own cc d md D K.tys) (hB : zj_Kok K) {aL aS aB aN : Nat} {r : List Value} {i x : Int32} (hd : (pc, Instr.iastore, 1) ∈ md.1) (hn : pc + 1 = n) (hR : zj_pg K ws aL aS aB aN r) (hi : vp_in i 4) (h : ∀ ws', zj_pg K ws' aL aS aB aN r → zx_as ws' = zx_as ws → (∀ i, (∀ j, j < 5 → i ≠ K.I j) → ws'[i]? = ws[i]?) → zj_go p l e R s mi args below meth c Q D A nL n lv kc ws') : zj_go p l e R s mi args below meth c Q D A nL pc lv (.int x :: .int i :: .ref aL :: kc) ws := by
  obtain ⟨h0, ⟨f1, h1⟩, ⟨f2, h2⟩, ⟨f3, h3⟩, f4, h4⟩ := hR
  have hJ := hB.2.2.2.2.2.1
  have hne : ∀ j, j ≠ 1 → j < 5 → K.I 1 ≠ K.I j := fun j h5 h6 h7 => h5 (hJ _ _ (by decide) h6 h7).symm
  refine zj_iast C hd hn h1 hi (fun cA hcA => ?_)
  refine h _ ⟨(List.getElem?_set_ne (hne 0 (by decide) (by decide))).trans h0, ⟨_, zj_row_set h1 hcA⟩, ⟨f2, zj_row_keep h2 (List.getElem?_set_ne (hne 2 (by decide) (by decide)))⟩, ⟨f3, zj_row_keep h3 (List.getElem?_set_ne (hne 3 (by decide) (by decide)))⟩, f4, zj_row_keep h4 (List.getElem?_set_ne (hne 4 (by decide) (by decide)))⟩ (zx_as_set hcA) (fun i hi => List.getElem?_set_ne (fun h9 => ?_))
  exact hi 1 (by decide) h9.symm
end ZKP
theorem zj_blank_W {l : Launch} {K : zj_K} {ws0 : va_W} {aL aS aB aN : Nat} {v4 v5 v6 v7 v8 : Int32} (hB : zj_Kok K) (h0 : zj_pg K ws0 aL aS aB aN [.int v4, .int v5, .int v6, .int v7, .int v8]) : zj_W l 1 3 (zj_KX K [.ref K.aP] ws0) (fun _ _ _ v ws' => v = none ∧ zj_pg K ws' aL aS aB aN [.int 0, .int 0, .int 0, .int 0, .int 0] ∧ (∀ i, (∀ j, j < 5 → i ≠ K.I j) → ws'[i]? = ws0[i]?)) := by
  refine zj_enterW (md := zx_m3) rfl rfl ?_ ?_
  · rintro ex tys av ws ⟨-, -, rfl, -⟩
    exact Nat.le_of_ble_eq_true rfl
  intro p e R s mi args below meth c Q D A ex nL own cc tys ws av hX C hnL KRi KRv KRa
  subst hnL
  obtain ⟨h1, h2, h3, h4⟩ := hX
  subst h1
  subst h2
  subst h3
  subst h4
  refine zj_aload_n C (List.mem_of_getElem? (i := 0) rfl) rfl rfl rfl ?_
  refine zj_get C (List.mem_of_getElem? (i := 1) rfl) rfl rfl h0.1 rfl rfl ?_
  refine zj_iconst (v := 0) C (List.mem_of_getElem? (i := 2) rfl) rfl (by decide) ?_
  refine zj_bipush (v := 12) C (List.mem_of_getElem? (i := 3) rfl) rfl (by decide) ?_
  refine zj_iastP C hB (List.mem_of_getElem? (i := 4) rfl) rfl h0 (vp_in_nI (n := 0) (by decide) (by decide)) (fun b1 hb1 hAb1 hFb1 => ?_)
  refine zj_aload_n C (List.mem_of_getElem? (i := 5) rfl) rfl rfl rfl ?_
  refine zj_get C (List.mem_of_getElem? (i := 6) rfl) rfl rfl hb1.1 rfl rfl ?_
  refine zj_iconst (v := 1) C (List.mem_of_getElem? (i := 7) rfl) rfl (by decide) ?_
  refine zj_bipush (v := 8) C (List.mem_of_getElem? (i := 8) rfl) rfl (by decide) ?_
  refine zj_iastP C hB (List.mem_of_getElem? (i := 9) rfl) rfl hb1 (vp_in_nI (n := 1) (by decide) (by decide)) (fun b2 hb2 hAb2 hFb2 => ?_)
  refine zj_aload_n C (List.mem_of_getElem? (i := 10) rfl) rfl rfl rfl ?_
  refine zj_get C (List.mem_of_getElem? (i := 11) rfl) rfl rfl hb2.1 rfl rfl ?_
  refine zj_iconst (v := 2) C (List.mem_of_getElem? (i := 12) rfl) rfl (by decide) ?_
  refine zj_iconst (v := 4) C (List.mem_of_getElem? (i := 13) rfl) rfl (by decide) ?_
  refine zj_iastP C hB (List.mem_of_getElem? (i := 14) rfl) rfl hb2 (vp_in_nI (n := 2) (by decide) (by decide)) (fun b3 hb3 hAb3 hFb3 => ?_)
  refine zj_aload_n C (List.mem_of_getElem? (i := 15) rfl) rfl rfl rfl ?_
  refine zj_get C (List.mem_of_getElem? (i := 16) rfl) rfl rfl hb3.1 rfl rfl ?_
  refine zj_iconst (v := 3) C (List.mem_of_getElem? (i := 17) rfl) rfl (by decide) ?_
  refine zj_bipush (v := 100) C (List.mem_of_getElem? (i := 18) rfl) rfl (by decide) ?_
  refine zj_iastP C hB (List.mem_of_getElem? (i := 19) rfl) rfl hb3 (vp_in_nI (n := 3) (by decide) (by decide)) (fun b4 hb4 hAb4 hFb4 => ?_)
  refine zj_aload_n C (List.mem_of_getElem? (i := 20) rfl) rfl rfl rfl ?_
  refine zj_iconst (v := 0) C (List.mem_of_getElem? (i := 21) rfl) rfl (by decide) ?_
  refine zj_putP (k := 0) C hB (List.mem_of_getElem? (i := 22) rfl) rfl rfl hb4 rfl rfl (Nat.le_of_ble_eq_true rfl) rfl (zj_fit_i rfl _) (fun b5 hb5 hAb5 hFb5 => ?_)
  refine zj_aload_n C (List.mem_of_getElem? (i := 23) rfl) rfl rfl rfl ?_
  refine zj_iconst (v := 0) C (List.mem_of_getElem? (i := 24) rfl) rfl (by decide) ?_
  refine zj_putP (k := 1) C hB (List.mem_of_getElem? (i := 25) rfl) rfl rfl hb5 rfl rfl (Nat.le_of_ble_eq_true rfl) rfl (zj_fit_i rfl _) (fun b6 hb6 hAb6 hFb6 => ?_)
  refine zj_aload_n C (List.mem_of_getElem? (i := 26) rfl) rfl rfl rfl ?_
  refine zj_iconst (v := 0) C (List.mem_of_getElem? (i := 27) rfl) rfl (by decide) ?_
  refine zj_putP (k := 2) C hB (List.mem_of_getElem? (i := 28) rfl) rfl rfl hb6 rfl rfl (Nat.le_of_ble_eq_true rfl) rfl (zj_fit_i rfl _) (fun b7 hb7 hAb7 hFb7 => ?_)
  refine zj_aload_n C (List.mem_of_getElem? (i := 29) rfl) rfl rfl rfl ?_
  refine zj_iconst (v := 0) C (List.mem_of_getElem? (i := 30) rfl) rfl (by decide) ?_
  refine zj_putP (k := 3) C hB (List.mem_of_getElem? (i := 31) rfl) rfl rfl hb7 rfl rfl (Nat.le_of_ble_eq_true rfl) rfl (zj_fit_i rfl _) (fun b8 hb8 hAb8 hFb8 => ?_)
  refine zj_aload_n C (List.mem_of_getElem? (i := 32) rfl) rfl rfl rfl ?_
  refine zj_iconst (v := 0) C (List.mem_of_getElem? (i := 33) rfl) rfl (by decide) ?_
  refine zj_putP (k := 4) C hB (List.mem_of_getElem? (i := 34) rfl) rfl rfl hb8 rfl rfl (Nat.le_of_ble_eq_true rfl) rfl (zj_fit_i rfl _) (fun b9 hb9 hAb9 hFb9 => ?_)
  exact KRv 56 _ _ (List.mem_of_getElem? (i := 35) rfl) rfl ((hAb9).trans (((hAb8).trans (((hAb7).trans (((hAb6).trans (((hAb5).trans (((hAb4).trans (((hAb3).trans (((hAb2).trans (hAb1)))))))))))))))) ⟨rfl, hb9, fun i hi => ((hFb9 i hi).trans (((hFb8 i hi).trans (((hFb7 i hi).trans (((hFb6 i hi).trans (((hFb5 i hi).trans (((hFb4 i hi).trans (((hFb3 i hi).trans (((hFb2 i hi).trans (hFb1 i hi))))))))))))))))⟩
/-- the first token: the reader may hold anything -/
theorem zj_first_W {l : Launch} {K : zj_K} {ws0 : va_W} {aL aS aB aN k6 : Nat} {pl0 x0 : Int32} (hB : zj_Kok K) (hR : zj_RS K.tys ws0 K.aR K.aT K.fT [.int (nI K.t), .int (nI 0), .int pl0, .int x0, .int (nI 0), .ref k6, .ref K.aP, .int 0]) (hP : zj_pg K ws0 aL aS aB aN [.int 0, .int 0, .int 0, .int 0, .int 0]) (hF : zj_frm K ws0) : zj_W l 10 27 (zj_KX K [.ref K.aR] ws0) (fun _ _ _ v ws' => v = none ∧ zj_rd K ws' (zj_tk (zj_g K) K.t 0) 0 0 0 0 0) := by
  refine zj_W_imp (zj_advance_W (p0 := 0) (pl0 := pl0) (ex0 := K.ex) (ak := K.ak) hR hB.1 (Nat.zero_le _) hB.2.1 hB.2.2.1) ?_
  rintro ex av ws v ws' ⟨rfl, hK, x', hR', hx'⟩
  have hok := zj_tk_ok (g := zj_g K) (Nat.zero_le K.t)
  obtain ⟨h0, ⟨f1, h1⟩, ⟨f2, h2⟩, ⟨f3, h3⟩, f4, h4⟩ := hP
  have hI := hB.2.2.2.2.1
  have hPP : zj_pap K ws0 0 0 0 := ⟨aL, aS, aB, aN, f1, f2, f3, f4, 0, 0, h0, h1, h2, h3, h4, ⟨Int.le_refl _, hF⟩, by decide, by decide, by decide⟩
  exact ⟨rfl, ⟨x', hR', hx'⟩, zj_pap_keep hB hK hPP, hok.1, hok.2, Nat.zero_le _⟩
/-- how many are told -/
def zj_cnt (d : Nat) : Nat := (if d.testBit 0 = true then 1 else 0) + (if d.testBit 1 = true then 1 else 0) + (if d.testBit 2 = true then 1 else 0) + (if d.testBit 3 = true then 1 else 0)
theorem zj_cnt_le (d : Nat) : zj_cnt d ≤ 4 := by
  unfold zj_cnt
  split <;> split <;> split <;> split <;> decide
theorem zj_cnt_s : ∀ d, d < 16 → ∀ k, k < 4 → d.testBit k = false → zj_cnt (d + 2 ^ k) = zj_cnt d + 1 := by decide
theorem zj_perm5 {p : Program} {l : Launch} {e : Env} {R : Room} {s : State} {mi : MethodId} {args : Array Value} {below : List Frame} {meth : Method} {c : Code} {Q : State → Prop} {D : va_G} {A : Nat → Prop} {ex : List Nat} {nL : Nat} {own : String} {cc : ByteArray} {d : Nat} {md : zx_MD} {tys : List (ClassId × FieldType)} {pc : Nat} {lv : List (Nat × Value)} {kc : List Value} {ws : va_W} {v0 v1 v2 v3 v4 : Value} (_ : zj_cx p R s mi args meth c A ex nL own cc d md D tys) (h4 : zj_lk lv 4 = some v4) (h3 : zj_lk lv 3 = some v3) (h0 : zj_lk lv 0 = some v0) (h1 : zj_lk lv 1 = some v1) (h2 : zj_lk lv 2 = some v2) (h : zj_go p l e R s mi args below meth c Q D A nL pc [(4, v4), (3, v3), (0, v0), (1, v1), (2, v2)] kc ws) : zj_go p l e R s mi args below meth c Q D A nL pc lv kc ws :=
  fun H locs ls hP hD hS hv => h H locs ls hP hD hS ⟨hv.1, hv.2.1, fun q hq => by
    simp only [List.mem_cons, List.not_mem_nil, or_false] at hq
    rcases hq with rfl | rfl | rfl | rfl | rfl
    · exact hv.2.2 _ (zj_lk_mem h4)
    · exact hv.2.2 _ (zj_lk_mem h3)
    · exact hv.2.2 _ (zj_lk_mem h0)
    · exact hv.2.2 _ (zj_lk_mem h1)
    · exact hv.2.2 _ (zj_lk_mem h2)⟩
set_option maxHeartbeats 4000000 in
theorem zj_read_W {l : Launch} {K : zj_K} {ws0 : va_W} {aL aS aB aN k6 k7 : Nat} {z1 z2 z3 z4 z5 z8 v4 v5 v6 v7 v8 : Int32} (hB : zj_Kok K) (hR0 : zj_RS K.tys ws0 K.aR K.aT K.fT [.int z1, .int z2, .int z3, .int z4, .int z5, .ref k6, .ref k7, .int z8]) (hP0 : zj_pg K ws0 aL aS aB aN [.int v4, .int v5, .int v6, .int v7, .int v8]) (hF0 : zj_frm K ws0) : zj_W l 52 26 (zj_KX K [.ref K.aR, .int (nI K.t), .ref K.aP] ws0) (fun _ _ _ v ws' => ∃ (a : Int32) (k : Nat) (r : List Value), v = some (.int a) ∧ zj_R (zj_g K) K.t (0, zj_tk (zj_g K) K.t 0, 0, 0, 0, 0, 0, [], 0, 0) (zj_f a.toInt k) ∧ zj_RS K.tys ws' K.aR K.aT K.fT r ∧ r[7]? = some (.int (nI k)) ∧ zj_frm K ws' ∧ ∃ fs, ws'[K.I 0]? = some (K.aP, .inr (1, fs))) := by
  refine zj_enterW (md := zx_m26) rfl rfl ?_ ?_
  · rintro ex tys av ws ⟨-, -, rfl, -⟩
    exact Nat.le_of_ble_eq_true rfl
  intro p e R s mi args below meth c Q D A ex nL own cc tys ws av hX C hnL KRi KRv KRa
  subst hnL
  obtain ⟨h1, h2, h3, h4⟩ := hX
  subst h1
  subst h2
  subst h3
  subst h4
  have hI := hB.2.2.2.2.1
  have bad : ∀ (n : Nat) (ws1 : va_W) (tk4 : zj_T) (d4 l4 f4 o4 k4 : Nat), zx_as ws1 = zx_as ws → zj_rd K ws1 tk4 d4 l4 f4 o4 (nI k4) → zj_R (zj_g K) K.t (0, zj_tk (zj_g K) K.t 0, 0, 0, 0, 0, 0, [], 0, 0) (zj_bad tk4 k4) → zj_go p l e R s mi args below meth c Q D A (zx_mV zx_m26.2.1) 41 [(4, .int 0), (3, .int (nI n)), (0, .ref K.aR), (1, .int (nI K.t)), (2, .ref K.aP)] [] ws1 := by
    intro n ws1 tk4 d4 l4 f4 o4 k4 hA1 h4 r4
    obtain ⟨⟨x4, hR4, hx4⟩, hP4, hlt4, hle4, ho44⟩ := h4
    refine zj_iload C (List.mem_of_getElem? (i := 24) rfl) rfl rfl ?_
    refine zj_if_eq (tgt := 138) C (List.mem_of_getElem? (i := 25) rfl) rfl (by decide) (fun hb => ?_) (fun hb => ?_)
    rotate_left
    · exact absurd rfl hb
    refine zj_iload C (List.mem_of_getElem? (i := 66) rfl) rfl rfl ?_
    refine zj_if_eq (tgt := 147) C (List.mem_of_getElem? (i := 67) rfl) rfl (by decide) (fun hb2 => ?_) (fun hb2 => ?_)
    rotate_left
    · exact absurd rfl hb2
    have hpl : (-1 - nI tk4.2.2.1).toInt = -1 - (tk4.2.2.1 : Int) := by
      have h1 := hB.1
      have h2 := hle4.1
      have h3 : (nI tk4.2.2.1).toInt = (tk4.2.2.1 : Int) := nI_toInt (by omega)
      rw [zx_subI _ _ (by rw [h3]; show -2147483648 ≤ -1 - (tk4.2.2.1 : Int); omega) (by rw [h3]; show -1 - (tk4.2.2.1 : Int) ≤ 2147483647; omega), h3]
      rfl
    refine zj_iconst (v := (-1)) C (List.mem_of_getElem? (i := 70) rfl) rfl (by decide) ?_
    refine zj_aload_n C (List.mem_of_getElem? (i := 71) rfl) rfl rfl rfl ?_
    refine zj_get C (List.mem_of_getElem? (i := 72) rfl) rfl rfl hR4.1 rfl rfl ?_
    refine zj_isub (v := ((-1) - (nI tk4.2.2.1))) C (List.mem_of_getElem? (i := 73) rfl) rfl rfl ?_
    exact KRi 153 _ _ _ (List.mem_of_getElem? (i := 74) rfl) (by decide) (Or.inl rfl) hA1 ⟨_, k4, _, rfl, by rw [hpl]; exact r4, hR4, rfl, zj_pap_frm hP4⟩
  have loop : ∀ (N n : Nat) (ws1 : va_W) (tk : zj_T) (d1 l1 f1 o1 : Nat) (x1 : Int) (k1 : Nat), 18 - n ≤ N → n = zj_cnt d1 + l1 + f1 → zx_as ws1 = zx_as ws → zj_rd K ws1 tk d1 l1 f1 o1 0 → zj_R (zj_g K) K.t (0, zj_tk (zj_g K) K.t 0, 0, 0, 0, 0, 0, [], 0, 0) (0, tk, n, d1, l1, f1, o1, [], x1, k1) → zj_go p l e R s mi args below meth c Q D A (zx_mV zx_m26.2.1) 41 [(4, .int 1), (3, .int (nI n)), (0, .ref K.aR), (1, .int (nI K.t)), (2, .ref K.aP)] [] ws1 := by
    intro N
    induction N with
    | zero =>
      intro n ws1 tk d1 l1 f1 o1 x1 k1 hN hn hA1 h1 r1
      have h11 := h1
      obtain ⟨⟨x, hR, hx⟩, hP, htk, hle, ho⟩ := h1
      obtain ⟨hs1, hs2, hs3, hs4⟩ := zj_nS_i htk
      have hdlf : d1 < 16 ∧ l1 ≤ 6 ∧ f1 ≤ 8 := by
        obtain ⟨_, _, _, _, _, _, _, _, _, _, -, -, -, -, -, -, h⟩ := hP
        exact h
      have hpc := zj_cnt_le d1
      refine zj_iload C (List.mem_of_getElem? (i := 24) rfl) rfl rfl ?_
      refine zj_if_eq (tgt := 138) C (List.mem_of_getElem? (i := 25) rfl) rfl (by decide) (fun hb => ?_) (fun hb => ?_)
      · exact absurd hb (by decide)
      refine zj_aload_n C (List.mem_of_getElem? (i := 26) rfl) rfl rfl rfl ?_
      refine zj_get C (List.mem_of_getElem? (i := 27) rfl) rfl rfl hR.1 rfl rfl ?_
      refine zj_gets C (List.mem_of_getElem? (i := 28) rfl) rfl rfl (hB.2.2.1 28 (by decide)) ?_
      refine zj_acmp_eq (tgt := 138) C (List.mem_of_getElem? (i := 29) rfl) rfl (by decide) (fun hb2 => ?_) (fun hb2 => ?_)
      · have hb2 : tk.1 = 28 := hB.2.2.2.1 _ _ htk (by decide) hb2
        refine zj_iload C (List.mem_of_getElem? (i := 66) rfl) rfl rfl ?_
        refine zj_if_eq (tgt := 147) C (List.mem_of_getElem? (i := 67) rfl) rfl (by decide) (fun hd => ?_) (fun hd => ?_)
        · exact absurd hd (by decide)
        refine zj_iload_n C (List.mem_of_getElem? (i := 68) rfl) rfl rfl rfl ?_
        refine zj_goto (tgt := 153) C (List.mem_of_getElem? (i := 69) rfl) (by decide) ?_
        exact KRi 153 _ _ _ (List.mem_of_getElem? (i := 74) rfl) (by decide) (Or.inl rfl) hA1 ⟨_, 0, _, rfl, zj_R_tr r1 (zj_R_st (by rw [zj_st, if_pos hb2, nI_toInt (by omega)])), hR, rfl, zj_pap_frm hP⟩
      have hb2 : tk.1 ≠ 28 := fun h => hb2 (congrArg K.ak h)
      refine zj_iload_n C (List.mem_of_getElem? (i := 30) rfl) rfl rfl rfl ?_
      refine zj_bipush (v := 18) C (List.mem_of_getElem? (i := 31) rfl) rfl (by decide) ?_
      refine zj_icmp_gt (tgt := 138) C (List.mem_of_getElem? (i := 32) rfl) rfl (by decide) (fun hb3 => ?_) (fun hb3 => ?_)
      · exact absurd ((nI_ltI (a := 18) (b := n) (by decide) (by omega)).mp hb3) (by omega)
      refine zj_aload_n C (List.mem_of_getElem? (i := 33) rfl) rfl rfl rfl ?_
      refine zj_get C (List.mem_of_getElem? (i := 34) rfl) rfl rfl hR.1 rfl rfl ?_
      refine zj_getx (j := 0) (id := 8 + tk.1) (row := zj_tr tk.1) (v := zj_nS tk.1) C (List.mem_of_getElem? (i := 35) rfl) rfl rfl (zj_tr_mem htk) (by omega) (hB.2.2.1 _ htk) (zj_trS htk) ?_
      refine zj_iconst (v := 1) C (List.mem_of_getElem? (i := 36) rfl) rfl (by decide) ?_
      refine zj_icmp_ne (tgt := 89) C (List.mem_of_getElem? (i := 37) rfl) rfl (by decide) (fun hb4 => ?_) (fun hb4 => ?_)
      rotate_left
      · have hb4 := hs1.mp hb4
        refine zj_aload_n C (List.mem_of_getElem? (i := 38) rfl) rfl rfl rfl ?_
        refine zj_aload_n C (List.mem_of_getElem? (i := 39) rfl) rfl rfl rfl ?_
        refine zj_get C (List.mem_of_getElem? (i := 40) rfl) rfl rfl hR.1 rfl rfl ?_
        refine zj_getx (j := 0) (id := 8 + tk.1) (row := zj_tr tk.1) (v := zj_nC tk.1) C (List.mem_of_getElem? (i := 41) rfl) rfl rfl (zj_tr_mem htk) (by omega) (hB.2.2.1 _ htk) (zj_trC htk) ?_
        refine zj_callV (As := [.int (zj_nC tk.1)]) (rest := []) C (List.mem_of_getElem? (i := 42) rfl) rfl rfl rfl (by decide) (zj_W_mono (zj_limit_W (n1 := n) (s1 := []) (x1 := x1) (k1 := k1) hB h11 hb4) (by decide)) rfl rfl hR.1 rfl (Nat.le_of_ble_eq_true rfl) rfl ⟨rfl, rfl, by rw [zj_nC_lim hb4], rfl⟩ (fun v w2 hw2A hw2Z => ?_)
        rcases hw2Z with ⟨hv, tk4, d4, l4, f4, o4, h4, ⟨kd, hk4, hkb, rfl⟩, rfl, rfl, x4, k4, r4⟩ | ⟨hv, tk4, d4, l4, f4, o4, k4, h4, r4⟩
        · subst hv
          refine zj_istore C (List.mem_of_getElem? (i := 43) rfl) rfl (by decide) rfl ?_
          refine zj_goto (tgt := 132) C (List.mem_of_getElem? (i := 44) rfl) (by decide) ?_
          refine zj_iinc (k := 1) (v := (nI (n + 1))) C (List.mem_of_getElem? (i := 64) rfl) rfl rfl (nI_succ n).symm (by decide) rfl ?_
          refine zj_goto (tgt := 41) C (List.mem_of_getElem? (i := 65) rfl) (by decide) ?_
          have hpo := zj_cnt_s d1 hdlf.1 kd hk4 hkb
          have hbnd : d1 + 2 ^ kd < 16 ∧ l1 ≤ 6 ∧ f1 ≤ 8 := by
            obtain ⟨-, ⟨_, _, _, _, _, _, _, _, _, _, -, -, -, -, -, -, h⟩, -⟩ := h4
            exact h
          have hpc4 := zj_cnt_le (d1 + 2 ^ kd)
          exact absurd hN (by omega)
        · subst hv
          refine zj_istore C (List.mem_of_getElem? (i := 43) rfl) rfl (by decide) rfl ?_
          refine zj_goto (tgt := 132) C (List.mem_of_getElem? (i := 44) rfl) (by decide) ?_
          refine zj_iinc (k := 1) (v := (nI (n + 1))) C (List.mem_of_getElem? (i := 64) rfl) rfl rfl (nI_succ n).symm (by decide) rfl ?_
          refine zj_goto (tgt := 41) C (List.mem_of_getElem? (i := 65) rfl) (by decide) ?_
          refine zj_perm5 C (v4 := .int 0) (v3 := .int (nI (n + 1))) (v0 := .ref K.aR) (v1 := .int (nI K.t)) (v2 := .ref K.aP) rfl rfl rfl rfl rfl ?_
          exact bad (n + 1) _ tk4 d4 l4 f4 o4 k4 (hw2A.trans hA1) h4 (zj_R_tr r1 r4)
      have hb4 : ¬ tk.1 < 4 := fun h => hb4 (hs1.mpr h)
      refine zj_aload_n C (List.mem_of_getElem? (i := 45) rfl) rfl rfl rfl ?_
      refine zj_get C (List.mem_of_getElem? (i := 46) rfl) rfl rfl hR.1 rfl rfl ?_
      refine zj_gets C (List.mem_of_getElem? (i := 47) rfl) rfl rfl (hB.2.2.1 4 (by decide)) ?_
      refine zj_acmp_ne (tgt := 108) C (List.mem_of_getElem? (i := 48) rfl) rfl (by decide) (fun hb5 => ?_) (fun hb5 => ?_)
      rotate_left
      · have hb5 : tk.1 = 4 := hB.2.2.2.1 _ _ htk (by decide) hb5
        refine zj_aload_n C (List.mem_of_getElem? (i := 49) rfl) rfl rfl rfl ?_
        refine zj_callV (As := []) (rest := []) C (List.mem_of_getElem? (i := 50) rfl) rfl rfl rfl (by decide) (zj_W_mono (zj_leave_W (n1 := n) (s1 := []) (x1 := x1) (k1 := k1) hB h11 hb5) (by decide)) rfl rfl hR.1 rfl (Nat.le_of_ble_eq_true rfl) rfl ⟨rfl, rfl, rfl, rfl⟩ (fun v w2 hw2A hw2Z => ?_)
        rcases hw2Z with ⟨hv, tk4, d4, l4, f4, o4, h4, rfl, rfl, rfl, x4, k4, r4⟩ | ⟨hv, tk4, d4, l4, f4, o4, k4, h4, r4⟩
        · subst hv
          refine zj_istore C (List.mem_of_getElem? (i := 51) rfl) rfl (by decide) rfl ?_
          refine zj_goto (tgt := 132) C (List.mem_of_getElem? (i := 52) rfl) (by decide) ?_
          refine zj_iinc (k := 1) (v := (nI (n + 1))) C (List.mem_of_getElem? (i := 64) rfl) rfl rfl (nI_succ n).symm (by decide) rfl ?_
          refine zj_goto (tgt := 41) C (List.mem_of_getElem? (i := 65) rfl) (by decide) ?_
          skip
          have hbnd : d1 < 16 ∧ l1 + 1 ≤ 6 ∧ f1 ≤ 8 := by
            obtain ⟨-, ⟨_, _, _, _, _, _, _, _, _, _, -, -, -, -, -, -, h⟩, -⟩ := h4
            exact h
          have hpc4 := zj_cnt_le (d1)
          exact absurd hN (by omega)
        · subst hv
          refine zj_istore C (List.mem_of_getElem? (i := 51) rfl) rfl (by decide) rfl ?_
          refine zj_goto (tgt := 132) C (List.mem_of_getElem? (i := 52) rfl) (by decide) ?_
          refine zj_iinc (k := 1) (v := (nI (n + 1))) C (List.mem_of_getElem? (i := 64) rfl) rfl rfl (nI_succ n).symm (by decide) rfl ?_
          refine zj_goto (tgt := 41) C (List.mem_of_getElem? (i := 65) rfl) (by decide) ?_
          refine zj_perm5 C (v4 := .int 0) (v3 := .int (nI (n + 1))) (v0 := .ref K.aR) (v1 := .int (nI K.t)) (v2 := .ref K.aP) rfl rfl rfl rfl rfl ?_
          exact bad (n + 1) _ tk4 d4 l4 f4 o4 k4 (hw2A.trans hA1) h4 (zj_R_tr r1 r4)
      have hb5 : tk.1 ≠ 4 := fun h => hb5 (congrArg K.ak h)
      refine zj_aload_n C (List.mem_of_getElem? (i := 53) rfl) rfl rfl rfl ?_
      refine zj_get C (List.mem_of_getElem? (i := 54) rfl) rfl rfl hR.1 rfl rfl ?_
      refine zj_gets C (List.mem_of_getElem? (i := 55) rfl) rfl rfl (hB.2.2.1 6 (by decide)) ?_
      refine zj_acmp_ne (tgt := 125) C (List.mem_of_getElem? (i := 56) rfl) rfl (by decide) (fun hb6 => ?_) (fun hb6 => ?_)
      rotate_left
      · have hb6 : tk.1 = 6 := hB.2.2.2.1 _ _ htk (by decide) hb6
        refine zj_aload_n C (List.mem_of_getElem? (i := 57) rfl) rfl rfl rfl ?_
        refine zj_callV (As := []) (rest := []) C (List.mem_of_getElem? (i := 58) rfl) rfl rfl rfl (by decide) (zj_W_mono (zj_payment_W (n1 := n) (x1 := x1) (k1 := k1) hB h11 hb6) (by decide)) rfl rfl hR.1 rfl (Nat.le_of_ble_eq_true rfl) rfl ⟨rfl, rfl, rfl, rfl⟩ (fun v w2 hw2A hw2Z => ?_)
        rcases hw2Z with ⟨hv, tk4, d4, l4, f4, o4, h4, rfl, rfl, rfl, x4, k4, r4⟩ | ⟨hv, tk4, d4, l4, f4, o4, k4, h4, r4⟩
        · subst hv
          refine zj_goto (tgt := 130) C (List.mem_of_getElem? (i := 59) rfl) (by decide) ?_
          refine zj_istore C (List.mem_of_getElem? (i := 63) rfl) rfl (by decide) rfl ?_
          refine zj_iinc (k := 1) (v := (nI (n + 1))) C (List.mem_of_getElem? (i := 64) rfl) rfl rfl (nI_succ n).symm (by decide) rfl ?_
          refine zj_goto (tgt := 41) C (List.mem_of_getElem? (i := 65) rfl) (by decide) ?_
          skip
          have hbnd : d1 < 16 ∧ l1 ≤ 6 ∧ f1 + 1 ≤ 8 := by
            obtain ⟨-, ⟨_, _, _, _, _, _, _, _, _, _, -, -, -, -, -, -, h⟩, -⟩ := h4
            exact h
          have hpc4 := zj_cnt_le (d1)
          exact absurd hN (by omega)
        · subst hv
          refine zj_goto (tgt := 130) C (List.mem_of_getElem? (i := 59) rfl) (by decide) ?_
          refine zj_istore C (List.mem_of_getElem? (i := 63) rfl) rfl (by decide) rfl ?_
          refine zj_iinc (k := 1) (v := (nI (n + 1))) C (List.mem_of_getElem? (i := 64) rfl) rfl rfl (nI_succ n).symm (by decide) rfl ?_
          refine zj_goto (tgt := 41) C (List.mem_of_getElem? (i := 65) rfl) (by decide) ?_
          refine zj_perm5 C (v4 := .int 0) (v3 := .int (nI (n + 1))) (v0 := .ref K.aR) (v1 := .int (nI K.t)) (v2 := .ref K.aP) rfl rfl rfl rfl rfl ?_
          exact bad (n + 1) _ tk4 d4 l4 f4 o4 k4 (hw2A.trans hA1) h4 (zj_R_tr r1 r4)
      have hb6 : tk.1 ≠ 6 := fun h => hb6 (congrArg K.ak h)
      refine zj_aload_n C (List.mem_of_getElem? (i := 60) rfl) rfl rfl rfl ?_
      refine zj_iconst (v := 1) C (List.mem_of_getElem? (i := 61) rfl) rfl (by decide) ?_
      refine zj_callV (As := [.int 1]) (rest := []) C (List.mem_of_getElem? (i := 62) rfl) rfl rfl rfl (by decide) (zj_W_mono (zj_blame_W (kd := 1) hB h11) (by decide)) rfl rfl hR.1 rfl (Nat.le_of_ble_eq_true rfl) rfl ⟨rfl, rfl, rfl, rfl⟩ (fun v w2 hw2A hw2Z => ?_)
      obtain ⟨hv, h9⟩ := hw2Z
      subst hv
      refine zj_istore C (List.mem_of_getElem? (i := 63) rfl) rfl (by decide) rfl ?_
      refine zj_iinc (k := 1) (v := (nI (n + 1))) C (List.mem_of_getElem? (i := 64) rfl) rfl rfl (nI_succ n).symm (by decide) rfl ?_
      refine zj_goto (tgt := 41) C (List.mem_of_getElem? (i := 65) rfl) (by decide) ?_
      refine zj_perm5 C (v4 := .int 0) (v3 := .int (nI (n + 1))) (v0 := .ref K.aR) (v1 := .int (nI K.t)) (v2 := .ref K.aP) rfl rfl rfl rfl rfl ?_
      exact bad (n + 1) _ tk d1 l1 f1 o1 1 (hw2A.trans hA1) h9 (zj_R_tr r1 (zj_R_st (by rw [zj_st, if_neg hb2, if_neg (by omega), if_neg hb5, if_neg hb6])))
    | succ N ih =>
      intro n ws1 tk d1 l1 f1 o1 x1 k1 hN hn hA1 h1 r1
      have h11 := h1
      obtain ⟨⟨x, hR, hx⟩, hP, htk, hle, ho⟩ := h1
      obtain ⟨hs1, hs2, hs3, hs4⟩ := zj_nS_i htk
      have hdlf : d1 < 16 ∧ l1 ≤ 6 ∧ f1 ≤ 8 := by
        obtain ⟨_, _, _, _, _, _, _, _, _, _, -, -, -, -, -, -, h⟩ := hP
        exact h
      have hpc := zj_cnt_le d1
      refine zj_iload C (List.mem_of_getElem? (i := 24) rfl) rfl rfl ?_
      refine zj_if_eq (tgt := 138) C (List.mem_of_getElem? (i := 25) rfl) rfl (by decide) (fun hb => ?_) (fun hb => ?_)
      · exact absurd hb (by decide)
      refine zj_aload_n C (List.mem_of_getElem? (i := 26) rfl) rfl rfl rfl ?_
      refine zj_get C (List.mem_of_getElem? (i := 27) rfl) rfl rfl hR.1 rfl rfl ?_
      refine zj_gets C (List.mem_of_getElem? (i := 28) rfl) rfl rfl (hB.2.2.1 28 (by decide)) ?_
      refine zj_acmp_eq (tgt := 138) C (List.mem_of_getElem? (i := 29) rfl) rfl (by decide) (fun hb2 => ?_) (fun hb2 => ?_)
      · have hb2 : tk.1 = 28 := hB.2.2.2.1 _ _ htk (by decide) hb2
        refine zj_iload C (List.mem_of_getElem? (i := 66) rfl) rfl rfl ?_
        refine zj_if_eq (tgt := 147) C (List.mem_of_getElem? (i := 67) rfl) rfl (by decide) (fun hd => ?_) (fun hd => ?_)
        · exact absurd hd (by decide)
        refine zj_iload_n C (List.mem_of_getElem? (i := 68) rfl) rfl rfl rfl ?_
        refine zj_goto (tgt := 153) C (List.mem_of_getElem? (i := 69) rfl) (by decide) ?_
        exact KRi 153 _ _ _ (List.mem_of_getElem? (i := 74) rfl) (by decide) (Or.inl rfl) hA1 ⟨_, 0, _, rfl, zj_R_tr r1 (zj_R_st (by rw [zj_st, if_pos hb2, nI_toInt (by omega)])), hR, rfl, zj_pap_frm hP⟩
      have hb2 : tk.1 ≠ 28 := fun h => hb2 (congrArg K.ak h)
      refine zj_iload_n C (List.mem_of_getElem? (i := 30) rfl) rfl rfl rfl ?_
      refine zj_bipush (v := 18) C (List.mem_of_getElem? (i := 31) rfl) rfl (by decide) ?_
      refine zj_icmp_gt (tgt := 138) C (List.mem_of_getElem? (i := 32) rfl) rfl (by decide) (fun hb3 => ?_) (fun hb3 => ?_)
      · exact absurd ((nI_ltI (a := 18) (b := n) (by decide) (by omega)).mp hb3) (by omega)
      refine zj_aload_n C (List.mem_of_getElem? (i := 33) rfl) rfl rfl rfl ?_
      refine zj_get C (List.mem_of_getElem? (i := 34) rfl) rfl rfl hR.1 rfl rfl ?_
      refine zj_getx (j := 0) (id := 8 + tk.1) (row := zj_tr tk.1) (v := zj_nS tk.1) C (List.mem_of_getElem? (i := 35) rfl) rfl rfl (zj_tr_mem htk) (by omega) (hB.2.2.1 _ htk) (zj_trS htk) ?_
      refine zj_iconst (v := 1) C (List.mem_of_getElem? (i := 36) rfl) rfl (by decide) ?_
      refine zj_icmp_ne (tgt := 89) C (List.mem_of_getElem? (i := 37) rfl) rfl (by decide) (fun hb4 => ?_) (fun hb4 => ?_)
      rotate_left
      · have hb4 := hs1.mp hb4
        refine zj_aload_n C (List.mem_of_getElem? (i := 38) rfl) rfl rfl rfl ?_
        refine zj_aload_n C (List.mem_of_getElem? (i := 39) rfl) rfl rfl rfl ?_
        refine zj_get C (List.mem_of_getElem? (i := 40) rfl) rfl rfl hR.1 rfl rfl ?_
        refine zj_getx (j := 0) (id := 8 + tk.1) (row := zj_tr tk.1) (v := zj_nC tk.1) C (List.mem_of_getElem? (i := 41) rfl) rfl rfl (zj_tr_mem htk) (by omega) (hB.2.2.1 _ htk) (zj_trC htk) ?_
        refine zj_callV (As := [.int (zj_nC tk.1)]) (rest := []) C (List.mem_of_getElem? (i := 42) rfl) rfl rfl rfl (by decide) (zj_W_mono (zj_limit_W (n1 := n) (s1 := []) (x1 := x1) (k1 := k1) hB h11 hb4) (by decide)) rfl rfl hR.1 rfl (Nat.le_of_ble_eq_true rfl) rfl ⟨rfl, rfl, by rw [zj_nC_lim hb4], rfl⟩ (fun v w2 hw2A hw2Z => ?_)
        rcases hw2Z with ⟨hv, tk4, d4, l4, f4, o4, h4, ⟨kd, hk4, hkb, rfl⟩, rfl, rfl, x4, k4, r4⟩ | ⟨hv, tk4, d4, l4, f4, o4, k4, h4, r4⟩
        · subst hv
          refine zj_istore C (List.mem_of_getElem? (i := 43) rfl) rfl (by decide) rfl ?_
          refine zj_goto (tgt := 132) C (List.mem_of_getElem? (i := 44) rfl) (by decide) ?_
          refine zj_iinc (k := 1) (v := (nI (n + 1))) C (List.mem_of_getElem? (i := 64) rfl) rfl rfl (nI_succ n).symm (by decide) rfl ?_
          refine zj_goto (tgt := 41) C (List.mem_of_getElem? (i := 65) rfl) (by decide) ?_
          have hpo := zj_cnt_s d1 hdlf.1 kd hk4 hkb
          have hbnd : d1 + 2 ^ kd < 16 ∧ l1 ≤ 6 ∧ f1 ≤ 8 := by
            obtain ⟨-, ⟨_, _, _, _, _, _, _, _, _, _, -, -, -, -, -, -, h⟩, -⟩ := h4
            exact h
          have hpc4 := zj_cnt_le (d1 + 2 ^ kd)
          refine zj_perm5 C (v4 := .int 1) (v3 := .int (nI (n + 1))) (v0 := .ref K.aR) (v1 := .int (nI K.t)) (v2 := .ref K.aP) rfl rfl rfl rfl rfl ?_
          exact ih (n + 1) _ tk4 (d1 + 2 ^ kd) (l1) (f1) o4 x4 k4 (by omega) (by omega) (hw2A.trans hA1) h4 (zj_R_tr r1 r4)
        · subst hv
          refine zj_istore C (List.mem_of_getElem? (i := 43) rfl) rfl (by decide) rfl ?_
          refine zj_goto (tgt := 132) C (List.mem_of_getElem? (i := 44) rfl) (by decide) ?_
          refine zj_iinc (k := 1) (v := (nI (n + 1))) C (List.mem_of_getElem? (i := 64) rfl) rfl rfl (nI_succ n).symm (by decide) rfl ?_
          refine zj_goto (tgt := 41) C (List.mem_of_getElem? (i := 65) rfl) (by decide) ?_
          refine zj_perm5 C (v4 := .int 0) (v3 := .int (nI (n + 1))) (v0 := .ref K.aR) (v1 := .int (nI K.t)) (v2 := .ref K.aP) rfl rfl rfl rfl rfl ?_
          exact bad (n + 1) _ tk4 d4 l4 f4 o4 k4 (hw2A.trans hA1) h4 (zj_R_tr r1 r4)
      have hb4 : ¬ tk.1 < 4 := fun h => hb4 (hs1.mpr h)
      refine zj_aload_n C (List.mem_of_getElem? (i := 45) rfl) rfl rfl rfl ?_
      refine zj_get C (List.mem_of_getElem? (i := 46) rfl) rfl rfl hR.1 rfl rfl ?_
      refine zj_gets C (List.mem_of_getElem? (i := 47) rfl) rfl rfl (hB.2.2.1 4 (by decide)) ?_
      refine zj_acmp_ne (tgt := 108) C (List.mem_of_getElem? (i := 48) rfl) rfl (by decide) (fun hb5 => ?_) (fun hb5 => ?_)
      rotate_left
      · have hb5 : tk.1 = 4 := hB.2.2.2.1 _ _ htk (by decide) hb5
        refine zj_aload_n C (List.mem_of_getElem? (i := 49) rfl) rfl rfl rfl ?_
        refine zj_callV (As := []) (rest := []) C (List.mem_of_getElem? (i := 50) rfl) rfl rfl rfl (by decide) (zj_W_mono (zj_leave_W (n1 := n) (s1 := []) (x1 := x1) (k1 := k1) hB h11 hb5) (by decide)) rfl rfl hR.1 rfl (Nat.le_of_ble_eq_true rfl) rfl ⟨rfl, rfl, rfl, rfl⟩ (fun v w2 hw2A hw2Z => ?_)
        rcases hw2Z with ⟨hv, tk4, d4, l4, f4, o4, h4, rfl, rfl, rfl, x4, k4, r4⟩ | ⟨hv, tk4, d4, l4, f4, o4, k4, h4, r4⟩
        · subst hv
          refine zj_istore C (List.mem_of_getElem? (i := 51) rfl) rfl (by decide) rfl ?_
          refine zj_goto (tgt := 132) C (List.mem_of_getElem? (i := 52) rfl) (by decide) ?_
          refine zj_iinc (k := 1) (v := (nI (n + 1))) C (List.mem_of_getElem? (i := 64) rfl) rfl rfl (nI_succ n).symm (by decide) rfl ?_
          refine zj_goto (tgt := 41) C (List.mem_of_getElem? (i := 65) rfl) (by decide) ?_
          skip
          have hbnd : d1 < 16 ∧ l1 + 1 ≤ 6 ∧ f1 ≤ 8 := by
            obtain ⟨-, ⟨_, _, _, _, _, _, _, _, _, _, -, -, -, -, -, -, h⟩, -⟩ := h4
            exact h
          have hpc4 := zj_cnt_le (d1)
          refine zj_perm5 C (v4 := .int 1) (v3 := .int (nI (n + 1))) (v0 := .ref K.aR) (v1 := .int (nI K.t)) (v2 := .ref K.aP) rfl rfl rfl rfl rfl ?_
          exact ih (n + 1) _ tk4 (d1) (l1 + 1) (f1) o4 x4 k4 (by omega) (by omega) (hw2A.trans hA1) h4 (zj_R_tr r1 r4)
        · subst hv
          refine zj_istore C (List.mem_of_getElem? (i := 51) rfl) rfl (by decide) rfl ?_
          refine zj_goto (tgt := 132) C (List.mem_of_getElem? (i := 52) rfl) (by decide) ?_
          refine zj_iinc (k := 1) (v := (nI (n + 1))) C (List.mem_of_getElem? (i := 64) rfl) rfl rfl (nI_succ n).symm (by decide) rfl ?_
          refine zj_goto (tgt := 41) C (List.mem_of_getElem? (i := 65) rfl) (by decide) ?_
          refine zj_perm5 C (v4 := .int 0) (v3 := .int (nI (n + 1))) (v0 := .ref K.aR) (v1 := .int (nI K.t)) (v2 := .ref K.aP) rfl rfl rfl rfl rfl ?_
          exact bad (n + 1) _ tk4 d4 l4 f4 o4 k4 (hw2A.trans hA1) h4 (zj_R_tr r1 r4)
      have hb5 : tk.1 ≠ 4 := fun h => hb5 (congrArg K.ak h)
      refine zj_aload_n C (List.mem_of_getElem? (i := 53) rfl) rfl rfl rfl ?_
      refine zj_get C (List.mem_of_getElem? (i := 54) rfl) rfl rfl hR.1 rfl rfl ?_
      refine zj_gets C (List.mem_of_getElem? (i := 55) rfl) rfl rfl (hB.2.2.1 6 (by decide)) ?_
      refine zj_acmp_ne (tgt := 125) C (List.mem_of_getElem? (i := 56) rfl) rfl (by decide) (fun hb6 => ?_) (fun hb6 => ?_)
      rotate_left
      · have hb6 : tk.1 = 6 := hB.2.2.2.1 _ _ htk (by decide) hb6
        refine zj_aload_n C (List.mem_of_getElem? (i := 57) rfl) rfl rfl rfl ?_
        refine zj_callV (As := []) (rest := []) C (List.mem_of_getElem? (i := 58) rfl) rfl rfl rfl (by decide) (zj_W_mono (zj_payment_W (n1 := n) (x1 := x1) (k1 := k1) hB h11 hb6) (by decide)) rfl rfl hR.1 rfl (Nat.le_of_ble_eq_true rfl) rfl ⟨rfl, rfl, rfl, rfl⟩ (fun v w2 hw2A hw2Z => ?_)
        rcases hw2Z with ⟨hv, tk4, d4, l4, f4, o4, h4, rfl, rfl, rfl, x4, k4, r4⟩ | ⟨hv, tk4, d4, l4, f4, o4, k4, h4, r4⟩
        · subst hv
          refine zj_goto (tgt := 130) C (List.mem_of_getElem? (i := 59) rfl) (by decide) ?_
          refine zj_istore C (List.mem_of_getElem? (i := 63) rfl) rfl (by decide) rfl ?_
          refine zj_iinc (k := 1) (v := (nI (n + 1))) C (List.mem_of_getElem? (i := 64) rfl) rfl rfl (nI_succ n).symm (by decide) rfl ?_
          refine zj_goto (tgt := 41) C (List.mem_of_getElem? (i := 65) rfl) (by decide) ?_
          skip
          have hbnd : d1 < 16 ∧ l1 ≤ 6 ∧ f1 + 1 ≤ 8 := by
            obtain ⟨-, ⟨_, _, _, _, _, _, _, _, _, _, -, -, -, -, -, -, h⟩, -⟩ := h4
            exact h
          have hpc4 := zj_cnt_le (d1)
          refine zj_perm5 C (v4 := .int 1) (v3 := .int (nI (n + 1))) (v0 := .ref K.aR) (v1 := .int (nI K.t)) (v2 := .ref K.aP) rfl rfl rfl rfl rfl ?_
          exact ih (n + 1) _ tk4 (d1) (l1) (f1 + 1) o4 x4 k4 (by omega) (by omega) (hw2A.trans hA1) h4 (zj_R_tr r1 r4)
        · subst hv
          refine zj_goto (tgt := 130) C (List.mem_of_getElem? (i := 59) rfl) (by decide) ?_
          refine zj_istore C (List.mem_of_getElem? (i := 63) rfl) rfl (by decide) rfl ?_
          refine zj_iinc (k := 1) (v := (nI (n + 1))) C (List.mem_of_getElem? (i := 64) rfl) rfl rfl (nI_succ n).symm (by decide) rfl ?_
          refine zj_goto (tgt := 41) C (List.mem_of_getElem? (i := 65) rfl) (by decide) ?_
          refine zj_perm5 C (v4 := .int 0) (v3 := .int (nI (n + 1))) (v0 := .ref K.aR) (v1 := .int (nI K.t)) (v2 := .ref K.aP) rfl rfl rfl rfl rfl ?_
          exact bad (n + 1) _ tk4 d4 l4 f4 o4 k4 (hw2A.trans hA1) h4 (zj_R_tr r1 r4)
      have hb6 : tk.1 ≠ 6 := fun h => hb6 (congrArg K.ak h)
      refine zj_aload_n C (List.mem_of_getElem? (i := 60) rfl) rfl rfl rfl ?_
      refine zj_iconst (v := 1) C (List.mem_of_getElem? (i := 61) rfl) rfl (by decide) ?_
      refine zj_callV (As := [.int 1]) (rest := []) C (List.mem_of_getElem? (i := 62) rfl) rfl rfl rfl (by decide) (zj_W_mono (zj_blame_W (kd := 1) hB h11) (by decide)) rfl rfl hR.1 rfl (Nat.le_of_ble_eq_true rfl) rfl ⟨rfl, rfl, rfl, rfl⟩ (fun v w2 hw2A hw2Z => ?_)
      obtain ⟨hv, h9⟩ := hw2Z
      subst hv
      refine zj_istore C (List.mem_of_getElem? (i := 63) rfl) rfl (by decide) rfl ?_
      refine zj_iinc (k := 1) (v := (nI (n + 1))) C (List.mem_of_getElem? (i := 64) rfl) rfl rfl (nI_succ n).symm (by decide) rfl ?_
      refine zj_goto (tgt := 41) C (List.mem_of_getElem? (i := 65) rfl) (by decide) ?_
      refine zj_perm5 C (v4 := .int 0) (v3 := .int (nI (n + 1))) (v0 := .ref K.aR) (v1 := .int (nI K.t)) (v2 := .ref K.aP) rfl rfl rfl rfl rfl ?_
      exact bad (n + 1) _ tk d1 l1 f1 o1 1 (hw2A.trans hA1) h9 (zj_R_tr r1 (zj_R_st (by rw [zj_st, if_neg hb2, if_neg (by omega), if_neg hb5, if_neg hb6])))
  refine zj_aload_n C (List.mem_of_getElem? (i := 0) rfl) rfl rfl rfl ?_
  refine zj_iload_n C (List.mem_of_getElem? (i := 1) rfl) rfl rfl rfl ?_
  refine zj_putR (k := 0) C (List.mem_of_getElem? (i := 2) rfl) rfl rfl hR0 rfl rfl (Nat.le_of_ble_eq_true rfl) rfl (zj_fit_i rfl _) (fun ws1 hs1 hAs1 hFs1 => ?_)
  refine zj_aload_n C (List.mem_of_getElem? (i := 3) rfl) rfl rfl rfl ?_
  refine zj_aload_n C (List.mem_of_getElem? (i := 4) rfl) rfl rfl rfl ?_
  refine zj_putR (k := 6) C (List.mem_of_getElem? (i := 5) rfl) rfl rfl hs1 rfl rfl (Nat.le_of_ble_eq_true rfl) rfl (zj_fit_r rfl _) (fun ws2 hs2 hAs2 hFs2 => ?_)
  refine zj_aload_n C (List.mem_of_getElem? (i := 6) rfl) rfl rfl rfl ?_
  refine zj_iconst (v := 0) C (List.mem_of_getElem? (i := 7) rfl) rfl (by decide) ?_
  refine zj_putR (k := 1) C (List.mem_of_getElem? (i := 8) rfl) rfl rfl hs2 rfl rfl (Nat.le_of_ble_eq_true rfl) rfl (zj_fit_i rfl _) (fun ws3 hs3 hAs3 hFs3 => ?_)
  refine zj_aload_n C (List.mem_of_getElem? (i := 9) rfl) rfl rfl rfl ?_
  refine zj_iconst (v := 0) C (List.mem_of_getElem? (i := 10) rfl) rfl (by decide) ?_
  refine zj_putR (k := 4) C (List.mem_of_getElem? (i := 11) rfl) rfl rfl hs3 rfl rfl (Nat.le_of_ble_eq_true rfl) rfl (zj_fit_i rfl _) (fun ws4 hs4 hAs4 hFs4 => ?_)
  refine zj_aload_n C (List.mem_of_getElem? (i := 12) rfl) rfl rfl rfl ?_
  refine zj_iconst (v := 0) C (List.mem_of_getElem? (i := 13) rfl) rfl (by decide) ?_
  refine zj_putR (k := 7) C (List.mem_of_getElem? (i := 14) rfl) rfl rfl hs4 rfl rfl (Nat.le_of_ble_eq_true rfl) rfl (zj_fit_i rfl _) (fun ws5 hs5 hAs5 hFs5 => ?_)
  refine zj_aload_n C (List.mem_of_getElem? (i := 15) rfl) rfl rfl rfl ?_
  refine zj_get C (List.mem_of_getElem? (i := 16) rfl) rfl rfl hs5.1 rfl rfl ?_
  have hPs := zj_pg_keep (fun j hj => (hFs5 _ (hI j hj).1).trans ((hFs4 _ (hI j hj).1).trans ((hFs3 _ (hI j hj).1).trans ((hFs2 _ (hI j hj).1).trans (hFs1 _ (hI j hj).1))))) hP0
  refine zj_callV (As := []) (rest := []) C (List.mem_of_getElem? (i := 17) rfl) rfl rfl rfl (by decide) (zj_W_mono (zj_blank_W hB hPs) (by decide)) rfl rfl hPs.1 rfl (Nat.le_of_ble_eq_true rfl) rfl ⟨rfl, rfl, rfl, rfl⟩ (fun v w2 hw2A hw2Z => ?_)
  obtain ⟨hv, hP2, hF2⟩ := hw2Z
  subst hv
  have hR2 := zj_RS_keep hs5 (fun i hi => hF2 i (fun j hj h => by rcases hi with rfl | rfl; exact (hI j hj).1 h.symm; exact (hI j hj).2 h.symm))
  have hFr2 : zj_frm K w2 := fun i i1 i2 => (hF2 i i2).trans (((hFs5 i i1).trans ((hFs4 i i1).trans ((hFs3 i i1).trans ((hFs2 i i1).trans (hFs1 i i1))))).trans (hF0 i i1 i2))
  refine zj_aload_n C (List.mem_of_getElem? (i := 18) rfl) rfl rfl rfl ?_
  refine zj_callV (As := []) (rest := []) C (List.mem_of_getElem? (i := 19) rfl) rfl rfl rfl (by decide) (zj_W_mono (zj_first_W hB hR2 hP2 hFr2) (by decide)) rfl rfl hR2.1 rfl (Nat.le_of_ble_eq_true rfl) rfl ⟨rfl, rfl, rfl, rfl⟩ (fun v w3 hw3A hw3Z => ?_)
  obtain ⟨hv, h3⟩ := hw3Z
  subst hv
  refine zj_iconst (v := 0) C (List.mem_of_getElem? (i := 20) rfl) rfl (by decide) ?_
  refine zj_istore_n C (List.mem_of_getElem? (i := 21) rfl) rfl rfl (by decide) rfl ?_
  refine zj_iconst (v := 1) C (List.mem_of_getElem? (i := 22) rfl) rfl (by decide) ?_
  refine zj_istore C (List.mem_of_getElem? (i := 23) rfl) rfl (by decide) rfl ?_
  exact loop 18 0 _ _ 0 0 0 0 0 0 (by decide) rfl (hw3A.trans (hw2A.trans ((hAs5).trans (((hAs4).trans (((hAs3).trans (((hAs2).trans (hAs1)))))))))) h3 (zj_R_rf _)
end
