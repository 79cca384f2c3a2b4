noncomputable section
/-! zj: the class's contract -/
theorem zj_fit_z {t : Nat} (ht : t = 1) : ∀ ty, zx_tag ty = t → narrow ty (.int 0) = .int 0 ∧ fits ty (.int 0) = true := by
  subst ht
  intro ty h
  cases ty <;> first | exact ⟨rfl, rfl⟩ | (simp [zx_tag] at h; done)
section ZKQ
variable {p : Program} {l : Launch} {e : Env} {R : Room} {s : State} {mi : MethodId} {args : Array Value} {below : List Frame} {meth : Method} {c : Code} {Q : State → Prop} {D : va_G} {A : Nat → Prop} {ex : List Nat} {nL : Nat} {own : String} {cc : ByteArray} {d : Nat} {md : zx_MD} {tys : List (ClassId × FieldType)}
variable {pc n : Nat} {lv lv' : List (Nat × Value)} {kc : List Value} {ws : va_W}
/-- a place of a row of references is read -/
theorem zj_aald (C : zj_cx p R s mi args meth c A ex nL own cc d md D tys) {q0 t0 a N : Nat} {cA : ClassId} {Cn : String} {f : Nat → Option Nat} {i : Int32} {v : Value} (hd : (pc, Instr.aaload, 1) ∈ md.1) (hn : pc + 1 = n) (ha : ws[q0]? = some (a, .inl (cA, N, .inr (.inr (.inr (.inr f)))))) (ht : tys[t0]? = some (cA, .object Cn)) (hi : vp_in i N) (hz : va_rf (f i.toNatClampNeg) = v) (h : zj_go p l e R s mi args below meth c Q D A nL n lv (v :: kc) ws) : zj_go p l e R s mi args below meth c Q D A nL pc lv (.int i :: .ref a :: kc) ws := by
  subst hn
  subst hz
  exact fun H locs ls hP hD hS hv => va_aldq C.1.1 C.1.2.1 C.2.2.2.2.2 hP q0 t0 ha ht hi (C.2.2.2.2.1 _ hd).1 (h H locs ls hP hD hS hv)
/-- one is written -/
theorem zj_aast (C : zj_cx p R s mi args meth c A ex nL own cc d md D tys) {q0 t0 qk ci a N v : Nat} {cA : ClassId} {r : vw_C} {vs : List Value} {f : Nat → Option Nat} {i : Int32} (hd : (pc, Instr.aastore, 1) ∈ md.1) (hn : pc + 1 = n) (ha : ws[q0]? = some (a, .inl (cA, N, .inr (.inr (.inr (.inr f)))))) (ht : tys[t0]? = some (cA, .object r.1)) (hv : ws[qk]? = some (v, .inr (ci, vs))) (hc : vwCl[ci]? = some r) (hi : vp_in i N) (h : zj_go p l e R s mi args below meth c Q D A nL n lv kc (ws.set q0 (a, .inl (cA, N, .inr (.inr (.inr (.inr (va_up f i.toNatClampNeg (some v))))))))) : zj_go p l e R s mi args below meth c Q D A nL pc lv (.ref v :: .int i :: .ref a :: kc) ws := by
  subst hn
  exact fun H locs ls hP hD hS hl => va_astq C.1.1 C.1.2.1 C.2.2.2.2.2 hP hD hS q0 t0 qk ci ha ht hv hc hi (C.2.2.2.2.1 _ hd).1 (fun H1 locs1 P1 D1 S1 => h H1 locs1 ls P1 D1 S1 hl)
end ZKQ
theorem zj_empt_W {l : Launch} {K : zj_K} {ws0 : va_W} {aO : Nat} {FO : List Value} (h0 : ws0[0]? = some (aO, .inr (10, FO))) (hO10 : FO[10]? = some (.int (nI K.t))) (hOl : FO.length = 14) : zj_W l 1 17 (zj_KX K [.ref aO] ws0) (fun _ _ _ v ws' => v = some (.int (nI K.t)) ∧ ws' = ws0.set 0 (aO, .inr (10, FO.set 10 (.int 0)))) := by
  refine zj_enterW (md := zx_m17) rfl rfl ?_ ?_
  · rintro ex tys av ws ⟨-, -, rfl, -⟩
    exact Nat.le_of_ble_eq_true rfl
  intro p e R s mi args below meth c Q D A ex nL own cc tys ws av hX C hnL KRi KRv KRa
  subst hnL
  obtain ⟨h1, h2, h3, h4⟩ := hX
  subst h1
  subst h2
  subst h3
  subst h4
  refine zj_aload_n C (List.mem_of_getElem? (i := 0) rfl) rfl rfl rfl ?_
  refine zj_get C (List.mem_of_getElem? (i := 1) rfl) rfl rfl h0 rfl hO10 ?_
  refine zj_istore_n C (List.mem_of_getElem? (i := 2) rfl) rfl rfl (by decide) rfl ?_
  refine zj_aload_n C (List.mem_of_getElem? (i := 3) rfl) rfl rfl rfl ?_
  refine zj_iconst (v := 0) C (List.mem_of_getElem? (i := 4) rfl) rfl (by decide) ?_
  refine zj_put C (List.mem_of_getElem? (i := 5) rfl) rfl rfl h0 rfl (by rw [hOl]; decide) rfl (zj_fit_i rfl _) ?_
  refine zj_iload_n C (List.mem_of_getElem? (i := 6) rfl) rfl rfl rfl ?_
  exact KRi 11 _ _ _ (List.mem_of_getElem? (i := 7) rfl) (by decide) (Or.inl rfl) (zx_as_set h0) ⟨rfl, rfl⟩
theorem zj_isSinger_W {l : Launch} {K : zj_K} {ws0 : va_W} {aH S : Nat} {xs : Int32} {FH : List Value} (h3 : ws0[3]? = some (aH, .inr (2, FH))) (hH1 : FH[1]? = some (.int (nI S))) (hS : S ≤ 20) : zj_W l 1 25 (zj_KX K [.ref aH, .int xs] ws0) (fun _ _ _ v ws' => ws0 = ws' ∧ ((v = some (.int 1) ∧ (0 ≤ xs.toInt ∧ xs.toInt < (S : Int))) ∨ (v = some (.int 0) ∧ ¬ (0 ≤ xs.toInt ∧ xs.toInt < (S : Int))))) := by
  refine zj_enterW (md := zx_m25) rfl rfl ?_ ?_
  · rintro ex tys av ws ⟨-, -, rfl, -⟩
    exact Nat.le_of_ble_eq_true rfl
  intro p e R s mi args below meth c Q D A ex nL own cc tys ws av hX C hnL KRi KRv KRa
  subst hnL
  obtain ⟨h1, h2, h3, h4⟩ := hX
  subst h1
  subst h2
  subst h3
  subst h4
  have hSi : (nI S).toInt = (S : Int) := nI_toInt (by omega)
  refine zj_iload_n C (List.mem_of_getElem? (i := 0) rfl) rfl rfl rfl ?_
  refine zj_if_lt (tgt := 16) C (List.mem_of_getElem? (i := 1) rfl) rfl (by decide) (fun hb => ?_) (fun hb => ?_)
  · have hb : xs.toInt < 0 := Int32.lt_iff_toInt_lt.mp hb
    refine zj_iconst (v := 0) C (List.mem_of_getElem? (i := 8) rfl) rfl (by decide) ?_
    exact KRi 17 _ _ _ (List.mem_of_getElem? (i := 9) rfl) (by decide) (Or.inr ⟨rfl, Or.inl rfl⟩) rfl ⟨rfl, Or.inr ⟨rfl, fun h => by omega⟩⟩
  have hb : ¬ xs.toInt < 0 := fun h => hb (Int32.lt_iff_toInt_lt.mpr h)
  refine zj_iload_n C (List.mem_of_getElem? (i := 2) rfl) rfl rfl rfl ?_
  refine zj_aload_n C (List.mem_of_getElem? (i := 3) rfl) rfl rfl rfl ?_
  refine zj_get C (List.mem_of_getElem? (i := 4) rfl) rfl rfl h3 rfl hH1 ?_
  refine zj_icmp_ge (tgt := 16) C (List.mem_of_getElem? (i := 5) rfl) rfl (by decide) (fun hb2 => ?_) (fun hb2 => ?_)
  · have hb2 : (nI S).toInt ≤ xs.toInt := Int32.le_iff_toInt_le.mp hb2
    refine zj_iconst (v := 0) C (List.mem_of_getElem? (i := 8) rfl) rfl (by decide) ?_
    exact KRi 17 _ _ _ (List.mem_of_getElem? (i := 9) rfl) (by decide) (Or.inr ⟨rfl, Or.inl rfl⟩) rfl ⟨rfl, Or.inr ⟨rfl, fun h => by omega⟩⟩
  have hb2 : ¬ (nI S).toInt ≤ xs.toInt := fun h => hb2 (Int32.le_iff_toInt_le.mpr h)
  refine zj_iconst (v := 1) C (List.mem_of_getElem? (i := 6) rfl) rfl (by decide) ?_
  refine zj_goto (tgt := 17) C (List.mem_of_getElem? (i := 7) rfl) (by decide) ?_
  exact KRi 17 _ _ _ (List.mem_of_getElem? (i := 9) rfl) (by decide) (Or.inr ⟨rfl, Or.inr rfl⟩) rfl ⟨rfl, Or.inl ⟨rfl, by omega, by omega⟩⟩
set_option maxHeartbeats 4000000 in
theorem zj_contractC_W {l : Launch} {K : zj_K} {ws0 : va_W} {aO tC k6 k7 aL aS aB aN : Nat} {z1 z2 z3 z4 z5 z8 v4 v5 v6 v7 v8 xs : Int32} {FO : List Value} {aH aY : Nat} {lf : Int32} {FH : List Value} {aC S : Nat} {cC : ClassId} {r : vw_C} {fC : Nat → Option Nat} {fY : List Value} (hB : zj_Kok K) (h0 : ws0[0]? = some (aO, .inr (10, FO))) (hO2 : FO[2]? = some (.ref aH)) (hO6 : FO[6]? = some (.ref K.aR)) (hO9 : FO[9]? = some (.ref aY)) (hO10 : FO[10]? = some (.int (nI K.t))) (hO12 : FO[12]? = some (.int lf)) (hOl : FO.length = 14) (hw : K.w0 = ws0.set 0 (aO, .inr (10, FO.set 10 (.int 0)))) (h3 : ws0[3]? = some (aH, .inr (2, FH))) (hH1 : FH[1]? = some (.int (nI S))) (hH4 : FH[4]? = some (.ref K.aP)) (hH6 : FH[6]? = some (.ref aC)) (hHl : FH.length = 12) (h10 : ws0[10]? = some (aC, .inl (cC, 20, .inr (.inr (.inr (.inr fC)))))) (ht : K.tys[tC]? = some (cC, .object r.1)) (hr : vwCl[1]? = some r) (hfC : ∀ i, i < 20 → ∃ a, fC i = some a) (h212 : ws0[212]? = some (aY, .inr (4, fY))) (hY : fY.length = 13) (hR0 : zj_RS K.tys ws0 K.aR K.aT K.fT [.int z1, .int z2, .int z3, .int z4, .int z5, .ref k6, .ref k7, .int z8]) (hP0 : zj_pg K ws0 aL aS aB aN [.int v4, .int v5, .int v6, .int v7, .int v8]) (hI0 : ∀ j, j < 5 → K.I j ≠ 0 ∧ K.I j ≠ 3 ∧ K.I j ≠ 10 ∧ K.I j ≠ 212) (hS : S ≤ 20) : zj_W l 53 24 (zj_KX K [.ref aO, .int xs] ws0) (fun _ _ _ v ws' => ((0 ≤ xs.toInt ∧ xs.toInt < (S : Int)) → ∃ (a : Int32) (k : Nat), v = some (.int a) ∧ zj_R (zj_g K) K.t (0, zj_tk (zj_g K) K.t 0, 0, 0, 0, 0, 0, [], 0, 0) (zj_f a.toInt k) ∧ ∃ FO3, ws'[0]? = some (aO, .inr (10, FO3)) ∧ FO3[12]? = some (.int (nI k))) ∧ (¬ (0 ≤ xs.toInt ∧ xs.toInt < (S : Int)) → v = some (.int (-1000)) ∧ ∃ FO3, ws'[0]? = some (aO, .inr (10, FO3)) ∧ FO3[12]? = some (.int lf))) := by
  refine zj_enterW (md := zx_m24) rfl rfl ?_ ?_
  · rintro ex tys av ws ⟨-, -, rfl, -⟩
    exact Nat.le_of_ble_eq_true rfl
  intro p e R s mi args below meth c Q D A ex nL own cc tys ws av hX C hnL KRi KRv KRa
  subst hnL
  obtain ⟨h1, h2, h3, h4⟩ := hX
  subst h1
  subst h2
  subst h3
  subst h4
  refine zj_aload_n C (List.mem_of_getElem? (i := 0) rfl) rfl rfl rfl ?_
  refine zj_callV (As := []) (rest := []) C (List.mem_of_getElem? (i := 1) rfl) rfl rfl rfl (by decide) (zj_W_mono (zj_empt_W h0 hO10 hOl) (by decide)) rfl rfl h0 rfl (Nat.le_of_ble_eq_true rfl) rfl ⟨rfl, rfl, rfl, rfl⟩ (fun v w2 hw2A hw2Z => ?_)
  obtain ⟨hv, he⟩ := hw2Z
  subst hv
  rw [← hw] at he
  subst he
  have q0 : K.w0[0]? = some (aO, .inr (10, FO.set 10 (.int 0))) := by
    rw [hw]
    exact zj_set_self h0
  have hne : ∀ i, i ≠ 0 → K.w0[i]? = ws[i]? := fun i hi => by
    rw [hw]
    exact List.getElem?_set_ne (Ne.symm hi)
  have q3 := (hne 3 (by decide)).trans h3
  have q10 := (hne 10 (by decide)).trans h10
  have q212 := (hne 212 (by decide)).trans h212
  have hR1 := zj_RS_keep hR0 (fun i hi => hne i (by omega))
  have hP1 := zj_pg_keep (fun j hj => hne _ (hI0 j hj).1) hP0
  refine zj_istore_n C (List.mem_of_getElem? (i := 2) rfl) rfl rfl (by decide) rfl ?_
  refine zj_aload_n C (List.mem_of_getElem? (i := 3) rfl) rfl rfl rfl ?_
  refine zj_get C (List.mem_of_getElem? (i := 4) rfl) rfl rfl q0 rfl ((List.getElem?_set_ne (by decide)).trans hO2) ?_
  refine zj_iload_n C (List.mem_of_getElem? (i := 5) rfl) rfl rfl rfl ?_
  refine zj_callV (As := [.int xs]) (rest := []) C (List.mem_of_getElem? (i := 6) rfl) rfl rfl rfl (by decide) (zj_W_mono (zj_isSinger_W q3 hH1 hS) (by decide)) rfl rfl q3 rfl (Nat.le_of_ble_eq_true rfl) rfl ⟨rfl, rfl, rfl, rfl⟩ (fun v w3 hw3A hw3Z => ?_)
  obtain ⟨he, hv⟩ := hw3Z
  subst he
  rcases hv with ⟨hv, hc⟩ | ⟨hv, hc⟩
  rotate_left
  · subst hv
    refine zj_if_ne (tgt := 20) C (List.mem_of_getElem? (i := 7) rfl) rfl (by decide) (fun hd => ?_) (fun hd => ?_)
    · exact absurd rfl hd
    refine zj_sipush (v := (-1000)) C (List.mem_of_getElem? (i := 8) rfl) rfl (by decide) ?_
    exact KRi 19 _ _ _ (List.mem_of_getElem? (i := 9) rfl) (by decide) (Or.inl rfl) hw2A ⟨fun h => absurd h hc, fun _ => ⟨rfl, _, q0, ((List.getElem?_set_ne (by decide)).trans hO12)⟩⟩
  subst hv
  refine zj_if_ne (tgt := 20) C (List.mem_of_getElem? (i := 7) rfl) rfl (by decide) (fun hd => ?_) (fun hd => ?_)
  rotate_left
  · exact absurd hd (by decide)
  obtain ⟨s0, hs0, rfl⟩ : ∃ s0 : Nat, s0 < 20 ∧ xs = nI s0 := ⟨xs.toInt.toNat, by omega, (zx_nat hc.1).1⟩
  obtain ⟨ao, hao⟩ := hfC s0 hs0
  refine zj_aload_n C (List.mem_of_getElem? (i := 10) rfl) rfl rfl rfl ?_
  refine zj_get C (List.mem_of_getElem? (i := 11) rfl) rfl rfl q0 rfl ((List.getElem?_set_ne (by decide)).trans hO2) ?_
  refine zj_get C (List.mem_of_getElem? (i := 12) rfl) rfl rfl q3 rfl hH6 ?_
  refine zj_iload_n C (List.mem_of_getElem? (i := 13) rfl) rfl rfl rfl ?_
  refine zj_aald C (List.mem_of_getElem? (i := 14) rfl) rfl q10 ht (vp_in_nI hs0 (by decide)) (v := .ref ao) (by rw [nI_clamp (by omega), hao]; rfl) ?_
  refine zj_astore_n C (List.mem_of_getElem? (i := 15) rfl) rfl rfl (by decide) rfl ?_
  refine zj_aload_n C (List.mem_of_getElem? (i := 16) rfl) rfl rfl rfl ?_
  refine zj_get C (List.mem_of_getElem? (i := 17) rfl) rfl rfl q0 rfl ((List.getElem?_set_ne (by decide)).trans hO6) ?_
  refine zj_iload_n C (List.mem_of_getElem? (i := 18) rfl) rfl rfl rfl ?_
  refine zj_aload_n C (List.mem_of_getElem? (i := 19) rfl) rfl rfl rfl ?_
  refine zj_get C (List.mem_of_getElem? (i := 20) rfl) rfl rfl q0 rfl ((List.getElem?_set_ne (by decide)).trans hO2) ?_
  refine zj_get C (List.mem_of_getElem? (i := 21) rfl) rfl rfl q3 rfl hH4 ?_
  refine zj_callV (As := [.int (nI K.t), .ref K.aP]) (rest := []) C (List.mem_of_getElem? (i := 22) rfl) rfl rfl rfl (by decide) (zj_W_mono (zj_read_W hB hR1 hP1 (fun _ _ _ => rfl)) (by decide)) rfl rfl hR1.1 rfl (Nat.le_of_ble_eq_true rfl) rfl ⟨rfl, rfl, rfl, rfl⟩ (fun v w4 hw4A hw4Z => ?_)
  obtain ⟨an, k, r5, hv, hrr, hR5, hr7, hfr, fsP, hP5⟩ := hw4Z
  subst hv
  have p0 := (hfr 0 (by decide) (fun j hj h => (hI0 j hj).1 h.symm)).trans q0
  have p3 := (hfr 3 (by decide) (fun j hj h => (hI0 j hj).2.1 h.symm)).trans q3
  have p10 := (hfr 10 (by decide) (fun j hj h => (hI0 j hj).2.2.1 h.symm)).trans q10
  have p212 := (hfr 212 (by decide) (fun j hj h => (hI0 j hj).2.2.2 h.symm)).trans q212
  have hA5 := hw4A.trans hw2A
  refine zj_istore C (List.mem_of_getElem? (i := 23) rfl) rfl (by decide) rfl ?_
  refine zj_aload_n C (List.mem_of_getElem? (i := 24) rfl) rfl rfl rfl ?_
  refine zj_aload_n C (List.mem_of_getElem? (i := 25) rfl) rfl rfl rfl ?_
  refine zj_get C (List.mem_of_getElem? (i := 26) rfl) rfl rfl p0 rfl ((List.getElem?_set_ne (by decide)).trans hO6) ?_
  refine zj_get C (List.mem_of_getElem? (i := 27) rfl) rfl rfl hR5.1 rfl hr7 ?_
  have hOl2 : (FO.set 10 (.int 0)).length = 14 := by rw [List.length_set]; exact hOl
  have hk12 : ((FO.set 10 (.int 0)).set 12 (.int (nI k)))[12]? = some (.int (nI k)) := by rw [List.getElem?_set]; simp only [if_true]; rw [if_pos (by rw [hOl2]; decide)]
  refine zj_put C (List.mem_of_getElem? (i := 28) rfl) rfl rfl p0 rfl (by rw [hOl2]; decide) rfl (zj_fit_i rfl _) ?_
  have hnw6 : ∀ i, i ≠ 0 → (w4.set 0 (aO, .inr (10, (FO.set 10 (.int 0)).set 12 (.int (nI k)))))[i]? = w4[i]? := fun i hi => List.getElem?_set_ne (Ne.symm hi)
  have hAw6 : zx_as (w4.set 0 (aO, .inr (10, (FO.set 10 (.int 0)).set 12 (.int (nI k))))) = zx_as w4 := zx_as_set p0
  have hsw6 : (w4.set 0 (aO, .inr (10, (FO.set 10 (.int 0)).set 12 (.int (nI k)))))[0]? = some (aO, .inr (10, (FO.set 10 (.int 0)).set 12 (.int (nI k)))) := zj_set_self p0
  show zj_go p l e R s mi args below meth c Q D A _ _ _ _ (w4.set 0 (aO, .inr (10, (FO.set 10 (.int 0)).set 12 (.int (nI k)))))
  generalize w4.set 0 (aO, .inr (10, (FO.set 10 (.int 0)).set 12 (.int (nI k)))) = w6 at hnw6 hAw6 hsw6 ⊢
  have o3 := (hnw6 3 (by decide)).trans p3
  have o10 := (hnw6 10 (by decide)).trans p10
  have o212 := (hnw6 212 (by decide)).trans p212
  have oP := (hnw6 (K.I 0) (hI0 0 (by decide)).1).trans hP5
  refine zj_aload_n C (List.mem_of_getElem? (i := 29) rfl) rfl rfl rfl ?_
  refine zj_get C (List.mem_of_getElem? (i := 30) rfl) rfl rfl hsw6 rfl hk12 ?_
  refine zj_if_ne (tgt := 97) C (List.mem_of_getElem? (i := 31) rfl) rfl (by decide) (fun hk => ?_) (fun hk => ?_)
  · skip
    refine zj_iload C (List.mem_of_getElem? (i := 48) rfl) rfl rfl ?_
    exact KRi 99 _ _ _ (List.mem_of_getElem? (i := 49) rfl) (by decide) (Or.inl rfl) (hAw6.trans hA5) ⟨fun _ => ⟨an, k, rfl, hrr, _, hsw6, hk12⟩, fun h => absurd hc h⟩
  refine zj_aload_n C (List.mem_of_getElem? (i := 32) rfl) rfl rfl rfl ?_
  refine zj_get C (List.mem_of_getElem? (i := 33) rfl) rfl rfl hsw6 rfl ((List.getElem?_set_ne (by decide)).trans ((List.getElem?_set_ne (by decide)).trans hO2)) ?_
  refine zj_get C (List.mem_of_getElem? (i := 34) rfl) rfl rfl o3 rfl hH6 ?_
  refine zj_iload_n C (List.mem_of_getElem? (i := 35) rfl) rfl rfl rfl ?_
  refine zj_aload_n C (List.mem_of_getElem? (i := 36) rfl) rfl rfl rfl ?_
  refine zj_get C (List.mem_of_getElem? (i := 37) rfl) rfl rfl hsw6 rfl ((List.getElem?_set_ne (by decide)).trans ((List.getElem?_set_ne (by decide)).trans hO2)) ?_
  refine zj_get C (List.mem_of_getElem? (i := 38) rfl) rfl rfl o3 rfl hH4 ?_
  refine zj_aast C (List.mem_of_getElem? (i := 39) rfl) rfl o10 ht oP hr (vp_in_nI hs0 (by decide)) ?_
  have hnw7 : ∀ i, i ≠ 10 → (w6.set 10 (aC, .inl (cC, 20, .inr (.inr (.inr (.inr (va_up fC (nI s0).toNatClampNeg (some K.aP))))))))[i]? = w6[i]? := fun i hi => List.getElem?_set_ne (Ne.symm hi)
  have hAw7 : zx_as (w6.set 10 (aC, .inl (cC, 20, .inr (.inr (.inr (.inr (va_up fC (nI s0).toNatClampNeg (some K.aP)))))))) = zx_as w6 := zx_as_set o10
  have hsw7 : (w6.set 10 (aC, .inl (cC, 20, .inr (.inr (.inr (.inr (va_up fC (nI s0).toNatClampNeg (some K.aP))))))))[10]? = some (aC, .inl (cC, 20, .inr (.inr (.inr (.inr (va_up fC (nI s0).toNatClampNeg (some K.aP))))))) := zj_set_self o10
  show zj_go p l e R s mi args below meth c Q D A _ _ _ _ (w6.set 10 (aC, .inl (cC, 20, .inr (.inr (.inr (.inr (va_up fC (nI s0).toNatClampNeg (some K.aP))))))))
  generalize w6.set 10 (aC, .inl (cC, 20, .inr (.inr (.inr (.inr (va_up fC (nI s0).toNatClampNeg (some K.aP))))))) = w7 at hnw7 hAw7 hsw7 ⊢
  have m0 := (hnw7 0 (by decide)).trans hsw6
  have m3 := (hnw7 3 (by decide)).trans o3
  have m212 := (hnw7 212 (by decide)).trans o212
  refine zj_aload_n C (List.mem_of_getElem? (i := 40) rfl) rfl rfl rfl ?_
  refine zj_get C (List.mem_of_getElem? (i := 41) rfl) rfl rfl m0 rfl ((List.getElem?_set_ne (by decide)).trans ((List.getElem?_set_ne (by decide)).trans hO2)) ?_
  refine zj_aload_n C (List.mem_of_getElem? (i := 42) rfl) rfl rfl rfl ?_
  refine zj_put C (List.mem_of_getElem? (i := 43) rfl) rfl rfl m3 rfl (by rw [hHl]; decide) rfl (zj_fit_r rfl _) ?_
  have hnw8 : ∀ i, i ≠ 3 → (w7.set 3 (aH, .inr (2, FH.set 4 (.ref ao))))[i]? = w7[i]? := fun i hi => List.getElem?_set_ne (Ne.symm hi)
  have hAw8 : zx_as (w7.set 3 (aH, .inr (2, FH.set 4 (.ref ao)))) = zx_as w7 := zx_as_set m3
  have hsw8 : (w7.set 3 (aH, .inr (2, FH.set 4 (.ref ao))))[3]? = some (aH, .inr (2, FH.set 4 (.ref ao))) := zj_set_self m3
  show zj_go p l e R s mi args below meth c Q D A _ _ _ _ (w7.set 3 (aH, .inr (2, FH.set 4 (.ref ao))))
  generalize w7.set 3 (aH, .inr (2, FH.set 4 (.ref ao))) = w8 at hnw8 hAw8 hsw8 ⊢
  have l0 := (hnw8 0 (by decide)).trans m0
  have l212 := (hnw8 212 (by decide)).trans m212
  refine zj_aload_n C (List.mem_of_getElem? (i := 44) rfl) rfl rfl rfl ?_
  refine zj_get C (List.mem_of_getElem? (i := 45) rfl) rfl rfl l0 rfl ((List.getElem?_set_ne (by decide)).trans ((List.getElem?_set_ne (by decide)).trans hO9)) ?_
  refine zj_iconst (v := 0) C (List.mem_of_getElem? (i := 46) rfl) rfl (by decide) ?_
  refine zj_put C (List.mem_of_getElem? (i := 47) rfl) rfl rfl l212 rfl (by rw [hY]; decide) rfl (zj_fit_z rfl) ?_
  have hnw9 : ∀ i, i ≠ 212 → (w8.set 212 (aY, .inr (4, fY.set 12 (.int 0))))[i]? = w8[i]? := fun i hi => List.getElem?_set_ne (Ne.symm hi)
  have hAw9 : zx_as (w8.set 212 (aY, .inr (4, fY.set 12 (.int 0)))) = zx_as w8 := zx_as_set l212
  have hsw9 : (w8.set 212 (aY, .inr (4, fY.set 12 (.int 0))))[212]? = some (aY, .inr (4, fY.set 12 (.int 0))) := zj_set_self l212
  show zj_go p l e R s mi args below meth c Q D A _ _ _ _ (w8.set 212 (aY, .inr (4, fY.set 12 (.int 0))))
  generalize w8.set 212 (aY, .inr (4, fY.set 12 (.int 0))) = w9 at hnw9 hAw9 hsw9 ⊢
  have k0 := (hnw9 0 (by decide)).trans l0
  refine zj_iload C (List.mem_of_getElem? (i := 48) rfl) rfl rfl ?_
  exact KRi 99 _ _ _ (List.mem_of_getElem? (i := 49) rfl) (by decide) (Or.inl rfl) (hAw9.trans (hAw8.trans (hAw7.trans (hAw6.trans hA5)))) ⟨fun _ => ⟨an, k, rfl, hrr, _, k0, hk12⟩, fun h => absurd hc h⟩
end
