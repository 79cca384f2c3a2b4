noncomputable section
/-! zj: the rules, all of the reading -/
section ZKT
variable {p : Program} {l : Launch} {e : Env} {R : Room} {s : State} {mi : MethodId} {args : Array Value} {below : List Frame} {meth : Method} {c : Code} {Q : State → Prop} {D : va_G} {A : Nat → Prop} {ex : List Nat} {nL : Nat} {own : String} {cc : ByteArray} {d : Nat} {md : zx_MD} {tys : List (ClassId × FieldType)}
variable {pc n : Nat} {lv lv' : List (Nat × Value)} {kc : List Value} {ws : va_W}
/-- a number of a constant row -/
theorem zj_ti (C : zj_cx p R s mi args meth c A ex nL own cc d md D tys) {id a : Nat} {row : List Int} {i v : Int32} (hd : (pc, Instr.iaload, 1) ∈ md.1) (hn : pc + 1 = n) (hr : (id, row) ∈ zx_Yt.1) (h8 : id < 8) (ha : ex[id]? = some a) (hi : vp_in i row.length) (hz : Int32.ofInt (row.getD i.toNatClampNeg 0) = v) (h : zj_go p l e R s mi args below meth c Q D A nL n lv (.int v :: kc) ws) : zj_go p l e R s mi args below meth c Q D A nL pc lv (.int i :: .ref a :: kc) ws := by
  subst hn
  subst hz
  intro H locs ls hP hD hS hl
  obtain ⟨⟨hx, hb, hown, hts, hnw, hA, hR, hin, hnL, hCX, hao, hCK, hMK⟩, -, -, -, htb, hK⟩ := C
  obtain ⟨a', a0, a1, a2, a3⟩ := hCX.2 _ hr
  have a1 : ex[id]? = some a' := a1
  rw [ha] at a1
  have a1 : a = a' := Option.some.inj a1
  subst a1
  have a3 : (if id < 8 then va_T .int a row.length (fun j => .int (Int32.ofInt (row.getD j 0))) A s s.heap else zx_XO row a A s s.heap) := a3
  rw [if_pos h8] at a3
  exact va_ti hx hb a3 hS hi rfl (htb _ hd).1 (h H locs ls hP hD hS hl)
end ZKT
theorem zj_days_W {l : Launch} {K : zj_K} {ws0 : va_W} {a : Nat} {b : Int32} (ha : a ≤ 30) : zj_W l 1 37 (zj_KX K [.int (nI a), .int b] ws0) (fun _ _ _ v ws' => ws' = ws0 ∧ ∃ r : Int32, v = some (.int r)) := by
  refine zj_enterW (md := zx_m37) rfl rfl ?_ ?_
  · rintro ex tys av ws ⟨-, -, rfl, -⟩
    exact Nat.le_of_ble_eq_true rfl
  intro p e R s mi args below meth c Q D A ex nL own cc tys ws av hX C hnL KRi KRv KRa
  subst hnL
  obtain ⟨h1, h2, h3, h4⟩ := hX
  subst h1
  subst h2
  subst h3
  subst h4
  have loop : ∀ (N j : Nat) (acc : Int32), 30 - j ≤ N → j ≤ 30 → zj_go p l e R s mi args below meth c Q D A (zx_mV zx_m37.2.1) 4 [(3, .int (nI j)), (2, .int acc), (0, .int (nI a)), (1, .int b)] [] ws := by
    intro N
    induction N with
    | zero =>
      intro j acc hN hj
      refine zj_iload_n C (List.mem_of_getElem? (i := 4) rfl) rfl rfl rfl ?_
      refine zj_iload_n C (List.mem_of_getElem? (i := 5) rfl) rfl rfl rfl ?_
      refine zj_icmp_gt (tgt := 27) C (List.mem_of_getElem? (i := 6) rfl) rfl (by decide) (fun hb => ?_) (fun hb => ?_)
      · skip
        refine zj_iload_n C (List.mem_of_getElem? (i := 18) rfl) rfl rfl rfl ?_
        exact KRi 28 _ _ _ (List.mem_of_getElem? (i := 19) rfl) (by decide) (Or.inl rfl) rfl ⟨rfl, _, rfl⟩
      refine zj_iload_n C (List.mem_of_getElem? (i := 7) rfl) rfl rfl rfl ?_
      refine zj_bipush (v := 30) C (List.mem_of_getElem? (i := 8) rfl) rfl (by decide) ?_
      refine zj_icmp_ge (tgt := 27) C (List.mem_of_getElem? (i := 9) rfl) rfl (by decide) (fun hb2 => ?_) (fun hb2 => ?_)
      · skip
        refine zj_iload_n C (List.mem_of_getElem? (i := 18) rfl) rfl rfl rfl ?_
        exact KRi 28 _ _ _ (List.mem_of_getElem? (i := 19) rfl) (by decide) (Or.inl rfl) rfl ⟨rfl, _, rfl⟩
      exact absurd ((nI_leI (a := 30) (b := j) (by decide) (by omega)).mpr (by omega)) hb2
    | succ N ih =>
      intro j acc hN hj
      refine zj_iload_n C (List.mem_of_getElem? (i := 4) rfl) rfl rfl rfl ?_
      refine zj_iload_n C (List.mem_of_getElem? (i := 5) rfl) rfl rfl rfl ?_
      refine zj_icmp_gt (tgt := 27) C (List.mem_of_getElem? (i := 6) rfl) rfl (by decide) (fun hb => ?_) (fun hb => ?_)
      · skip
        refine zj_iload_n C (List.mem_of_getElem? (i := 18) rfl) rfl rfl rfl ?_
        exact KRi 28 _ _ _ (List.mem_of_getElem? (i := 19) rfl) (by decide) (Or.inl rfl) rfl ⟨rfl, _, rfl⟩
      refine zj_iload_n C (List.mem_of_getElem? (i := 7) rfl) rfl rfl rfl ?_
      refine zj_bipush (v := 30) C (List.mem_of_getElem? (i := 8) rfl) rfl (by decide) ?_
      refine zj_icmp_ge (tgt := 27) C (List.mem_of_getElem? (i := 9) rfl) rfl (by decide) (fun hb2 => ?_) (fun hb2 => ?_)
      · skip
        refine zj_iload_n C (List.mem_of_getElem? (i := 18) rfl) rfl rfl rfl ?_
        exact KRi 28 _ _ _ (List.mem_of_getElem? (i := 19) rfl) (by decide) (Or.inl rfl) rfl ⟨rfl, _, rfl⟩
      have hj2 : j < 30 := by
        rcases Nat.lt_or_ge j 30 with h | h
        · exact h
        · exact absurd ((nI_leI (a := 30) (b := j) (by decide) (by omega)).mpr h) hb2
      refine zj_iload_n C (List.mem_of_getElem? (i := 10) rfl) rfl rfl rfl ?_
      refine zj_iconst (v := 1) C (List.mem_of_getElem? (i := 11) rfl) rfl (by decide) ?_
      refine zj_iload_n C (List.mem_of_getElem? (i := 12) rfl) rfl rfl rfl ?_
      refine zj_ishl (v := _) C (List.mem_of_getElem? (i := 13) rfl) rfl rfl ?_
      refine zj_ior (v := _) C (List.mem_of_getElem? (i := 14) rfl) rfl rfl ?_
      refine zj_istore_n C (List.mem_of_getElem? (i := 15) rfl) rfl rfl (by decide) rfl ?_
      refine zj_iinc (k := 1) (v := (nI (j + 1))) C (List.mem_of_getElem? (i := 16) rfl) rfl rfl (nI_succ j).symm (by decide) rfl ?_
      refine zj_goto (tgt := 4) C (List.mem_of_getElem? (i := 17) rfl) (by decide) ?_
      exact ih (j + 1) _ (by omega) (by omega)
  refine zj_iconst (v := 0) C (List.mem_of_getElem? (i := 0) rfl) rfl (by decide) ?_
  refine zj_istore_n C (List.mem_of_getElem? (i := 1) rfl) rfl rfl (by decide) rfl ?_
  refine zj_iload_n C (List.mem_of_getElem? (i := 2) rfl) rfl rfl rfl ?_
  refine zj_istore_n C (List.mem_of_getElem? (i := 3) rfl) rfl rfl (by decide) rfl ?_
  exact loop 30 a 0 (by omega) ha
theorem zj_set_self {ws : va_W} {i a : Nat} {e e2 : va_E} (h : ws[i]? = some (a, e)) : (ws.set i (a, e2))[i]? = some (a, e2) := by
  rw [List.getElem?_set]
  simp only [if_true]
  rw [if_pos (List.getElem?_eq_some_iff.mp h).1]
theorem zj_addLeave_W {l : Launch} {K : zj_K} {ws0 : va_W} {tk : zj_T} {d1 l1 f1 o1 : Nat} {fk b : Int32} {a : Nat} (hB : zj_Kok K) (h0 : zj_rd K ws0 tk d1 l1 f1 o1 fk) (ha : a ≤ 30) (hl6 : l1 < 6) : zj_W l 2 36 (zj_KX K [.ref K.aP, .int (nI a), .int b] ws0) (fun _ _ _ v ws' => v = none ∧ zj_rd K ws' tk d1 (l1 + 1) f1 o1 fk) := by
  refine zj_enterW (md := zx_m36) rfl rfl ?_ ?_
  · rintro ex tys av ws ⟨-, -, rfl, -⟩
    exact Nat.le_of_ble_eq_true rfl
  intro p e R s mi args below meth c Q D A ex nL own cc tys ws av hX C hnL KRi KRv KRa
  subst hnL
  obtain ⟨h1, h2, h3, h4⟩ := hX
  subst h1
  subst h2
  subst h3
  subst h4
  obtain ⟨⟨x, hR, hx⟩, hP, htk, hle, ho⟩ := h0
  obtain ⟨aL, aS, aB, aN, fL, fS, fB, fN, da, st, hp0, hp1, hp2, hp3, hp4, ⟨hst, hfr⟩, hd1, hl1, hf1⟩ := hP
  have hI := hB.2.2.2.2.1
  have hJ := hB.2.2.2.2.2.1
  refine zj_aload_n C (List.mem_of_getElem? (i := 0) rfl) rfl rfl rfl ?_
  refine zj_dup C (List.mem_of_getElem? (i := 1) rfl) rfl rfl ?_
  refine zj_get C (List.mem_of_getElem? (i := 2) rfl) rfl rfl hp0 rfl rfl ?_
  refine zj_iload_n C (List.mem_of_getElem? (i := 3) rfl) rfl rfl rfl ?_
  refine zj_iload_n C (List.mem_of_getElem? (i := 4) rfl) rfl rfl rfl ?_
  refine zj_callS (As := [.int (nI a), .int b]) (rest := [.int da, .ref K.aP]) C (List.mem_of_getElem? (i := 5) rfl) rfl rfl (Or.inr rfl) (zj_W_mono (zj_days_W (K := K) (ws0 := ws) (a := a) (b := b) ha) (by decide)) rfl rfl (Nat.le_of_ble_eq_true rfl) rfl ⟨rfl, rfl, rfl, rfl⟩ (fun v w2 hw2A hw2Z => ?_)
  obtain ⟨hw, r, hv⟩ := hw2Z
  subst hw
  subst hv
  refine zj_ior (v := _) C (List.mem_of_getElem? (i := 6) rfl) rfl rfl ?_
  refine zj_put C (List.mem_of_getElem? (i := 7) rfl) rfl rfl hp0 rfl (Nat.le_of_ble_eq_true rfl) rfl (zj_fit_i rfl _) ?_
  have hq0 : (w2.set (K.I 0) (K.aP, .inr (1, [.ref aL, .ref aS, .ref aB, .ref aN, .int (nI d1), .int (nI l1), .int (da ||| r), .int (nI f1), .int st])))[K.I 0]? = _ := zj_set_self hp0
  refine zj_aload_n C (List.mem_of_getElem? (i := 8) rfl) rfl rfl rfl ?_
  refine zj_dup C (List.mem_of_getElem? (i := 9) rfl) rfl rfl ?_
  refine zj_get C (List.mem_of_getElem? (i := 10) rfl) rfl rfl hq0 rfl rfl ?_
  refine zj_iconst (v := 1) C (List.mem_of_getElem? (i := 11) rfl) rfl (by decide) ?_
  refine zj_iadd (v := (nI (l1 + 1))) C (List.mem_of_getElem? (i := 12) rfl) rfl (nI_1 l1) ?_
  refine zj_put C (List.mem_of_getElem? (i := 13) rfl) rfl rfl hq0 rfl (Nat.le_of_ble_eq_true rfl) rfl (zj_fit_i rfl _) ?_
  have hk2 : ∀ i, i ≠ K.I 0 → ((w2.set (K.I 0) (K.aP, .inr (1, [.ref aL, .ref aS, .ref aB, .ref aN, .int (nI d1), .int (nI l1), .int (da ||| r), .int (nI f1), .int st]))).set (K.I 0) (K.aP, .inr (1, [.ref aL, .ref aS, .ref aB, .ref aN, .int (nI d1), .int (nI (l1 + 1)), .int (da ||| r), .int (nI f1), .int st])))[i]? = w2[i]? := fun i h8 => (List.getElem?_set_ne (Ne.symm h8)).trans (List.getElem?_set_ne (Ne.symm h8))
  refine KRv 24 _ _ (List.mem_of_getElem? (i := 14) rfl) rfl ((zx_as_set hq0).trans (zx_as_set hp0)) ⟨rfl, ⟨x, zj_RS_keep hR (fun i hi => hk2 i (fun h => ?_)), hx⟩, ⟨aL, aS, aB, aN, fL, fS, fB, fN, da ||| r, st, zj_set_self hq0, zj_row_keep hp1 (hk2 _ ?_), zj_row_keep hp2 (hk2 _ ?_), zj_row_keep hp3 (hk2 _ ?_), zj_row_keep hp4 (hk2 _ ?_), ⟨hst, fun i i1 i2 => (hk2 i (i2 0 (by decide))).trans (hfr i i1 i2)⟩, hd1, by omega, hf1⟩, htk, hle, ho⟩
  · rcases hi with rfl | rfl
    · exact (hI 0 (by decide)).1 h.symm
    · exact (hI 0 (by decide)).2 h.symm
  · exact fun h => absurd (hJ 1 0 (by decide) (by decide) h) (by decide)
  · exact fun h => absurd (hJ 2 0 (by decide) (by decide) h) (by decide)
  · exact fun h => absurd (hJ 3 0 (by decide) (by decide) h) (by decide)
  · exact fun h => absurd (hJ 4 0 (by decide) (by decide) h) (by decide)
theorem zj_endFee_W {l : Launch} {K : zj_K} {ws0 : va_W} {tk : zj_T} {d1 l1 f1 o1 : Nat} {fk sm : Int32} (hB : zj_Kok K) (h0 : zj_rd K ws0 tk d1 l1 f1 o1 fk) (hf8 : f1 < 8) : zj_W l 1 45 (zj_KX K [.ref K.aP, .int sm] ws0) (fun _ _ _ v ws' => v = none ∧ zj_rd K ws' tk d1 l1 (f1 + 1) o1 fk) := by
  refine zj_enterW (md := zx_m45) rfl rfl ?_ ?_
  · rintro ex tys av ws ⟨-, -, rfl, -⟩
    exact Nat.le_of_ble_eq_true rfl
  intro p e R s mi args below meth c Q D A ex nL own cc tys ws av hX C hnL KRi KRv KRa
  subst hnL
  obtain ⟨h1, h2, h3, h4⟩ := hX
  subst h1
  subst h2
  subst h3
  subst h4
  obtain ⟨⟨x, hR, hx⟩, hP, htk, hle, ho⟩ := h0
  obtain ⟨aL, aS, aB, aN, fL, fS, fB, fN, da, st, hp0, hp1, hp2, hp3, hp4, ⟨hst, hfr⟩, hd1, hl1, hf1⟩ := hP
  have hI := hB.2.2.2.2.1
  have hJ := hB.2.2.2.2.2.1
  refine zj_aload_n C (List.mem_of_getElem? (i := 0) rfl) rfl rfl rfl ?_
  refine zj_get C (List.mem_of_getElem? (i := 1) rfl) rfl rfl hp0 rfl rfl ?_
  refine zj_bipush (v := 8) C (List.mem_of_getElem? (i := 2) rfl) rfl (by decide) ?_
  refine zj_icmp_ge (tgt := 42) C (List.mem_of_getElem? (i := 3) rfl) rfl (by decide) (fun hb => ?_) (fun hb => ?_)
  · exact absurd ((nI_leI (a := 8) (b := f1) (by decide) (by omega)).mp hb) (by omega)
  refine zj_aload_n C (List.mem_of_getElem? (i := 4) rfl) rfl rfl rfl ?_
  refine zj_get C (List.mem_of_getElem? (i := 5) rfl) rfl rfl hp0 rfl rfl ?_
  refine zj_aload_n C (List.mem_of_getElem? (i := 6) rfl) rfl rfl rfl ?_
  refine zj_get C (List.mem_of_getElem? (i := 7) rfl) rfl rfl hp0 rfl rfl ?_
  refine zj_iload_n C (List.mem_of_getElem? (i := 8) rfl) rfl rfl rfl ?_
  refine zj_iast C (List.mem_of_getElem? (i := 9) rfl) rfl hp2 (vp_in_nI hf8 (by decide)) (fun cw2 hcw2 => ?_)
  generalize hfw2 : upd fS _ _ = fw2
  have hkw2 : ∀ i, i ≠ K.I 2 → (ws.set (K.I 2) (aS, .inl (cw2, 8, .inl fw2)))[i]? = ws[i]? := fun i hi => List.getElem?_set_ne (Ne.symm hi)
  have hAw2 : zx_as (ws.set (K.I 2) (aS, .inl (cw2, 8, .inl fw2))) = zx_as ws := zx_as_set hcw2
  have hrw2 := zj_row_set (g := fw2) hp2 hcw2
  generalize ws.set (K.I 2) (aS, .inl (cw2, 8, .inl fw2)) = w2 at hkw2 hAw2 hrw2 ⊢
  have hq0 := (hkw2 (K.I 0) (fun h => absurd (hJ 0 2 (by decide) (by decide) h) (by decide))).trans hp0
  refine zj_aload_n C (List.mem_of_getElem? (i := 10) rfl) rfl rfl rfl ?_
  refine zj_dup C (List.mem_of_getElem? (i := 11) rfl) rfl rfl ?_
  refine zj_get C (List.mem_of_getElem? (i := 12) rfl) rfl rfl hq0 rfl rfl ?_
  refine zj_iconst (v := 1) C (List.mem_of_getElem? (i := 13) rfl) rfl (by decide) ?_
  refine zj_iadd (v := (nI (f1 + 1))) C (List.mem_of_getElem? (i := 14) rfl) rfl (nI_1 f1) ?_
  refine zj_put C (List.mem_of_getElem? (i := 15) rfl) rfl rfl hq0 rfl (Nat.le_of_ble_eq_true rfl) rfl (zj_fit_i rfl _) ?_
  have hk3 : ∀ i, i ≠ K.I 0 → (w2.set (K.I 0) (K.aP, .inr (1, [.ref aL, .ref aS, .ref aB, .ref aN, .int (nI d1), .int (nI l1), .int da, .int (nI (f1 + 1)), .int st])))[i]? = w2[i]? := fun i hi => List.getElem?_set_ne (Ne.symm hi)
  have hA3 : zx_as (w2.set (K.I 0) (K.aP, .inr (1, [.ref aL, .ref aS, .ref aB, .ref aN, .int (nI d1), .int (nI l1), .int da, .int (nI (f1 + 1)), .int st]))) = zx_as w2 := zx_as_set hq0
  have hq1 : (w2.set (K.I 0) (K.aP, .inr (1, [.ref aL, .ref aS, .ref aB, .ref aN, .int (nI d1), .int (nI l1), .int da, .int (nI (f1 + 1)), .int st])))[K.I 0]? = some (K.aP, .inr (1, [.ref aL, .ref aS, .ref aB, .ref aN, .int (nI d1), .int (nI l1), .int da, .int (nI (f1 + 1)), .int st])) := zj_set_self hq0
  show zj_go p l e R s mi args below meth c Q D A _ _ _ _ (w2.set (K.I 0) (K.aP, .inr (1, [.ref aL, .ref aS, .ref aB, .ref aN, .int (nI d1), .int (nI l1), .int da, .int (nI (f1 + 1)), .int st])))
  generalize w2.set (K.I 0) (K.aP, .inr (1, [.ref aL, .ref aS, .ref aB, .ref aN, .int (nI d1), .int (nI l1), .int da, .int (nI (f1 + 1)), .int st])) = w3 at hk3 hA3 hq1 ⊢
  have hr3 := zj_row_keep hp3 ((hk3 _ (fun h => absurd (hJ 3 0 (by decide) (by decide) h) (by decide))).trans (hkw2 _ (fun h => absurd (hJ 3 2 (by decide) (by decide) h) (by decide))))
  refine zj_aload_n C (List.mem_of_getElem? (i := 16) rfl) rfl rfl rfl ?_
  refine zj_get C (List.mem_of_getElem? (i := 17) rfl) rfl rfl hq1 rfl rfl ?_
  refine zj_aload_n C (List.mem_of_getElem? (i := 18) rfl) rfl rfl rfl ?_
  refine zj_get C (List.mem_of_getElem? (i := 19) rfl) rfl rfl hq1 rfl rfl ?_
  refine zj_aload_n C (List.mem_of_getElem? (i := 20) rfl) rfl rfl rfl ?_
  refine zj_get C (List.mem_of_getElem? (i := 21) rfl) rfl rfl hq1 rfl rfl ?_
  refine zj_iast C (List.mem_of_getElem? (i := 22) rfl) rfl hr3 (vp_in_nI (by omega) (by decide)) (fun cw4 hcw4 => ?_)
  generalize hfw4 : upd fB _ _ = fw4
  have hkw4 : ∀ i, i ≠ K.I 3 → (w3.set (K.I 3) (aB, .inl (cw4, 9, .inl fw4)))[i]? = w3[i]? := fun i hi => List.getElem?_set_ne (Ne.symm hi)
  have hAw4 : zx_as (w3.set (K.I 3) (aB, .inl (cw4, 9, .inl fw4))) = zx_as w3 := zx_as_set hcw4
  have hrw4 := zj_row_set (g := fw4) hr3 hcw4
  generalize w3.set (K.I 3) (aB, .inl (cw4, 9, .inl fw4)) = w4 at hkw4 hAw4 hrw4 ⊢
  refine KRv 42 _ _ (List.mem_of_getElem? (i := 23) rfl) rfl (hAw4.trans (hA3.trans hAw2)) ⟨rfl, ⟨x, zj_RS_keep hR (fun i hi => (hkw4 i (fun h => ?_)).trans ((hk3 i (fun h => ?_)).trans (hkw2 i (fun h => ?_)))), hx⟩, ⟨aL, aS, aB, aN, fL, fw2, fw4, fN, da, st, (hkw4 _ (fun h => absurd (hJ 0 3 (by decide) (by decide) h) (by decide))).trans hq1, zj_row_keep hp1 ((hkw4 _ (fun h => absurd (hJ 1 3 (by decide) (by decide) h) (by decide))).trans ((hk3 _ (fun h => absurd (hJ 1 0 (by decide) (by decide) h) (by decide))).trans (hkw2 _ (fun h => absurd (hJ 1 2 (by decide) (by decide) h) (by decide))))), zj_row_keep hrw2 ((hkw4 _ (fun h => absurd (hJ 2 3 (by decide) (by decide) h) (by decide))).trans (hk3 _ (fun h => absurd (hJ 2 0 (by decide) (by decide) h) (by decide)))), hrw4, zj_row_keep hp4 ((hkw4 _ (fun h => absurd (hJ 4 3 (by decide) (by decide) h) (by decide))).trans ((hk3 _ (fun h => absurd (hJ 4 0 (by decide) (by decide) h) (by decide))).trans (hkw2 _ (fun h => absurd (hJ 4 2 (by decide) (by decide) h) (by decide))))), ⟨hst, fun i i1 i2 => (hkw4 i (i2 3 (by decide))).trans ((hk3 i (i2 0 (by decide))).trans ((hkw2 i (i2 2 (by decide))).trans (hfr i i1 i2)))⟩, hd1, hl1, by omega⟩, htk, hle, ho⟩
  · rcases hi with rfl | rfl
    · exact (hI 3 (by decide)).1 h.symm
    · exact (hI 3 (by decide)).2 h.symm
  · rcases hi with rfl | rfl
    · exact (hI 0 (by decide)).1 h.symm
    · exact (hI 0 (by decide)).2 h.symm
  · rcases hi with rfl | rfl
    · exact (hI 2 (by decide)).1 h.symm
    · exact (hI 2 (by decide)).2 h.symm
theorem zj_bit : ∀ d, d < 16 → ∀ k, k < 4 → ((nI d >>> (nI k &&& 31)) &&& 1 = 1 ↔ d.testBit k = true) := by decide
theorem zj_bit2 : ∀ d, d < 16 → ∀ k, k < 4 → d.testBit k = false → nI d ||| ((1 : Int32) <<< (nI k &&& 31)) = nI (d + 2 ^ k) ∧ d + 2 ^ k < 16 := by decide
theorem zj_lo_i : ∀ k, k < 4 → Int32.ofInt (([0, 1, 0, 1] : List Int).getD k 0) = Int32.ofInt (zj_lo k) ∧ Int32.ofInt (([72, 24, 7, 999] : List Int).getD k 0) = Int32.ofInt (zj_hi k) ∧ (Int32.ofInt (zj_lo k)).toInt = zj_lo k ∧ (Int32.ofInt (zj_hi k)).toInt = zj_hi k := by decide
set_option maxHeartbeats 2000000 in
theorem zj_limit_W {l : Launch} {K : zj_K} {ws0 : va_W} {tk : zj_T} {d1 l1 f1 o1 : Nat} {n1 : Nat} {s1 : List Bool} {x1 : Int} {k1 : Nat} (hB : zj_Kok K) (h0 : zj_rd K ws0 tk d1 l1 f1 o1 0) (h4 : tk.1 < 4) : zj_W l 12 31 (zj_KX K [.ref K.aR, .int (nI tk.1)] ws0) (zj_Zb K (0, tk, n1, d1, l1, f1, o1, s1, x1, k1) (fun tk' d' l' f' o' => (∃ kd, kd < 4 ∧ d1.testBit kd = false ∧ d' = d1 + 2 ^ kd) ∧ l1 = l' ∧ f1 = f' ∧ ∃ x' k', zj_R (zj_g K) K.t (0, tk, n1, d1, l1, f1, o1, s1, x1, k1) (0, tk', (n1 + 1), d', l', f', o', s1, x', k'))) := by
  have h00 := h0
  refine zj_enterW (md := zx_m31) rfl rfl ?_ ?_
  · rintro ex tys av ws ⟨-, -, rfl, -⟩
    exact Nat.le_of_ble_eq_true rfl
  intro p e R s mi args below meth c Q D A ex nL own cc tys ws av hX C hnL KRi KRv KRa
  subst hnL
  obtain ⟨h1, h2, h3, h4⟩ := hX
  subst h1
  subst h2
  subst h3
  subst h4
  obtain ⟨aX3, hX3⟩ := hB.2.2.2.2.2.2.1
  obtain ⟨aX4, hX4⟩ := hB.2.2.2.2.2.2.2
  have hI := hB.2.2.2.2.1
  have hJ := hB.2.2.2.2.2.1
  obtain ⟨⟨x, hR, hx⟩, hP, htk, hle, ho⟩ := h0
  have hpp := hP
  obtain ⟨aL, aS, aB, aN, fL, fS, fB, fN, da, st, hp0, hp1, hp2, hp3, hp4, ⟨hst, hfr⟩, hd1, hl1, hf1⟩ := hpp
  have hbit := zj_bit d1 hd1 tk.1 h4
  have hlo := zj_lo_i tk.1 h4
  refine zj_aload_n C (List.mem_of_getElem? (i := 0) rfl) rfl rfl rfl ?_
  refine zj_get C (List.mem_of_getElem? (i := 1) rfl) rfl rfl hR.1 rfl rfl ?_
  refine zj_get C (List.mem_of_getElem? (i := 2) rfl) rfl rfl hp0 rfl rfl ?_
  refine zj_iload_n C (List.mem_of_getElem? (i := 3) rfl) rfl rfl rfl ?_
  refine zj_ishr (v := _) C (List.mem_of_getElem? (i := 4) rfl) rfl rfl ?_
  refine zj_iconst (v := 1) C (List.mem_of_getElem? (i := 5) rfl) rfl (by decide) ?_
  refine zj_iand (v := _) C (List.mem_of_getElem? (i := 6) rfl) rfl rfl ?_
  refine zj_iconst (v := 1) C (List.mem_of_getElem? (i := 7) rfl) rfl (by decide) ?_
  refine zj_icmp_ne (tgt := 21) C (List.mem_of_getElem? (i := 8) rfl) rfl (by decide) (fun hb => ?_) (fun hb => ?_)
  rotate_left
  · have hb := hbit.mp hb
    refine zj_aload_n C (List.mem_of_getElem? (i := 9) rfl) rfl rfl rfl ?_
    refine zj_iconst (v := 3) C (List.mem_of_getElem? (i := 10) rfl) rfl (by decide) ?_
    refine zj_callV (As := [.int 3]) (rest := []) C (List.mem_of_getElem? (i := 11) rfl) rfl rfl rfl (by decide) (zj_W_mono (zj_blame_W (kd := 3) hB h00) (by decide)) rfl rfl hR.1 rfl (Nat.le_of_ble_eq_true rfl) rfl ⟨rfl, rfl, rfl, rfl⟩ (fun v w9 hw9A hw9Z => ?_)
    obtain ⟨hv, h9⟩ := hw9Z
    subst hv
    exact KRi 20 _ _ _ (List.mem_of_getElem? (i := 12) rfl) (by decide) (Or.inr ⟨rfl, Or.inl rfl⟩) hw9A (Or.inr ⟨rfl, tk, d1, l1, f1, o1, 3, h9, zj_R_st (by rw [zj_st, if_neg (by omega), if_pos h4, if_pos hb])⟩)
  have hb : d1.testBit tk.1 = false := by
    cases hq : d1.testBit tk.1 with
    | false => rfl
    | true => exact absurd (hbit.mpr hq) hb
  obtain ⟨hbv, hb16⟩ := zj_bit2 d1 hd1 tk.1 h4 hb
  refine zj_aload_n C (List.mem_of_getElem? (i := 13) rfl) rfl rfl rfl ?_
  refine zj_callV (As := []) (rest := []) C (List.mem_of_getElem? (i := 14) rfl) rfl rfl rfl (by decide) (zj_W_mono (zj_adv_W hB h00) (by decide)) rfl rfl hR.1 rfl (Nat.le_of_ble_eq_true rfl) rfl ⟨rfl, rfl, rfl, rfl⟩ (fun v w2 hw2A hw2Z => ?_)
  obtain ⟨hv, h2⟩ := hw2Z
  subst hv
  have h22 := h2
  have r1 : zj_R (zj_g K) K.t (0, tk, n1, d1, l1, f1, o1, s1, x1, k1) (1, (zj_nx K tk), n1, d1, l1, f1, o1, s1, x1, tk.1) := zj_R_st (by rw [zj_st, if_neg (by omega), if_pos h4, if_neg (by rw [hb]; decide)]; rfl)
  generalize zj_nx K tk = tk2 at h2 h22 r1
  obtain ⟨⟨x2, hR2, hx2⟩, hP2, htk2, hle2, ho2⟩ := h2
  refine zj_aload_n C (List.mem_of_getElem? (i := 15) rfl) rfl rfl rfl ?_
  refine zj_gets C (List.mem_of_getElem? (i := 16) rfl) rfl rfl hX3 ?_
  refine zj_iload_n C (List.mem_of_getElem? (i := 17) rfl) rfl rfl rfl ?_
  refine zj_ti (id := 3) (row := [0, 1, 0, 1]) (v := Int32.ofInt (zj_lo tk.1)) C (List.mem_of_getElem? (i := 18) rfl) rfl (by decide) (by decide) hX3 (vp_in_nI h4 (by decide)) (by rw [nI_clamp (by omega)]; exact hlo.1) ?_
  refine zj_gets C (List.mem_of_getElem? (i := 19) rfl) rfl rfl hX4 ?_
  refine zj_iload_n C (List.mem_of_getElem? (i := 20) rfl) rfl rfl rfl ?_
  refine zj_ti (id := 4) (row := [72, 24, 7, 999]) (v := Int32.ofInt (zj_hi tk.1)) C (List.mem_of_getElem? (i := 21) rfl) rfl (by decide) (by decide) hX4 (vp_in_nI h4 (by decide)) (by rw [nI_clamp (by omega)]; exact hlo.2.1) ?_
  refine zj_callV (As := [.int (Int32.ofInt (zj_lo tk.1)), .int (Int32.ofInt (zj_hi tk.1))]) (rest := []) C (List.mem_of_getElem? (i := 22) rfl) rfl rfl rfl (by decide) (zj_W_mono (zj_isNumber_W (lo := (Int32.ofInt (zj_lo tk.1))) (hi := (Int32.ofInt (zj_hi tk.1))) hB h22) (by decide)) rfl rfl hR2.1 rfl (Nat.le_of_ble_eq_true rfl) rfl ⟨rfl, rfl, rfl, rfl⟩ (fun v w3 hw3A hw3Z => ?_)
  rcases hw3Z with ⟨hv, hnu, hbd, h8⟩ | ⟨hv, hnu, h8⟩ | ⟨hv, hnu, hbd, h8⟩
  rotate_left
  · subst hv
    refine zj_if_ne (tgt := 44) C (List.mem_of_getElem? (i := 23) rfl) rfl (by decide) (fun hd => ?_) (fun hd => ?_)
    · exact absurd rfl hd
    refine zj_iconst (v := 0) C (List.mem_of_getElem? (i := 24) rfl) rfl (by decide) ?_
    exact KRi 43 _ _ _ (List.mem_of_getElem? (i := 25) rfl) (by decide) (Or.inr ⟨rfl, Or.inl rfl⟩) (hw3A.trans hw2A) (Or.inr ⟨rfl, tk2, d1, l1, f1, o1, 1, h8, zj_R_tr r1 (zj_R_st (by rw [zj_st, if_neg hnu]))⟩)
  · subst hv
    refine zj_if_ne (tgt := 44) C (List.mem_of_getElem? (i := 23) rfl) rfl (by decide) (fun hd => ?_) (fun hd => ?_)
    · exact absurd rfl hd
    refine zj_iconst (v := 0) C (List.mem_of_getElem? (i := 24) rfl) rfl (by decide) ?_
    exact KRi 43 _ _ _ (List.mem_of_getElem? (i := 25) rfl) (by decide) (Or.inr ⟨rfl, Or.inl rfl⟩) (hw3A.trans hw2A) (Or.inr ⟨rfl, tk2, d1, l1, f1, o1, 2, h8, zj_R_tr r1 (zj_R_st (by rw [zj_st, if_pos hnu, if_neg (fun h => hbd (by rw [hlo.2.2.1, hlo.2.2.2]; exact h))]))⟩)
  subst hv
  refine zj_if_ne (tgt := 44) C (List.mem_of_getElem? (i := 23) rfl) rfl (by decide) (fun hd => ?_) (fun hd => ?_)
  rotate_left
  · exact absurd hd (by decide)
  have hbd : zj_lo tk.1 ≤ tk2.2.1 ∧ tk2.2.1 ≤ zj_hi tk.1 := by
    rw [← hlo.2.2.1, ← hlo.2.2.2]
    exact hbd
  have r2 := zj_R_tr r1 (zj_R_st (c' := (9, (zj_nx K tk2), n1, (d1 + 2 ^ tk.1), l1, f1, o1, s1, x1, tk.1)) (by rw [zj_st, if_pos hnu, if_pos hbd]; rfl))
  obtain ⟨⟨x3, hR3, hx3⟩, hP3, htk3, hle3, ho3⟩ := h8
  obtain ⟨aL, aS, aB, aN, fL, fS, fB, fN, da, st, hp0, hp1, hp2, hp3, hp4, ⟨hst, hfr⟩, -, -, -⟩ := hP3
  refine zj_aload_n C (List.mem_of_getElem? (i := 26) rfl) rfl rfl rfl ?_
  refine zj_get C (List.mem_of_getElem? (i := 27) rfl) rfl rfl hR3.1 rfl rfl ?_
  refine zj_get C (List.mem_of_getElem? (i := 28) rfl) rfl rfl hp0 rfl rfl ?_
  refine zj_iload_n C (List.mem_of_getElem? (i := 29) rfl) rfl rfl rfl ?_
  refine zj_aload_n C (List.mem_of_getElem? (i := 30) rfl) rfl rfl rfl ?_
  refine zj_get C (List.mem_of_getElem? (i := 31) rfl) rfl rfl hR3.1 rfl rfl ?_
  refine zj_iast C (List.mem_of_getElem? (i := 32) rfl) rfl hp1 (vp_in_nI h4 (by decide)) (fun cw4 hcw4 => ?_)
  generalize hfw4 : upd fL _ _ = fw4
  have hkw4 : ∀ i, i ≠ K.I 1 → (w3.set (K.I 1) (aL, .inl (cw4, 4, .inl fw4)))[i]? = w3[i]? := fun i hi => List.getElem?_set_ne (Ne.symm hi)
  have hAw4 : zx_as (w3.set (K.I 1) (aL, .inl (cw4, 4, .inl fw4))) = zx_as w3 := zx_as_set hcw4
  have hrw4 := zj_row_set (g := fw4) hp1 hcw4
  generalize w3.set (K.I 1) (aL, .inl (cw4, 4, .inl fw4)) = w4 at hkw4 hAw4 hrw4 ⊢
  have hR4 := zj_RS_keep hR3 (fun i hi => hkw4 i (fun h => by rcases hi with rfl | rfl; exact (hI 1 (by decide)).1 h.symm; exact (hI 1 (by decide)).2 h.symm))
  have hq0 := (hkw4 (K.I 0) (fun h => absurd (hJ 0 1 (by decide) (by decide) h) (by decide))).trans hp0
  refine zj_aload_n C (List.mem_of_getElem? (i := 33) rfl) rfl rfl rfl ?_
  refine zj_get C (List.mem_of_getElem? (i := 34) rfl) rfl rfl hR4.1 rfl rfl ?_
  refine zj_dup C (List.mem_of_getElem? (i := 35) rfl) rfl rfl ?_
  refine zj_get C (List.mem_of_getElem? (i := 36) rfl) rfl rfl hq0 rfl rfl ?_
  refine zj_iconst (v := 1) C (List.mem_of_getElem? (i := 37) rfl) rfl (by decide) ?_
  refine zj_iload_n C (List.mem_of_getElem? (i := 38) rfl) rfl rfl rfl ?_
  refine zj_ishl (v := _) C (List.mem_of_getElem? (i := 39) rfl) rfl rfl ?_
  refine zj_ior (v := (nI (d1 + 2 ^ tk.1))) C (List.mem_of_getElem? (i := 40) rfl) rfl hbv ?_
  refine zj_put C (List.mem_of_getElem? (i := 41) rfl) rfl rfl hq0 rfl (Nat.le_of_ble_eq_true rfl) rfl (zj_fit_i rfl _) ?_
  have hk5 : ∀ i, i ≠ K.I 0 → (w4.set (K.I 0) (K.aP, .inr (1, [.ref aL, .ref aS, .ref aB, .ref aN, .int (nI (d1 + 2 ^ tk.1)), .int (nI l1), .int da, .int (nI f1), .int st])))[i]? = w4[i]? := fun i hi => List.getElem?_set_ne (Ne.symm hi)
  have hA5 : zx_as (w4.set (K.I 0) (K.aP, .inr (1, [.ref aL, .ref aS, .ref aB, .ref aN, .int (nI (d1 + 2 ^ tk.1)), .int (nI l1), .int da, .int (nI f1), .int st]))) = zx_as w4 := zx_as_set hq0
  have hq1 : (w4.set (K.I 0) (K.aP, .inr (1, [.ref aL, .ref aS, .ref aB, .ref aN, .int (nI (d1 + 2 ^ tk.1)), .int (nI l1), .int da, .int (nI f1), .int st])))[K.I 0]? = some (K.aP, .inr (1, [.ref aL, .ref aS, .ref aB, .ref aN, .int (nI (d1 + 2 ^ tk.1)), .int (nI l1), .int da, .int (nI f1), .int st])) := zj_set_self hq0
  show zj_go p l e R s mi args below meth c Q D A _ _ _ _ (w4.set (K.I 0) (K.aP, .inr (1, [.ref aL, .ref aS, .ref aB, .ref aN, .int (nI (d1 + 2 ^ tk.1)), .int (nI l1), .int da, .int (nI f1), .int st])))
  generalize w4.set (K.I 0) (K.aP, .inr (1, [.ref aL, .ref aS, .ref aB, .ref aN, .int (nI (d1 + 2 ^ tk.1)), .int (nI l1), .int da, .int (nI f1), .int st])) = w5 at hk5 hA5 hq1 ⊢
  have hR5 := zj_RS_keep hR4 (fun i hi => hk5 i (fun h => by rcases hi with rfl | rfl; exact (hI 0 (by decide)).1 h.symm; exact (hI 0 (by decide)).2 h.symm))
  have h5 : zj_rd K w5 tk2 (d1 + 2 ^ tk.1) l1 f1 o1 0 := ⟨⟨x3, hR5, hx3⟩, ⟨aL, aS, aB, aN, fw4, fS, fB, fN, da, st, hq1, zj_row_keep hrw4 (hk5 _ (fun h => absurd (hJ 1 0 (by decide) (by decide) h) (by decide))), zj_row_keep hp2 ((hk5 _ (fun h => absurd (hJ 2 0 (by decide) (by decide) h) (by decide))).trans (hkw4 _ (fun h => absurd (hJ 2 1 (by decide) (by decide) h) (by decide)))), zj_row_keep hp3 ((hk5 _ (fun h => absurd (hJ 3 0 (by decide) (by decide) h) (by decide))).trans (hkw4 _ (fun h => absurd (hJ 3 1 (by decide) (by decide) h) (by decide)))), zj_row_keep hp4 ((hk5 _ (fun h => absurd (hJ 4 0 (by decide) (by decide) h) (by decide))).trans (hkw4 _ (fun h => absurd (hJ 4 1 (by decide) (by decide) h) (by decide)))), ⟨hst, fun i i1 i2 => (hk5 i (i2 0 (by decide))).trans ((hkw4 i (i2 1 (by decide))).trans (hfr i i1 i2))⟩, hb16, hl1, hf1⟩, htk3, hle3, ho3⟩
  refine zj_aload_n C (List.mem_of_getElem? (i := 42) rfl) rfl rfl rfl ?_
  refine zj_callV (As := []) (rest := []) C (List.mem_of_getElem? (i := 43) rfl) rfl rfl rfl (by decide) (zj_W_mono (zj_adv_W hB h5) (by decide)) rfl rfl hR5.1 rfl (Nat.le_of_ble_eq_true rfl) rfl ⟨rfl, rfl, rfl, rfl⟩ (fun v w6 hw6A hw6Z => ?_)
  obtain ⟨hv, h6⟩ := hw6Z
  subst hv
  generalize zj_nx K tk2 = tk3 at h6 r2
  refine zj_aload_n C (List.mem_of_getElem? (i := 44) rfl) rfl rfl rfl ?_
  refine zj_gets C (List.mem_of_getElem? (i := 45) rfl) rfl rfl (hB.2.2.1 24 (by decide)) ?_
  have hz := h6
  obtain ⟨⟨xz, hRz, -⟩, -, -, -, -⟩ := hz
  refine zj_callV (As := [.ref (K.ak 24)]) (rest := []) C (List.mem_of_getElem? (i := 46) rfl) rfl rfl rfl (by decide) (zj_W_mono (zj_passes_W (j := 24) hB h6 (by decide)) (by decide)) rfl rfl hRz.1 rfl (Nat.le_of_ble_eq_true rfl) rfl ⟨rfl, rfl, rfl, rfl⟩ (fun v wz hwzA hwzZ => ?_)
  rcases hwzZ with ⟨hv, hcl, h9⟩ | ⟨hv, hcl, h9⟩
  · subst hv
    exact KRi 83 _ _ _ (List.mem_of_getElem? (i := 47) rfl) (by decide) (Or.inr ⟨rfl, Or.inr rfl⟩) (hwzA.trans (hw6A.trans (hA5.trans (hAw4.trans (hw3A.trans hw2A))))) (Or.inl ⟨rfl, _, _, _, _, _, h9, ⟨tk.1, h4, hb, rfl⟩, rfl, rfl, x1, tk.1, zj_R_tr r2 (zj_R_st (by rw [zj_st, if_pos hcl]; rfl))⟩)
  subst hv
  exact KRi 83 _ _ _ (List.mem_of_getElem? (i := 47) rfl) (by decide) (Or.inr ⟨rfl, Or.inl rfl⟩) (hwzA.trans (hw6A.trans (hA5.trans (hAw4.trans (hw3A.trans hw2A))))) (Or.inr ⟨rfl, tk3, (d1 + 2 ^ tk.1), l1, f1, o1, 1, h9, zj_R_tr r2 (zj_R_st (by rw [zj_st, if_neg hcl]))⟩)
set_option maxHeartbeats 2000000 in
theorem zj_leave_W {l : Launch} {K : zj_K} {ws0 : va_W} {tk : zj_T} {d1 l1 f1 o1 : Nat} {n1 : Nat} {s1 : List Bool} {x1 : Int} {k1 : Nat} (hB : zj_Kok K) (h0 : zj_rd K ws0 tk d1 l1 f1 o1 0) (h4 : tk.1 = 4) : zj_W l 12 35 (zj_KX K [.ref K.aR] ws0) (zj_Zb K (0, tk, n1, d1, l1, f1, o1, s1, x1, k1) (fun tk' d' l' f' o' => d1 = d' ∧ l1 + 1 = l' ∧ f1 = f' ∧ ∃ x' k', zj_R (zj_g K) K.t (0, tk, n1, d1, l1, f1, o1, s1, x1, k1) (0, tk', (n1 + 1), d', l', f', o', s1, x', k'))) := by
  have h00 := h0
  refine zj_enterW (md := zx_m35) rfl rfl ?_ ?_
  · rintro ex tys av ws ⟨-, -, rfl, -⟩
    exact Nat.le_of_ble_eq_true rfl
  intro p e R s mi args below meth c Q D A ex nL own cc tys ws av hX C hnL KRi KRv KRa
  subst hnL
  obtain ⟨h1, h2, h3, h4⟩ := hX
  subst h1
  subst h2
  subst h3
  subst h4
  obtain ⟨⟨x, hR, hx⟩, hP, htk, hle, ho⟩ := h0
  have hpp := hP
  obtain ⟨aL, aS, aB, aN, fL, fS, fB, fN, da, st, hp0, hp1, hp2, hp3, hp4, ⟨hst, hfr⟩, hd1, hl1, hf1⟩ := hpp
  refine zj_aload_n C (List.mem_of_getElem? (i := 0) rfl) rfl rfl rfl ?_
  refine zj_get C (List.mem_of_getElem? (i := 1) rfl) rfl rfl hR.1 rfl rfl ?_
  refine zj_get C (List.mem_of_getElem? (i := 2) rfl) rfl rfl hp0 rfl rfl ?_
  refine zj_bipush (v := 6) C (List.mem_of_getElem? (i := 3) rfl) rfl (by decide) ?_
  refine zj_icmp_lt (tgt := 18) C (List.mem_of_getElem? (i := 4) rfl) rfl (by decide) (fun hb => ?_) (fun hb => ?_)
  rotate_left
  · have hb : l1 = 6 := by
      rcases Nat.lt_or_ge l1 6 with h | h
      · exact absurd ((nI_ltI (a := l1) (b := 6) (by omega) (by decide)).mpr h) hb
      · omega
    refine zj_aload_n C (List.mem_of_getElem? (i := 5) rfl) rfl rfl rfl ?_
    refine zj_iconst (v := 3) C (List.mem_of_getElem? (i := 6) rfl) rfl (by decide) ?_
    refine zj_callV (As := [.int 3]) (rest := []) C (List.mem_of_getElem? (i := 7) rfl) rfl rfl rfl (by decide) (zj_W_mono (zj_blame_W (kd := 3) hB h00) (by decide)) rfl rfl hR.1 rfl (Nat.le_of_ble_eq_true rfl) rfl ⟨rfl, rfl, rfl, rfl⟩ (fun v w9 hw9A hw9Z => ?_)
    obtain ⟨hv, h9⟩ := hw9Z
    subst hv
    exact KRi 17 _ _ _ (List.mem_of_getElem? (i := 8) rfl) (by decide) (Or.inr ⟨rfl, Or.inl rfl⟩) hw9A (Or.inr ⟨rfl, tk, d1, l1, f1, o1, 3, h9, zj_R_st (by rw [zj_st, if_neg (by omega), if_neg (by omega), if_pos h4, if_pos hb])⟩)
  have hb : l1 < 6 := (nI_ltI (a := l1) (b := 6) (by omega) (by decide)).mp hb
  refine zj_aload_n C (List.mem_of_getElem? (i := 9) rfl) rfl rfl rfl ?_
  have r1 : zj_R (zj_g K) K.t (0, tk, n1, d1, l1, f1, o1, s1, x1, k1) (2, (zj_nx K tk), n1, d1, l1, f1, o1, s1, x1, k1) := zj_R_st (by rw [zj_st, if_neg (by omega), if_neg (by omega), if_pos h4, if_neg (by omega)]; rfl)
  refine zj_callV (As := []) (rest := []) C (List.mem_of_getElem? (i := 10) rfl) rfl rfl rfl (by decide) (zj_W_mono (zj_adv_W hB h00) (by decide)) rfl rfl hR.1 rfl (Nat.le_of_ble_eq_true rfl) rfl ⟨rfl, rfl, rfl, rfl⟩ (fun v w2 hw2A hw2Z => ?_)
  obtain ⟨hv, htk2⟩ := hw2Z
  subst hv
  have htk2b := htk2
  generalize zj_nx K tk = tk2 at htk2 htk2b r1
  obtain ⟨⟨x2, hRtk2, hxtk2⟩, hPtk2, hlttk2, hletk2, hotk2⟩ := htk2
  refine zj_aload_n C (List.mem_of_getElem? (i := 11) rfl) rfl rfl rfl ?_
  refine zj_iconst (v := 0) C (List.mem_of_getElem? (i := 12) rfl) rfl (by decide) ?_
  refine zj_bipush (v := 29) C (List.mem_of_getElem? (i := 13) rfl) rfl (by decide) ?_
  refine zj_callV (As := [.int 0, .int 29]) (rest := []) C (List.mem_of_getElem? (i := 14) rfl) rfl rfl rfl (by decide) (zj_W_mono (zj_isNumber_W (lo := 0) (hi := 29) hB htk2b) (by decide)) rfl rfl hRtk2.1 rfl (Nat.le_of_ble_eq_true rfl) rfl ⟨rfl, rfl, rfl, rfl⟩ (fun v w3 hw3A hw3Z => ?_)
  rcases hw3Z with ⟨hv, hnu, hbd, h8⟩ | ⟨hv, hnu, h8⟩ | ⟨hv, hnu, hbd, h8⟩
  rotate_left
  · subst hv
    refine zj_if_ne (tgt := 34) C (List.mem_of_getElem? (i := 15) rfl) rfl (by decide) (fun hd => ?_) (fun hd => ?_)
    · exact absurd rfl hd
    refine zj_iconst (v := 0) C (List.mem_of_getElem? (i := 16) rfl) rfl (by decide) ?_
    exact KRi 33 _ _ _ (List.mem_of_getElem? (i := 17) rfl) (by decide) (Or.inr ⟨rfl, Or.inl rfl⟩) (hw3A.trans hw2A) (Or.inr ⟨rfl, tk2, d1, l1, f1, o1, 1, h8, zj_R_tr r1 (zj_R_st (by rw [zj_st, if_neg hnu]))⟩)
  · subst hv
    refine zj_if_ne (tgt := 34) C (List.mem_of_getElem? (i := 15) rfl) rfl (by decide) (fun hd => ?_) (fun hd => ?_)
    · exact absurd rfl hd
    refine zj_iconst (v := 0) C (List.mem_of_getElem? (i := 16) rfl) rfl (by decide) ?_
    exact KRi 33 _ _ _ (List.mem_of_getElem? (i := 17) rfl) (by decide) (Or.inr ⟨rfl, Or.inl rfl⟩) (hw3A.trans hw2A) (Or.inr ⟨rfl, tk2, d1, l1, f1, o1, 2, h8, zj_R_tr r1 (zj_R_st (by rw [zj_st, if_pos hnu, if_neg (show ¬ (0 ≤ tk2.2.1 ∧ tk2.2.1 ≤ 29) from hbd)]))⟩)
  subst hv
  refine zj_if_ne (tgt := 34) C (List.mem_of_getElem? (i := 15) rfl) rfl (by decide) (fun hd => ?_) (fun hd => ?_)
  rotate_left
  · exact absurd hd (by decide)
  have hbd : 0 ≤ tk2.2.1 ∧ tk2.2.1 ≤ 29 := hbd
  have r2 := zj_R_tr r1 (zj_R_st (c' := (3, (zj_nx K tk2), n1, d1, l1, f1, o1, s1, tk2.2.1, k1)) (by rw [zj_st, if_pos hnu, if_pos hbd]; rfl))
  have h8b := h8
  obtain ⟨⟨x3, hR3, hx3⟩, -, -, -, -⟩ := h8
  have hx3 := hx3 hnu
  obtain ⟨a3, rfl, ha3⟩ : ∃ a3 : Nat, x3 = nI a3 ∧ a3 ≤ 29 := ⟨x3.toInt.toNat, (zx_nat (by omega)).1, by omega⟩
  refine zj_aload_n C (List.mem_of_getElem? (i := 18) rfl) rfl rfl rfl ?_
  refine zj_get C (List.mem_of_getElem? (i := 19) rfl) rfl rfl hR3.1 rfl rfl ?_
  refine zj_istore_n C (List.mem_of_getElem? (i := 20) rfl) rfl rfl (by decide) rfl ?_
  refine zj_aload_n C (List.mem_of_getElem? (i := 21) rfl) rfl rfl rfl ?_
  have hxa : ((a3 : Nat) : Int) = tk2.2.1 := by rw [← hx3, nI_toInt (by omega)]
  refine zj_callV (As := []) (rest := []) C (List.mem_of_getElem? (i := 22) rfl) rfl rfl rfl (by decide) (zj_W_mono (zj_adv_W hB h8b) (by decide)) rfl rfl hR3.1 rfl (Nat.le_of_ble_eq_true rfl) rfl ⟨rfl, rfl, rfl, rfl⟩ (fun v w4 hw4A hw4Z => ?_)
  obtain ⟨hv, htk4⟩ := hw4Z
  subst hv
  have htk4b := htk4
  generalize zj_nx K tk2 = tk4 at htk4 htk4b r2
  obtain ⟨⟨x4, hRtk4, hxtk4⟩, hPtk4, hlttk4, hletk4, hotk4⟩ := htk4
  refine zj_aload_n C (List.mem_of_getElem? (i := 23) rfl) rfl rfl rfl ?_
  refine zj_gets C (List.mem_of_getElem? (i := 24) rfl) rfl rfl (hB.2.2.1 5 (by decide)) ?_
  refine zj_callV (As := [.ref (K.ak 5)]) (rest := []) C (List.mem_of_getElem? (i := 25) rfl) rfl rfl rfl (by decide) (zj_W_mono (zj_passes_W (j := 5) hB htk4b (by decide)) (by decide)) rfl rfl hRtk4.1 rfl (Nat.le_of_ble_eq_true rfl) rfl ⟨rfl, rfl, rfl, rfl⟩ (fun v w5 hw5A hw5Z => ?_)
  rcases hw5Z with ⟨hv, hcl, h9⟩ | ⟨hv, hcl, h9⟩
  rotate_left
  · subst hv
    refine zj_if_eq (tgt := 63) C (List.mem_of_getElem? (i := 26) rfl) rfl (by decide) (fun hd => ?_) (fun hd => ?_)
    rotate_left
    · exact absurd rfl hd
    refine zj_iconst (v := 0) C (List.mem_of_getElem? (i := 32) rfl) rfl (by decide) ?_
    exact KRi 64 _ _ _ (List.mem_of_getElem? (i := 33) rfl) (by decide) (Or.inr ⟨rfl, Or.inl rfl⟩) (hw5A.trans (hw4A.trans (hw3A.trans hw2A))) (Or.inr ⟨rfl, tk4, d1, l1, f1, o1, 1, h9, zj_R_tr r2 (zj_R_st (by rw [zj_st, if_neg hcl]))⟩)
  subst hv
  refine zj_if_eq (tgt := 63) C (List.mem_of_getElem? (i := 26) rfl) rfl (by decide) (fun hd => ?_) (fun hd => ?_)
  · exact absurd hd (by decide)
  have r3 := zj_R_tr r2 (zj_R_st (c' := (4, (zj_nx K tk4), n1, d1, l1, f1, o1, s1, tk2.2.1, k1)) (by rw [zj_st, if_pos hcl]; rfl))
  generalize zj_nx K tk4 = tk5 at h9 r3
  have h9b := h9
  obtain ⟨⟨x5, hR5, hx5⟩, -, -, -, -⟩ := h9
  refine zj_aload_n C (List.mem_of_getElem? (i := 27) rfl) rfl rfl rfl ?_
  refine zj_iload_n C (List.mem_of_getElem? (i := 28) rfl) rfl rfl rfl ?_
  refine zj_bipush (v := 29) C (List.mem_of_getElem? (i := 29) rfl) rfl (by decide) ?_
  clear hnu hbd h8b
  refine zj_callV (As := [.int (nI a3), .int 29]) (rest := []) C (List.mem_of_getElem? (i := 30) rfl) rfl rfl rfl (by decide) (zj_W_mono (zj_isNumber_W (lo := (nI a3)) (hi := 29) hB h9b) (by decide)) rfl rfl hR5.1 rfl (Nat.le_of_ble_eq_true rfl) rfl ⟨rfl, rfl, rfl, rfl⟩ (fun v w6 hw6A hw6Z => ?_)
  rcases hw6Z with ⟨hv, hnu, hbd, h8⟩ | ⟨hv, hnu, h8⟩ | ⟨hv, hnu, hbd, h8⟩
  rotate_left
  · subst hv
    refine zj_if_ne (tgt := 65) C (List.mem_of_getElem? (i := 31) rfl) rfl (by decide) (fun hd => ?_) (fun hd => ?_)
    · exact absurd rfl hd
    refine zj_iconst (v := 0) C (List.mem_of_getElem? (i := 32) rfl) rfl (by decide) ?_
    exact KRi 64 _ _ _ (List.mem_of_getElem? (i := 33) rfl) (by decide) (Or.inr ⟨rfl, Or.inl rfl⟩) (hw6A.trans (hw5A.trans (hw4A.trans (hw3A.trans hw2A)))) (Or.inr ⟨rfl, tk5, d1, l1, f1, o1, 1, h8, zj_R_tr r3 (zj_R_st (by rw [zj_st, if_neg hnu]))⟩)
  · subst hv
    refine zj_if_ne (tgt := 65) C (List.mem_of_getElem? (i := 31) rfl) rfl (by decide) (fun hd => ?_) (fun hd => ?_)
    · exact absurd rfl hd
    refine zj_iconst (v := 0) C (List.mem_of_getElem? (i := 32) rfl) rfl (by decide) ?_
    exact KRi 64 _ _ _ (List.mem_of_getElem? (i := 33) rfl) (by decide) (Or.inr ⟨rfl, Or.inl rfl⟩) (hw6A.trans (hw5A.trans (hw4A.trans (hw3A.trans hw2A)))) (Or.inr ⟨rfl, tk5, d1, l1, f1, o1, 2, h8, zj_R_tr r3 (zj_R_st (by rw [zj_st, if_pos hnu, if_neg (fun h => hbd (by rw [nI_toInt (by omega), hxa]; exact h))]))⟩)
  subst hv
  refine zj_if_ne (tgt := 65) C (List.mem_of_getElem? (i := 31) rfl) rfl (by decide) (fun hd => ?_) (fun hd => ?_)
  rotate_left
  · exact absurd hd (by decide)
  have hbd : tk2.2.1 ≤ tk5.2.1 ∧ tk5.2.1 ≤ 29 := by
    rw [nI_toInt (by omega), hxa] at hbd
    exact hbd
  have r4 := zj_R_tr r3 (zj_R_st (c' := (9, (zj_nx K tk5), n1, d1, (l1 + 1), f1, o1, s1, tk2.2.1, k1)) (by rw [zj_st, if_pos hnu, if_pos hbd]; rfl))
  have h8b := h8
  obtain ⟨⟨x6, hR6, hx6⟩, hP6, -, -, -⟩ := h8
  obtain ⟨aL6, aS6, aB6, aN6, fL6, fS6, fB6, fN6, da6, st6, hq0, -⟩ := hP6
  refine zj_aload_n C (List.mem_of_getElem? (i := 34) rfl) rfl rfl rfl ?_
  refine zj_get C (List.mem_of_getElem? (i := 35) rfl) rfl rfl hR6.1 rfl rfl ?_
  refine zj_iload_n C (List.mem_of_getElem? (i := 36) rfl) rfl rfl rfl ?_
  refine zj_aload_n C (List.mem_of_getElem? (i := 37) rfl) rfl rfl rfl ?_
  refine zj_get C (List.mem_of_getElem? (i := 38) rfl) rfl rfl hR6.1 rfl rfl ?_
  refine zj_callV (As := [.int (nI a3), .int x6]) (rest := []) C (List.mem_of_getElem? (i := 39) rfl) rfl rfl rfl (by decide) (zj_W_mono (zj_addLeave_W (a := a3) (b := x6) hB h8b (by omega) hb) (by decide)) rfl rfl hq0 rfl (Nat.le_of_ble_eq_true rfl) rfl ⟨rfl, rfl, rfl, rfl⟩ (fun v w7 hw7A hw7Z => ?_)
  obtain ⟨hv, h10⟩ := hw7Z
  subst hv
  have h10b := h10
  obtain ⟨⟨x7, hR7, hx7⟩, -, -, -, -⟩ := h10
  refine zj_aload_n C (List.mem_of_getElem? (i := 40) rfl) rfl rfl rfl ?_
  refine zj_callV (As := []) (rest := []) C (List.mem_of_getElem? (i := 41) rfl) rfl rfl rfl (by decide) (zj_W_mono (zj_adv_W hB h10b) (by decide)) rfl rfl hR7.1 rfl (Nat.le_of_ble_eq_true rfl) rfl ⟨rfl, rfl, rfl, rfl⟩ (fun v w8 hw8A hw8Z => ?_)
  obtain ⟨hv, h11⟩ := hw8Z
  subst hv
  generalize zj_nx K tk5 = tk9 at h11 r4
  refine zj_aload_n C (List.mem_of_getElem? (i := 42) rfl) rfl rfl rfl ?_
  refine zj_gets C (List.mem_of_getElem? (i := 43) rfl) rfl rfl (hB.2.2.1 24 (by decide)) ?_
  have hz := h11
  obtain ⟨⟨xz, hRz, -⟩, -, -, -, -⟩ := hz
  refine zj_callV (As := [.ref (K.ak 24)]) (rest := []) C (List.mem_of_getElem? (i := 44) rfl) rfl rfl rfl (by decide) (zj_W_mono (zj_passes_W (j := 24) hB h11 (by decide)) (by decide)) rfl rfl hRz.1 rfl (Nat.le_of_ble_eq_true rfl) rfl ⟨rfl, rfl, rfl, rfl⟩ (fun v wz hwzA hwzZ => ?_)
  rcases hwzZ with ⟨hv, hcl, h9⟩ | ⟨hv, hcl, h9⟩
  · subst hv
    exact KRi 88 _ _ _ (List.mem_of_getElem? (i := 45) rfl) (by decide) (Or.inr ⟨rfl, Or.inr rfl⟩) (hwzA.trans (hw8A.trans (hw7A.trans (hw6A.trans (hw5A.trans (hw4A.trans (hw3A.trans hw2A))))))) (Or.inl ⟨rfl, _, _, _, _, _, h9, rfl, rfl, rfl, tk2.2.1, k1, zj_R_tr r4 (zj_R_st (by rw [zj_st, if_pos hcl]; rfl))⟩)
  subst hv
  exact KRi 88 _ _ _ (List.mem_of_getElem? (i := 45) rfl) (by decide) (Or.inr ⟨rfl, Or.inl rfl⟩) (hwzA.trans (hw8A.trans (hw7A.trans (hw6A.trans (hw5A.trans (hw4A.trans (hw3A.trans hw2A))))))) (Or.inr ⟨rfl, tk9, d1, (l1 + 1), f1, o1, 1, h9, zj_R_tr r4 (zj_R_st (by rw [zj_st, if_neg hcl]))⟩)
set_option maxHeartbeats 2000000 in
theorem zj_payment_W {l : Launch} {K : zj_K} {ws0 : va_W} {tk : zj_T} {d1 l1 f1 o1 : Nat} {n1 : Nat} {x1 : Int} {k1 : Nat} (hB : zj_Kok K) (h0 : zj_rd K ws0 tk d1 l1 f1 o1 0) (h4 : tk.1 = 6) : zj_W l 51 38 (zj_KX K [.ref K.aR] ws0) (zj_Zb K (0, tk, n1, d1, l1, f1, o1, [], x1, k1) (fun tk' d' l' f' o' => d1 = d' ∧ l1 = l' ∧ f1 + 1 = f' ∧ ∃ x' k', zj_R (zj_g K) K.t (0, tk, n1, d1, l1, f1, o1, [], x1, k1) (0, tk', (n1 + 1), d', l', f', o', [], x', k'))) := by
  have h00 := h0
  refine zj_enterW (md := zx_m38) rfl rfl ?_ ?_
  · rintro ex tys av ws ⟨-, -, rfl, -⟩
    exact Nat.le_of_ble_eq_true rfl
  intro p e R s mi args below meth c Q D A ex nL own cc tys ws av hX C hnL KRi KRv KRa
  subst hnL
  obtain ⟨h1, h2, h3, h4⟩ := hX
  subst h1
  subst h2
  subst h3
  subst h4
  obtain ⟨⟨x, hR, hx⟩, hP, htk, hle, ho⟩ := h0
  have hpp := hP
  obtain ⟨aL, aS, aB, aN, fL, fS, fB, fN, da, st, hp0, hp1, hp2, hp3, hp4, ⟨hst, hfr⟩, hd1, hl1, hf1⟩ := hpp
  refine zj_aload_n C (List.mem_of_getElem? (i := 0) rfl) rfl rfl rfl ?_
  refine zj_get C (List.mem_of_getElem? (i := 1) rfl) rfl rfl hR.1 rfl rfl ?_
  refine zj_get C (List.mem_of_getElem? (i := 2) rfl) rfl rfl hp0 rfl rfl ?_
  refine zj_bipush (v := 8) C (List.mem_of_getElem? (i := 3) rfl) rfl (by decide) ?_
  refine zj_icmp_lt (tgt := 18) C (List.mem_of_getElem? (i := 4) rfl) rfl (by decide) (fun hb => ?_) (fun hb => ?_)
  rotate_left
  · have hb : f1 = 8 := by
      rcases Nat.lt_or_ge f1 8 with h | h
      · exact absurd ((nI_ltI (a := f1) (b := 8) (by omega) (by decide)).mpr h) hb
      · omega
    refine zj_aload_n C (List.mem_of_getElem? (i := 5) rfl) rfl rfl rfl ?_
    refine zj_iconst (v := 3) C (List.mem_of_getElem? (i := 6) rfl) rfl (by decide) ?_
    refine zj_callV (As := [.int 3]) (rest := []) C (List.mem_of_getElem? (i := 7) rfl) rfl rfl rfl (by decide) (zj_W_mono (zj_blame_W (kd := 3) hB h00) (by decide)) rfl rfl hR.1 rfl (Nat.le_of_ble_eq_true rfl) rfl ⟨rfl, rfl, rfl, rfl⟩ (fun v w9 hw9A hw9Z => ?_)
    obtain ⟨hv, h9⟩ := hw9Z
    subst hv
    exact KRi 17 _ _ _ (List.mem_of_getElem? (i := 8) rfl) (by decide) (Or.inr ⟨rfl, Or.inl rfl⟩) hw9A (Or.inr ⟨rfl, tk, d1, l1, f1, o1, 3, h9, zj_R_st (by rw [zj_st, if_neg (by omega), if_neg (by omega), if_neg (by omega), if_pos h4, if_pos hb])⟩)
  have hb : f1 < 8 := (nI_ltI (a := f1) (b := 8) (by omega) (by decide)).mp hb
  refine zj_aload_n C (List.mem_of_getElem? (i := 9) rfl) rfl rfl rfl ?_
  have r1 : zj_R (zj_g K) K.t (0, tk, n1, d1, l1, f1, o1, [], x1, k1) (5, (zj_nx K tk), n1, d1, l1, f1, o1, [], x1, k1) := zj_R_st (by rw [zj_st, if_neg (by omega), if_neg (by omega), if_neg (by omega), if_pos h4, if_neg (by omega)]; rfl)
  refine zj_callV (As := []) (rest := []) C (List.mem_of_getElem? (i := 10) rfl) rfl rfl rfl (by decide) (zj_W_mono (zj_adv_W hB h00) (by decide)) rfl rfl hR.1 rfl (Nat.le_of_ble_eq_true rfl) rfl ⟨rfl, rfl, rfl, rfl⟩ (fun v w2 hw2A hw2Z => ?_)
  obtain ⟨hv, htk2⟩ := hw2Z
  subst hv
  have htk2b := htk2
  generalize zj_nx K tk = tk2 at htk2 htk2b r1
  obtain ⟨⟨x2, hRtk2, hxtk2⟩, hPtk2, hlttk2, hletk2, hotk2⟩ := htk2
  refine zj_aload_n C (List.mem_of_getElem? (i := 11) rfl) rfl rfl rfl ?_
  refine zj_get C (List.mem_of_getElem? (i := 12) rfl) rfl rfl hRtk2.1 rfl rfl ?_
  refine zj_gets C (List.mem_of_getElem? (i := 13) rfl) rfl rfl (hB.2.2.1 27 (by decide)) ?_
  refine zj_acmp_eq (tgt := 38) C (List.mem_of_getElem? (i := 14) rfl) rfl (by decide) (fun hn => ?_) (fun hn => ?_)
  rotate_left
  · have hn : tk2.1 ≠ 27 := fun h => hn (congrArg K.ak h)
    refine zj_aload_n C (List.mem_of_getElem? (i := 15) rfl) rfl rfl rfl ?_
    refine zj_iconst (v := 1) C (List.mem_of_getElem? (i := 16) rfl) rfl (by decide) ?_
    refine zj_callV (As := [.int 1]) (rest := []) C (List.mem_of_getElem? (i := 17) rfl) rfl rfl rfl (by decide) (zj_W_mono (zj_blame_W (kd := 1) hB htk2b) (by decide)) rfl rfl hRtk2.1 rfl (Nat.le_of_ble_eq_true rfl) rfl ⟨rfl, rfl, rfl, rfl⟩ (fun v w9 hw9A hw9Z => ?_)
    obtain ⟨hv, h9⟩ := hw9Z
    subst hv
    exact KRi 37 _ _ _ (List.mem_of_getElem? (i := 18) rfl) (by decide) (Or.inr ⟨rfl, Or.inl rfl⟩) (hw9A.trans hw2A) (Or.inr ⟨rfl, tk2, d1, l1, f1, o1, 1, h9, zj_R_tr r1 (zj_R_st (by rw [zj_st, if_neg hn]))⟩)
  have hn : tk2.1 = 27 := hB.2.2.2.1 _ _ hlttk2 (by decide) hn
  have r2 := zj_R_tr r1 (zj_R_st (c' := (6, (zj_nx K tk2), n1, d1, l1, f1, o1, [], x1, k1)) (by rw [zj_st, if_pos hn]; rfl))
  refine zj_aload_n C (List.mem_of_getElem? (i := 19) rfl) rfl rfl rfl ?_
  refine zj_get C (List.mem_of_getElem? (i := 20) rfl) rfl rfl hRtk2.1 rfl rfl ?_
  refine zj_istore_n C (List.mem_of_getElem? (i := 21) rfl) rfl rfl (by decide) rfl ?_
  refine zj_aload_n C (List.mem_of_getElem? (i := 22) rfl) rfl rfl rfl ?_
  refine zj_callV (As := []) (rest := []) C (List.mem_of_getElem? (i := 23) rfl) rfl rfl rfl (by decide) (zj_W_mono (zj_adv_W hB htk2b) (by decide)) rfl rfl hRtk2.1 rfl (Nat.le_of_ble_eq_true rfl) rfl ⟨rfl, rfl, rfl, rfl⟩ (fun v w3 hw3A hw3Z => ?_)
  obtain ⟨hv, htk3⟩ := hw3Z
  subst hv
  have htk3b := htk3
  generalize zj_nx K tk2 = tk3 at htk3 htk3b r2
  obtain ⟨⟨x3, hRtk3, hxtk3⟩, hPtk3, hlttk3, hletk3, hotk3⟩ := htk3
  have rest : ∀ (ws3 : va_W) (tk4 : zj_T) (o4 : Nat) (s4 : List Bool), zj_rd K ws3 tk4 d1 l1 f1 o4 0 → zx_as ws3 = zx_as ws → zj_R (zj_g K) K.t (0, tk, n1, d1, l1, f1, o1, [], x1, k1) (9, tk4, n1, d1, l1, (f1 + 1), o4, [], x1, k1) → zj_go p l e R s mi args below meth c Q D A (zx_mV zx_m38.2.1) 71 [(1, .int x2), (0, .ref K.aR)] [] ws3 := by
    intro ws3 tk4 o4 s4 h7 hA3 r3
    have h7b := h7
    obtain ⟨⟨x7, hR7, hx7⟩, hP7, -, -, -⟩ := h7
    obtain ⟨aL6, aS6, aB6, aN6, fL6, fS6, fB6, fN6, da6, st6, hq0, -⟩ := hP7
    refine zj_aload_n C (List.mem_of_getElem? (i := 36) rfl) rfl rfl rfl ?_
    refine zj_get C (List.mem_of_getElem? (i := 37) rfl) rfl rfl hR7.1 rfl rfl ?_
    refine zj_iload_n C (List.mem_of_getElem? (i := 38) rfl) rfl rfl rfl ?_
    refine zj_callV (As := [.int x2]) (rest := []) C (List.mem_of_getElem? (i := 39) rfl) rfl rfl rfl (by decide) (zj_W_mono (zj_endFee_W (sm := x2) hB h7b hb) (by decide)) rfl rfl hq0 rfl (Nat.le_of_ble_eq_true rfl) rfl ⟨rfl, rfl, rfl, rfl⟩ (fun v w7 hw7A hw7Z => ?_)
    obtain ⟨hv, h10⟩ := hw7Z
    subst hv
    have h10b := h10
    obtain ⟨⟨x8, hR8, hx8⟩, -, -, -, -⟩ := h10
    refine zj_aload_n C (List.mem_of_getElem? (i := 40) rfl) rfl rfl rfl ?_
    refine zj_gets C (List.mem_of_getElem? (i := 41) rfl) rfl rfl (hB.2.2.1 24 (by decide)) ?_
    have hz := h10b
    obtain ⟨⟨xz, hRz, -⟩, -, -, -, -⟩ := hz
    refine zj_callV (As := [.ref (K.ak 24)]) (rest := []) C (List.mem_of_getElem? (i := 42) rfl) rfl rfl rfl (by decide) (zj_W_mono (zj_passes_W (j := 24) hB h10b (by decide)) (by decide)) rfl rfl hRz.1 rfl (Nat.le_of_ble_eq_true rfl) rfl ⟨rfl, rfl, rfl, rfl⟩ (fun v wz hwzA hwzZ => ?_)
    rcases hwzZ with ⟨hv, hcl, h9⟩ | ⟨hv, hcl, h9⟩
    · subst hv
      exact KRi 86 _ _ _ (List.mem_of_getElem? (i := 43) rfl) (by decide) (Or.inr ⟨rfl, Or.inr rfl⟩) (hwzA.trans (hw7A.trans hA3)) (Or.inl ⟨rfl, _, _, _, _, _, h9, rfl, rfl, rfl, x1, k1, zj_R_tr r3 (zj_R_st (by rw [zj_st, if_pos hcl]; rfl))⟩)
    subst hv
    exact KRi 86 _ _ _ (List.mem_of_getElem? (i := 43) rfl) (by decide) (Or.inr ⟨rfl, Or.inl rfl⟩) (hwzA.trans (hw7A.trans hA3)) (Or.inr ⟨rfl, tk4, d1, l1, (f1 + 1), o4, 1, h9, zj_R_tr r3 (zj_R_st (by rw [zj_st, if_neg hcl]))⟩)
  refine zj_aload_n C (List.mem_of_getElem? (i := 24) rfl) rfl rfl rfl ?_
  refine zj_get C (List.mem_of_getElem? (i := 25) rfl) rfl rfl hRtk3.1 rfl rfl ?_
  refine zj_gets C (List.mem_of_getElem? (i := 26) rfl) rfl rfl (hB.2.2.1 7 (by decide)) ?_
  refine zj_acmp_ne (tgt := 71) C (List.mem_of_getElem? (i := 27) rfl) rfl (by decide) (fun hi => ?_) (fun hi => ?_)
  · have hi : tk3.1 ≠ 7 := fun h => hi (congrArg K.ak h)
    exact rest _ tk3 o1 [] htk3b (hw3A.trans hw2A) (zj_R_tr r2 (zj_R_st (by rw [zj_st, if_neg hi]; rfl)))
  have hi : tk3.1 = 7 := hB.2.2.2.1 _ _ hlttk3 (by decide) hi
  have r3 := zj_R_tr r2 (zj_R_st (c' := (7, (zj_nx K tk3), n1, d1, l1, f1, o1, [], x1, k1)) (by rw [zj_st, if_pos hi]; rfl))
  refine zj_aload_n C (List.mem_of_getElem? (i := 28) rfl) rfl rfl rfl ?_
  refine zj_callV (As := []) (rest := []) C (List.mem_of_getElem? (i := 29) rfl) rfl rfl rfl (by decide) (zj_W_mono (zj_adv_W hB htk3b) (by decide)) rfl rfl hRtk3.1 rfl (Nat.le_of_ble_eq_true rfl) rfl ⟨rfl, rfl, rfl, rfl⟩ (fun v w4 hw4A hw4Z => ?_)
  obtain ⟨hv, htk4⟩ := hw4Z
  subst hv
  have htk4b := htk4
  generalize zj_nx K tk3 = tk4 at htk4 htk4b r3
  obtain ⟨⟨x4, hRtk4, hxtk4⟩, hPtk4, hlttk4, hletk4, hotk4⟩ := htk4
  refine zj_aload_n C (List.mem_of_getElem? (i := 30) rfl) rfl rfl rfl ?_
  refine zj_iconst (v := 1) C (List.mem_of_getElem? (i := 31) rfl) rfl (by decide) ?_
  refine zj_callV (As := [.int (nI (([] : List Bool).length + 1))]) (rest := []) C (List.mem_of_getElem? (i := 32) rfl) rfl rfl rfl (by decide) (zj_cond_W hB _ _ d1 l1 f1 o1 n1 x1 k1 htk4b) rfl rfl hRtk4.1 rfl (Nat.le_of_ble_eq_true rfl) rfl ⟨rfl, rfl, rfl, rfl⟩ (fun v w5 hw5A hw5Z => ?_)
  have hA5 := hw5A.trans (hw4A.trans (hw3A.trans hw2A))
  rcases hw5Z with ⟨hv, tk5, d5, l5, f5, o5, h5, rfl, rfl, rfl, ho5, ht8, ht9, r5⟩ | ⟨hv, tk5, d5, l5, f5, o5, k5, h5, r5⟩
  · subst hv
    refine zj_if_ne (tgt := 71) C (List.mem_of_getElem? (i := 33) rfl) rfl (by decide) (fun hd => ?_) (fun hd => ?_)
    rotate_left
    · exact absurd hd (by decide)
    exact rest _ tk5 o5 [] h5 hA5 (zj_R_tr r3 (zj_R_tr r5 (zj_R_st (by rw [zj_st, if_neg (by omega)]; rfl))))
  subst hv
  refine zj_if_ne (tgt := 71) C (List.mem_of_getElem? (i := 33) rfl) rfl (by decide) (fun hd => ?_) (fun hd => ?_)
  · exact absurd rfl hd
  refine zj_iconst (v := 0) C (List.mem_of_getElem? (i := 34) rfl) rfl (by decide) ?_
  exact KRi 70 _ _ _ (List.mem_of_getElem? (i := 35) rfl) (by decide) (Or.inr ⟨rfl, Or.inl rfl⟩) hA5 (Or.inr ⟨rfl, tk5, d5, l5, f5, o5, k5, h5, zj_R_tr r3 r5⟩)
end
