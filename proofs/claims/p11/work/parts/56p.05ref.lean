noncomputable section
/-! zo: the reference's opera -/
def zo_mrt : List (Nat × (Nat × Nat)) := [(7, 220, 9), (8, 221, 9), (9, 222, 9), (10, 223, 36), (12, 225, 72), (13, 226, 72), (14, 227, 72), (15, 228, 72)]
def zo_ms (tys : List (ClassId × FieldType)) (ws : va_W) (aM : Nat) (ad : Nat → Nat) (L : List (Nat × Value)) (gT fr : Nat → Int32) : Prop := (∃ fs, ws[218]? = some (aM, .inr (11, fs)) ∧ fs.length = 101 ∧ (∀ q ∈ L, fs[q.1]? = some q.2) ∧ ∃ tl : Int32, fs[6]? = some (.int tl)) ∧ zj_row tys ws 219 (ad 1) 340 .byte gT ∧ zj_row tys ws 224 (ad 11) 9 .int fr ∧ (∃ f, zj_row tys ws 229 (ad 16) 9 .boolean f) ∧ ∀ q ∈ zo_mrt, ∃ f, zj_row tys ws q.2.1 (ad q.1) q.2.2 .int f
/-- some of its fields: length, size, place, operas; the rows -/
def zo_L (ad : Nat → Nat) (ln sz pp op : Int32) : List (Nat × Value) := [(2, .int ln), (3, .int sz), (4, .int pp), (21, .int op), (1, .ref (ad 1)), (7, .ref (ad 7)), (8, .ref (ad 8)), (9, .ref (ad 9)), (10, .ref (ad 10)), (11, .ref (ad 11)), (12, .ref (ad 12)), (13, .ref (ad 13)), (14, .ref (ad 14)), (15, .ref (ad 15)), (16, .ref (ad 16))]
def zo_fset (L : List (Nat × Value)) (i : Nat) (v : Value) : List (Nat × Value) := (i, v) :: L.filter (fun q => !(q.1 == i))
theorem zo_nrm {tys : List (ClassId × FieldType)} {ws : va_W} {aM : Nat} {ad : Nat → Nat} {L L' : List (Nat × Value)} {gT fr : Nat → Int32} (h : zo_ms tys ws aM ad L gT fr) (hs : zm_sub L L') : zo_ms tys ws aM ad L' gT fr := by
  obtain ⟨⟨fs, h0, h1, h2, h26⟩, h3⟩ := h
  exact ⟨⟨fs, h0, h1, fun q hq => h2 _ (zj_lk_mem (hs q hq)), h26⟩, h3⟩
theorem zo_f21 {tys : List (ClassId × FieldType)} {ws : va_W} {aM : Nat} {ad : Nat → Nat} {ln sz pp op : Int32} {gT fr : Nat → Int32} (h : zo_ms tys ws aM ad (zo_L ad ln sz pp op) gT fr) : ∃ fs, ws[218]? = some (aM, .inr (11, fs)) ∧ fs[21]? = some (.int op) := by
  obtain ⟨⟨fs, h0, -, h2, -⟩, -⟩ := h
  exact ⟨fs, h0, h2 (21, .int op) (by unfold zo_L; simp)⟩
section ZOM
variable {p : Program} {l : Launch} {e : Env} {R : Room} {s : State} {mi : MethodId} {args : Array Value} {below : List Frame} {meth : Method} {c : Code} {Q : State → Prop} {D : va_G} {A : Nat → Prop} {ex : List Nat} {nL : Nat} {own : String} {cc : ByteArray} {d : Nat} {md : zx_MD} {tys : List (ClassId × FieldType)}
variable {pc n : Nat} {lv lv' : List (Nat × Value)} {kc : List Value} {ws : va_W}
variable {aM : Nat} {ad : Nat → Nat} {L L' : List (Nat × Value)} {gT fr : Nat → Int32}
theorem zo_getM (C : zj_cx p R s mi args meth c A ex nL own cc d md D tys) {ix : Nat} {q : Nat × Nat × Nat × Bool} {v : Value} (hd : (pc, Instr.getfield ix, 3) ∈ md.1) (hn : pc + 3 = n) (hq : zx_mF md.2.1 ix = some q) (hc : q.1 = 11) (hM : zo_ms tys ws aM ad L gT fr) (hv : zj_lk L q.2.1 = some v) (h : zj_go p l e R s mi args below meth c Q D A nL n lv (v :: kc) ws) : zj_go p l e R s mi args below meth c Q D A nL pc lv (.ref aM :: kc) ws := by
  obtain ⟨⟨fs, h0, h1, h2, -⟩, -⟩ := hM
  exact zj_get C hd hn hq h0 hc.symm (h2 _ (zj_lk_mem hv)) h
theorem zo_putM (C : zj_cx p R s mi args meth c A ex nL own cc d md D tys) {ix : Nat} {q : Nat × Nat × Nat × Bool} {v : Value} (hd : (pc, Instr.putfield ix, 3) ∈ md.1) (hn : pc + 3 = n) (hq : zx_mF md.2.1 ix = some q) (hc : q.1 = 11) (hM : zo_ms tys ws aM ad L gT fr) (hk : q.2.1 < 101) (h6 : q.2.1 ≠ 6) (hf : q.2.2.2 = false) (hfit : ∀ ty, zx_tag ty = q.2.2.1 → narrow ty v = v ∧ fits ty v = true) (hs : zm_sub (zo_fset L q.2.1 v) L') (h : ∀ ws', zo_ms tys ws' aM ad L' gT fr → zx_as ws' = zx_as ws → zj_go p l e R s mi args below meth c Q D A nL n lv kc ws') : zj_go p l e R s mi args below meth c Q D A nL pc lv (v :: .ref aM :: kc) ws := by
  obtain ⟨⟨fs, h0, h1, h2, tl, h26⟩, h3, h4, ⟨fz, h5⟩, h7⟩ := hM
  refine zj_put C hd hn hq h0 hc.symm (by rw [h1]; exact hk) hf hfit ?_
  have hne : ∀ i, i ≠ 218 → (ws.set 218 (aM, .inr (11, fs.set q.2.1 v)))[i]? = ws[i]? := fun i hi => List.getElem?_set_ne (Ne.symm hi)
  refine h _ (zo_nrm ⟨⟨fs.set q.2.1 v, zm_set_self h0, by rw [List.length_set]; exact h1, fun r hr => ?_, tl, (List.getElem?_set_ne h6).trans h26⟩, zm_row_keep h3 (hne _ (by decide)), zm_row_keep h4 (hne _ (by decide)), ⟨fz, zm_row_keep h5 (hne _ (by decide))⟩, fun r hr => ?_⟩ hs) (zx_as_set h0)
  · rcases List.mem_cons.mp hr with rfl | hr
    · show (fs.set q.2.1 v)[q.2.1]? = some v
      rw [List.getElem?_set]
      simp only [if_true]
      rw [if_pos (by rw [h1]; exact hk)]
    · obtain ⟨hr1, hr2⟩ := List.mem_filter.mp hr
      rw [List.getElem?_set_ne (fun h9 => ?_)]
      · exact h2 r hr1
      · rw [← h9] at hr2
        simp at hr2
  · obtain ⟨f, hf1⟩ := h7 r hr
    have hp : ∀ r ∈ zo_mrt, r.2.1 ≠ 218 := by decide
    exact ⟨f, zm_row_keep hf1 (hne _ (hp r hr))⟩
theorem zo_get6 (C : zj_cx p R s mi args meth c A ex nL own cc d md D tys) {ix : Nat} {q : Nat × Nat × Nat × Bool} (hd : (pc, Instr.getfield ix, 3) ∈ md.1) (hn : pc + 3 = n) (hq : zx_mF md.2.1 ix = some q) (hc : q.1 = 11) (h6 : q.2.1 = 6) (hM : zo_ms tys ws aM ad L gT fr) (h : ∀ tl : Int32, zj_go p l e R s mi args below meth c Q D A nL n lv (.int tl :: kc) ws) : zj_go p l e R s mi args below meth c Q D A nL pc lv (.ref aM :: kc) ws := by
  obtain ⟨⟨fs, h0, h1, h2, tl, h26⟩, -⟩ := hM
  exact zj_get C hd hn hq h0 hc.symm (by rw [h6]; exact h26) (h tl)
/-- a field that isn't told is written -/
theorem zo_putX (C : zj_cx p R s mi args meth c A ex nL own cc d md D tys) {ix : Nat} {q : Nat × Nat × Nat × Bool} {v : Int32} (hd : (pc, Instr.putfield ix, 3) ∈ md.1) (hn : pc + 3 = n) (hq : zx_mF md.2.1 ix = some q) (hc : q.1 = 11) (hk : q.2.1 < 101) (hM : zo_ms tys ws aM ad L gT fr) (hf : q.2.2.2 = false) (ht : q.2.2.1 = 0) (hL : ∀ r ∈ L, r.1 ≠ q.2.1) (h : ∀ ws', zo_ms tys ws' aM ad L gT fr → zx_as ws' = zx_as ws → zj_go p l e R s mi args below meth c Q D A nL n lv kc ws') : zj_go p l e R s mi args below meth c Q D A nL pc lv (.int v :: .ref aM :: kc) ws := by
  obtain ⟨⟨fs, h0, h1, h2, tl, h26⟩, h3, h4, ⟨fz, h5⟩, h7⟩ := hM
  refine zj_put C hd hn hq h0 hc.symm (by rw [h1]; exact hk) hf (zm_fit_i ht v) ?_
  have hne : ∀ i, i ≠ 218 → (ws.set 218 (aM, .inr (11, fs.set q.2.1 (.int v))))[i]? = ws[i]? := fun i hi => List.getElem?_set_ne (Ne.symm hi)
  have h6 : ∃ tl : Int32, (fs.set q.2.1 (.int v))[6]? = some (.int tl) := by
    by_cases h9 : q.2.1 = 6
    · exact ⟨v, by rw [h9, List.getElem?_set]; simp only [if_true]; rw [if_pos (by rw [h1]; decide)]⟩
    · exact ⟨tl, (List.getElem?_set_ne h9).trans h26⟩
  refine h _ ⟨⟨fs.set q.2.1 (.int v), zm_set_self h0, by rw [List.length_set]; exact h1, fun r hr => (List.getElem?_set_ne (Ne.symm (hL r hr))).trans (h2 r hr), h6⟩, zm_row_keep h3 (hne _ (by decide)), zm_row_keep h4 (hne _ (by decide)), ⟨fz, zm_row_keep h5 (hne _ (by decide))⟩, fun r hr => ?_⟩ (zx_as_set h0)
  obtain ⟨f, hf1⟩ := h7 r hr
  have hp : ∀ r ∈ zo_mrt, r.2.1 ≠ 218 := by decide
  exact ⟨f, zm_row_keep hf1 (hne _ (hp r hr))⟩
theorem zo_iasM (C : zj_cx p R s mi args meth c A ex nL own cc d md D tys) {k pl N : Nat} {i x : Int32} (hd : (pc, Instr.iastore, 1) ∈ md.1) (hn : pc + 1 = n) (he : (k, pl, N) ∈ zo_mrt) (hM : zo_ms tys ws aM ad L gT fr) (hi : vp_in i N) (h : ∀ ws', zo_ms tys ws' aM ad L gT fr → zx_as ws' = zx_as ws → zj_go p l e R s mi args below meth c Q D A nL n lv kc ws') : zj_go p l e R s mi args below meth c Q D A nL pc lv (.int x :: .int i :: .ref (ad k) :: kc) ws := by
  obtain ⟨⟨fs, h0, h1, h2⟩, h3, h4, ⟨fz, h5⟩, h7⟩ := hM
  obtain ⟨f, hf⟩ := h7 _ he
  refine zj_iast C hd hn hf hi (fun cA hcA => ?_)
  have hcA : ws[pl]? = some (ad k, .inl (cA, N, .inl f)) := hcA
  have hp : ∀ r ∈ zo_mrt, r.2.1 ≠ 218 ∧ r.2.1 ≠ 219 ∧ r.2.1 ≠ 224 ∧ r.2.1 ≠ 229 := by decide
  obtain ⟨p1, p2, p3, p4⟩ := hp _ he
  have hd2 : ∀ r ∈ zo_mrt, ∀ r2 ∈ zo_mrt, r.2.1 = r2.2.1 → r = r2 := by decide
  refine h _ ⟨⟨fs, (List.getElem?_set_ne p1).trans h0, h1, h2⟩, zm_row_keep h3 (List.getElem?_set_ne p2), zm_row_keep h4 (List.getElem?_set_ne p3), ⟨fz, zm_row_keep h5 (List.getElem?_set_ne p4)⟩, fun r hr => ?_⟩ (zx_as_set hcA)
  obtain ⟨f2, hf2⟩ := h7 r hr
  by_cases hq : (k, pl, N) = r
  · subst hq
    exact ⟨_, zm_row_set hf hcA⟩
  · exact ⟨f2, zm_row_keep hf2 (List.getElem?_set_ne (fun h9 => hq (hd2 _ he r hr h9)))⟩
theorem zo_iasR (C : zj_cx p R s mi args meth c A ex nL own cc d md D tys) {i x : Int32} (hd : (pc, Instr.iastore, 1) ∈ md.1) (hn : pc + 1 = n) (hM : zo_ms tys ws aM ad L gT fr) (hi : vp_in i 9) (h : ∀ ws', zo_ms tys ws' aM ad L gT (upd fr i.toNatClampNeg x) → zx_as ws' = zx_as ws → zj_go p l e R s mi args below meth c Q D A nL n lv kc ws') : zj_go p l e R s mi args below meth c Q D A nL pc lv (.int x :: .int i :: .ref (ad 11) :: kc) ws := by
  obtain ⟨⟨fs, h0, h1, h2⟩, h3, h4, ⟨fz, h5⟩, h7⟩ := hM
  refine zj_iast C hd hn h4 hi (fun cA hcA => ?_)
  have hp : ∀ r ∈ zo_mrt, r.2.1 ≠ 224 := by decide
  exact h _ ⟨⟨fs, (List.getElem?_set_ne (by decide)).trans h0, h1, h2⟩, zm_row_keep h3 (List.getElem?_set_ne (by decide)), zm_row_set h4 hcA, ⟨fz, zm_row_keep h5 (List.getElem?_set_ne (by decide))⟩, fun r hr => (h7 r hr).elim (fun f hf => ⟨f, zm_row_keep hf (List.getElem?_set_ne (Ne.symm (hp r hr)))⟩)⟩ (zx_as_set hcA)
theorem zo_zasM (C : zj_cx p R s mi args meth c A ex nL own cc d md D tys) {i x : Int32} (hd : (pc, Instr.bastore, 1) ∈ md.1) (hn : pc + 1 = n) (hM : zo_ms tys ws aM ad L gT fr) (hi : vp_in i 9) (h : ∀ ws', zo_ms tys ws' aM ad L gT fr → zx_as ws' = zx_as ws → zj_go p l e R s mi args below meth c Q D A nL n lv kc ws') : zj_go p l e R s mi args below meth c Q D A nL pc lv (.int x :: .int i :: .ref (ad 16) :: kc) ws := by
  obtain ⟨⟨fs, h0, h1, h2⟩, h3, h4, ⟨fz, h5⟩, h7⟩ := hM
  refine zj_zast C hd hn h5 hi rfl (fun cA hcA => ?_)
  have hp : ∀ r ∈ zo_mrt, r.2.1 ≠ 229 := by decide
  exact h _ ⟨⟨fs, (List.getElem?_set_ne (by decide)).trans h0, h1, h2⟩, zm_row_keep h3 (List.getElem?_set_ne (by decide)), zm_row_keep h4 (List.getElem?_set_ne (by decide)), ⟨_, zm_row_set h5 hcA⟩, fun r hr => (h7 r hr).elim (fun f hf => ⟨f, zm_row_keep hf (List.getElem?_set_ne (Ne.symm (hp r hr)))⟩)⟩ (zx_as_set hcA)
end ZOM
theorem zo_isIn_W {l : Launch} {tys : List (ClassId × FieldType)} {ex : List Nat} {ws0 : va_W} {x lo hi : Int32} : zj_W l 1 141 (zm_X ex tys [.int x, .int lo, .int hi] ws0) (fun _ _ _ v ws' => ws0 = ws' ∧ ((v = some (.int 1) ∧ (lo.toInt ≤ x.toInt ∧ x.toInt ≤ hi.toInt)) ∨ (v = some (.int 0) ∧ ¬ (lo.toInt ≤ x.toInt ∧ x.toInt ≤ hi.toInt)))) := by
  refine zj_enterW (md := zx_m141) rfl rfl ?_ ?_
  · rintro ex tys av ws ⟨-, -, rfl, -⟩
    exact Nat.le_of_ble_eq_true rfl
  intro p e R s mi args below meth c Q D A ex nL own cc tys ws av hX C hnL KRi KRv KRa
  subst hnL
  obtain ⟨h1, h2, h3, h4⟩ := hX
  subst h1
  subst h2
  subst h3
  subst h4
  refine zj_iload_n C (List.mem_of_getElem? (i := 0) rfl) rfl rfl rfl ?_
  refine zj_iload_n C (List.mem_of_getElem? (i := 1) rfl) rfl rfl rfl ?_
  refine zj_icmp_lt (tgt := 14) C (List.mem_of_getElem? (i := 2) rfl) rfl (by decide) (fun hb => ?_) (fun hb => ?_)
  · have hb := Int32.lt_iff_toInt_lt.mp hb
    refine zj_iconst (v := 0) C (List.mem_of_getElem? (i := 8) rfl) rfl (by decide) ?_
    exact KRi 15 _ _ _ (List.mem_of_getElem? (i := 9) rfl) (by decide) (Or.inr ⟨rfl, Or.inl rfl⟩) rfl ⟨rfl, Or.inr ⟨rfl, fun h => by omega⟩⟩
  have hb : ¬ x.toInt < lo.toInt := fun h => hb (Int32.lt_iff_toInt_lt.mpr h)
  refine zj_iload_n C (List.mem_of_getElem? (i := 3) rfl) rfl rfl rfl ?_
  refine zj_iload_n C (List.mem_of_getElem? (i := 4) rfl) rfl rfl rfl ?_
  refine zj_icmp_gt (tgt := 14) C (List.mem_of_getElem? (i := 5) rfl) rfl (by decide) (fun hb2 => ?_) (fun hb2 => ?_)
  · have hb2 := Int32.lt_iff_toInt_lt.mp hb2
    refine zj_iconst (v := 0) C (List.mem_of_getElem? (i := 8) rfl) rfl (by decide) ?_
    exact KRi 15 _ _ _ (List.mem_of_getElem? (i := 9) rfl) (by decide) (Or.inr ⟨rfl, Or.inl rfl⟩) rfl ⟨rfl, Or.inr ⟨rfl, fun h => by omega⟩⟩
  have hb2 : ¬ hi.toInt < x.toInt := fun h => hb2 (Int32.lt_iff_toInt_lt.mpr h)
  refine zj_iconst (v := 1) C (List.mem_of_getElem? (i := 6) rfl) rfl (by decide) ?_
  refine zj_goto (tgt := 15) C (List.mem_of_getElem? (i := 7) rfl) (by decide) ?_
  exact KRi 15 _ _ _ (List.mem_of_getElem? (i := 9) rfl) (by decide) (Or.inr ⟨rfl, Or.inr rfl⟩) rfl ⟨rfl, Or.inl ⟨rfl, by omega, by omega⟩⟩
theorem zo_taken_W {l : Launch} {tys : List (ClassId × FieldType)} {ex : List Nat} {ws0 : va_W} {aM : Nat} {ad : Nat → Nat} {gT fr : Nat → Int32} {t N : Nat} {sz pp : Int32} (hM : zo_ms tys ws0 aM ad (zo_L ad (nI t) sz pp (nI N)) gT fr) : zj_W l 1 143 (zm_X ex tys [.ref aM] ws0) (fun _ _ _ v ws' => v = none ∧ zo_ms tys ws' aM ad (zo_L ad 0 (nI t) 0 (nI N)) gT fr) := by
  refine zj_enterW (md := zx_m143) rfl rfl ?_ ?_
  · rintro ex tys av ws ⟨-, -, rfl, -⟩
    exact Nat.le_of_ble_eq_true rfl
  intro p e R s mi args below meth c Q D A ex nL own cc tys ws av hX C hnL KRi KRv KRa
  subst hnL
  obtain ⟨h1, h2, h3, h4⟩ := hX
  subst h1
  subst h2
  subst h3
  subst h4
  refine zj_aload_n C (List.mem_of_getElem? (i := 0) rfl) rfl rfl rfl ?_
  refine zj_aload_n C (List.mem_of_getElem? (i := 1) rfl) rfl rfl rfl ?_
  refine zo_getM C (List.mem_of_getElem? (i := 2) rfl) rfl rfl rfl hM rfl ?_
  refine zo_putM (L' := (zo_L ad (nI t) (nI t) pp (nI N))) C (List.mem_of_getElem? (i := 3) rfl) rfl rfl rfl hM (Nat.le_of_ble_eq_true rfl) (by decide) rfl (zm_fit_i rfl _) (by unfold zo_L; repeat first | exact zm_sub_nil | refine zm_sub_cons rfl ?_) (fun w2 hw2M hw2A => ?_)
  refine zj_aload_n C (List.mem_of_getElem? (i := 4) rfl) rfl rfl rfl ?_
  refine zj_iconst (v := 0) C (List.mem_of_getElem? (i := 5) rfl) rfl (by decide) ?_
  refine zo_putM (L' := (zo_L ad 0 (nI t) pp (nI N))) C (List.mem_of_getElem? (i := 6) rfl) rfl rfl rfl hw2M (Nat.le_of_ble_eq_true rfl) (by decide) rfl (zm_fit_i rfl _) (by unfold zo_L; repeat first | exact zm_sub_nil | refine zm_sub_cons rfl ?_) (fun w3 hw3M hw3A => ?_)
  refine zj_aload_n C (List.mem_of_getElem? (i := 7) rfl) rfl rfl rfl ?_
  refine zj_iconst (v := 0) C (List.mem_of_getElem? (i := 8) rfl) rfl (by decide) ?_
  refine zo_putM (L' := (zo_L ad 0 (nI t) 0 (nI N))) C (List.mem_of_getElem? (i := 9) rfl) rfl rfl rfl hw3M (Nat.le_of_ble_eq_true rfl) (by decide) rfl (zm_fit_i rfl _) (by unfold zo_L; repeat first | exact zm_sub_nil | refine zm_sub_cons rfl ?_) (fun w4 hw4M hw4A => ?_)
  exact KRv 18 _ _ (List.mem_of_getElem? (i := 10) rfl) rfl (hw4A.trans (hw3A.trans hw2A)) ⟨rfl, hw4M⟩
set_option maxHeartbeats 8000000 in
theorem zo_operaM_W {l : Launch} {tys : List (ClassId × FieldType)} {ex : List Nat} {ws0 : va_W} {aM : Nat} {ad : Nat → Nat} {gT fr : Nat → Int32} {t N : Nat} {sz pp : Int32} {hh ss ch nn : Int32} (hM : zo_ms tys ws0 aM ad (zo_L ad (nI t) sz pp (nI N)) gT fr) (hN : N ≤ 9) (ht : t ≤ 340) : zj_W l 4 142 (zm_X ex tys [.ref aM, .int hh, .int ss, .int ch, .int nn] ws0) (fun _ _ _ v ws' => (zo_acc N hh.toInt ss.toInt nn.toInt (fun k => (gT k).toInt) t → v = some (.int (nI N)) ∧ zj_row tys ws' 224 (ad 11) 9 .int (upd fr N (nI (t / 4 - 1))) ∧ ∃ fs, ws'[218]? = some (aM, .inr (11, fs)) ∧ fs[21]? = some (.int (nI (N + 1)))) ∧ (¬ zo_acc N hh.toInt ss.toInt nn.toInt (fun k => (gT k).toInt) t → v = some (.int (-1)) ∧ zj_row tys ws' 224 (ad 11) 9 .int fr ∧ ∃ fs, ws'[218]? = some (aM, .inr (11, fs)) ∧ fs[21]? = some (.int (nI N)))) := by
  refine zj_enterW (md := zx_m142) rfl rfl ?_ ?_
  · rintro ex tys av ws ⟨-, -, rfl, -⟩
    exact Nat.le_of_ble_eq_true rfl
  intro p e R s mi args below meth c Q D A ex nL own cc tys ws av hX C hnL KRi KRv KRa
  subst hnL
  obtain ⟨h1, h2, h3, h4⟩ := hX
  subst h1
  subst h2
  subst h3
  subst h4
  have c0 : (0 : Int32).toInt = 0 := rfl
  have c2 : (2 : Int32).toInt = 2 := rfl
  have c3 : (3 : Int32).toInt = 3 := rfl
  have c5 : (5 : Int32).toInt = 5 := rfl
  have c6 : (6 : Int32).toInt = 6 := rfl
  have c8 : (8 : Int32).toInt = 8 := rfl
  have c9 : (9 : Int32).toInt = 9 := rfl
  have c1 : (1 : Int32).toInt = 1 := rfl
  have c30 : (30 : Int32).toInt = 30 := rfl
  have c36 : (36 : Int32).toInt = 36 := rfl
  have c40 : (40 : Int32).toInt = 40 := rfl
  have c60 : (60 : Int32).toInt = 60 := rfl
  refine zj_aload_n C (List.mem_of_getElem? (i := 0) rfl) rfl rfl rfl ?_
  refine zj_iconst (v := 0) C (List.mem_of_getElem? (i := 1) rfl) rfl (by decide) ?_
  refine zo_putX C (List.mem_of_getElem? (i := 2) rfl) rfl rfl rfl (Nat.le_of_ble_eq_true rfl) hM rfl rfl (by unfold zo_L; simp) (fun w1 hw1M hw1A => ?_)
  refine zj_aload_n C (List.mem_of_getElem? (i := 3) rfl) rfl rfl rfl ?_
  refine zj_callV (As := []) (rest := []) C (List.mem_of_getElem? (i := 4) rfl) rfl rfl rfl (by decide) (zm_W_mono (zo_taken_W hw1M) (by decide)) rfl rfl hw1M.1.choose_spec.1 rfl (Nat.le_of_ble_eq_true rfl) rfl ⟨rfl, rfl, rfl, rfl⟩ (fun v w2 hw2A hw2Z => ?_)
  obtain ⟨hv, hM2⟩ := hw2Z
  subst hv
  have hA2 := hw2A.trans hw1A
  refine zj_aload_n C (List.mem_of_getElem? (i := 5) rfl) rfl rfl rfl ?_
  refine zo_getM C (List.mem_of_getElem? (i := 6) rfl) rfl rfl rfl hM2 rfl ?_
  refine zj_bipush (v := 9) C (List.mem_of_getElem? (i := 7) rfl) rfl (by decide) ?_
  refine zj_icmp_eq (tgt := 71) C (List.mem_of_getElem? (i := 8) rfl) rfl (by decide) (fun b1 => ?_) (fun b1 => ?_)
  · have b1 : N = 9 := by
      have h1 := congrArg Int32.toInt b1
      rw [nI_toInt (by omega), c9] at h1
      omega
    refine zj_iconst (v := (-1)) C (List.mem_of_getElem? (i := 35) rfl) rfl (by decide) ?_
    exact KRi 72 _ _ _ (List.mem_of_getElem? (i := 36) rfl) (by decide) (Or.inl rfl) hA2 ⟨fun h => absurd h (fun h => by have := h.1; omega), fun _ => ⟨rfl, hM2.2.2.1, zo_f21 hM2⟩⟩
  have b1 : N < 9 := by
    rcases Nat.lt_or_ge N 9 with h | h
    · exact h
    · exact absurd (by rw [show N = 9 by omega]; rfl) b1
  refine zj_iload_n C (List.mem_of_getElem? (i := 9) rfl) rfl rfl rfl ?_
  refine zj_iconst (v := 2) C (List.mem_of_getElem? (i := 10) rfl) rfl (by decide) ?_
  refine zj_bipush (v := 6) C (List.mem_of_getElem? (i := 11) rfl) rfl (by decide) ?_
  refine zj_callS (As := [.int hh, .int 2, .int 6]) (rest := []) C (List.mem_of_getElem? (i := 12) rfl) rfl rfl (Or.inl rfl) (zm_W_mono (zo_isIn_W (x := hh) (lo := 2) (hi := 6)) (by decide)) rfl rfl (Nat.le_of_ble_eq_true rfl) rfl ⟨rfl, rfl, rfl, rfl⟩ (fun v r1 hr1A hr1Z => ?_)
  obtain ⟨he, hv⟩ := hr1Z
  subst he
  rw [c2, c6] at hv
  rcases hv with ⟨hv, kr1⟩ | ⟨hv, kr1⟩
  rotate_left
  · subst hv
    refine zj_if_eq (tgt := 71) C (List.mem_of_getElem? (i := 13) rfl) rfl (by decide) (fun hd => ?_) (fun hd => ?_)
    rotate_left
    · exact absurd rfl hd
    refine zj_iconst (v := (-1)) C (List.mem_of_getElem? (i := 35) rfl) rfl (by decide) ?_
    exact KRi 72 _ _ _ (List.mem_of_getElem? (i := 36) rfl) (by decide) (Or.inl rfl) hA2 ⟨fun h => absurd h (fun h => kr1 h.2.1.1), fun _ => ⟨rfl, hM2.2.2.1, zo_f21 hM2⟩⟩
  subst hv
  refine zj_if_eq (tgt := 71) C (List.mem_of_getElem? (i := 13) rfl) rfl (by decide) (fun hd => ?_) (fun hd => ?_)
  · exact absurd hd (by decide)
  refine zj_iload_n C (List.mem_of_getElem? (i := 14) rfl) rfl rfl rfl ?_
  refine zj_iconst (v := 0) C (List.mem_of_getElem? (i := 15) rfl) rfl (by decide) ?_
  refine zj_iconst (v := 3) C (List.mem_of_getElem? (i := 16) rfl) rfl (by decide) ?_
  refine zj_callS (As := [.int ss, .int 0, .int 3]) (rest := []) C (List.mem_of_getElem? (i := 17) rfl) rfl rfl (Or.inl rfl) (zm_W_mono (zo_isIn_W (x := ss) (lo := 0) (hi := 3)) (by decide)) rfl rfl (Nat.le_of_ble_eq_true rfl) rfl ⟨rfl, rfl, rfl, rfl⟩ (fun v r2 hr2A hr2Z => ?_)
  obtain ⟨he, hv⟩ := hr2Z
  subst he
  rw [c0, c3] at hv
  rcases hv with ⟨hv, kr2⟩ | ⟨hv, kr2⟩
  rotate_left
  · subst hv
    refine zj_if_eq (tgt := 71) C (List.mem_of_getElem? (i := 18) rfl) rfl (by decide) (fun hd => ?_) (fun hd => ?_)
    rotate_left
    · exact absurd rfl hd
    refine zj_iconst (v := (-1)) C (List.mem_of_getElem? (i := 35) rfl) rfl (by decide) ?_
    exact KRi 72 _ _ _ (List.mem_of_getElem? (i := 36) rfl) (by decide) (Or.inl rfl) hA2 ⟨fun h => absurd h (fun h => kr2 h.2.1.2.1), fun _ => ⟨rfl, hM2.2.2.1, zo_f21 hM2⟩⟩
  subst hv
  refine zj_if_eq (tgt := 71) C (List.mem_of_getElem? (i := 18) rfl) rfl (by decide) (fun hd => ?_) (fun hd => ?_)
  · exact absurd hd (by decide)
  refine zj_iload C (List.mem_of_getElem? (i := 19) rfl) rfl rfl ?_
  refine zj_iconst (v := 1) C (List.mem_of_getElem? (i := 20) rfl) rfl (by decide) ?_
  refine zj_bipush (v := 60) C (List.mem_of_getElem? (i := 21) rfl) rfl (by decide) ?_
  refine zj_callS (As := [.int nn, .int 1, .int 60]) (rest := []) C (List.mem_of_getElem? (i := 22) rfl) rfl rfl (Or.inl rfl) (zm_W_mono (zo_isIn_W (x := nn) (lo := 1) (hi := 60)) (by decide)) rfl rfl (Nat.le_of_ble_eq_true rfl) rfl ⟨rfl, rfl, rfl, rfl⟩ (fun v r3 hr3A hr3Z => ?_)
  obtain ⟨he, hv⟩ := hr3Z
  subst he
  rw [c1, c60] at hv
  rcases hv with ⟨hv, kr3⟩ | ⟨hv, kr3⟩
  rotate_left
  · subst hv
    refine zj_if_eq (tgt := 71) C (List.mem_of_getElem? (i := 23) rfl) rfl (by decide) (fun hd => ?_) (fun hd => ?_)
    rotate_left
    · exact absurd rfl hd
    refine zj_iconst (v := (-1)) C (List.mem_of_getElem? (i := 35) rfl) rfl (by decide) ?_
    exact KRi 72 _ _ _ (List.mem_of_getElem? (i := 36) rfl) (by decide) (Or.inl rfl) hA2 ⟨fun h => absurd h (fun h => kr3 h.2.1.2.2), fun _ => ⟨rfl, hM2.2.2.1, zo_f21 hM2⟩⟩
  subst hv
  refine zj_if_eq (tgt := 71) C (List.mem_of_getElem? (i := 23) rfl) rfl (by decide) (fun hd => ?_) (fun hd => ?_)
  · exact absurd hd (by decide)
  refine zj_aload_n C (List.mem_of_getElem? (i := 24) rfl) rfl rfl rfl ?_
  refine zo_getM C (List.mem_of_getElem? (i := 25) rfl) rfl rfl rfl hM2 rfl ?_
  refine zj_iconst (v := 4) C (List.mem_of_getElem? (i := 26) rfl) rfl (by decide) ?_
  refine zj_irem (v := (nI (t % 4))) C (List.mem_of_getElem? (i := 27) rfl) rfl (by decide) (pk_rem (d := 4) (by omega) (by decide) (by decide)) ?_
  refine zj_if_ne (tgt := 71) C (List.mem_of_getElem? (i := 28) rfl) rfl (by decide) (fun b3 => ?_) (fun b3 => ?_)
  · have b3 : ¬ t % 4 = 0 := fun h => b3 (by rw [h]; rfl)
    refine zj_iconst (v := (-1)) C (List.mem_of_getElem? (i := 35) rfl) rfl (by decide) ?_
    exact KRi 72 _ _ _ (List.mem_of_getElem? (i := 36) rfl) (by decide) (Or.inl rfl) hA2 ⟨fun h => absurd h (fun h => b3 h.2.2.1.2.2), fun _ => ⟨rfl, hM2.2.2.1, zo_f21 hM2⟩⟩
  have b3 : t % 4 = 0 := by
    have h1 := congrArg Int32.toInt b3
    rw [nI_toInt (by omega), c0] at h1
    omega
  refine zj_aload_n C (List.mem_of_getElem? (i := 29) rfl) rfl rfl rfl ?_
  refine zo_getM C (List.mem_of_getElem? (i := 30) rfl) rfl rfl rfl hM2 rfl ?_
  refine zj_bipush (v := 8) C (List.mem_of_getElem? (i := 31) rfl) rfl (by decide) ?_
  refine zj_bipush (v := 36) C (List.mem_of_getElem? (i := 32) rfl) rfl (by decide) ?_
  refine zj_callS (As := [.int (nI t), .int 8, .int 36]) (rest := []) C (List.mem_of_getElem? (i := 33) rfl) rfl rfl (Or.inl rfl) (zm_W_mono (zo_isIn_W (x := nI t) (lo := 8) (hi := 36)) (by decide)) rfl rfl (Nat.le_of_ble_eq_true rfl) rfl ⟨rfl, rfl, rfl, rfl⟩ (fun v r4 hr4A hr4Z => ?_)
  obtain ⟨he, hv⟩ := hr4Z
  subst he
  rw [c8, c36, nI_toInt (by omega)] at hv
  rcases hv with ⟨hv, kr4⟩ | ⟨hv, kr4⟩
  rotate_left
  · subst hv
    refine zj_if_ne (tgt := 73) C (List.mem_of_getElem? (i := 34) rfl) rfl (by decide) (fun hd => ?_) (fun hd => ?_)
    · exact absurd rfl hd
    refine zj_iconst (v := (-1)) C (List.mem_of_getElem? (i := 35) rfl) rfl (by decide) ?_
    exact KRi 72 _ _ _ (List.mem_of_getElem? (i := 36) rfl) (by decide) (Or.inl rfl) hA2 ⟨fun h => absurd h (fun h => kr4 (by have := h.2.2.1; omega)), fun _ => ⟨rfl, hM2.2.2.1, zo_f21 hM2⟩⟩
  subst hv
  refine zj_if_ne (tgt := 73) C (List.mem_of_getElem? (i := 34) rfl) rfl (by decide) (fun hd => ?_) (fun hd => ?_)
  rotate_left
  · exact absurd hd (by decide)
  have hlen : zo_ok (fun k => (gT k).toInt) t ↔ ∀ k, k < t → zo_lo k ≤ (gT k).toInt ∧ (gT k).toInt ≤ zo_hi k := ⟨fun h => h.2, fun h => ⟨⟨by omega, by omega, b3⟩, h⟩⟩
  have hokA : zo_ok (fun k => (gT k).toInt) t → zo_acc N hh.toInt ss.toInt nn.toInt (fun k => (gT k).toInt) t := fun h => ⟨b1, ⟨kr1, kr2, kr3⟩, h⟩
  have roles : ∀ (n r : Nat) (ws1 : va_W), r + n = t / 4 - 1 → zo_ok (fun k => (gT k).toInt) t → zo_ms tys ws1 aM ad (zo_L ad 0 (nI t) 0 (nI N)) gT (upd fr N (nI (t / 4 - 1))) → zx_as ws1 = zx_as ws → zj_go p l e R s mi args below meth c Q D A (zx_mV zx_m142.2.1) 280 [(6, .int (nI r)), (5, .int (nI N)), (0, .ref aM), (1, .int hh), (2, .int ss), (3, .int ch), (4, .int nn)] [] ws1 := by
    intro n
    induction n with
    | zero =>
      intro r ws1 hr hok hM1 hA1
      have hr : r = t / 4 - 1 := by omega
      subst hr
      refine zj_iload C (List.mem_of_getElem? (i := 150) rfl) rfl rfl ?_
      refine zj_aload_n C (List.mem_of_getElem? (i := 151) rfl) rfl rfl rfl ?_
      refine zo_getM C (List.mem_of_getElem? (i := 152) rfl) rfl rfl rfl hM1 rfl ?_
      refine zj_iload C (List.mem_of_getElem? (i := 153) rfl) rfl rfl ?_
      refine zj_iald (v := (nI (t / 4 - 1))) C (List.mem_of_getElem? (i := 154) rfl) rfl hM1.2.2.1 (zm_in (N := 9) b1 (by decide)) (by rw [nI_clamp (by omega)]; simp [upd]) ?_
      refine zj_icmp_ge (tgt := 396) C (List.mem_of_getElem? (i := 155) rfl) rfl (by decide) (fun hq => ?_) (fun hq => ?_)
      rotate_left
      · exact absurd (Int32.le_refl _) hq
      refine zj_aload_n C (List.mem_of_getElem? (i := 222) rfl) rfl rfl rfl ?_
      refine zj_dup C (List.mem_of_getElem? (i := 223) rfl) rfl rfl ?_
      refine zo_getM C (List.mem_of_getElem? (i := 224) rfl) rfl rfl rfl hM1 rfl ?_
      refine zj_iconst (v := 1) C (List.mem_of_getElem? (i := 225) rfl) rfl (by decide) ?_
      refine zj_iadd (v := (nI (N + 1))) C (List.mem_of_getElem? (i := 226) rfl) rfl (nI_1 N) ?_
      refine zo_putM (L' := (zo_L ad 0 (nI t) 0 (nI (N + 1)))) C (List.mem_of_getElem? (i := 227) rfl) rfl rfl rfl hM1 (Nat.le_of_ble_eq_true rfl) (by decide) rfl (zm_fit_i rfl _) (by unfold zo_L; repeat first | exact zm_sub_nil | refine zm_sub_cons rfl ?_) (fun w8 hw8M hw8A => ?_)
      refine zj_aload_n C (List.mem_of_getElem? (i := 228) rfl) rfl rfl rfl ?_
      refine zj_dup C (List.mem_of_getElem? (i := 229) rfl) rfl rfl ?_
      refine zo_get6 C (List.mem_of_getElem? (i := 230) rfl) rfl rfl rfl rfl hw8M (fun tl => ?_)
      refine zj_iconst (v := 1) C (List.mem_of_getElem? (i := 231) rfl) rfl (by decide) ?_
      refine zj_iadd (v := (tl + 1)) C (List.mem_of_getElem? (i := 232) rfl) rfl rfl ?_
      refine zo_putX C (List.mem_of_getElem? (i := 233) rfl) rfl rfl rfl (Nat.le_of_ble_eq_true rfl) hw8M rfl rfl (by unfold zo_L; simp) (fun w9 hw9M hw9A => ?_)
      refine zj_iload C (List.mem_of_getElem? (i := 234) rfl) rfl rfl ?_
      exact KRi 418 _ _ _ (List.mem_of_getElem? (i := 235) rfl) (by decide) (Or.inl rfl) (hw9A.trans (hw8A.trans hA1)) ⟨fun _ => ⟨rfl, hw9M.2.2.1, zo_f21 hw9M⟩, fun h => absurd (hokA hok) h⟩
    | succ n ih =>
      intro r ws1 hr hok hM1 hA1
      refine zj_iload C (List.mem_of_getElem? (i := 150) rfl) rfl rfl ?_
      refine zj_aload_n C (List.mem_of_getElem? (i := 151) rfl) rfl rfl rfl ?_
      refine zo_getM C (List.mem_of_getElem? (i := 152) rfl) rfl rfl rfl hM1 rfl ?_
      refine zj_iload C (List.mem_of_getElem? (i := 153) rfl) rfl rfl ?_
      refine zj_iald (v := (nI (t / 4 - 1))) C (List.mem_of_getElem? (i := 154) rfl) rfl hM1.2.2.1 (zm_in (N := 9) b1 (by decide)) (by rw [nI_clamp (by omega)]; simp [upd]) ?_
      refine zj_icmp_ge (tgt := 396) C (List.mem_of_getElem? (i := 155) rfl) rfl (by decide) (fun hq => ?_) (fun hq => ?_)
      · exact absurd ((nI_leI (a := t / 4 - 1) (b := r) (by omega) (by omega)).mp hq) (by omega)
      refine zj_aload_n C (List.mem_of_getElem? (i := 156) rfl) rfl rfl rfl ?_
      refine zo_getM C (List.mem_of_getElem? (i := 157) rfl) rfl rfl rfl hM1 rfl ?_
      refine zj_bipush (v := 8) C (List.mem_of_getElem? (i := 158) rfl) rfl (by decide) ?_
      refine zj_iload C (List.mem_of_getElem? (i := 159) rfl) rfl rfl ?_
      refine zj_imul (v := (nI (8 * N))) C (List.mem_of_getElem? (i := 160) rfl) rfl (pk_mul 8 N) ?_
      refine zj_iload C (List.mem_of_getElem? (i := 161) rfl) rfl rfl ?_
      refine zj_iadd (v := (nI (8 * N + r))) C (List.mem_of_getElem? (i := 162) rfl) rfl (nI_add (8 * N) r) ?_
      refine zj_aload_n C (List.mem_of_getElem? (i := 163) rfl) rfl rfl rfl ?_
      refine zo_getM C (List.mem_of_getElem? (i := 164) rfl) rfl rfl rfl hM1 rfl ?_
      refine zj_iconst (v := 4) C (List.mem_of_getElem? (i := 165) rfl) rfl (by decide) ?_
      refine zj_iload C (List.mem_of_getElem? (i := 166) rfl) rfl rfl ?_
      refine zj_imul (v := (nI (4 * r))) C (List.mem_of_getElem? (i := 167) rfl) rfl (pk_mul 4 r) ?_
      refine zj_iconst (v := 4) C (List.mem_of_getElem? (i := 168) rfl) rfl (by decide) ?_
      refine zj_iadd (v := (nI (4 * r + 4))) C (List.mem_of_getElem? (i := 169) rfl) rfl (nI_add (4 * r) 4) ?_
      refine zj_bald (v := gT (4 * r + 4)) C (List.mem_of_getElem? (i := 170) rfl) rfl hM1.2.1 (zm_in (n := 4 * r + 4) (N := 340) (by omega) (by decide)) (by rw [nI_clamp (by omega)]) ?_
      refine zo_iasM (k := 12) (pl := 225) (N := 72) C (List.mem_of_getElem? (i := 171) rfl) rfl (by decide) hM1 (zm_in (by omega) (by decide)) (fun v0 hv0M hv0A => ?_)
      refine zj_aload_n C (List.mem_of_getElem? (i := 172) rfl) rfl rfl rfl ?_
      refine zo_getM C (List.mem_of_getElem? (i := 173) rfl) rfl rfl rfl hv0M rfl ?_
      refine zj_bipush (v := 8) C (List.mem_of_getElem? (i := 174) rfl) rfl (by decide) ?_
      refine zj_iload C (List.mem_of_getElem? (i := 175) rfl) rfl rfl ?_
      refine zj_imul (v := (nI (8 * N))) C (List.mem_of_getElem? (i := 176) rfl) rfl (pk_mul 8 N) ?_
      refine zj_iload C (List.mem_of_getElem? (i := 177) rfl) rfl rfl ?_
      refine zj_iadd (v := (nI (8 * N + r))) C (List.mem_of_getElem? (i := 178) rfl) rfl (nI_add (8 * N) r) ?_
      refine zj_aload_n C (List.mem_of_getElem? (i := 179) rfl) rfl rfl rfl ?_
      refine zo_getM C (List.mem_of_getElem? (i := 180) rfl) rfl rfl rfl hv0M rfl ?_
      refine zj_iconst (v := 4) C (List.mem_of_getElem? (i := 181) rfl) rfl (by decide) ?_
      refine zj_iload C (List.mem_of_getElem? (i := 182) rfl) rfl rfl ?_
      refine zj_imul (v := (nI (4 * r))) C (List.mem_of_getElem? (i := 183) rfl) rfl (pk_mul 4 r) ?_
      refine zj_iconst (v := 5) C (List.mem_of_getElem? (i := 184) rfl) rfl (by decide) ?_
      refine zj_iadd (v := (nI (4 * r + 5))) C (List.mem_of_getElem? (i := 185) rfl) rfl (nI_add (4 * r) 5) ?_
      refine zj_bald (v := gT (4 * r + 5)) C (List.mem_of_getElem? (i := 186) rfl) rfl hv0M.2.1 (zm_in (n := 4 * r + 5) (N := 340) (by omega) (by decide)) (by rw [nI_clamp (by omega)]) ?_
      refine zo_iasM (k := 13) (pl := 226) (N := 72) C (List.mem_of_getElem? (i := 187) rfl) rfl (by decide) hv0M (zm_in (by omega) (by decide)) (fun v1 hv1M hv1A => ?_)
      refine zj_aload_n C (List.mem_of_getElem? (i := 188) rfl) rfl rfl rfl ?_
      refine zo_getM C (List.mem_of_getElem? (i := 189) rfl) rfl rfl rfl hv1M rfl ?_
      refine zj_bipush (v := 8) C (List.mem_of_getElem? (i := 190) rfl) rfl (by decide) ?_
      refine zj_iload C (List.mem_of_getElem? (i := 191) rfl) rfl rfl ?_
      refine zj_imul (v := (nI (8 * N))) C (List.mem_of_getElem? (i := 192) rfl) rfl (pk_mul 8 N) ?_
      refine zj_iload C (List.mem_of_getElem? (i := 193) rfl) rfl rfl ?_
      refine zj_iadd (v := (nI (8 * N + r))) C (List.mem_of_getElem? (i := 194) rfl) rfl (nI_add (8 * N) r) ?_
      refine zj_aload_n C (List.mem_of_getElem? (i := 195) rfl) rfl rfl rfl ?_
      refine zo_getM C (List.mem_of_getElem? (i := 196) rfl) rfl rfl rfl hv1M rfl ?_
      refine zj_iconst (v := 4) C (List.mem_of_getElem? (i := 197) rfl) rfl (by decide) ?_
      refine zj_iload C (List.mem_of_getElem? (i := 198) rfl) rfl rfl ?_
      refine zj_imul (v := (nI (4 * r))) C (List.mem_of_getElem? (i := 199) rfl) rfl (pk_mul 4 r) ?_
      refine zj_bipush (v := 6) C (List.mem_of_getElem? (i := 200) rfl) rfl (by decide) ?_
      refine zj_iadd (v := (nI (4 * r + 6))) C (List.mem_of_getElem? (i := 201) rfl) rfl (nI_add (4 * r) 6) ?_
      refine zj_bald (v := gT (4 * r + 6)) C (List.mem_of_getElem? (i := 202) rfl) rfl hv1M.2.1 (zm_in (n := 4 * r + 6) (N := 340) (by omega) (by decide)) (by rw [nI_clamp (by omega)]) ?_
      refine zo_iasM (k := 14) (pl := 227) (N := 72) C (List.mem_of_getElem? (i := 203) rfl) rfl (by decide) hv1M (zm_in (by omega) (by decide)) (fun v2 hv2M hv2A => ?_)
      refine zj_aload_n C (List.mem_of_getElem? (i := 204) rfl) rfl rfl rfl ?_
      refine zo_getM C (List.mem_of_getElem? (i := 205) rfl) rfl rfl rfl hv2M rfl ?_
      refine zj_bipush (v := 8) C (List.mem_of_getElem? (i := 206) rfl) rfl (by decide) ?_
      refine zj_iload C (List.mem_of_getElem? (i := 207) rfl) rfl rfl ?_
      refine zj_imul (v := (nI (8 * N))) C (List.mem_of_getElem? (i := 208) rfl) rfl (pk_mul 8 N) ?_
      refine zj_iload C (List.mem_of_getElem? (i := 209) rfl) rfl rfl ?_
      refine zj_iadd (v := (nI (8 * N + r))) C (List.mem_of_getElem? (i := 210) rfl) rfl (nI_add (8 * N) r) ?_
      refine zj_aload_n C (List.mem_of_getElem? (i := 211) rfl) rfl rfl rfl ?_
      refine zo_getM C (List.mem_of_getElem? (i := 212) rfl) rfl rfl rfl hv2M rfl ?_
      refine zj_iconst (v := 4) C (List.mem_of_getElem? (i := 213) rfl) rfl (by decide) ?_
      refine zj_iload C (List.mem_of_getElem? (i := 214) rfl) rfl rfl ?_
      refine zj_imul (v := (nI (4 * r))) C (List.mem_of_getElem? (i := 215) rfl) rfl (pk_mul 4 r) ?_
      refine zj_bipush (v := 7) C (List.mem_of_getElem? (i := 216) rfl) rfl (by decide) ?_
      refine zj_iadd (v := (nI (4 * r + 7))) C (List.mem_of_getElem? (i := 217) rfl) rfl (nI_add (4 * r) 7) ?_
      refine zj_bald (v := gT (4 * r + 7)) C (List.mem_of_getElem? (i := 218) rfl) rfl hv2M.2.1 (zm_in (n := 4 * r + 7) (N := 340) (by omega) (by decide)) (by rw [nI_clamp (by omega)]) ?_
      refine zo_iasM (k := 15) (pl := 228) (N := 72) C (List.mem_of_getElem? (i := 219) rfl) rfl (by decide) hv2M (zm_in (by omega) (by decide)) (fun v3 hv3M hv3A => ?_)
      refine zj_iinc (k := 0) (v := (nI (r + 1))) C (List.mem_of_getElem? (i := 220) rfl) rfl rfl (nI_succ r).symm (by decide) rfl ?_
      refine zj_goto (tgt := 280) C (List.mem_of_getElem? (i := 221) rfl) (by decide) ?_
      exact ih (r + 1) v3 (by omega) hok hv3M (hv3A.trans (hv2A.trans (hv1A.trans (hv0A.trans hA1))))
  have seats : ∀ (n j : Nat) (ws1 : va_W), j + n = 4 → zo_ok (fun k => (gT k).toInt) t → zo_ms tys ws1 aM ad (zo_L ad 0 (nI t) 0 (nI N)) gT (upd fr N (nI (t / 4 - 1))) → zx_as ws1 = zx_as ws → zj_go p l e R s mi args below meth c Q D A (zx_mV zx_m142.2.1) 246 [(6, .int (nI j)), (5, .int (nI N)), (0, .ref aM), (1, .int hh), (2, .int ss), (3, .int ch), (4, .int nn)] [] ws1 := by
    intro n
    induction n with
    | zero =>
      intro j ws1 hj hok hM1 hA1
      have hj : j = 4 := by omega
      subst hj
      refine zj_iload C (List.mem_of_getElem? (i := 131) rfl) rfl rfl ?_
      refine zj_iconst (v := 4) C (List.mem_of_getElem? (i := 132) rfl) rfl (by decide) ?_
      refine zj_icmp_ge (tgt := 277) C (List.mem_of_getElem? (i := 133) rfl) rfl (by decide) (fun hq => ?_) (fun hq => ?_)
      rotate_left
      · exact absurd (Int32.le_refl _) hq
      refine zj_iconst (v := 0) C (List.mem_of_getElem? (i := 148) rfl) rfl (by decide) ?_
      refine zj_istore C (List.mem_of_getElem? (i := 149) rfl) rfl (by decide) rfl ?_
      exact roles (t / 4 - 1) 0 ws1 (by omega) hok hM1 hA1
    | succ n ih =>
      intro j ws1 hj hok hM1 hA1
      refine zj_iload C (List.mem_of_getElem? (i := 131) rfl) rfl rfl ?_
      refine zj_iconst (v := 4) C (List.mem_of_getElem? (i := 132) rfl) rfl (by decide) ?_
      refine zj_icmp_ge (tgt := 277) C (List.mem_of_getElem? (i := 133) rfl) rfl (by decide) (fun hq => ?_) (fun hq => ?_)
      · exact absurd ((nI_leI (a := 4) (b := j) (by decide) (by omega)).mp hq) (by omega)
      refine zj_aload_n C (List.mem_of_getElem? (i := 134) rfl) rfl rfl rfl ?_
      refine zo_getM C (List.mem_of_getElem? (i := 135) rfl) rfl rfl rfl hM1 rfl ?_
      refine zj_iconst (v := 4) C (List.mem_of_getElem? (i := 136) rfl) rfl (by decide) ?_
      refine zj_iload C (List.mem_of_getElem? (i := 137) rfl) rfl rfl ?_
      refine zj_imul (v := (nI (4 * N))) C (List.mem_of_getElem? (i := 138) rfl) rfl (pk_mul 4 N) ?_
      refine zj_iload C (List.mem_of_getElem? (i := 139) rfl) rfl rfl ?_
      refine zj_iadd (v := (nI (4 * N + j))) C (List.mem_of_getElem? (i := 140) rfl) rfl (nI_add (4 * N) j) ?_
      refine zj_aload_n C (List.mem_of_getElem? (i := 141) rfl) rfl rfl rfl ?_
      refine zo_getM C (List.mem_of_getElem? (i := 142) rfl) rfl rfl rfl hM1 rfl ?_
      refine zj_iload C (List.mem_of_getElem? (i := 143) rfl) rfl rfl ?_
      refine zj_bald (v := gT j) C (List.mem_of_getElem? (i := 144) rfl) rfl hM1.2.1 (zm_in (n := j) (N := 340) (by omega) (by decide)) (by rw [nI_clamp (by omega)]) ?_
      refine zo_iasM (k := 10) (pl := 223) (N := 36) C (List.mem_of_getElem? (i := 145) rfl) rfl (by decide) hM1 (zm_in (by omega) (by decide)) (fun v0 hv0M hv0A => ?_)
      refine zj_iinc (k := 0) (v := (nI (j + 1))) C (List.mem_of_getElem? (i := 146) rfl) rfl rfl (nI_succ j).symm (by decide) rfl ?_
      refine zj_goto (tgt := 246) C (List.mem_of_getElem? (i := 147) rfl) (by decide) ?_
      exact ih (j + 1) v0 (by omega) hok hv0M (hv0A.trans hA1)
  have loop : ∀ (n j : Nat), j + n = t → (∀ k, k < j → zo_lo k ≤ (gT k).toInt ∧ (gT k).toInt ≤ zo_hi k) → zj_go p l e R s mi args below meth c Q D A (zx_mV zx_m142.2.1) 76 [(5, .int (nI j)), (0, .ref aM), (1, .int hh), (2, .int ss), (3, .int ch), (4, .int nn)] [] w2 := by
    intro n
    induction n with
    | zero =>
      intro j hj hk
      have hj : j = t := by omega
      subst hj
      refine zj_iload C (List.mem_of_getElem? (i := 39) rfl) rfl rfl ?_
      refine zj_aload_n C (List.mem_of_getElem? (i := 40) rfl) rfl rfl rfl ?_
      refine zo_getM C (List.mem_of_getElem? (i := 41) rfl) rfl rfl rfl hM2 rfl ?_
      refine zj_icmp_ge (tgt := 189) C (List.mem_of_getElem? (i := 42) rfl) rfl (by decide) (fun hq => ?_) (fun hq => ?_)
      rotate_left
      · exact absurd (Int32.le_refl _) hq
      have hok := hlen.mpr hk
      refine zj_aload_n C (List.mem_of_getElem? (i := 96) rfl) rfl rfl rfl ?_
      refine zo_getM C (List.mem_of_getElem? (i := 97) rfl) rfl rfl rfl hM2 rfl ?_
      refine zj_istore C (List.mem_of_getElem? (i := 98) rfl) rfl (by decide) rfl ?_
      refine zj_aload_n C (List.mem_of_getElem? (i := 99) rfl) rfl rfl rfl ?_
      refine zo_getM C (List.mem_of_getElem? (i := 100) rfl) rfl rfl rfl hM2 rfl ?_
      refine zj_iload C (List.mem_of_getElem? (i := 101) rfl) rfl rfl ?_
      refine zj_iload_n C (List.mem_of_getElem? (i := 102) rfl) rfl rfl rfl ?_
      refine zo_iasM (k := 7) (pl := 220) (N := 9) C (List.mem_of_getElem? (i := 103) rfl) rfl (by decide) hM2 (zm_in b1 (by decide)) (fun u1 hu1M hu1A => ?_)
      refine zj_aload_n C (List.mem_of_getElem? (i := 104) rfl) rfl rfl rfl ?_
      refine zo_getM C (List.mem_of_getElem? (i := 105) rfl) rfl rfl rfl hu1M rfl ?_
      refine zj_iload C (List.mem_of_getElem? (i := 106) rfl) rfl rfl ?_
      refine zj_iload_n C (List.mem_of_getElem? (i := 107) rfl) rfl rfl rfl ?_
      refine zo_iasM (k := 8) (pl := 221) (N := 9) C (List.mem_of_getElem? (i := 108) rfl) rfl (by decide) hu1M (zm_in b1 (by decide)) (fun u2 hu2M hu2A => ?_)
      refine zj_aload_n C (List.mem_of_getElem? (i := 109) rfl) rfl rfl rfl ?_
      refine zo_getM C (List.mem_of_getElem? (i := 110) rfl) rfl rfl rfl hu2M rfl ?_
      refine zj_iload C (List.mem_of_getElem? (i := 111) rfl) rfl rfl ?_
      refine zj_iload_n C (List.mem_of_getElem? (i := 112) rfl) rfl rfl rfl ?_
      refine zo_zasM C (List.mem_of_getElem? (i := 113) rfl) rfl hu2M (zm_in (N := 9) b1 (by decide)) (fun u3 hu3M hu3A => ?_)
      refine zj_aload_n C (List.mem_of_getElem? (i := 114) rfl) rfl rfl rfl ?_
      refine zo_getM C (List.mem_of_getElem? (i := 115) rfl) rfl rfl rfl hu3M rfl ?_
      refine zj_iload C (List.mem_of_getElem? (i := 116) rfl) rfl rfl ?_
      refine zj_iload C (List.mem_of_getElem? (i := 117) rfl) rfl rfl ?_
      refine zo_iasM (k := 9) (pl := 222) (N := 9) C (List.mem_of_getElem? (i := 118) rfl) rfl (by decide) hu3M (zm_in b1 (by decide)) (fun u4 hu4M hu4A => ?_)
      refine zj_aload_n C (List.mem_of_getElem? (i := 119) rfl) rfl rfl rfl ?_
      refine zo_getM C (List.mem_of_getElem? (i := 120) rfl) rfl rfl rfl hu4M rfl ?_
      refine zj_iload C (List.mem_of_getElem? (i := 121) rfl) rfl rfl ?_
      refine zj_aload_n C (List.mem_of_getElem? (i := 122) rfl) rfl rfl rfl ?_
      refine zo_getM C (List.mem_of_getElem? (i := 123) rfl) rfl rfl rfl hu4M rfl ?_
      refine zj_iconst (v := 4) C (List.mem_of_getElem? (i := 124) rfl) rfl (by decide) ?_
      refine zj_idiv (v := (nI (j / 4))) C (List.mem_of_getElem? (i := 125) rfl) rfl (by decide) (pk_div (d := 4) (by omega) (by decide) (by decide)) ?_
      refine zj_iconst (v := 1) C (List.mem_of_getElem? (i := 126) rfl) rfl (by decide) ?_
      refine zj_isub (v := (nI (j / 4 - 1))) C (List.mem_of_getElem? (i := 127) rfl) rfl (pk_sub (a := j / 4) (b := 1) (by omega)) ?_
      refine zo_iasR C (List.mem_of_getElem? (i := 128) rfl) rfl hu4M (zm_in (N := 9) b1 (by decide)) (fun u5 hu5M hu5A => ?_)
      rw [nI_clamp (by omega : N < 2 ^ 31)] at hu5M
      refine zj_iconst (v := 0) C (List.mem_of_getElem? (i := 129) rfl) rfl (by decide) ?_
      refine zj_istore C (List.mem_of_getElem? (i := 130) rfl) rfl (by decide) rfl ?_
      refine zm_perm (lv' := [(6, .int 0), (5, .int (nI N)), (0, .ref aM), (1, .int hh), (2, .int ss), (3, .int ch), (4, .int nn)]) C (by repeat first | exact zm_sub_nil | refine zm_sub_cons rfl ?_) ?_
      exact seats 4 0 u5 rfl hok hu5M (hu5A.trans (hu4A.trans (hu3A.trans (hu2A.trans (hu1A.trans hA2)))))
    | succ n ih =>
      intro j hj hk
      refine zj_iload C (List.mem_of_getElem? (i := 39) rfl) rfl rfl ?_
      refine zj_aload_n C (List.mem_of_getElem? (i := 40) rfl) rfl rfl rfl ?_
      refine zo_getM C (List.mem_of_getElem? (i := 41) rfl) rfl rfl rfl hM2 rfl ?_
      refine zj_icmp_ge (tgt := 189) C (List.mem_of_getElem? (i := 42) rfl) rfl (by decide) (fun hq => ?_) (fun hq => ?_)
      · exact absurd ((nI_leI (a := t) (b := j) (by omega) (by omega)).mp hq) (by omega)
      refine zj_iload C (List.mem_of_getElem? (i := 43) rfl) rfl rfl ?_
      refine zj_iconst (v := 4) C (List.mem_of_getElem? (i := 44) rfl) rfl (by decide) ?_
      refine zj_irem (v := (nI (j % 4))) C (List.mem_of_getElem? (i := 45) rfl) rfl (by decide) (pk_rem (d := 4) (by omega) (by decide) (by decide)) ?_
      refine zj_istore C (List.mem_of_getElem? (i := 46) rfl) rfl (by decide) rfl ?_
      refine zj_iload C (List.mem_of_getElem? (i := 47) rfl) rfl rfl ?_
      refine zj_iconst (v := 4) C (List.mem_of_getElem? (i := 48) rfl) rfl (by decide) ?_
      have step : ∀ (q : Int32), (q = 1 ∧ (zo_lo j ≤ (gT j).toInt ∧ (gT j).toInt ≤ zo_hi j)) ∨ (q = 0 ∧ ¬ (zo_lo j ≤ (gT j).toInt ∧ (gT j).toInt ≤ zo_hi j)) → zj_go p l e R s mi args below meth c Q D A (zx_mV zx_m142.2.1) 174 [(6, .int (nI (j % 4))), (5, .int (nI j)), (0, .ref aM), (1, .int hh), (2, .int ss), (3, .int ch), (4, .int nn)] [.int q] w2 := by
        intro q hq1
        refine zj_istore C (List.mem_of_getElem? (i := 89) rfl) rfl (by decide) rfl ?_
        refine zj_iload C (List.mem_of_getElem? (i := 90) rfl) rfl rfl ?_
        rcases hq1 with ⟨rfl, hq1⟩ | ⟨rfl, hq1⟩
        · skip
          refine zj_if_ne (tgt := 183) C (List.mem_of_getElem? (i := 91) rfl) rfl (by decide) (fun hd => ?_) (fun hd => ?_)
          rotate_left
          · exact absurd hd (by decide)
          refine zj_iinc (k := 2) (v := (nI (j + 1))) C (List.mem_of_getElem? (i := 94) rfl) rfl rfl (nI_succ j).symm (by decide) rfl ?_
          refine zj_goto (tgt := 76) C (List.mem_of_getElem? (i := 95) rfl) (by decide) ?_
          refine zm_perm (lv' := [(5, .int (nI (j + 1))), (0, .ref aM), (1, .int hh), (2, .int ss), (3, .int ch), (4, .int nn)]) C (by repeat first | exact zm_sub_nil | refine zm_sub_cons rfl ?_) ?_
          refine ih (j + 1) (by omega) (fun k h => ?_)
          rcases Nat.lt_or_ge k j with h3 | h3
          · exact hk k h3
          · rw [show k = j by omega]
            exact hq1
        · skip
          refine zj_if_ne (tgt := 183) C (List.mem_of_getElem? (i := 91) rfl) rfl (by decide) (fun hd => ?_) (fun hd => ?_)
          · exact absurd rfl hd
          refine zj_iconst (v := (-1)) C (List.mem_of_getElem? (i := 92) rfl) rfl (by decide) ?_
          exact KRi 182 _ _ _ (List.mem_of_getElem? (i := 93) rfl) (by decide) (Or.inl rfl) hA2 ⟨fun h => absurd (h.2.2.2 j (by omega)) hq1, fun _ => ⟨rfl, hM2.2.2.1, zo_f21 hM2⟩⟩
      refine zj_icmp_ge (tgt := 113) C (List.mem_of_getElem? (i := 49) rfl) rfl (by decide) (fun h4 => ?_) (fun h4 => ?_)
      rotate_left
      · have h4 : j < 4 := by
          rcases Nat.lt_or_ge j 4 with h | h
          · exact h
          · exact absurd ((nI_leI (a := 4) (b := j) (by decide) (by omega)).mpr h) h4
        refine zj_aload_n C (List.mem_of_getElem? (i := 50) rfl) rfl rfl rfl ?_
        refine zo_getM C (List.mem_of_getElem? (i := 51) rfl) rfl rfl rfl hM2 rfl ?_
        refine zj_iload C (List.mem_of_getElem? (i := 52) rfl) rfl rfl ?_
        refine zj_bald (v := gT j) C (List.mem_of_getElem? (i := 53) rfl) rfl hM2.2.1 (zm_in (n := j) (N := 340) (by omega) (by decide)) (by rw [nI_clamp (by omega)]) ?_
        refine zj_iconst (v := 0) C (List.mem_of_getElem? (i := 54) rfl) rfl (by decide) ?_
        refine zj_bipush (v := 40) C (List.mem_of_getElem? (i := 55) rfl) rfl (by decide) ?_
        refine zj_callS (As := [.int (gT j), .int 0, .int 40]) (rest := []) C (List.mem_of_getElem? (i := 56) rfl) rfl rfl (Or.inl rfl) (zm_W_mono (zo_isIn_W (x := gT j) (lo := 0) (hi := 40)) (by decide)) rfl rfl (Nat.le_of_ble_eq_true rfl) rfl ⟨rfl, rfl, rfl, rfl⟩ (fun v s1 hs1A hs1Z => ?_)
        obtain ⟨he, hv⟩ := hs1Z
        subst he
        rw [c0, c40] at hv
        have hlh : zo_lo j = 0 ∧ zo_hi j = 40 := by
          unfold zo_lo zo_hi
          rw [if_pos h4, if_pos h4]; exact ⟨rfl, rfl⟩
        rw [← hlh.1, ← hlh.2] at hv
        rcases hv with ⟨hv, h9⟩ | ⟨hv, h9⟩
        · subst hv
          refine zj_goto (tgt := 174) C (List.mem_of_getElem? (i := 57) rfl) (by decide) ?_
          exact step _ (Or.inl ⟨rfl, h9⟩)
        · subst hv
          refine zj_goto (tgt := 174) C (List.mem_of_getElem? (i := 57) rfl) (by decide) ?_
          exact step _ (Or.inr ⟨rfl, h9⟩)
      have h4 : 4 ≤ j := (nI_leI (a := 4) (b := j) (by decide) (by omega)).mp h4
      refine zj_iload C (List.mem_of_getElem? (i := 58) rfl) rfl rfl ?_
      refine zj_if_eq (tgt := 124) C (List.mem_of_getElem? (i := 59) rfl) rfl (by decide) (fun e0 => ?_) (fun e0 => ?_)
      · have e0 : j % 4 = 0 := by
          have h1 := congrArg Int32.toInt e0
          rw [nI_toInt (by omega), c0] at h1
          omega
        refine zj_aload_n C (List.mem_of_getElem? (i := 63) rfl) rfl rfl rfl ?_
        refine zo_getM C (List.mem_of_getElem? (i := 64) rfl) rfl rfl rfl hM2 rfl ?_
        refine zj_iload C (List.mem_of_getElem? (i := 65) rfl) rfl rfl ?_
        refine zj_bald (v := gT j) C (List.mem_of_getElem? (i := 66) rfl) rfl hM2.2.1 (zm_in (n := j) (N := 340) (by omega) (by decide)) (by rw [nI_clamp (by omega)]) ?_
        refine zj_iconst (v := 0) C (List.mem_of_getElem? (i := 67) rfl) rfl (by decide) ?_
        refine zj_iconst (v := 5) C (List.mem_of_getElem? (i := 68) rfl) rfl (by decide) ?_
        refine zj_callS (As := [.int (gT j), .int 0, .int 5]) (rest := []) C (List.mem_of_getElem? (i := 69) rfl) rfl rfl (Or.inl rfl) (zm_W_mono (zo_isIn_W (x := gT j) (lo := 0) (hi := 5)) (by decide)) rfl rfl (Nat.le_of_ble_eq_true rfl) rfl ⟨rfl, rfl, rfl, rfl⟩ (fun v s2 hs2A hs2Z => ?_)
        obtain ⟨he, hv⟩ := hs2Z
        subst he
        rw [c0, c5] at hv
        have hlh : zo_lo j = 0 ∧ zo_hi j = 5 := by
          unfold zo_lo zo_hi
          rw [if_neg (by omega), if_neg (by omega), if_neg (by omega), if_neg (by omega), if_neg (by omega)]; exact ⟨rfl, rfl⟩
        rw [← hlh.1, ← hlh.2] at hv
        rcases hv with ⟨hv, h9⟩ | ⟨hv, h9⟩
        · subst hv
          refine zj_goto (tgt := 174) C (List.mem_of_getElem? (i := 70) rfl) (by decide) ?_
          exact step _ (Or.inl ⟨rfl, h9⟩)
        · subst hv
          refine zj_goto (tgt := 174) C (List.mem_of_getElem? (i := 70) rfl) (by decide) ?_
          exact step _ (Or.inr ⟨rfl, h9⟩)
      have e0 : ¬ j % 4 = 0 := fun h => e0 (by rw [h]; rfl)
      refine zj_iload C (List.mem_of_getElem? (i := 60) rfl) rfl rfl ?_
      refine zj_iconst (v := 2) C (List.mem_of_getElem? (i := 61) rfl) rfl (by decide) ?_
      refine zj_icmp_ne (tgt := 139) C (List.mem_of_getElem? (i := 62) rfl) rfl (by decide) (fun e2 => ?_) (fun e2 => ?_)
      rotate_left
      · have e2 : j % 4 = 2 := by
          have h1 := congrArg Int32.toInt e2
          rw [nI_toInt (by omega), c2] at h1
          omega
        refine zj_aload_n C (List.mem_of_getElem? (i := 63) rfl) rfl rfl rfl ?_
        refine zo_getM C (List.mem_of_getElem? (i := 64) rfl) rfl rfl rfl hM2 rfl ?_
        refine zj_iload C (List.mem_of_getElem? (i := 65) rfl) rfl rfl ?_
        refine zj_bald (v := gT j) C (List.mem_of_getElem? (i := 66) rfl) rfl hM2.2.1 (zm_in (n := j) (N := 340) (by omega) (by decide)) (by rw [nI_clamp (by omega)]) ?_
        refine zj_iconst (v := 0) C (List.mem_of_getElem? (i := 67) rfl) rfl (by decide) ?_
        refine zj_iconst (v := 5) C (List.mem_of_getElem? (i := 68) rfl) rfl (by decide) ?_
        refine zj_callS (As := [.int (gT j), .int 0, .int 5]) (rest := []) C (List.mem_of_getElem? (i := 69) rfl) rfl rfl (Or.inl rfl) (zm_W_mono (zo_isIn_W (x := gT j) (lo := 0) (hi := 5)) (by decide)) rfl rfl (Nat.le_of_ble_eq_true rfl) rfl ⟨rfl, rfl, rfl, rfl⟩ (fun v s3 hs3A hs3Z => ?_)
        obtain ⟨he, hv⟩ := hs3Z
        subst he
        rw [c0, c5] at hv
        have hlh : zo_lo j = 0 ∧ zo_hi j = 5 := by
          unfold zo_lo zo_hi
          rw [if_neg (by omega), if_neg (by omega), if_neg (by omega), if_neg (by omega), if_neg (by omega)]; exact ⟨rfl, rfl⟩
        rw [← hlh.1, ← hlh.2] at hv
        rcases hv with ⟨hv, h9⟩ | ⟨hv, h9⟩
        · subst hv
          refine zj_goto (tgt := 174) C (List.mem_of_getElem? (i := 70) rfl) (by decide) ?_
          exact step _ (Or.inl ⟨rfl, h9⟩)
        · subst hv
          refine zj_goto (tgt := 174) C (List.mem_of_getElem? (i := 70) rfl) (by decide) ?_
          exact step _ (Or.inr ⟨rfl, h9⟩)
      have e2 : ¬ j % 4 = 2 := fun h => e2 (by rw [h]; rfl)
      refine zj_iload C (List.mem_of_getElem? (i := 71) rfl) rfl rfl ?_
      refine zj_iconst (v := 1) C (List.mem_of_getElem? (i := 72) rfl) rfl (by decide) ?_
      refine zj_icmp_ne (tgt := 161) C (List.mem_of_getElem? (i := 73) rfl) rfl (by decide) (fun e1 => ?_) (fun e1 => ?_)
      rotate_left
      · have e1 : j % 4 = 1 := by
          have h1 := congrArg Int32.toInt e1
          rw [nI_toInt (by omega), c1] at h1
          omega
        refine zj_aload_n C (List.mem_of_getElem? (i := 74) rfl) rfl rfl rfl ?_
        refine zo_getM C (List.mem_of_getElem? (i := 75) rfl) rfl rfl rfl hM2 rfl ?_
        refine zj_iload C (List.mem_of_getElem? (i := 76) rfl) rfl rfl ?_
        refine zj_bald (v := gT j) C (List.mem_of_getElem? (i := 77) rfl) rfl hM2.2.1 (zm_in (n := j) (N := 340) (by omega) (by decide)) (by rw [nI_clamp (by omega)]) ?_
        refine zj_iconst (v := 1) C (List.mem_of_getElem? (i := 78) rfl) rfl (by decide) ?_
        refine zj_bipush (v := 30) C (List.mem_of_getElem? (i := 79) rfl) rfl (by decide) ?_
        refine zj_callS (As := [.int (gT j), .int 1, .int 30]) (rest := []) C (List.mem_of_getElem? (i := 80) rfl) rfl rfl (Or.inl rfl) (zm_W_mono (zo_isIn_W (x := gT j) (lo := 1) (hi := 30)) (by decide)) rfl rfl (Nat.le_of_ble_eq_true rfl) rfl ⟨rfl, rfl, rfl, rfl⟩ (fun v s4 hs4A hs4Z => ?_)
        obtain ⟨he, hv⟩ := hs4Z
        subst he
        rw [c1, c30] at hv
        have hlh : zo_lo j = 1 ∧ zo_hi j = 30 := by
          unfold zo_lo zo_hi
          rw [if_neg (by omega), if_pos e1, if_neg (by omega), if_pos e1]; exact ⟨rfl, rfl⟩
        rw [← hlh.1, ← hlh.2] at hv
        rcases hv with ⟨hv, h9⟩ | ⟨hv, h9⟩
        · subst hv
          refine zj_goto (tgt := 174) C (List.mem_of_getElem? (i := 81) rfl) (by decide) ?_
          exact step _ (Or.inl ⟨rfl, h9⟩)
        · subst hv
          refine zj_goto (tgt := 174) C (List.mem_of_getElem? (i := 81) rfl) (by decide) ?_
          exact step _ (Or.inr ⟨rfl, h9⟩)
      have e1 : ¬ j % 4 = 1 := fun h => e1 (by rw [h]; rfl)
      refine zj_aload_n C (List.mem_of_getElem? (i := 82) rfl) rfl rfl rfl ?_
      refine zo_getM C (List.mem_of_getElem? (i := 83) rfl) rfl rfl rfl hM2 rfl ?_
      refine zj_iload C (List.mem_of_getElem? (i := 84) rfl) rfl rfl ?_
      refine zj_bald (v := gT j) C (List.mem_of_getElem? (i := 85) rfl) rfl hM2.2.1 (zm_in (n := j) (N := 340) (by omega) (by decide)) (by rw [nI_clamp (by omega)]) ?_
      refine zj_iconst (v := 0) C (List.mem_of_getElem? (i := 86) rfl) rfl (by decide) ?_
      refine zj_bipush (v := 9) C (List.mem_of_getElem? (i := 87) rfl) rfl (by decide) ?_
      refine zj_callS (As := [.int (gT j), .int 0, .int 9]) (rest := []) C (List.mem_of_getElem? (i := 88) rfl) rfl rfl (Or.inl rfl) (zm_W_mono (zo_isIn_W (x := gT j) (lo := 0) (hi := 9)) (by decide)) rfl rfl (Nat.le_of_ble_eq_true rfl) rfl ⟨rfl, rfl, rfl, rfl⟩ (fun v s5 hs5A hs5Z => ?_)
      obtain ⟨he, hv⟩ := hs5Z
      subst he
      rw [c0, c9] at hv
      have hlh : zo_lo j = 0 ∧ zo_hi j = 9 := by
        unfold zo_lo zo_hi
        rw [if_neg (by omega), if_neg (by omega), if_neg (by omega), if_neg (by omega), if_pos (by omega)]; exact ⟨rfl, rfl⟩
      rw [← hlh.1, ← hlh.2] at hv
      rcases hv with ⟨hv, h9⟩ | ⟨hv, h9⟩
      · subst hv
        exact step _ (Or.inl ⟨rfl, h9⟩)
      · subst hv
        exact step _ (Or.inr ⟨rfl, h9⟩)
  refine zj_iconst (v := 0) C (List.mem_of_getElem? (i := 37) rfl) rfl (by decide) ?_
  refine zj_istore C (List.mem_of_getElem? (i := 38) rfl) rfl (by decide) rfl ?_
  exact loop t 0 (by omega) (fun k h => absurd h (Nat.not_lt_zero _))
end
