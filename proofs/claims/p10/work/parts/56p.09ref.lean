noncomputable section
/-! zj: the reference's reader -/
abbrev zj_M : Type := (List (ClassId × FieldType)) × (Nat) × (Nat → Nat) × (Nat → Int32) × (Nat → Int32) × (Nat)
def zj_M.tys (K : zj_M) : List (ClassId × FieldType) := K.1
def zj_M.aM (K : zj_M) : Nat := K.2.1
def zj_M.ad (K : zj_M) : Nat → Nat := K.2.2.1
def zj_M.gT (K : zj_M) : Nat → Int32 := K.2.2.2.1
def zj_M.fT (K : zj_M) : Nat → Int32 := K.2.2.2.2.1
def zj_M.t (K : zj_M) : Nat := K.2.2.2.2.2
def zj_Mok (M : zj_M) : Prop := M.t ≤ 340 ∧ (∀ i, M.gT i &&& 255 = M.fT i) ∧ ∀ i, 0 ≤ (M.fT i).toInt ∧ (M.fT i).toInt ≤ 255
def zj_gM (M : zj_M) : Nat → Int := fun i => (M.fT i).toInt
def zj_mrt : List (Nat × (Nat × Nat)) := [(25, 234, 84), (27, 236, 126), (28, 237, 126), (30, 239, 168), (31, 240, 168), (32, 241, 168), (33, 242, 2100), (34, 243, 2100), (35, 244, 2100)]
/-- its cell: what some of its fields hold; its rows -/
def zj_ms (M : zj_M) (ws : va_W) (L : List (Nat × Value)) (fv fe pf : Nat → Int32) : Prop := (∃ fs, ws[218]? = some (M.aM, .inr (11, fs)) ∧ fs.length = 101 ∧ (∀ q ∈ L, fs[q.1]? = some q.2) ∧ ∃ tl : Int32, fs[6]? = some (.int tl)) ∧ zj_row M.tys ws 219 (M.ad 1) 340 .byte M.gT ∧ zj_row M.tys ws 235 (M.ad 26) 21 .int fv ∧ zj_row M.tys ws 238 (M.ad 29) 21 .int fe ∧ zj_row M.tys ws 245 (M.ad 36) 64 .int pf ∧ ∀ q ∈ zj_mrt, ∃ f, zj_row M.tys ws q.2.1 (M.ad q.1) q.2.2 .int f
def zj_ML (M : zj_M) (sz p tok at_ sp nu : Int32) (wd : Int64) (ft fa td on sm pm : Int32) : List (Nat × Value) := [(3, .int sz), (4, .int p), (40, .int tok), (41, .int at_), (42, .int sp), (43, .int nu), (47, .long wd), (44, .int ft), (45, .int fa), (46, .int td), (39, .int on), (37, .int sm), (38, .int pm), (1, .ref (M.ad 1)), (25, .ref (M.ad 25)), (26, .ref (M.ad 26)), (27, .ref (M.ad 27)), (28, .ref (M.ad 28)), (29, .ref (M.ad 29)), (30, .ref (M.ad 30)), (31, .ref (M.ad 31)), (32, .ref (M.ad 32)), (33, .ref (M.ad 33)), (34, .ref (M.ad 34)), (35, .ref (M.ad 35)), (36, .ref (M.ad 36))]
def zj_fset (L : List (Nat × Value)) (i : Nat) (v : Value) : List (Nat × Value) := (i, v) :: L.filter (fun q => !(q.1 == i))
def zj_sub (L L' : List (Nat × Value)) : Prop := ∀ q ∈ L', zj_lk L q.1 = some q.2
theorem zj_sub_nil {L : List (Nat × Value)} : zj_sub L [] := fun q hq => nomatch hq
theorem zj_sub_cons {L L' : List (Nat × Value)} {i : Nat} {v : Value} (h : zj_lk L i = some v) (h2 : zj_sub L L') : zj_sub L ((i, v) :: L') := fun q hq => by
  rcases List.mem_cons.mp hq with rfl | hq
  · exact h
  · exact h2 q hq
theorem zj_ms_nrm {M : zj_M} {ws : va_W} {L L' : List (Nat × Value)} {fv fe pf : Nat → Int32} (h : zj_ms M ws L fv fe pf) (hs : zj_sub L L') : zj_ms M ws L' fv fe pf := by
  obtain ⟨⟨fs, h0, h1, h2, h26⟩, h3⟩ := h
  exact ⟨⟨fs, h0, h1, fun q hq => h2 _ (zj_lk_mem (hs q hq)), h26⟩, h3⟩
def zj_MX (M : zj_M) (as : List Value) (ws0 : va_W) (_ : List Nat) (tys : List (ClassId × FieldType)) (av : List Value) (ws : va_W) : Prop := tys = M.tys ∧ av = as ∧ ws = ws0
section ZKM0
variable {p : Program} {l : Launch} {e : Env} {R : Room} {s : State} {mi : MethodId} {args : Array Value} {below : List Frame} {meth : Method} {c : Code} {Q : State → Prop} {D : va_G} {A : Nat → Prop} {ex : List Nat} {nL : Nat} {own : String} {cc : ByteArray} {d : Nat} {md : zx_MD} {tys : List (ClassId × FieldType)}
variable {pc n : Nat} {lv lv' : List (Nat × Value)} {kc : List Value} {ws : va_W}
theorem zj_lconst (C : zj_cx p R s mi args meth c A ex nL own cc d md D tys) {k : Fin 2} {v : Int64} (hd : (pc, Instr.lconst k, 1) ∈ md.1) (hn : pc + 1 = n) (hz : Int64.ofNat (k : Nat) = v) (h : zj_go p l e R s mi args below meth c Q D A nL n lv (.long v :: kc) ws) : zj_go p l e R s mi args below meth c Q D A nL pc lv kc ws := by
  subst hn
  exact fun H locs ls hP hD hS hv => lv_lconst C.1.1 C.1.2.1 (C.2.2.2.2.1 _ hd).1 hz (h H locs ls hP hD hS hv)
theorem zj_lload_n (C : zj_cx p R s mi args meth c A ex nL own cc d md D tys) {k : Fin 4} {i : Nat} {x : Int64} (hd : (pc, Instr.lload_n k, 1) ∈ md.1) (hi : (k : Nat) = i) (hn : pc + 1 = n) (hl : zj_lk lv i = some (.long x)) (h : zj_go p l e R s mi args below meth c Q D A nL n lv (.long x :: kc) ws) : zj_go p l e R s mi args below meth c Q D A nL pc lv kc ws := by
  subst hn
  exact fun H locs ls hP hD hS hv => lv_lload_n C.1.1 C.1.2.1 (C.2.2.2.2.1 _ hd).1 hi (zj_lk_ok hv hl) (h H locs ls hP hD hS hv)
theorem zj_dup2 (C : zj_cx p R s mi args meth c A ex nL own cc d md D tys) {v w : Value} (hd : (pc, Instr.dup2, 1) ∈ md.1) (hn : pc + 1 = n) (hc : v.category = 1) (hc2 : w.category = 1) (h : zj_go p l e R s mi args below meth c Q D A nL n lv (v :: w :: v :: w :: kc) ws) : zj_go p l e R s mi args below meth c Q D A nL pc lv (v :: w :: kc) ws := by
  subst hn
  exact fun H locs ls hP hD hS hv => lv_dup2_11 C.1.1 C.1.2.1 (C.2.2.2.2.1 _ hd).1 hc hc2 (h H locs ls hP hD hS hv)
end ZKM0
section ZKM
variable {p : Program} {l : Launch} {e : Env} {R : Room} {s : State} {mi : MethodId} {args : Array Value} {below : List Frame} {meth : Method} {c : Code} {Q : State → Prop} {D : va_G} {A : Nat → Prop} {ex : List Nat} {nL : Nat} {own : String} {cc : ByteArray} {d : Nat} {md : zx_MD}
variable {pc n : Nat} {lv lv' : List (Nat × Value)} {kc : List Value} {ws : va_W}
variable {M : zj_M} {fv fe pf : Nat → Int32} {L L' : List (Nat × Value)}
/-- a field of the reference is read -/
theorem zj_getM (C : zj_cx p R s mi args meth c A ex nL own cc d md D M.tys) {ix : Nat} {q : Nat × Nat × Nat × Bool} {v : Value} (hd : (pc, Instr.getfield ix, 3) ∈ md.1) (hn : pc + 3 = n) (hq : zx_mF md.2.1 ix = some q) (hc : q.1 = 11) (hM : zj_ms M ws L fv fe pf) (hv : zj_lk L q.2.1 = some v) (h : zj_go p l e R s mi args below meth c Q D A nL n lv (v :: kc) ws) : zj_go p l e R s mi args below meth c Q D A nL pc lv (.ref M.aM :: kc) ws := by
  obtain ⟨⟨fs, h0, h1, h2, -⟩, -⟩ := hM
  exact zj_get C hd hn hq h0 hc.symm (h2 _ (zj_lk_mem hv)) h
/-- a field of the reference is written -/
theorem zj_putM (C : zj_cx p R s mi args meth c A ex nL own cc d md D M.tys) {ix : Nat} {q : Nat × Nat × Nat × Bool} {v : Value} (hd : (pc, Instr.putfield ix, 3) ∈ md.1) (hn : pc + 3 = n) (hq : zx_mF md.2.1 ix = some q) (hc : q.1 = 11) (hM : zj_ms M ws L fv fe pf) (hk : q.2.1 < 101) (h6 : q.2.1 ≠ 6) (hf : q.2.2.2 = false) (hfit : ∀ ty, zx_tag ty = q.2.2.1 → narrow ty v = v ∧ fits ty v = true) (hs : zj_sub (zj_fset L q.2.1 v) L') (h : ∀ ws', zj_ms M ws' L' fv fe pf → zx_as ws' = zx_as ws → zj_go p l e R s mi args below meth c Q D A nL n lv kc ws') : zj_go p l e R s mi args below meth c Q D A nL pc lv (v :: .ref M.aM :: kc) ws := by
  obtain ⟨⟨fs, h0, h1, h2, tl, h26⟩, h3, h4, h5, h8, h7⟩ := hM
  refine zj_put C hd hn hq h0 hc.symm (by rw [h1]; exact hk) hf hfit ?_
  have hne : ∀ i, i ≠ 218 → (ws.set 218 (M.aM, .inr (11, fs.set q.2.1 v)))[i]? = ws[i]? := fun i hi => List.getElem?_set_ne (Ne.symm hi)
  refine h _ (zj_ms_nrm ⟨⟨fs.set q.2.1 v, ?_, by rw [List.length_set]; exact h1, fun r hr => ?_, tl, (List.getElem?_set_ne h6).trans h26⟩, zj_row_keep h3 (hne _ (by decide)), zj_row_keep h4 (hne _ (by decide)), zj_row_keep h5 (hne _ (by decide)), zj_row_keep h8 (hne _ (by decide)), fun r hr => ?_⟩ hs) (zx_as_set h0)
  · rw [List.getElem?_set]
    simp only [if_true]
    rw [if_pos (List.getElem?_eq_some_iff.mp h0).1]
  · rcases List.mem_cons.mp hr with rfl | hr
    · show (fs.set q.2.1 v)[q.2.1]? = some v
      rw [List.getElem?_set]
      simp only [if_true]
      rw [if_pos (by rw [h1]; exact hk)]
    · obtain ⟨hr1, hr2⟩ := List.mem_filter.mp hr
      rw [List.getElem?_set_ne (fun h9 => ?_)]
      · exact h2 r hr1
      · rw [← h9] at hr2
        simp at hr2
  · obtain ⟨f, hf1⟩ := h7 r hr
    have hp : ∀ r ∈ zj_mrt, r.2.1 ≠ 218 := by decide
    exact ⟨f, zj_row_keep hf1 (hne _ (hp r hr))⟩
/-- a row of the reference is written -/
theorem zj_iasM (C : zj_cx p R s mi args meth c A ex nL own cc d md D M.tys) {k pl N : Nat} {i x : Int32} (hd : (pc, Instr.iastore, 1) ∈ md.1) (hn : pc + 1 = n) (he : (k, pl, N) ∈ zj_mrt) (hM : zj_ms M ws L fv fe pf) (hi : vp_in i N) (h : ∀ ws', zj_ms M ws' L fv fe pf → zx_as ws' = zx_as ws → zj_go p l e R s mi args below meth c Q D A nL n lv kc ws') : zj_go p l e R s mi args below meth c Q D A nL pc lv (.int x :: .int i :: .ref (M.ad k) :: kc) ws := by
  obtain ⟨⟨fs, h0, h1, h2⟩, h3, h4, h5, h6, h7⟩ := hM
  obtain ⟨f, hf⟩ := h7 _ he
  refine zj_iast C hd hn hf hi (fun cA hcA => ?_)
  have hcA : ws[pl]? = some (M.ad k, .inl (cA, N, .inl f)) := hcA
  have hp : ∀ r ∈ zj_mrt, r.2.1 ≠ 218 ∧ r.2.1 ≠ 219 ∧ r.2.1 ≠ 235 ∧ r.2.1 ≠ 238 ∧ r.2.1 ≠ 245 := by decide
  obtain ⟨p1, p2, p3, p4, p5⟩ := hp _ he
  have hd2 : ∀ r ∈ zj_mrt, ∀ r2 ∈ zj_mrt, r.2.1 = r2.2.1 → r = r2 := by decide
  refine h _ ⟨⟨fs, (List.getElem?_set_ne p1).trans h0, h1, h2⟩, zj_row_keep h3 (List.getElem?_set_ne p2), zj_row_keep h4 (List.getElem?_set_ne p3), zj_row_keep h5 (List.getElem?_set_ne p4), zj_row_keep h6 (List.getElem?_set_ne p5), fun r hr => ?_⟩ (zx_as_set hcA)
  obtain ⟨f2, hf2⟩ := h7 r hr
  by_cases hq : (k, pl, N) = r
  · subst hq
    exact ⟨_, zj_row_set hf hcA⟩
  · exact ⟨f2, zj_row_keep hf2 (List.getElem?_set_ne (fun h9 => hq (hd2 _ he r hr h9)))⟩
theorem zj_iasV (C : zj_cx p R s mi args meth c A ex nL own cc d md D M.tys) {i x : Int32} (hd : (pc, Instr.iastore, 1) ∈ md.1) (hn : pc + 1 = n) (hM : zj_ms M ws L fv fe pf) (hi : vp_in i 21) (h : ∀ ws', zj_ms M ws' L (upd fv i.toNatClampNeg x) fe pf → zx_as ws' = zx_as ws → zj_go p l e R s mi args below meth c Q D A nL n lv kc ws') : zj_go p l e R s mi args below meth c Q D A nL pc lv (.int x :: .int i :: .ref (M.ad 26) :: kc) ws := by
  obtain ⟨⟨fs, h0, h1, h2⟩, h3, h4, h5, h6, h7⟩ := hM
  refine zj_iast C hd hn h4 hi (fun cA hcA => ?_)
  have hp : ∀ r ∈ zj_mrt, r.2.1 ≠ 235 := by decide
  exact h _ ⟨⟨fs, (List.getElem?_set_ne (by decide)).trans h0, h1, h2⟩, zj_row_keep h3 (List.getElem?_set_ne (by decide)), zj_row_set h4 hcA, zj_row_keep h5 (List.getElem?_set_ne (by decide)), zj_row_keep h6 (List.getElem?_set_ne (by decide)), fun r hr => (h7 r hr).elim (fun f hf => ⟨f, zj_row_keep hf (List.getElem?_set_ne (Ne.symm (hp r hr)))⟩)⟩ (zx_as_set hcA)
theorem zj_iasE (C : zj_cx p R s mi args meth c A ex nL own cc d md D M.tys) {i x : Int32} (hd : (pc, Instr.iastore, 1) ∈ md.1) (hn : pc + 1 = n) (hM : zj_ms M ws L fv fe pf) (hi : vp_in i 21) (h : ∀ ws', zj_ms M ws' L fv (upd fe i.toNatClampNeg x) pf → zx_as ws' = zx_as ws → zj_go p l e R s mi args below meth c Q D A nL n lv kc ws') : zj_go p l e R s mi args below meth c Q D A nL pc lv (.int x :: .int i :: .ref (M.ad 29) :: kc) ws := by
  obtain ⟨⟨fs, h0, h1, h2⟩, h3, h4, h5, h6, h7⟩ := hM
  refine zj_iast C hd hn h5 hi (fun cA hcA => ?_)
  have hp : ∀ r ∈ zj_mrt, r.2.1 ≠ 238 := by decide
  exact h _ ⟨⟨fs, (List.getElem?_set_ne (by decide)).trans h0, h1, h2⟩, zj_row_keep h3 (List.getElem?_set_ne (by decide)), zj_row_keep h4 (List.getElem?_set_ne (by decide)), zj_row_set h5 hcA, zj_row_keep h6 (List.getElem?_set_ne (by decide)), fun r hr => (h7 r hr).elim (fun f hf => ⟨f, zj_row_keep hf (List.getElem?_set_ne (Ne.symm (hp r hr)))⟩)⟩ (zx_as_set hcA)
theorem zj_iasP (C : zj_cx p R s mi args meth c A ex nL own cc d md D M.tys) {i x : Int32} (hd : (pc, Instr.iastore, 1) ∈ md.1) (hn : pc + 1 = n) (hM : zj_ms M ws L fv fe pf) (hi : vp_in i 64) (h : ∀ ws', zj_ms M ws' L fv fe (upd pf i.toNatClampNeg x) → zx_as ws' = zx_as ws → zj_go p l e R s mi args below meth c Q D A nL n lv kc ws') : zj_go p l e R s mi args below meth c Q D A nL pc lv (.int x :: .int i :: .ref (M.ad 36) :: kc) ws := by
  obtain ⟨⟨fs, h0, h1, h2⟩, h3, h4, h5, h6, h7⟩ := hM
  refine zj_iast C hd hn h6 hi (fun cA hcA => ?_)
  have hp : ∀ r ∈ zj_mrt, r.2.1 ≠ 245 := by decide
  exact h _ ⟨⟨fs, (List.getElem?_set_ne (by decide)).trans h0, h1, h2⟩, zj_row_keep h3 (List.getElem?_set_ne (by decide)), zj_row_keep h4 (List.getElem?_set_ne (by decide)), zj_row_keep h5 (List.getElem?_set_ne (by decide)), zj_row_set h6 hcA, fun r hr => (h7 r hr).elim (fun f hf => ⟨f, zj_row_keep hf (List.getElem?_set_ne (Ne.symm (hp r hr)))⟩)⟩ (zx_as_set hcA)
/-- how often it has been told: read, written -/
theorem zj_get6 (C : zj_cx p R s mi args meth c A ex nL own cc d md D M.tys) {ix : Nat} {q : Nat × Nat × Nat × Bool} (hd : (pc, Instr.getfield ix, 3) ∈ md.1) (hn : pc + 3 = n) (hq : zx_mF md.2.1 ix = some q) (hc : q.1 = 11) (h6 : q.2.1 = 6) (hM : zj_ms M ws L fv fe pf) (h : ∀ tl : Int32, zj_go p l e R s mi args below meth c Q D A nL n lv (.int tl :: kc) ws) : zj_go p l e R s mi args below meth c Q D A nL pc lv (.ref M.aM :: kc) ws := by
  obtain ⟨⟨fs, h0, h1, h2, tl, h26⟩, -⟩ := hM
  exact zj_get C hd hn hq h0 hc.symm (by rw [h6]; exact h26) (h tl)
theorem zj_put6 (C : zj_cx p R s mi args meth c A ex nL own cc d md D M.tys) {ix : Nat} {q : Nat × Nat × Nat × Bool} {v : Int32} (hd : (pc, Instr.putfield ix, 3) ∈ md.1) (hn : pc + 3 = n) (hq : zx_mF md.2.1 ix = some q) (hc : q.1 = 11) (h6 : q.2.1 = 6) (hM : zj_ms M ws L fv fe pf) (hf : q.2.2.2 = false) (ht : q.2.2.1 = 0) (hL : ∀ r ∈ L, r.1 ≠ 6) (h : ∀ ws', zj_ms M ws' L fv fe pf → zx_as ws' = zx_as ws → zj_go p l e R s mi args below meth c Q D A nL n lv kc ws') : zj_go p l e R s mi args below meth c Q D A nL pc lv (.int v :: .ref M.aM :: kc) ws := by
  obtain ⟨⟨fs, h0, h1, h2, tl, h26⟩, h3, h4, h5, h8, h7⟩ := hM
  refine zj_put C hd hn hq h0 hc.symm (by rw [h1, h6]; decide) hf (zj_fit_i ht v) ?_
  rw [h6]
  have hne : ∀ i, i ≠ 218 → (ws.set 218 (M.aM, .inr (11, fs.set 6 (.int v))))[i]? = ws[i]? := fun i hi => List.getElem?_set_ne (Ne.symm hi)
  refine h _ ⟨⟨fs.set 6 (.int v), ?_, by rw [List.length_set]; exact h1, fun r hr => (List.getElem?_set_ne (Ne.symm (hL r hr))).trans (h2 r hr), v, ?_⟩, zj_row_keep h3 (hne _ (by decide)), zj_row_keep h4 (hne _ (by decide)), zj_row_keep h5 (hne _ (by decide)), zj_row_keep h8 (hne _ (by decide)), fun r hr => ?_⟩ (zx_as_set h0)
  · rw [List.getElem?_set]
    simp only [if_true]
    rw [if_pos (List.getElem?_eq_some_iff.mp h0).1]
  · rw [List.getElem?_set]
    simp only [if_true]
    rw [if_pos (by rw [h1]; decide)]
  · obtain ⟨f, hf1⟩ := h7 r hr
    have hp : ∀ r ∈ zj_mrt, r.2.1 ≠ 218 := by decide
    exact ⟨f, zj_row_keep hf1 (hne _ (hp r hr))⟩
/-- a row of the reference is read -/
theorem zj_ialM (C : zj_cx p R s mi args meth c A ex nL own cc d md D M.tys) {k pl N : Nat} {i : Int32} (hd : (pc, Instr.iaload, 1) ∈ md.1) (hn : pc + 1 = n) (he : (k, pl, N) ∈ zj_mrt) (hM : zj_ms M ws L fv fe pf) (hi : vp_in i N) (h : ∀ v : Int32, zj_go p l e R s mi args below meth c Q D A nL n lv (.int v :: kc) ws) : zj_go p l e R s mi args below meth c Q D A nL pc lv (.int i :: .ref (M.ad k) :: kc) ws := by
  obtain ⟨-, -, -, -, -, h7⟩ := hM
  obtain ⟨f, hf⟩ := h7 _ he
  exact zj_iald C hd hn hf hi rfl (h _)
end ZKM
theorem zj_enterO {l : Launch} {ow : String} {d j : Nat} {X : List Nat → List (ClassId × FieldType) → List Value → va_W → Prop} {Z : List Nat → List Value → va_W → Option Value → va_W → Prop} {md : zx_MD} (hP : zx_Pt[j]? = some (some md)) (how : (zx_PRt[j]?).map (fun q => q.1.cls) = some ow) (hR0 : zx_mR md.2.1 = (0, 0)) (hcats : ∀ ex tys av ws, X ex tys av ws → (lg_sl av).length ≤ zx_mV md.2.1)
    (hcont : ∀ (p : Program) (e : Env) (R : Room) (s : State) (mi : MethodId) (args : Array Value) (below : List Frame) (meth : Method) (c : Code) (Q : State → Prop) (D : va_G) (A : Nat → Prop) (ex : List Nat) (nL : Nat) (own : String) (cc : ByteArray) (tys : List (ClassId × FieldType)) (ws : va_W) (av : List Value), X ex tys av ws → zj_cx p R s mi args meth c A ex nL own cc d md D tys → zx_mV md.2.1 = nL → own = ow →
      (∀ (pc : Nat) (lv : List (Nat × Value)) (w : Int32) (ws' : va_W), (pc, Instr.ireturn, 1) ∈ md.1 → md.2.2.2 ≠ 4 → (md.2.2.2 = 0 ∨ md.2.2.2 = 1 ∧ (w = 0 ∨ w = 1)) → zx_as ws' = zx_as ws → Z ex av ws (some (.int w)) ws' → zj_go p l e R s mi args below meth c Q D A nL pc lv [.int w] ws') →
      (∀ (pc : Nat) (lv : List (Nat × Value)) (ws' : va_W), (pc, Instr.return_, 1) ∈ md.1 → md.2.2.2 = 4 → zx_as ws' = zx_as ws → Z ex av ws none ws' → zj_go p l e R s mi args below meth c Q D A nL pc lv [] ws') →
      (∀ (pc : Nat) (lv : List (Nat × Value)) (a : Nat) (ws' : va_W), (pc, Instr.areturn, 1) ∈ md.1 → md.2.2.2 = 3 → zx_as ws' = zx_as ws → Z ex av ws (some (.ref a)) ws' → zj_go p l e R s mi args below meth c Q D A nL pc lv [.ref a] ws') →
      zj_go p l e R s mi args below meth c Q D A nL 0 (lv_args 0 av) [] ws) : zj_W l (d + 1) j X Z := by
  intro y cc maxL ret rm hPR hrm D A ex tys ws sz av hA hX
  obtain ⟨k1, k2, k3, k4, k5, k6, k7, k8, k9, x, nx, k10, k11⟩ := zx_PKt j md y cc maxL ret rm hP hPR hrm
  have hrm0 : rm = (0, 0) := k2.symm.trans hR0
  subst hrm0
  refine Met.ofW (cc := cc) (maxL := maxL) (ret := ret) k1 rfl ?_
  intro p e s m args below meth c s₁ B hml hv
  obtain ⟨rfl, hsz, hP, hK, hD, hCX, hnw, hao⟩ := hv
  have hx := B.exec
  have hb := B.bytes
  have hr := B.returns
  have hts0 := atoms_spec (ws := Jvm.Cond.code y cc maxL ret :: zx_Ts) B.pre
  have hts : ∀ w ∈ zx_Ts, w.before av.toArray s = true := fun w hw => hts0 w (List.mem_cons_of_mem _ hw)
  have hown : s.vm.findClass y.cls = some m.cls := findClass_of_methodNamed B.named
  have hlocks := B.notSynchronized
  have hin : meth.name = y.name := (name_of_methodNamed B.named B.method).1
  have hA' : ∀ q, s.heap.size ≤ q → A q := fun q hq => hA q (by rw [← hsz]; exact hq)
  have F : zx_FX p s m av.toArray meth c ({ frames := d + 1, cells := 0, slots := 0, locals := 100 * (d + 1) } : Room) cc y.cls zx_Ts zx_nw vwCl A ex maxL zx_sts zx_Yt zx_aos zx_dt md.2.1 :=
    ⟨hx, hb, hown, hts, hnw, hA', ⟨by rw [k2], by rw [k2]⟩, fun q => by rw [hin]; exact k5 q, k3, hCX, hao, zx_CKt, k6⟩
  have hl := lv_entry av (n := maxL) (by rw [← k3]; exact hcats ex tys av ws hX)
  rw [lg_entry_eq]
  generalize (lg_sl av ++ List.replicate (maxL - (lg_sl av).length) Slot.unset).toArray = ls at hl ⊢
  have fin : ∀ (v : Option Value) (ws' : va_W) (H : Heap) (locs : List Loc), va_P D vwCl ws' H → va_D A ws' → va_S A s.heap H locs → zx_as ws' = zx_as ws → Z ex av ws v ws' → ∀ t : State, t.heap = H → s.WarmedH t.vm → zj_Q D A tys ws (Z ex av ws) av.toArray s (.returned v) t := by
    intro v ws' H locs h1 h2 h3 h4 h5 t ht hW
    exact ⟨⟨v, ws', rfl, va_K.moved hW.alike hK, by rw [ht]; exact h1, h2, h4, h5⟩, h3.F ht⟩
  refine hcont p e ({ frames := d + 1, cells := 0, slots := 0, locals := 100 * (d + 1) } : Room) s m av.toArray below meth c (MQ below (zj_Q D A tys ws (Z ex av ws)) av.toArray s 0 0 A) D A ex maxL y.cls cc tys ws av hX ⟨F, k7, ⟨Nat.le_refl _, Nat.le_refl _⟩, hml, k8, hK⟩ k3 (by rw [hPR] at how; exact Option.some.inj how) ?_ ?_ ?_ s.heap [] ls hP hD va_S.rf hl
  · intro pc lv w ws' h1 h2 h3 h4 h5 H locs ls' g1 g2 g3 g4
    cases ret with
    | none =>
      have k9 : md.2.2.2 = 4 := k9
      exact absurd k9 h2
    | some ty =>
      have hn : narrow ty (.int w) = .int w := by
        have k9 : zx_tag ty = md.2.2.2 := k9.1
        rcases h3 with h3 | ⟨h3, h6⟩
        · rw [h3] at k9
          cases ty <;> first | rfl | (simp [zx_tag] at k9; done)
        · rw [h3] at k9
          rcases h6 with rfl | rfl <;> cases ty <;> first | rfl | (simp [zx_tag] at k9; done)
      exact W.zret hx hb hr hn (fin (some (.int w)) ws' H locs g1 g2 g3 h4 h5) g3.2.2 (k8 _ h1).1
  · intro pc lv ws' h1 h2 h4 h5 H locs ls' g1 g2 g3 g4
    have hrn : ret = none := by
      cases ret with
      | none => rfl
      | some ty => exact absurd h2 k9.2.1
    subst hrn
    exact W.vret hx hb hr (fin none ws' H locs g1 g2 g3 h4 h5) g3.2.2 (k8 _ h1).1
  · intro pc lv a ws' h1 h2 h4 h5 H locs ls' g1 g2 g3 g4
    cases ret with
    | none =>
      have k9 : md.2.2.2 = 4 := k9
      rw [k9] at h2; cases h2
    | some ty =>
      have hty : (∃ n, ty = .object n) ∨ ∃ t, ty = .array t := by
        have h9 : zx_tag ty = md.2.2.2 := k9.1
        rw [h2] at h9
        cases ty <;> first | exact Or.inl ⟨_, rfl⟩ | exact Or.inr ⟨_, rfl⟩ | cases h9
      exact W.aret hx hb hr hty (Or.inr ⟨a, rfl⟩) (fin (some (.ref a)) ws' H locs g1 g2 g3 h4 h5) g3.2.2 (k8 _ h1).1
/-- peek -/
theorem zj_peek_W {l : Launch} {M : zj_M} {ws0 : va_W} {q : Nat} {at_ tok sp nu ft fa td on sm pm : Int32} {wd : Int64} {fv fe pf : Nat → Int32} (hB : zj_Mok M) (hM : zj_ms M ws0 (zj_ML M (nI M.t) (nI q) tok at_ sp nu wd ft fa td on sm pm) fv fe pf) (hq : q ≤ M.t) : zj_W l 1 151 (zj_MX M [.ref M.aM] ws0) (fun _ _ _ v ws' => ws0 = ws' ∧ ∃ c : Int32, v = some (.int c) ∧ ((q < M.t ∧ c = M.fT q) ∨ (q = M.t ∧ c = -1))) := by
  refine zj_enterO (md := zx_m151) (ow := zx_oc13) rfl rfl rfl ?_ ?_
  · rintro ex tys av ws ⟨-, rfl, -⟩
    exact Nat.le_of_ble_eq_true rfl
  intro p e R s mi args below meth c Q D A ex nL own cc tys ws av hX C hnL hown KRi KRv KRa
  subst hnL
  obtain ⟨h2, h3, h4⟩ := hX
  subst h2
  subst h3
  subst h4
  have hT := hB.1
  refine zj_aload_n C (List.mem_of_getElem? (i := 0) rfl) rfl rfl rfl ?_
  refine zj_getM C (List.mem_of_getElem? (i := 1) rfl) rfl rfl rfl hM rfl ?_
  refine zj_aload_n C (List.mem_of_getElem? (i := 2) rfl) rfl rfl rfl ?_
  refine zj_getM C (List.mem_of_getElem? (i := 3) rfl) rfl rfl rfl hM rfl ?_
  refine zj_icmp_ge (tgt := 27) C (List.mem_of_getElem? (i := 4) rfl) rfl (by decide) (fun hb => ?_) (fun hb => ?_)
  · have hb := (nI_leI (a := M.t) (b := q) (by omega) (by omega)).mp hb
    refine zj_iconst (v := (-1)) C (List.mem_of_getElem? (i := 13) rfl) rfl (by decide) ?_
    exact KRi 28 _ _ _ (List.mem_of_getElem? (i := 14) rfl) (by decide) (Or.inl rfl) rfl ⟨rfl, _, rfl, Or.inr ⟨by omega, rfl⟩⟩
  have hb : q < M.t := by
    rcases Nat.lt_or_ge q M.t with h | h
    · exact h
    · exact absurd (nI_le h (by omega)) hb
  refine zj_aload_n C (List.mem_of_getElem? (i := 5) rfl) rfl rfl rfl ?_
  refine zj_getM C (List.mem_of_getElem? (i := 6) rfl) rfl rfl rfl hM rfl ?_
  refine zj_aload_n C (List.mem_of_getElem? (i := 7) rfl) rfl rfl rfl ?_
  refine zj_getM C (List.mem_of_getElem? (i := 8) rfl) rfl rfl rfl hM rfl ?_
  refine zj_bald (v := M.gT q) C (List.mem_of_getElem? (i := 9) rfl) rfl hM.2.1 (vp_in_nI (by omega) (by decide)) (by rw [nI_clamp (by omega)]) ?_
  refine zj_sipush (v := 255) C (List.mem_of_getElem? (i := 10) rfl) rfl (by decide) ?_
  refine zj_iand (v := (M.fT q)) C (List.mem_of_getElem? (i := 11) rfl) rfl (hB.2.1 q) ?_
  refine zj_goto (tgt := 28) C (List.mem_of_getElem? (i := 12) rfl) (by decide) ?_
  exact KRi 28 _ _ _ (List.mem_of_getElem? (i := 14) rfl) (by decide) (Or.inl rfl) rfl ⟨rfl, _, rfl, Or.inl ⟨hb, rfl⟩⟩
theorem zj_isSmallM_W {l : Launch} {M : zj_M} {ws0 : va_W} {x : Int32} : zj_W l 1 152 (zj_MX M [.int x] ws0) (fun _ _ _ v ws' => ws0 = ws' ∧ ((v = some (.int 1) ∧ zj_sm x.toInt = true) ∨ (v = some (.int 0) ∧ zj_sm x.toInt = false))) := by
  refine zj_enterO (md := zx_m152) (ow := zx_oc13) rfl rfl rfl ?_ ?_
  · rintro ex tys av ws ⟨-, rfl, -⟩
    exact Nat.le_of_ble_eq_true rfl
  intro p e R s mi args below meth c Q D A ex nL own cc tys ws av hX C hnL hown KRi KRv KRa
  subst hnL
  obtain ⟨h2, h3, h4⟩ := hX
  subst h2
  subst h3
  subst h4
  refine zj_iload_n C (List.mem_of_getElem? (i := 0) rfl) rfl rfl rfl ?_
  refine zj_bipush (v := 97) C (List.mem_of_getElem? (i := 1) rfl) rfl (by decide) ?_
  refine zj_icmp_lt (tgt := 16) C (List.mem_of_getElem? (i := 2) rfl) rfl (by decide) (fun hb => ?_) (fun hb => ?_)
  · have hb : x.toInt < 97 := Int32.lt_iff_toInt_lt.mp hb
    refine zj_iconst (v := 0) C (List.mem_of_getElem? (i := 8) rfl) rfl (by decide) ?_
    exact KRi 17 _ _ _ (List.mem_of_getElem? (i := 9) rfl) (by decide) (Or.inr ⟨rfl, Or.inl rfl⟩) rfl ⟨rfl, Or.inr ⟨rfl, by unfold zj_sm; rw [Bool.and_eq_false_iff, decide_eq_false_iff_not, decide_eq_false_iff_not]; omega⟩⟩
  have hb : ¬ x.toInt < 97 := fun h => hb (Int32.lt_iff_toInt_lt.mpr h)
  refine zj_iload_n C (List.mem_of_getElem? (i := 3) rfl) rfl rfl rfl ?_
  refine zj_bipush (v := 122) C (List.mem_of_getElem? (i := 4) rfl) rfl (by decide) ?_
  refine zj_icmp_gt (tgt := 16) C (List.mem_of_getElem? (i := 5) rfl) rfl (by decide) (fun hb2 => ?_) (fun hb2 => ?_)
  · have hb2 : 122 < x.toInt := Int32.lt_iff_toInt_lt.mp hb2
    refine zj_iconst (v := 0) C (List.mem_of_getElem? (i := 8) rfl) rfl (by decide) ?_
    exact KRi 17 _ _ _ (List.mem_of_getElem? (i := 9) rfl) (by decide) (Or.inr ⟨rfl, Or.inl rfl⟩) rfl ⟨rfl, Or.inr ⟨rfl, by unfold zj_sm; rw [Bool.and_eq_false_iff, decide_eq_false_iff_not, decide_eq_false_iff_not]; omega⟩⟩
  have hb2 : ¬ 122 < x.toInt := fun h => hb2 (Int32.lt_iff_toInt_lt.mpr h)
  refine zj_iconst (v := 1) C (List.mem_of_getElem? (i := 6) rfl) rfl (by decide) ?_
  refine zj_goto (tgt := 17) C (List.mem_of_getElem? (i := 7) rfl) (by decide) ?_
  exact KRi 17 _ _ _ (List.mem_of_getElem? (i := 9) rfl) (by decide) (Or.inr ⟨rfl, Or.inr rfl⟩) rfl ⟨rfl, Or.inl ⟨rfl, by unfold zj_sm; rw [Bool.and_eq_true, decide_eq_true_iff, decide_eq_true_iff]; omega⟩⟩
theorem zj_isDigitM_W {l : Launch} {M : zj_M} {ws0 : va_W} {x : Int32} : zj_W l 1 153 (zj_MX M [.int x] ws0) (fun _ _ _ v ws' => ws0 = ws' ∧ ((v = some (.int 1) ∧ zj_dg x.toInt = true) ∨ (v = some (.int 0) ∧ zj_dg x.toInt = false))) := by
  refine zj_enterO (md := zx_m153) (ow := zx_oc13) rfl rfl rfl ?_ ?_
  · rintro ex tys av ws ⟨-, rfl, -⟩
    exact Nat.le_of_ble_eq_true rfl
  intro p e R s mi args below meth c Q D A ex nL own cc tys ws av hX C hnL hown KRi KRv KRa
  subst hnL
  obtain ⟨h2, h3, h4⟩ := hX
  subst h2
  subst h3
  subst h4
  refine zj_iload_n C (List.mem_of_getElem? (i := 0) rfl) rfl rfl rfl ?_
  refine zj_bipush (v := 48) C (List.mem_of_getElem? (i := 1) rfl) rfl (by decide) ?_
  refine zj_icmp_lt (tgt := 16) C (List.mem_of_getElem? (i := 2) rfl) rfl (by decide) (fun hb => ?_) (fun hb => ?_)
  · have hb : x.toInt < 48 := Int32.lt_iff_toInt_lt.mp hb
    refine zj_iconst (v := 0) C (List.mem_of_getElem? (i := 8) rfl) rfl (by decide) ?_
    exact KRi 17 _ _ _ (List.mem_of_getElem? (i := 9) rfl) (by decide) (Or.inr ⟨rfl, Or.inl rfl⟩) rfl ⟨rfl, Or.inr ⟨rfl, by unfold zj_dg; rw [Bool.and_eq_false_iff, decide_eq_false_iff_not, decide_eq_false_iff_not]; omega⟩⟩
  have hb : ¬ x.toInt < 48 := fun h => hb (Int32.lt_iff_toInt_lt.mpr h)
  refine zj_iload_n C (List.mem_of_getElem? (i := 3) rfl) rfl rfl rfl ?_
  refine zj_bipush (v := 57) C (List.mem_of_getElem? (i := 4) rfl) rfl (by decide) ?_
  refine zj_icmp_gt (tgt := 16) C (List.mem_of_getElem? (i := 5) rfl) rfl (by decide) (fun hb2 => ?_) (fun hb2 => ?_)
  · have hb2 : 57 < x.toInt := Int32.lt_iff_toInt_lt.mp hb2
    refine zj_iconst (v := 0) C (List.mem_of_getElem? (i := 8) rfl) rfl (by decide) ?_
    exact KRi 17 _ _ _ (List.mem_of_getElem? (i := 9) rfl) (by decide) (Or.inr ⟨rfl, Or.inl rfl⟩) rfl ⟨rfl, Or.inr ⟨rfl, by unfold zj_dg; rw [Bool.and_eq_false_iff, decide_eq_false_iff_not, decide_eq_false_iff_not]; omega⟩⟩
  have hb2 : ¬ 57 < x.toInt := fun h => hb2 (Int32.lt_iff_toInt_lt.mpr h)
  refine zj_iconst (v := 1) C (List.mem_of_getElem? (i := 6) rfl) rfl (by decide) ?_
  refine zj_goto (tgt := 17) C (List.mem_of_getElem? (i := 7) rfl) (by decide) ?_
  exact KRi 17 _ _ _ (List.mem_of_getElem? (i := 9) rfl) (by decide) (Or.inr ⟨rfl, Or.inr rfl⟩) rfl ⟨rfl, Or.inl ⟨rfl, by unfold zj_dg; rw [Bool.and_eq_true, decide_eq_true_iff, decide_eq_true_iff]; omega⟩⟩
end
