noncomputable section
/-! zm: rows wanted where methods are told plainly -/
def zm_sub (L L' : List (Nat × Value)) : Prop := ∀ q ∈ L', zj_lk L q.1 = some q.2
theorem zm_sub_nil {L : List (Nat × Value)} : zm_sub L [] := fun q hq => nomatch hq
theorem zm_sub_cons {L L' : List (Nat × Value)} {i : Nat} {v : Value} (h : zj_lk L i = some v) (h2 : zm_sub L L') : zm_sub L ((i, v) :: L') := fun q hq => by
  rcases List.mem_cons.mp hq with rfl | hq
  · exact h
  · exact h2 q hq
theorem zm_W_mono {l : Launch} {d d' j : Nat} {X : List Nat → List (ClassId × FieldType) → List Value → va_W → Prop} {Z : List Nat → List Value → va_W → Option Value → va_W → Prop} (h : zj_W l d j X Z) (hd : d ≤ d') : zj_W l d' j X Z :=
  fun y cc maxL ret rm h1 h2 D A ex tys ws sz av h3 h4 => zx_Met_imp (h y cc maxL ret rm h1 h2 D A ex tys ws sz av h3 h4) ⟨hd, Nat.le_refl _, Nat.le_refl _, Nat.mul_le_mul_left _ hd⟩ (fun _ _ h => ⟨h, fun _ q => q⟩) (fun _ _ _ _ _ h _ => h)
/-- what is given to a method -/
def zm_X (ex0 : List Nat) (tys0 : List (ClassId × FieldType)) (as : List Value) (ws0 : va_W) (ex : List Nat) (tys : List (ClassId × FieldType)) (av : List Value) (ws : va_W) : Prop := ex = ex0 ∧ tys = tys0 ∧ av = as ∧ ws = ws0
theorem zm_set_self {ws : va_W} {i a : Nat} {e e2 : va_E} (h : ws[i]? = some (a, e)) : (ws.set i (a, e2))[i]? = some (a, e2) := by
  rw [List.getElem?_set]
  simp only [if_true]
  rw [if_pos (List.getElem?_eq_some_iff.mp h).1]
theorem zm_row_keep {tys : List (ClassId × FieldType)} {ws ws' : va_W} {i a n : Nat} {ty : FieldType} {f : Nat → Int32} (h : zj_row tys ws i a n ty f) (hk : ws'[i]? = ws[i]?) : zj_row tys ws' i a n ty f := by
  obtain ⟨cA, t0, h1, h2⟩ := h
  exact ⟨cA, t0, by rw [hk]; exact h1, h2⟩
theorem zm_row_set {tys : List (ClassId × FieldType)} {ws : va_W} {i a n : Nat} {ty : FieldType} {f g : Nat → Int32} {cA : ClassId} (h : zj_row tys ws i a n ty f) (h1 : ws[i]? = some (a, .inl (cA, n, .inl f))) : zj_row tys (ws.set i (a, .inl (cA, n, .inl g))) i a n ty g := by
  obtain ⟨cA', t0, h2, h3⟩ := h
  rw [h1] at h2
  have h4 : cA = cA' := by injection h2 with h2; injection h2 with _ h2; injection h2 with h2; injection h2
  subst h4
  exact ⟨cA, t0, zm_set_self h1, h3⟩
section ZMI
variable {p : Program} {l : Launch} {e : Env} {R : Room} {s : State} {mi : MethodId} {args : Array Value} {below : List Frame} {meth : Method} {c : Code} {Q : State → Prop} {D : va_G} {A : Nat → Prop} {ex : List Nat} {nL : Nat} {own : String} {cc : ByteArray} {d : Nat} {md : zx_MD} {tys : List (ClassId × FieldType)}
variable {pc n : Nat} {lv lv' : List (Nat × Value)} {kc : List Value} {ws : va_W}
/-- locals in another order, or fewer -/
theorem zm_perm (_ : zj_cx p R s mi args meth c A ex nL own cc d md D tys) (hs : zm_sub lv lv') (h : zj_go p l e R s mi args below meth c Q D A nL pc lv' kc ws) : zj_go p l e R s mi args below meth c Q D A nL pc lv kc ws :=
  fun H locs ls hP hD hS hv => h H locs ls hP hD hS ⟨hv.1, hv.2.1, fun q hq => hv.2.2 _ (zj_lk_mem (hs q hq))⟩
theorem zj_idiv (C : zj_cx p R s mi args meth c A ex nL own cc d md D tys) {x y v : Int32} (hd : (pc, Instr.idiv, 1) ∈ md.1) (hn : pc + 1 = n) (hne : ¬ y = 0) (hz : x / y = v) (h : zj_go p l e R s mi args below meth c Q D A nL n lv (.int v :: kc) ws) : zj_go p l e R s mi args below meth c Q D A nL pc lv (.int y :: .int x :: kc) ws := by
  subst hn
  subst hz
  exact fun H locs ls hP hD hS hv => lv_idiv C.1.1 C.1.2.1 (C.2.2.2.2.1 _ hd).1 hne (h H locs ls hP hD hS hv)
theorem zj_irem (C : zj_cx p R s mi args meth c A ex nL own cc d md D tys) {x y v : Int32} (hd : (pc, Instr.irem, 1) ∈ md.1) (hn : pc + 1 = n) (hne : ¬ y = 0) (hz : x - x / y * y = v) (h : zj_go p l e R s mi args below meth c Q D A nL n lv (.int v :: kc) ws) : zj_go p l e R s mi args below meth c Q D A nL pc lv (.int y :: .int x :: kc) ws := by
  subst hn
  subst hz
  exact fun H locs ls hP hD hS hv => lv_irem C.1.1 C.1.2.1 (C.2.2.2.2.1 _ hd).1 hne (h H locs ls hP hD hS hv)
theorem zm_st (C : zj_cx p R s mi args meth c A ex nL own cc d md D tys) {id a : Nat} {row : List Int} (hr : (id, row) ∈ zx_Yt.1) (h8 : id < 8) (ha : ex[id]? = some a) : va_T .int a row.length (fun j => .int (Int32.ofInt (row.getD j 0))) A s s.heap := by
  obtain ⟨⟨hx, hb, hown, hts, hnw, hA, hR, hin, hnL, hCX, hao, hCK, hMK⟩, -, -, -, htb, hK⟩ := C
  obtain ⟨a', a0, a1, a2, a3⟩ := hCX.2 _ hr
  have a1 : ex[id]? = some a' := a1
  rw [ha] at a1
  have a1 : a = a' := Option.some.inj a1
  subst a1
  have a3 : (if id < 8 then va_T .int a row.length (fun j => .int (Int32.ofInt (row.getD j 0))) A s s.heap else zx_XO row a A s s.heap) := a3
  rw [if_pos h8] at a3
  exact a3
theorem zm_ti (C : zj_cx p R s mi args meth c A ex nL own cc d md D tys) {id a : Nat} {row : List Int} {i v : Int32} (hd : (pc, Instr.iaload, 1) ∈ md.1) (hn : pc + 1 = n) (hr : (id, row) ∈ zx_Yt.1) (h8 : id < 8) (ha : ex[id]? = some a) (hi : vp_in i row.length) (hz : Int32.ofInt (row.getD i.toNatClampNeg 0) = v) (h : zj_go p l e R s mi args below meth c Q D A nL n lv (.int v :: kc) ws) : zj_go p l e R s mi args below meth c Q D A nL pc lv (.int i :: .ref a :: kc) ws := by
  subst hn
  subst hz
  exact fun H locs ls hP hD hS hl => va_ti C.1.1 C.1.2.1 (zm_st C hr h8 ha) hS hi rfl (C.2.2.2.2.1 _ hd).1 (h H locs ls hP hD hS hl)
theorem zj_tlen (C : zj_cx p R s mi args meth c A ex nL own cc d md D tys) {id a : Nat} {row : List Int} {v : Int32} (hd : (pc, Instr.arraylength, 1) ∈ md.1) (hn : pc + 1 = n) (hr : (id, row) ∈ zx_Yt.1) (h8 : id < 8) (ha : ex[id]? = some a) (hz : Int32.ofNat row.length = v) (h : zj_go p l e R s mi args below meth c Q D A nL n lv (.int v :: kc) ws) : zj_go p l e R s mi args below meth c Q D A nL pc lv (.ref a :: kc) ws := by
  subst hn
  exact fun H locs ls hP hD hS hl => va_tlen C.1.1 C.1.2.1 (zm_st C hr h8 ha) hS hz (C.2.2.2.2.1 _ hd).1 (h H locs ls hP hD hS hl)
theorem zj_zald (C : zj_cx p R s mi args meth c A ex nL own cc d md D tys) {q0 a N : Nat} {f : Nat → Int32} {i v : Int32} (hd : (pc, Instr.baload, 1) ∈ md.1) (hn : pc + 1 = n) (hr : zj_row tys ws q0 a N .boolean f) (hi : vp_in i N) (hz : f i.toNatClampNeg = v) (h : zj_go p l e R s mi args below meth c Q D A nL n lv (.int v :: kc) ws) : zj_go p l e R s mi args below meth c Q D A nL pc lv (.int i :: .ref a :: kc) ws := by
  subst hn
  subst hz
  obtain ⟨cA, t0, h1, h2⟩ := hr
  exact fun H locs ls hP hD hS hv => va_zald C.1.1 C.1.2.1 C.2.2.2.2.2 hP q0 t0 h1 h2 hi (C.2.2.2.2.1 _ hd).1 (h H locs ls hP hD hS hv)
theorem zj_zast (C : zj_cx p R s mi args meth c A ex nL own cc d md D tys) {q0 a N : Nat} {f : Nat → Int32} {i x y : Int32} (hd : (pc, Instr.bastore, 1) ∈ md.1) (hn : pc + 1 = n) (hr : zj_row tys ws q0 a N .boolean f) (hi : vp_in i N) (hy : vp_nar .boolean x = y) (h : ∀ cA : ClassId, ws[q0]? = some (a, .inl (cA, N, .inl f)) → zj_go p l e R s mi args below meth c Q D A nL n lv kc (ws.set q0 (a, .inl (cA, N, .inl (upd f i.toNatClampNeg y))))) : zj_go p l e R s mi args below meth c Q D A nL pc lv (.int x :: .int i :: .ref a :: kc) ws := by
  subst hn
  subst hy
  obtain ⟨cA, t0, h1, h2⟩ := hr
  exact fun H locs ls hP hD hS hv => va_zast C.1.1 C.1.2.1 C.2.2.2.2.2 hP hD hS q0 t0 h1 h2 hi (C.2.2.2.2.1 _ hd).1 (fun H1 locs1 P1 D1 S1 => h cA h1 H1 locs1 ls P1 D1 S1 hv)
end ZMI
theorem zm_fit_i {t : Nat} (ht : t = 0) (x : Int32) : ∀ ty, zx_tag ty = t → narrow ty (.int x) = .int x ∧ fits ty (.int x) = true := by
  subst ht
  intro ty h
  cases ty <;> first | exact ⟨rfl, rfl⟩ | (simp [zx_tag] at h; done)
theorem zm_in {n N : Nat} (h : n < N) (hN : N < 2 ^ 31) : vp_in (nI n) N := vp_in_nI h hN
theorem zm_W_imp {l : Launch} {d j : Nat} {X : List Nat → List (ClassId × FieldType) → List Value → va_W → Prop} {Z Z' : List Nat → List Value → va_W → Option Value → va_W → Prop} (h : zj_W l d j X Z) (hZ : ∀ ex av ws v ws', Z ex av ws v ws' → Z' ex av ws v ws') : zj_W l d j X Z' := by
  intro y cc maxL ret rm h1 h2 D A ex tys ws sz av h3 h4
  refine zx_Met_imp (h y cc maxL ret rm h1 h2 D A ex tys ws sz av h3 h4) ⟨Nat.le_refl _, Nat.le_refl _, Nat.le_refl _, Nat.le_refl _⟩ (fun _ _ h => ⟨h, fun _ q => q⟩) ?_
  rintro _ _ _ _ _ ⟨⟨v, ws', k1, k2, k3, k4, k5, k6⟩, k7⟩ _
  exact ⟨⟨v, ws', k1, k2, k3, k4, k5, hZ _ _ _ _ _ k6⟩, k7⟩
end
