noncomputable section
/-! zj: the small methods of the class's reader -/
def zj_so (j : Nat) : Int := if j < 4 then 1 else if j < 11 then 0 else if j < 18 then 2 else if j < 21 then 3 else if j < 24 then 4 else 0
def zj_co (j : Nat) : Int := if j < 4 then (j : Int) else if j < 11 then 0 else if j < 21 then (j : Int) - 11 else if j < 24 then (j : Int) - 21 else 0
def zj_tr (j : Nat) : List Int := [zj_so j, zj_co j]
def zj_nS (j : Nat) : Int32 := Int32.ofInt (zj_so j)
def zj_nC (j : Nat) : Int32 := Int32.ofInt (zj_co j)
theorem zj_tr_mem {j : Nat} (h : j < 30) : (8 + j, zj_tr j) ∈ zx_Yt.1 := by
  have h1 : ∀ j, j < 30 → (8 + j, zj_tr j) ∈ zx_Yt.1 := by decide
  exact h1 j h
theorem zj_trS {j : Nat} (h : j < 30) : (zj_tr j)[0]? = some (zj_nS j).toInt := by
  have h1 : ∀ j, j < 30 → (zj_tr j)[0]? = some (zj_nS j).toInt := by decide
  exact h1 j h
theorem zj_trC {j : Nat} (h : j < 30) : (zj_tr j)[1]? = some (zj_nC j).toInt := by
  have h1 : ∀ j, j < 30 → (zj_tr j)[1]? = some (zj_nC j).toInt := by decide
  exact h1 j h
theorem zj_nS_i {j : Nat} (h : j < 30) : (zj_nS j = 1 ↔ j < 4) ∧ (zj_nS j = 2 ↔ 11 ≤ j ∧ j < 18) ∧ (zj_nS j = 3 ↔ 18 ≤ j ∧ j < 21) ∧ (zj_nS j = 4 ↔ 21 ≤ j ∧ j < 24) := by
  have h1 : ∀ j, j < 30 → (zj_nS j = 1 ↔ j < 4) ∧ (zj_nS j = 2 ↔ 11 ≤ j ∧ j < 18) ∧ (zj_nS j = 3 ↔ 18 ≤ j ∧ j < 21) ∧ (zj_nS j = 4 ↔ 21 ≤ j ∧ j < 24) := by decide
  exact h1 j h
theorem zj_nC_lim {j : Nat} (h : j < 4) : zj_nC j = nI j := by
  have h1 : ∀ j, j < 4 → zj_nC j = nI j := by decide
  exact h1 j h
theorem zj_sk_le {P : Int → Bool} {g : Nat → Int} {t : Nat} : ∀ (n p : Nat), p ≤ t → zj_sk P g t n p ≤ t
  | 0, p, h => h
  | n + 1, p, h => by
    rw [zj_sk]
    split
    · rename_i h1
      exact zj_sk_le n (p + 1) h1.1
    · exact h
theorem zj_tk_ok {g : Nat → Int} {t p : Nat} (hp : p ≤ t) : (zj_tk g t p).1 < 30 ∧ (zj_tk g t p).2.2.1 ≤ t ∧ (zj_tk g t p).2.2.2 ≤ t := by
  have h1 : zj_run zj_bl g t p ≤ t := zj_sk_le _ _ hp
  unfold zj_tk
  generalize zj_run zj_bl g t p = q at h1
  unfold zj_t2
  split
  · rename_i h6
    exact ⟨(Nat.le_of_ble_eq_true rfl : 29 < 30), Nat.le_trans h6.1 h1, h1⟩
  · split
    · exact ⟨(Nat.le_of_ble_eq_true rfl : 28 < 30), h1, h1⟩
    · rename_i h3
      have h2 : zj_run zj_an g t (q + 1) ≤ t := zj_sk_le _ _ (Nat.lt_of_not_le h3)
      split
      · unfold zj_t3
        split
        · split
          · exact ⟨(Nat.le_of_ble_eq_true rfl : 27 < 30), h1, h2⟩
          · exact ⟨(Nat.le_of_ble_eq_true rfl : 29 < 30), h1, h2⟩
        · exact ⟨zj_find_lt, h1, h2⟩
      · exact ⟨(zj_find_lt : zj_find g q 1 < 30), h1, Nat.lt_of_not_le h3⟩
/-- what stays as it is through the reading -/
abbrev zj_K : Type := (List (ClassId × FieldType)) × (List Nat) × (Nat) × (Nat) × (Nat → Int32) × (Nat) × (Nat → Nat) × (Nat) × (Nat → Nat) × va_W
def zj_K.tys (K : zj_K) : List (ClassId × FieldType) := K.1
def zj_K.ex (K : zj_K) : List Nat := K.2.1
def zj_K.aR (K : zj_K) : Nat := K.2.2.1
def zj_K.aT (K : zj_K) : Nat := K.2.2.2.1
def zj_K.fT (K : zj_K) : Nat → Int32 := K.2.2.2.2.1
def zj_K.t (K : zj_K) : Nat := K.2.2.2.2.2.1
def zj_K.ak (K : zj_K) : Nat → Nat := K.2.2.2.2.2.2.1
def zj_K.aP (K : zj_K) : Nat := K.2.2.2.2.2.2.2.1
def zj_K.I (K : zj_K) : Nat → Nat := K.2.2.2.2.2.2.2.2.1
def zj_K.w0 (K : zj_K) : va_W := K.2.2.2.2.2.2.2.2.2
def zj_Kok (K : zj_K) : Prop := K.t ≤ 340 ∧ (∀ i, i < 340 → 0 ≤ (K.fT i).toInt ∧ (K.fT i).toInt ≤ 255) ∧ (∀ j, j < 30 → K.ex[8 + j]? = some (K.ak j)) ∧ (∀ i j, i < 30 → j < 30 → K.ak i = K.ak j → i = j) ∧ (∀ i, i < 5 → K.I i ≠ 198 ∧ K.I i ≠ 1) ∧ (∀ i j, i < 5 → j < 5 → K.I i = K.I j → i = j) ∧ (∃ aL : Nat, K.ex[3]? = some aL) ∧ ∃ aL : Nat, K.ex[4]? = some aL
def zj_g (K : zj_K) : Nat → Int := fun i => (K.fT i).toInt
def zj_nx (K : zj_K) (tk : zj_T) : zj_T := zj_tk (zj_g K) K.t tk.2.2.2
/-- all else is as it was -/
def zj_frm (K : zj_K) (ws : va_W) : Prop := ∀ i, i ≠ 198 → (∀ j, j < 5 → i ≠ K.I j) → ws[i]? = K.w0[i]?
/-- the paper -/
def zj_pap (K : zj_K) (ws : va_W) (d l f : Nat) : Prop := ∃ (aL aS aB aN : Nat) (fL fS fB fN : Nat → Int32) (da st : Int32), ws[K.I 0]? = some (K.aP, .inr (1, [.ref aL, .ref aS, .ref aB, .ref aN, .int (nI d), .int (nI l), .int da, .int (nI f), .int st])) ∧ zj_row K.tys ws (K.I 1) aL 4 .int fL ∧ zj_row K.tys ws (K.I 2) aS 8 .int fS ∧ zj_row K.tys ws (K.I 3) aB 9 .int fB ∧ zj_row K.tys ws (K.I 4) aN 80 .int fN ∧ (0 ≤ st.toInt ∧ zj_frm K ws) ∧ d < 16 ∧ l ≤ 6 ∧ f ≤ 8
/-- the reader and the paper -/
def zj_rd (K : zj_K) (ws : va_W) (tk : zj_T) (d l f o : Nat) (fk : Int32) : Prop := (∃ x : Int32, zj_RS K.tys ws K.aR K.aT K.fT (zj_fl K.t tk x (nI o) (K.ak tk.1) K.aP fk) ∧ (tk.1 = 27 → x.toInt = tk.2.1)) ∧ zj_pap K ws d l f ∧ tk.1 < 30 ∧ (tk.2.2.1 ≤ K.t ∧ tk.2.2.2 ≤ K.t) ∧ o ≤ 40
theorem zj_row_keep {tys : List (ClassId × FieldType)} {ws ws' : va_W} {i a n : Nat} {ty : FieldType} {f : Nat → Int32} (h : zj_row tys ws i a n ty f) (hk : ws'[i]? = ws[i]?) : zj_row tys ws' i a n ty f := by
  obtain ⟨cA, t0, h1, h2⟩ := h
  exact ⟨cA, t0, by rw [hk]; exact h1, h2⟩
theorem zj_pap_keep {K : zj_K} {ws ws' : va_W} {d l f : Nat} (hB : zj_Kok K) (hk : ∀ i, i ≠ 198 → ws'[i]? = ws[i]?) (h : zj_pap K ws d l f) : zj_pap K ws' d l f := by
  obtain ⟨aL, aS, aB, aN, fL, fS, fB, fN, da, st, h0, h1, h2, h3, h4, ⟨h6, h7⟩, h5⟩ := h
  have hI := hB.2.2.2.2.1
  exact ⟨aL, aS, aB, aN, fL, fS, fB, fN, da, st, by rw [hk _ (hI 0 (by decide)).1]; exact h0, zj_row_keep h1 (hk _ (hI 1 (by decide)).1), zj_row_keep h2 (hk _ (hI 2 (by decide)).1), zj_row_keep h3 (hk _ (hI 3 (by decide)).1), zj_row_keep h4 (hk _ (hI 4 (by decide)).1), ⟨h6, fun i i1 i2 => (hk i i1).trans (h7 i i1 i2)⟩, h5⟩
theorem zj_pap_frm {K : zj_K} {ws : va_W} {d l f : Nat} (h : zj_pap K ws d l f) : zj_frm K ws ∧ ∃ fs, ws[K.I 0]? = some (K.aP, .inr (1, fs)) := by
  obtain ⟨aL, aS, aB, aN, fL, fS, fB, fN, da, st, h0, h1, h2, h3, h4, ⟨h6, h7⟩, h5⟩ := h
  exact ⟨h7, _, h0⟩
def zj_KX (K : zj_K) (as : List Value) (ws0 : va_W) (ex : List Nat) (tys : List (ClassId × FieldType)) (av : List Value) (ws : va_W) : Prop := ex = K.ex ∧ tys = K.tys ∧ av = as ∧ ws = ws0
theorem zj_W_imp {l : Launch} {d j : Nat} {X : List Nat → List (ClassId × FieldType) → List Value → va_W → Prop} {Z Z' : List Nat → List Value → va_W → Option Value → va_W → Prop} (h : zj_W l d j X Z) (hZ : ∀ ex av ws v ws', Z ex av ws v ws' → Z' ex av ws v ws') : zj_W l d j X Z' := by
  intro y cc maxL ret rm h1 h2 D A ex tys ws sz av h3 h4
  refine zx_Met_imp (h y cc maxL ret rm h1 h2 D A ex tys ws sz av h3 h4) ⟨Nat.le_refl _, Nat.le_refl _, Nat.le_refl _, Nat.le_refl _⟩ (fun _ _ h => ⟨h, fun _ q => q⟩) ?_
  rintro _ _ _ _ _ ⟨⟨v, ws', k1, k2, k3, k4, k5, k6⟩, k7⟩ _
  exact ⟨⟨v, ws', k1, k2, k3, k4, k5, hZ _ _ _ _ _ k6⟩, k7⟩
/-- what a reading that can fail answers -/
def zj_Zb (K : zj_K) (c0 : zj_C) (ok : zj_T → Nat → Nat → Nat → Nat → Prop) (_ : List Nat) (_ : List Value) (_ : va_W) (v : Option Value) (ws' : va_W) : Prop :=
  (v = some (.int 1) ∧ ∃ tk d l f o, zj_rd K ws' tk d l f o 0 ∧ ok tk d l f o) ∨ (v = some (.int 0) ∧ ∃ tk d l f o k, zj_rd K ws' tk d l f o (nI k) ∧ zj_R (zj_g K) K.t c0 (zj_bad tk k))
/-- the next token -/
theorem zj_adv_W {l : Launch} {K : zj_K} {ws0 : va_W} {tk : zj_T} {d l1 f o : Nat} {fk : Int32} (hB : zj_Kok K) (h0 : zj_rd K ws0 tk d l1 f o fk) : zj_W l 10 27 (zj_KX K [.ref K.aR] ws0) (fun _ _ _ v ws' => v = none ∧ zj_rd K ws' (zj_nx K tk) d l1 f o fk) := by
  obtain ⟨⟨x, hR, hx⟩, hP, htk, hle, ho⟩ := h0
  refine zj_W_imp (zj_advance_W (p0 := tk.2.2.2) (pl0 := nI tk.2.2.1) (ex0 := K.ex) (ak := K.ak) hR hB.1 hle.2 hB.2.1 hB.2.2.1) ?_
  rintro ex av ws v ws' ⟨rfl, hK, x', hR', hx'⟩
  have hok := zj_tk_ok (g := zj_g K) hle.2
  exact ⟨rfl, ⟨x', hR', hx'⟩, zj_pap_keep hB hK hP, hok.1, hok.2, ho⟩
/-- blame -/
theorem zj_blame_W {l : Launch} {K : zj_K} {ws0 : va_W} {tk : zj_T} {d1 l1 f1 o1 : Nat} {fk kd : Int32} (hB : zj_Kok K) (h0 : zj_rd K ws0 tk d1 l1 f1 o1 fk) : zj_W l 1 32 (zj_KX K [.ref K.aR, .int kd] ws0) (fun _ _ _ v ws' => v = some (.int 0) ∧ zj_rd K ws' tk d1 l1 f1 o1 kd) := by
  refine zj_enterW (md := zx_m32) rfl rfl ?_ ?_
  · rintro ex tys av ws ⟨-, -, rfl, -⟩
    exact Nat.le_of_ble_eq_true rfl
  intro p e R s mi args below meth c Q D A ex nL own cc tys ws av hX C hnL KRi KRv KRa
  subst hnL
  obtain ⟨h1, h2, h3, h4⟩ := hX
  subst h1
  subst h2
  subst h3
  subst h4
  obtain ⟨⟨x, hR, hx⟩, hP, htk, hle, ho⟩ := h0
  refine zj_aload_n C (List.mem_of_getElem? (i := 0) rfl) rfl rfl rfl ?_
  refine zj_iload_n C (List.mem_of_getElem? (i := 1) rfl) rfl rfl rfl ?_
  refine zj_putR (k := 7) C (List.mem_of_getElem? (i := 2) rfl) rfl rfl hR rfl rfl (Nat.le_of_ble_eq_true rfl) rfl (zj_fit_i rfl _) (fun w2 hw2R hw2A hw2K => ?_)
  refine zj_iconst (v := 0) C (List.mem_of_getElem? (i := 3) rfl) rfl (by decide) ?_
  exact KRi 6 _ _ _ (List.mem_of_getElem? (i := 4) rfl) (by decide) (Or.inr ⟨rfl, Or.inl rfl⟩) hw2A ⟨rfl, ⟨x, hw2R, hx⟩, zj_pap_keep hB hw2K hP, htk, hle, ho⟩
theorem zj_passes_W {l : Launch} {K : zj_K} {ws0 : va_W} {tk : zj_T} {d1 l1 f1 o1 : Nat} {j : Nat} (hB : zj_Kok K) (h0 : zj_rd K ws0 tk d1 l1 f1 o1 0) (hj : j < 30) : zj_W l 11 34 (zj_KX K [.ref K.aR, .ref (K.ak j)] ws0) (fun _ _ _ v ws' => (v = some (.int 1) ∧ tk.1 = j ∧ zj_rd K ws' (zj_nx K tk) d1 l1 f1 o1 0) ∨ (v = some (.int 0) ∧ tk.1 ≠ j ∧ zj_rd K ws' tk d1 l1 f1 o1 1)) := by
  have h00 := h0
  refine zj_enterW (md := zx_m34) rfl rfl ?_ ?_
  · rintro ex tys av ws ⟨-, -, rfl, -⟩
    exact Nat.le_of_ble_eq_true rfl
  intro p e R s mi args below meth c Q D A ex nL own cc tys ws av hX C hnL KRi KRv KRa
  subst hnL
  obtain ⟨h1, h2, h3, h4⟩ := hX
  subst h1
  subst h2
  subst h3
  subst h4
  obtain ⟨⟨x, hR, hx⟩, hP, htk, hle, ho⟩ := h0
  refine zj_aload_n C (List.mem_of_getElem? (i := 0) rfl) rfl rfl rfl ?_
  refine zj_get C (List.mem_of_getElem? (i := 1) rfl) rfl rfl hR.1 rfl rfl ?_
  refine zj_aload_n C (List.mem_of_getElem? (i := 2) rfl) rfl rfl rfl ?_
  refine zj_acmp_eq (tgt := 14) C (List.mem_of_getElem? (i := 3) rfl) rfl (by decide) (fun hb => ?_) (fun hb => ?_)
  · have hb : tk.1 = j := hB.2.2.2.1 _ _ htk hj hb
    refine zj_aload_n C (List.mem_of_getElem? (i := 8) rfl) rfl rfl rfl ?_
    refine zj_callV (As := []) (rest := []) C (List.mem_of_getElem? (i := 9) rfl) rfl rfl rfl (by decide) (zj_adv_W hB h00) rfl rfl hR.1 rfl (Nat.le_of_ble_eq_true rfl) rfl ⟨rfl, rfl, rfl, rfl⟩ (fun v w2 hw2A hw2Z => ?_)
    obtain ⟨hv, h5⟩ := hw2Z
    subst hv
    refine zj_iconst (v := 1) C (List.mem_of_getElem? (i := 10) rfl) rfl (by decide) ?_
    exact KRi 19 _ _ _ (List.mem_of_getElem? (i := 11) rfl) (by decide) (Or.inr ⟨rfl, Or.inr rfl⟩) hw2A (Or.inl ⟨rfl, hb, h5⟩)
  refine zj_aload_n C (List.mem_of_getElem? (i := 4) rfl) rfl rfl rfl ?_
  refine zj_iconst (v := 1) C (List.mem_of_getElem? (i := 5) rfl) rfl (by decide) ?_
  refine zj_callV (As := [.int 1]) (rest := []) C (List.mem_of_getElem? (i := 6) rfl) rfl rfl rfl (by decide) (zj_W_mono (zj_blame_W (kd := 1) hB h00) (by decide)) rfl rfl hR.1 rfl (Nat.le_of_ble_eq_true rfl) rfl ⟨rfl, rfl, rfl, rfl⟩ (fun v w2 hw2A hw2Z => ?_)
  obtain ⟨hv, h5⟩ := hw2Z
  subst hv
  exact KRi 13 _ _ _ (List.mem_of_getElem? (i := 7) rfl) (by decide) (Or.inr ⟨rfl, Or.inl rfl⟩) hw2A (Or.inr ⟨rfl, fun h => hb (congrArg K.ak h), h5⟩)
theorem zj_within_W {l : Launch} {K : zj_K} {ws0 : va_W} {x lo hi : Int32} : zj_W l 1 18 (zj_KX K [.int x, .int lo, .int hi] ws0) (fun _ _ _ v ws' => ws' = ws0 ∧ ((v = some (.int 1) ∧ (lo.toInt ≤ x.toInt ∧ x.toInt ≤ hi.toInt)) ∨ (v = some (.int 0) ∧ ¬ (lo.toInt ≤ x.toInt ∧ x.toInt ≤ hi.toInt)))) := by
  refine zj_enterW (md := zx_m18) rfl rfl ?_ ?_
  · rintro ex tys av ws ⟨-, -, rfl, -⟩
    exact Nat.le_of_ble_eq_true rfl
  intro p e R s mi args below meth c Q D A ex nL own cc tys ws av hX C hnL KRi KRv KRa
  subst hnL
  obtain ⟨h1, h2, h3, h4⟩ := hX
  subst h1
  subst h2
  subst h3
  subst h4
  refine zj_iload_n C (List.mem_of_getElem? (i := 0) rfl) rfl rfl rfl ?_
  refine zj_iload_n C (List.mem_of_getElem? (i := 1) rfl) rfl rfl rfl ?_
  refine zj_icmp_lt (tgt := 14) C (List.mem_of_getElem? (i := 2) rfl) rfl (by decide) (fun hb => ?_) (fun hb => ?_)
  · have hb := Int32.lt_iff_toInt_lt.mp hb
    refine zj_iconst (v := 0) C (List.mem_of_getElem? (i := 8) rfl) rfl (by decide) ?_
    exact KRi 15 _ _ _ (List.mem_of_getElem? (i := 9) rfl) (by decide) (Or.inr ⟨rfl, Or.inl rfl⟩) rfl ⟨rfl, Or.inr ⟨rfl, fun h => by omega⟩⟩
  have hb : ¬ x.toInt < lo.toInt := fun h => hb (Int32.lt_iff_toInt_lt.mpr h)
  refine zj_iload_n C (List.mem_of_getElem? (i := 3) rfl) rfl rfl rfl ?_
  refine zj_iload_n C (List.mem_of_getElem? (i := 4) rfl) rfl rfl rfl ?_
  refine zj_icmp_gt (tgt := 14) C (List.mem_of_getElem? (i := 5) rfl) rfl (by decide) (fun hb2 => ?_) (fun hb2 => ?_)
  · have hb2 := Int32.lt_iff_toInt_lt.mp hb2
    refine zj_iconst (v := 0) C (List.mem_of_getElem? (i := 8) rfl) rfl (by decide) ?_
    exact KRi 15 _ _ _ (List.mem_of_getElem? (i := 9) rfl) (by decide) (Or.inr ⟨rfl, Or.inl rfl⟩) rfl ⟨rfl, Or.inr ⟨rfl, fun h => by omega⟩⟩
  have hb2 : ¬ hi.toInt < x.toInt := fun h => hb2 (Int32.lt_iff_toInt_lt.mpr h)
  refine zj_iconst (v := 1) C (List.mem_of_getElem? (i := 6) rfl) rfl (by decide) ?_
  refine zj_goto (tgt := 15) C (List.mem_of_getElem? (i := 7) rfl) (by decide) ?_
  exact KRi 15 _ _ _ (List.mem_of_getElem? (i := 9) rfl) (by decide) (Or.inr ⟨rfl, Or.inr rfl⟩) rfl ⟨rfl, Or.inl ⟨rfl, by omega, by omega⟩⟩
theorem zj_isNumber_W {l : Launch} {K : zj_K} {ws0 : va_W} {tk : zj_T} {d1 l1 f1 o1 : Nat} {lo hi : Int32} (hB : zj_Kok K) (h0 : zj_rd K ws0 tk d1 l1 f1 o1 0) : zj_W l 2 33 (zj_KX K [.ref K.aR, .int lo, .int hi] ws0) (fun _ _ _ v ws' => (v = some (.int 1) ∧ tk.1 = 27 ∧ (lo.toInt ≤ tk.2.1 ∧ tk.2.1 ≤ hi.toInt) ∧ zj_rd K ws' tk d1 l1 f1 o1 0) ∨ (v = some (.int 0) ∧ tk.1 ≠ 27 ∧ zj_rd K ws' tk d1 l1 f1 o1 1) ∨ (v = some (.int 0) ∧ tk.1 = 27 ∧ ¬ (lo.toInt ≤ tk.2.1 ∧ tk.2.1 ≤ hi.toInt) ∧ zj_rd K ws' tk d1 l1 f1 o1 2)) := by
  have h00 := h0
  refine zj_enterW (md := zx_m33) rfl rfl ?_ ?_
  · rintro ex tys av ws ⟨-, -, rfl, -⟩
    exact Nat.le_of_ble_eq_true rfl
  intro p e R s mi args below meth c Q D A ex nL own cc tys ws av hX C hnL KRi KRv KRa
  subst hnL
  obtain ⟨h1, h2, h3, h4⟩ := hX
  subst h1
  subst h2
  subst h3
  subst h4
  obtain ⟨⟨x, hR, hx⟩, hP, htk, hle, ho⟩ := h0
  refine zj_aload_n C (List.mem_of_getElem? (i := 0) rfl) rfl rfl rfl ?_
  refine zj_get C (List.mem_of_getElem? (i := 1) rfl) rfl rfl hR.1 rfl rfl ?_
  refine zj_gets C (List.mem_of_getElem? (i := 2) rfl) rfl rfl (hB.2.2.1 27 (by decide)) ?_
  refine zj_acmp_eq (tgt := 16) C (List.mem_of_getElem? (i := 3) rfl) rfl (by decide) (fun hb => ?_) (fun hb => ?_)
  rotate_left
  · have hne : tk.1 ≠ 27 := fun h => hb (congrArg K.ak h)
    refine zj_aload_n C (List.mem_of_getElem? (i := 4) rfl) rfl rfl rfl ?_
    refine zj_iconst (v := 1) C (List.mem_of_getElem? (i := 5) rfl) rfl (by decide) ?_
    refine zj_callV (As := [.int 1]) (rest := []) C (List.mem_of_getElem? (i := 6) rfl) rfl rfl rfl (by decide) (zj_W_mono (zj_blame_W (kd := 1) hB h00) (by decide)) rfl rfl hR.1 rfl (Nat.le_of_ble_eq_true rfl) rfl ⟨rfl, rfl, rfl, rfl⟩ (fun v w2 hw2A hw2Z => ?_)
    obtain ⟨hv, h5⟩ := hw2Z
    subst hv
    exact KRi 15 _ _ _ (List.mem_of_getElem? (i := 7) rfl) (by decide) (Or.inr ⟨rfl, Or.inl rfl⟩) hw2A (Or.inr (Or.inl ⟨rfl, hne, h5⟩))
  have hnu : tk.1 = 27 := hB.2.2.2.1 _ _ htk (by decide) hb
  have hx := hx hnu
  refine zj_aload_n C (List.mem_of_getElem? (i := 8) rfl) rfl rfl rfl ?_
  refine zj_get C (List.mem_of_getElem? (i := 9) rfl) rfl rfl hR.1 rfl rfl ?_
  refine zj_iload_n C (List.mem_of_getElem? (i := 10) rfl) rfl rfl rfl ?_
  refine zj_iload_n C (List.mem_of_getElem? (i := 11) rfl) rfl rfl rfl ?_
  refine zj_callS (As := [.int x, .int lo, .int hi]) (rest := []) C (List.mem_of_getElem? (i := 12) rfl) rfl rfl (Or.inr rfl) (zj_within_W (K := K) (ws0 := ws) (x := x) (lo := lo) (hi := hi)) rfl rfl (Nat.le_of_ble_eq_true rfl) rfl ⟨rfl, rfl, rfl, rfl⟩ (fun v w2 hw2A hw2Z => ?_)
  obtain ⟨hw, hv⟩ := hw2Z
  subst hw
  rw [hx] at hv
  rcases hv with ⟨hv, hc⟩ | ⟨hv, hc⟩
  · subst hv
    refine zj_if_ne (tgt := 36) C (List.mem_of_getElem? (i := 13) rfl) rfl (by decide) (fun hd => ?_) (fun hd => ?_)
    · skip
      refine zj_iconst (v := 1) C (List.mem_of_getElem? (i := 18) rfl) rfl (by decide) ?_
      refine zj_goto (tgt := 41) C (List.mem_of_getElem? (i := 19) rfl) (by decide) ?_
      exact KRi 41 _ _ _ (List.mem_of_getElem? (i := 21) rfl) (by decide) (Or.inr ⟨rfl, Or.inr rfl⟩) rfl (Or.inl ⟨rfl, hnu, hc, h00⟩)
    exact absurd hd (by decide)
  · subst hv
    refine zj_if_ne (tgt := 36) C (List.mem_of_getElem? (i := 13) rfl) rfl (by decide) (fun hd => ?_) (fun hd => ?_)
    · exact absurd rfl hd
    refine zj_aload_n C (List.mem_of_getElem? (i := 14) rfl) rfl rfl rfl ?_
    refine zj_iconst (v := 2) C (List.mem_of_getElem? (i := 15) rfl) rfl (by decide) ?_
    refine zj_callV (As := [.int 2]) (rest := []) C (List.mem_of_getElem? (i := 16) rfl) rfl rfl rfl (by decide) (zj_W_mono (zj_blame_W (kd := 2) hB h00) (by decide)) rfl rfl hR.1 rfl (Nat.le_of_ble_eq_true rfl) rfl ⟨rfl, rfl, rfl, rfl⟩ (fun v w3 hw3A hw3Z => ?_)
    obtain ⟨hv, h5⟩ := hw3Z
    subst hv
    refine zj_if_eq (tgt := 40) C (List.mem_of_getElem? (i := 17) rfl) rfl (by decide) (fun hd2 => ?_) (fun hd2 => ?_)
    rotate_left
    · exact absurd rfl hd2
    refine zj_iconst (v := 0) C (List.mem_of_getElem? (i := 20) rfl) rfl (by decide) ?_
    exact KRi 41 _ _ _ (List.mem_of_getElem? (i := 21) rfl) (by decide) (Or.inr ⟨rfl, Or.inl rfl⟩) hw3A (Or.inr (Or.inr ⟨rfl, hnu, hc, h5⟩))
/-- a cell of the paper is written: the reader stays, the paper is as told -/
theorem zj_RS_keep {K : zj_K} {ws ws' : va_W} {r : List Value} (h : zj_RS K.tys ws K.aR K.aT K.fT r) (hk : ∀ i, (i = 198 ∨ i = 1) → ws'[i]? = ws[i]?) : zj_RS K.tys ws' K.aR K.aT K.fT r := ⟨by rw [hk 198 (Or.inl rfl)]; exact h.1, zj_row_keep h.2 (hk 1 (Or.inr rfl))⟩
theorem zj_row_set {tys : List (ClassId × FieldType)} {ws : va_W} {i a n : Nat} {ty : FieldType} {f g : Nat → Int32} {cA : ClassId} (h : zj_row tys ws i a n ty f) (h1 : ws[i]? = some (a, .inl (cA, n, .inl f))) : zj_row tys (ws.set i (a, .inl (cA, n, .inl g))) i a n ty g := by
  obtain ⟨cA', t0, h2, h3⟩ := h
  rw [h1] at h2
  have h4 : cA = cA' := by injection h2 with h2; injection h2 with _ h2; injection h2 with h2; injection h2
  subst h4
  exact ⟨cA, t0, by rw [List.getElem?_set]; simp only [if_true]; rw [if_pos (List.getElem?_eq_some_iff.mp h1).1], h3⟩
theorem zj_in {i : Int32} {N : Nat} (h1 : 0 ≤ i.toInt) (h2 : i.toInt < (N : Int)) (hN : N < 2147483648) : vp_in i N := by
  obtain ⟨h3, h4⟩ := zx_nat h1
  rw [h3]
  exact vp_in_nI (by omega) hN
theorem zj_addStep_W {l : Launch} {K : zj_K} {ws0 : va_W} {tk : zj_T} {d1 l1 f1 o1 : Nat} {fk xc xs xn : Int32} (hB : zj_Kok K) (h0 : zj_rd K ws0 tk d1 l1 f1 o1 fk) : zj_W l 1 43 (zj_KX K [.ref K.aP, .int xc, .int xs, .int xn] ws0) (fun _ _ _ v ws' => v = none ∧ zj_rd K ws' tk d1 l1 f1 o1 fk) := by
  have h00 := h0
  refine zj_enterW (md := zx_m43) rfl rfl ?_ ?_
  · rintro ex tys av ws ⟨-, -, rfl, -⟩
    exact Nat.le_of_ble_eq_true rfl
  intro p e R s mi args below meth c Q D A ex nL own cc tys ws av hX C hnL KRi KRv KRa
  subst hnL
  obtain ⟨h1, h2, h3, h4⟩ := hX
  subst h1
  subst h2
  subst h3
  subst h4
  obtain ⟨⟨x, hR, hx⟩, hP, htk, hle, ho⟩ := h0
  obtain ⟨aL, aS, aB, aN, fL, fS, fB, fN, da, st, hp0, hp1, hp2, hp3, hp4, ⟨hst, hfr⟩, hd1, hl1, hf1⟩ := hP
  have hI := hB.2.2.2.2.1
  have hJ := hB.2.2.2.2.2.1
  refine zj_aload_n C (List.mem_of_getElem? (i := 0) rfl) rfl rfl rfl ?_
  refine zj_get C (List.mem_of_getElem? (i := 1) rfl) rfl rfl hp0 rfl rfl ?_
  refine zj_bipush (v := 80) C (List.mem_of_getElem? (i := 2) rfl) rfl (by decide) ?_
  refine zj_icmp_ge (tgt := 39) C (List.mem_of_getElem? (i := 3) rfl) rfl (by decide) (fun hb => ?_) (fun hb => ?_)
  · exact KRv 39 _ _ (List.mem_of_getElem? (i := 24) rfl) rfl rfl ⟨rfl, h00⟩
  have hst2 : st.toInt < 80 := by
    rcases Int.lt_or_le st.toInt 80 with h | h
    · exact h
    · exact absurd (Int32.le_iff_toInt_le.mpr (show (80 : Int32).toInt ≤ st.toInt from h)) hb
  refine zj_aload_n C (List.mem_of_getElem? (i := 4) rfl) rfl rfl rfl ?_
  refine zj_get C (List.mem_of_getElem? (i := 5) rfl) rfl rfl hp0 rfl rfl ?_
  refine zj_aload_n C (List.mem_of_getElem? (i := 6) rfl) rfl rfl rfl ?_
  refine zj_get C (List.mem_of_getElem? (i := 7) rfl) rfl rfl hp0 rfl rfl ?_
  refine zj_iload_n C (List.mem_of_getElem? (i := 8) rfl) rfl rfl rfl ?_
  refine zj_bipush (v := 64) C (List.mem_of_getElem? (i := 9) rfl) rfl (by decide) ?_
  refine zj_imul (v := (xn * 64)) C (List.mem_of_getElem? (i := 10) rfl) rfl rfl ?_
  refine zj_iload_n C (List.mem_of_getElem? (i := 11) rfl) rfl rfl rfl ?_
  refine zj_bipush (v := 16) C (List.mem_of_getElem? (i := 12) rfl) rfl (by decide) ?_
  refine zj_imul (v := (xs * 16)) C (List.mem_of_getElem? (i := 13) rfl) rfl rfl ?_
  refine zj_iadd (v := ((xn * 64) + (xs * 16))) C (List.mem_of_getElem? (i := 14) rfl) rfl rfl ?_
  refine zj_iload_n C (List.mem_of_getElem? (i := 15) rfl) rfl rfl rfl ?_
  refine zj_iadd (v := (((xn * 64) + (xs * 16)) + xc)) C (List.mem_of_getElem? (i := 16) rfl) rfl rfl ?_
  refine zj_iast C (List.mem_of_getElem? (i := 17) rfl) rfl hp4 (zj_in hst hst2 (by decide)) (fun cA hcA => ?_)
  generalize hfN : upd fN st.toNatClampNeg _ = fN2
  have hk1 : ∀ i, i ≠ K.I 4 → (ws.set (K.I 4) (aN, .inl (cA, 80, .inl fN2)))[i]? = ws[i]? := fun i hi => List.getElem?_set_ne (Ne.symm hi)
  have hA1 : zx_as (ws.set (K.I 4) (aN, .inl (cA, 80, .inl fN2))) = zx_as ws := zx_as_set hcA
  have hq4 := zj_row_set (g := fN2) hp4 hcA
  generalize ws.set (K.I 4) (aN, .inl (cA, 80, .inl fN2)) = w2 at hk1 hA1 hq4 ⊢
  have hq0 := (hk1 (K.I 0) (fun h => absurd (hJ _ _ (by decide) (by decide) h) (by decide))).trans hp0
  refine zj_aload_n C (List.mem_of_getElem? (i := 18) rfl) rfl rfl rfl ?_
  refine zj_dup C (List.mem_of_getElem? (i := 19) rfl) rfl rfl ?_
  refine zj_get C (List.mem_of_getElem? (i := 20) rfl) rfl rfl hq0 rfl rfl ?_
  refine zj_iconst (v := 1) C (List.mem_of_getElem? (i := 21) rfl) rfl (by decide) ?_
  refine zj_iadd (v := (st + 1)) C (List.mem_of_getElem? (i := 22) rfl) rfl rfl ?_
  refine zj_put C (List.mem_of_getElem? (i := 23) rfl) rfl rfl hq0 rfl (Nat.le_of_ble_eq_true rfl) rfl (zj_fit_i rfl _) ?_
  have hk2 : ∀ i, i ≠ K.I 0 → i ≠ K.I 4 → (w2.set (K.I 0) (K.aP, .inr (1, [.ref aL, .ref aS, .ref aB, .ref aN, .int (nI d1), .int (nI l1), .int da, .int (nI f1), .int (st + 1)])))[i]? = ws[i]? := fun i h8 h9 => (List.getElem?_set_ne (Ne.symm h8)).trans (hk1 i h9)
  have hz : (st + 1).toInt = st.toInt + 1 := zx_addI _ _ (by show -2147483648 ≤ st.toInt + 1; omega) (by show st.toInt + 1 ≤ 2147483647; omega)
  refine KRv 39 _ _ (List.mem_of_getElem? (i := 24) rfl) rfl ((zx_as_set hq0).trans hA1) ⟨rfl, ⟨x, zj_RS_keep hR (fun i hi => hk2 i (fun h => ?_) (fun h => ?_)), hx⟩, ⟨aL, aS, aB, aN, fL, fS, fB, fN2, da, st + 1, ?_, zj_row_keep hp1 (hk2 _ ?_ ?_), zj_row_keep hp2 (hk2 _ ?_ ?_), zj_row_keep hp3 (hk2 _ ?_ ?_), zj_row_keep hq4 (List.getElem?_set_ne ?_), ⟨by omega, fun i i1 i2 => (hk2 i (i2 0 (by decide)) (i2 4 (by decide))).trans (hfr i i1 i2)⟩, hd1, hl1, hf1⟩, htk, hle, ho⟩
  · rcases hi with rfl | rfl
    · exact (hI 0 (by decide)).1 h.symm
    · exact (hI 0 (by decide)).2 h.symm
  · rcases hi with rfl | rfl
    · exact (hI 4 (by decide)).1 h.symm
    · exact (hI 4 (by decide)).2 h.symm
  · rw [List.getElem?_set]
    simp only [if_true]
    rw [if_pos (List.getElem?_eq_some_iff.mp hq0).1]
    rfl
  · exact fun h => absurd (hJ 1 0 (by decide) (by decide) h) (by decide)
  · exact fun h => absurd (hJ 1 4 (by decide) (by decide) h) (by decide)
  · exact fun h => absurd (hJ 2 0 (by decide) (by decide) h) (by decide)
  · exact fun h => absurd (hJ 2 4 (by decide) (by decide) h) (by decide)
  · exact fun h => absurd (hJ 3 0 (by decide) (by decide) h) (by decide)
  · exact fun h => absurd (hJ 3 4 (by decide) (by decide) h) (by decide)
  · exact fun h => absurd (hJ 0 4 (by decide) (by decide) h) (by decide)
theorem zj_beginsOne_W {l : Launch} {K : zj_K} {ws0 : va_W} {j : Nat} (hB : zj_Kok K) (hj : j < 30) : zj_W l 1 42 (zj_KX K [.ref (K.ak j)] ws0) (fun _ _ _ v ws' => ws' = ws0 ∧ ((v = some (.int 1) ∧ (10 ≤ j ∧ j ≤ 20 ∨ j = 25)) ∨ (v = some (.int 0) ∧ ¬ (10 ≤ j ∧ j ≤ 20 ∨ j = 25)))) := by
  refine zj_enterW (md := zx_m42) rfl rfl ?_ ?_
  · rintro ex tys av ws ⟨-, -, rfl, -⟩
    exact Nat.le_of_ble_eq_true rfl
  intro p e R s mi args below meth c Q D A ex nL own cc tys ws av hX C hnL KRi KRv KRa
  subst hnL
  obtain ⟨h1, h2, h3, h4⟩ := hX
  subst h1
  subst h2
  subst h3
  subst h4
  obtain ⟨hs1, hs2, hs3, hs4⟩ := zj_nS_i hj
  refine zj_aload_n C (List.mem_of_getElem? (i := 0) rfl) rfl rfl rfl ?_
  refine zj_getx (j := 0) (id := 8 + j) (row := zj_tr j) (v := zj_nS j) C (List.mem_of_getElem? (i := 1) rfl) rfl rfl (zj_tr_mem hj) (by omega) (hB.2.2.1 _ hj) (zj_trS hj) ?_
  refine zj_iconst (v := 2) C (List.mem_of_getElem? (i := 2) rfl) rfl (by decide) ?_
  refine zj_icmp_eq (tgt := 30) C (List.mem_of_getElem? (i := 3) rfl) rfl (by decide) (fun hb => ?_) (fun hb => ?_)
  · have hb := hs2.mp hb
    refine zj_iconst (v := 1) C (List.mem_of_getElem? (i := 14) rfl) rfl (by decide) ?_
    refine zj_goto (tgt := 35) C (List.mem_of_getElem? (i := 15) rfl) (by decide) ?_
    exact KRi 35 _ _ _ (List.mem_of_getElem? (i := 17) rfl) (by decide) (Or.inr ⟨rfl, Or.inr rfl⟩) rfl ⟨rfl, Or.inl ⟨rfl, by omega⟩⟩
  refine zj_aload_n C (List.mem_of_getElem? (i := 4) rfl) rfl rfl rfl ?_
  refine zj_getx (j := 0) (id := 8 + j) (row := zj_tr j) (v := zj_nS j) C (List.mem_of_getElem? (i := 5) rfl) rfl rfl (zj_tr_mem hj) (by omega) (hB.2.2.1 _ hj) (zj_trS hj) ?_
  refine zj_iconst (v := 3) C (List.mem_of_getElem? (i := 6) rfl) rfl (by decide) ?_
  refine zj_icmp_eq (tgt := 30) C (List.mem_of_getElem? (i := 7) rfl) rfl (by decide) (fun hb2 => ?_) (fun hb2 => ?_)
  · have hb2 := hs3.mp hb2
    refine zj_iconst (v := 1) C (List.mem_of_getElem? (i := 14) rfl) rfl (by decide) ?_
    refine zj_goto (tgt := 35) C (List.mem_of_getElem? (i := 15) rfl) (by decide) ?_
    exact KRi 35 _ _ _ (List.mem_of_getElem? (i := 17) rfl) (by decide) (Or.inr ⟨rfl, Or.inr rfl⟩) rfl ⟨rfl, Or.inl ⟨rfl, by omega⟩⟩
  refine zj_aload_n C (List.mem_of_getElem? (i := 8) rfl) rfl rfl rfl ?_
  refine zj_gets C (List.mem_of_getElem? (i := 9) rfl) rfl rfl (hB.2.2.1 10 (by decide)) ?_
  refine zj_acmp_eq (tgt := 30) C (List.mem_of_getElem? (i := 10) rfl) rfl (by decide) (fun hb3 => ?_) (fun hb3 => ?_)
  · have hb3 : j = 10 := hB.2.2.2.1 _ _ hj (by decide) hb3
    refine zj_iconst (v := 1) C (List.mem_of_getElem? (i := 14) rfl) rfl (by decide) ?_
    refine zj_goto (tgt := 35) C (List.mem_of_getElem? (i := 15) rfl) (by decide) ?_
    exact KRi 35 _ _ _ (List.mem_of_getElem? (i := 17) rfl) (by decide) (Or.inr ⟨rfl, Or.inr rfl⟩) rfl ⟨rfl, Or.inl ⟨rfl, by omega⟩⟩
  refine zj_aload_n C (List.mem_of_getElem? (i := 11) rfl) rfl rfl rfl ?_
  refine zj_gets C (List.mem_of_getElem? (i := 12) rfl) rfl rfl (hB.2.2.1 25 (by decide)) ?_
  refine zj_acmp_ne (tgt := 34) C (List.mem_of_getElem? (i := 13) rfl) rfl (by decide) (fun hb4 => ?_) (fun hb4 => ?_)
  · have h5 : j ≠ 25 := fun h => hb4 (congrArg K.ak h)
    have h6 : j ≠ 10 := fun h => hb3 (congrArg K.ak h)
    have h7 : ¬ (11 ≤ j ∧ j < 18) := fun h => hb (hs2.mpr h)
    have h8 : ¬ (18 ≤ j ∧ j < 21) := fun h => hb2 (hs3.mpr h)
    refine zj_iconst (v := 0) C (List.mem_of_getElem? (i := 16) rfl) rfl (by decide) ?_
    exact KRi 35 _ _ _ (List.mem_of_getElem? (i := 17) rfl) (by decide) (Or.inr ⟨rfl, Or.inl rfl⟩) rfl ⟨rfl, Or.inr ⟨rfl, by omega⟩⟩
  have hb4 : j = 25 := hB.2.2.2.1 _ _ hj (by decide) hb4
  refine zj_iconst (v := 1) C (List.mem_of_getElem? (i := 14) rfl) rfl (by decide) ?_
  refine zj_goto (tgt := 35) C (List.mem_of_getElem? (i := 15) rfl) (by decide) ?_
  exact KRi 35 _ _ _ (List.mem_of_getElem? (i := 17) rfl) (by decide) (Or.inr ⟨rfl, Or.inr rfl⟩) rfl ⟨rfl, Or.inl ⟨rfl, by omega⟩⟩
section ZKX
variable {p : Program} {l : Launch} {e : Env} {R : Room} {s : State} {mi : MethodId} {args : Array Value} {below : List Frame} {meth : Method} {c : Code} {Q : State → Prop} {D : va_G} {A : Nat → Prop} {ex : List Nat} {nL : Nat} {own : String} {cc : ByteArray} {d : Nat} {md : zx_MD} {tys : List (ClassId × FieldType)}
variable {pc n : Nat} {lv lv' : List (Nat × Value)} {kc : List Value} {ws : va_W}
theorem zj_callX (C : zj_cx p R s mi args meth c A ex nL own cc d md D tys) {ix a idc : Nat} {row : List Int} {q : Nat × Nat × Nat × Nat} {X : List Nat → List (ClassId × FieldType) → List Value → va_W → Prop} {Z : List Nat → List Value → va_W → Option Value → va_W → Prop} {As rest : List Value} (hd : (pc, Instr.invokevirtual ix, 3) ∈ md.1) (hn : pc + 3 = n) (hq : md.2.2.1 ix = some q) (hk : q.1 = 0) (h9 : q.2.2.2 = 999) (hW : zj_W l d q.2.1 X Z) (hrm : zx_rmt[q.2.1]? = some (0, 0)) (hln : As.length = q.2.2.1 - 1) (hr : (idc, row) ∈ zx_Yt.1) (h8 : ¬ idc < 8) (ha : ex[idc]? = some a) (hcat : (rest.map fun v => v.category).sum ≤ 8) (hkc : As.reverse ++ .ref a :: rest = kc) (hX : X ex tys (.ref a :: As) ws) (K : ∀ (v : Option Value) (ws' : va_W), zx_as ws' = zx_as ws → Z ex (.ref a :: As) ws v ws' → zj_go p l e R s mi args below meth c Q D A nL n lv (v.toList ++ rest) ws') : zj_go p l e R s mi args below meth c Q D A nL pc lv kc ws := by
  subst hn
  subst hkc
  intro H locs ls hP hD hS hl
  obtain ⟨⟨hx, hb, hown, hts, hnw, hA, hR, hin, hnL, hCX, hao, hCK, hMK⟩, hLK, hroom, hml, htb, hK⟩ := C
  obtain ⟨L5, L0, -⟩ := hLK.2 ix q hq
  obtain ⟨y, yc, maxL, ret, n1, n2, n3, n4, n5, n6, L0⟩ := L0 (by omega)
  obtain ⟨j1, j2, j3, j4, j50⟩ := L0.1 hk
  have hM := hW y yc maxL ret (0, 0) n1 hrm D A ex tys ws H.size (.ref a :: As) (fun x hx => hA x (Nat.le_trans hS.1 hx)) hX
  have hrooms : ({ frames := d, cells := 0, slots := 0, locals := 100 * d } : Room).frames + 1 ≤ R.frames ∧ 8 + (maxL + 11) + ({ frames := d, cells := 0, slots := 0, locals := 100 * d } : Room).locals ≤ R.locals := ⟨hroom.1, by show 8 + (maxL + 11) + 100 * d ≤ R.locals; omega⟩
  have hgT : GoodIn zx_Ts (Jvm.Cond.code y yc maxL ret :: zx_Ts) := by
    intro w hw
    have hw2 : w ∈ zx_Ts := (List.mem_cons.mp hw).elim (fun g => by rw [g]; exact n3) id
    exact ⟨hw2, good_of_word (List.all_eq_true.mp zx_Ts_good w hw2)⟩
  have hgo : ∀ w ∈ zx_Ts, w ∈ zx_Ts ∧ ((w.onTables && w.keeps) = true ∨ ∃ ty, w = .arrayClass ty) := fun w hw => ⟨hw, good_of_word (List.all_eq_true.mp zx_Ts_good w hw)⟩
  have hcall : CallFix p mi c cc nL s args zx_Ts own := ⟨hx, hb, hml, hown, hts⟩
  have hpre : ∀ U : State, U.heap = H → s.WarmedH U.vm → zx_Pc D vwCl A ex zx_sts zx_Yt zx_nw zx_aos tys ws H.size (.ref a :: As) (Value.ref a :: As).toArray U := fun U hU hW =>
    ⟨rfl, by rw [hU], by rw [hU]; exact hP, va_K.moved hW.alike hK, hD, by rw [hU]; exact zx_CX_move (Y := zx_Yt) hW.alike (fun a h1 h2 => hS.2.1 a h1 h2) hCX, zx_nw_warm zx_nw_kind hW hnw, fun C hC => va_AO.moved hW.alike (hao C hC)⟩
  have hbl : FrameBlind (zx_Pc D vwCl A ex zx_sts zx_Yt zx_nw zx_aos tys ws H.size (.ref a :: As)) := zx_blind zx_nw_kind
  have hrcv : ∃ cell : Cell, H[a]? = some cell ∧ cell.vm.isStatics = false ∧ s.vm.findClass y.cls = some cell.cls := by
    rcases j50 with ⟨-, j52⟩ | ⟨T, N, j5⟩
    · obtain ⟨a', a0, a1, a2, a3⟩ := hCX.2 _ hr
      have a1 : ex[idc]? = some a' := a1
      rw [ha] at a1
      have a1 : a = a' := Option.some.inj a1
      subst a1
      have a3 : (if idc < 8 then va_T .int a row.length (fun j => .int (Int32.ofInt (row.getD j 0))) A s s.heap else zx_XO row a A s s.heap) := a3
      rw [if_neg h8] at a3
      obtain ⟨cell, k1, k2, k3, k4⟩ := a3.1.kept hS.2.1
      exact ⟨cell, k1, k2, by rw [j52]; exact k3⟩
    · exact absurd (List.getElem?_eq_some_iff.mp j5).1 (by rw [h9]; have := hLK.1; omega)
  exact zj_run_W (tys := tys) hS hl (va_runV (As := As) (rest := rest) hcall hM (cwV (q.2.2.1 - 1) hts (fun w hw => by
      rcases List.mem_append.mp hw with hw | hw
      · simp only [List.mem_cons, List.not_mem_nil, or_false] at hw
        rcases hw with rfl | rfl | rfl | rfl
        · exact hgo _ j1
        · exact hgo _ j2
        · exact hgo _ j3
        · exact hgo _ n4
      · exact hgT w hw) rfl rfl rfl ⟨rfl, n5, n6, j4⟩ hrooms) ⟨hbl, hrcv, hpre⟩ rfl hln hl.1 rfl (lv_room hcat) (htb _ hd).1 ⟨Nat.zero_le _, Nat.zero_le _⟩) K
end ZKX
theorem zj_measure_W {l : Launch} {K : zj_K} {ws0 : va_W} {tk : zj_T} {d1 l1 f1 o1 : Nat} {n : Nat} {s1 : List Bool} {x1 : Int} {k1 : Nat} {xc : Int32} (hB : zj_Kok K) (h0 : zj_rd K ws0 tk d1 l1 f1 o1 0) : zj_W l 11 44 (zj_KX K [.ref K.aR, .int xc] ws0) (zj_Zb K (10, tk, n, d1, l1, f1, o1, s1, x1, k1) (fun tk' d' l' f' o' => d1 = d' ∧ l1 = l' ∧ f1 = f' ∧ o1 = o' ∧ zj_R (zj_g K) K.t (10, tk, n, d1, l1, f1, o1, s1, x1, k1) (8, tk', n, d1, l1, f1, o1, s1, x1, k1))) := by
  have h00 := h0
  refine zj_enterW (md := zx_m44) rfl rfl ?_ ?_
  · rintro ex tys av ws ⟨-, -, rfl, -⟩
    exact Nat.le_of_ble_eq_true rfl
  intro p e R s mi args below meth c Q D A ex nL own cc tys ws av hX C hnL KRi KRv KRa
  subst hnL
  obtain ⟨h1, h2, h3, h4⟩ := hX
  subst h1
  subst h2
  subst h3
  subst h4
  obtain ⟨⟨x, hR, hx⟩, hP, htk, hle, ho⟩ := h0
  obtain ⟨hs1, hs2, hs3, hs4⟩ := zj_nS_i htk
  refine zj_aload_n C (List.mem_of_getElem? (i := 0) rfl) rfl rfl rfl ?_
  refine zj_get C (List.mem_of_getElem? (i := 1) rfl) rfl rfl hR.1 rfl rfl ?_
  refine zj_getx (j := 0) (id := 8 + tk.1) (row := zj_tr tk.1) (v := zj_nS tk.1) C (List.mem_of_getElem? (i := 2) rfl) rfl rfl (zj_tr_mem htk) (by omega) (hB.2.2.1 _ htk) (zj_trS htk) ?_
  refine zj_iconst (v := 4) C (List.mem_of_getElem? (i := 3) rfl) rfl (by decide) ?_
  refine zj_icmp_eq (tgt := 17) C (List.mem_of_getElem? (i := 4) rfl) rfl (by decide) (fun hb => ?_) (fun hb => ?_)
  rotate_left
  · have hb : ¬ (21 ≤ tk.1 ∧ tk.1 < 24) := fun h => hb (hs4.mpr h)
    refine zj_aload_n C (List.mem_of_getElem? (i := 5) rfl) rfl rfl rfl ?_
    refine zj_iconst (v := 1) C (List.mem_of_getElem? (i := 6) rfl) rfl (by decide) ?_
    refine zj_callV (As := [.int 1]) (rest := []) C (List.mem_of_getElem? (i := 7) rfl) rfl rfl rfl (by decide) (zj_W_mono (zj_blame_W (kd := 1) hB h00) (by decide)) rfl rfl hR.1 rfl (Nat.le_of_ble_eq_true rfl) rfl ⟨rfl, rfl, rfl, rfl⟩ (fun v w2 hw2A hw2Z => ?_)
    obtain ⟨hv, h5⟩ := hw2Z
    subst hv
    exact KRi 16 _ _ _ (List.mem_of_getElem? (i := 8) rfl) (by decide) (Or.inr ⟨rfl, Or.inl rfl⟩) hw2A (Or.inr ⟨rfl, tk, d1, l1, f1, o1, 1, h5, zj_R_st (by rw [zj_st, if_neg (by omega)])⟩)
  have hb := hs4.mp hb
  have r1 : zj_R (zj_g K) K.t (10, tk, n, d1, l1, f1, o1, s1, x1, k1) (11, zj_nx K tk, n, d1, l1, f1, o1, s1, x1, k1) := zj_R_st (by rw [zj_st, if_pos (by omega)]; rfl)
  refine zj_aload_n C (List.mem_of_getElem? (i := 9) rfl) rfl rfl rfl ?_
  refine zj_get C (List.mem_of_getElem? (i := 10) rfl) rfl rfl hR.1 rfl rfl ?_
  refine zj_getx (j := 0) (id := 8 + tk.1) (row := zj_tr tk.1) (v := zj_nC tk.1) C (List.mem_of_getElem? (i := 11) rfl) rfl rfl (zj_tr_mem htk) (by omega) (hB.2.2.1 _ htk) (zj_trC htk) ?_
  refine zj_istore_n C (List.mem_of_getElem? (i := 12) rfl) rfl rfl (by decide) rfl ?_
  refine zj_aload_n C (List.mem_of_getElem? (i := 13) rfl) rfl rfl rfl ?_
  refine zj_callV (As := []) (rest := []) C (List.mem_of_getElem? (i := 14) rfl) rfl rfl rfl (by decide) (zj_W_mono (zj_adv_W hB h00) (by decide)) rfl rfl hR.1 rfl (Nat.le_of_ble_eq_true rfl) rfl ⟨rfl, rfl, rfl, rfl⟩ (fun v w2 hw2A hw2Z => ?_)
  obtain ⟨hv, h5⟩ := hw2Z
  subst hv
  have h55 := h5
  generalize zj_nx K tk = tk2 at h5 h55 r1
  obtain ⟨⟨x2, hR2, hx2⟩, hP2, htk2, hle2, ho2⟩ := h5
  refine zj_aload_n C (List.mem_of_getElem? (i := 15) rfl) rfl rfl rfl ?_
  refine zj_get C (List.mem_of_getElem? (i := 16) rfl) rfl rfl hR2.1 rfl rfl ?_
  refine zj_gets C (List.mem_of_getElem? (i := 17) rfl) rfl rfl (hB.2.2.1 27 (by decide)) ?_
  refine zj_acmp_eq (tgt := 45) C (List.mem_of_getElem? (i := 18) rfl) rfl (by decide) (fun hb2 => ?_) (fun hb2 => ?_)
  rotate_left
  · have hne : tk2.1 ≠ 27 := fun h => hb2 (congrArg K.ak h)
    refine zj_aload_n C (List.mem_of_getElem? (i := 19) rfl) rfl rfl rfl ?_
    refine zj_iconst (v := 1) C (List.mem_of_getElem? (i := 20) rfl) rfl (by decide) ?_
    refine zj_callV (As := [.int 1]) (rest := []) C (List.mem_of_getElem? (i := 21) rfl) rfl rfl rfl (by decide) (zj_W_mono (zj_blame_W (kd := 1) hB h55) (by decide)) rfl rfl hR2.1 rfl (Nat.le_of_ble_eq_true rfl) rfl ⟨rfl, rfl, rfl, rfl⟩ (fun v w3 hw3A hw3Z => ?_)
    obtain ⟨hv, h5⟩ := hw3Z
    subst hv
    exact KRi 44 _ _ _ (List.mem_of_getElem? (i := 22) rfl) (by decide) (Or.inr ⟨rfl, Or.inl rfl⟩) (hw3A.trans hw2A) (Or.inr ⟨rfl, tk2, d1, l1, f1, o1, 1, h5, zj_R_tr r1 (zj_R_st (by rw [zj_st, if_neg hne]))⟩)
  have hnu : tk2.1 = 27 := hB.2.2.2.1 _ _ htk2 (by decide) hb2
  refine zj_aload_n C (List.mem_of_getElem? (i := 23) rfl) rfl rfl rfl ?_
  refine zj_get C (List.mem_of_getElem? (i := 24) rfl) rfl rfl hR2.1 rfl rfl ?_
  refine zj_iload_n C (List.mem_of_getElem? (i := 25) rfl) rfl rfl rfl ?_
  refine zj_iload_n C (List.mem_of_getElem? (i := 26) rfl) rfl rfl rfl ?_
  refine zj_aload_n C (List.mem_of_getElem? (i := 27) rfl) rfl rfl rfl ?_
  refine zj_get C (List.mem_of_getElem? (i := 28) rfl) rfl rfl hR2.1 rfl rfl ?_
  have hpp := hP2
  obtain ⟨aL, aS, aB, aN, fL, fS, fB, fN, da, st, hp0, hp1, hp2, hp3, hp4, ⟨hst, hfr⟩, hd1, hl1, hf1⟩ := hpp
  refine zj_callV (As := [.int xc, .int (zj_nC tk.1), .int x2]) (rest := []) C (List.mem_of_getElem? (i := 29) rfl) rfl rfl rfl (by decide) (zj_W_mono (zj_addStep_W (xc := xc) (xs := zj_nC tk.1) (xn := x2) hB h55) (by decide)) rfl rfl hp0 rfl (Nat.le_of_ble_eq_true rfl) rfl ⟨rfl, rfl, rfl, rfl⟩ (fun v w3 hw3A hw3Z => ?_)
  obtain ⟨hv, h6⟩ := hw3Z
  subst hv
  have h66 := h6
  obtain ⟨⟨x3, hR3, hx3⟩, hP3, -, -, -⟩ := h6
  refine zj_aload_n C (List.mem_of_getElem? (i := 30) rfl) rfl rfl rfl ?_
  refine zj_callV (As := []) (rest := []) C (List.mem_of_getElem? (i := 31) rfl) rfl rfl rfl (by decide) (zj_W_mono (zj_adv_W hB h66) (by decide)) rfl rfl hR3.1 rfl (Nat.le_of_ble_eq_true rfl) rfl ⟨rfl, rfl, rfl, rfl⟩ (fun v w4 hw4A hw4Z => ?_)
  obtain ⟨hv, h7⟩ := hw4Z
  subst hv
  refine zj_iconst (v := 1) C (List.mem_of_getElem? (i := 32) rfl) rfl (by decide) ?_
  exact KRi 63 _ _ _ (List.mem_of_getElem? (i := 33) rfl) (by decide) (Or.inr ⟨rfl, Or.inr rfl⟩) (hw4A.trans (hw3A.trans hw2A)) (Or.inl ⟨rfl, _, d1, l1, f1, o1, h7, rfl, rfl, rfl, rfl, zj_R_tr r1 (zj_R_st (by rw [zj_st, if_pos hnu]; rfl))⟩)
end
