noncomputable section
/-! zj: the reference's small methods -/
theorem zj_long {own : String} (ho : own = zx_oc13) {ix k : Nat} (h : (ix, zj_wc k) ∈ zx_Lvc13) : Jvm.Cond.constantLong own ix (zj_wc k) ∈ zx_Ts := by
  subst ho
  have h1 := zx_kFc13
  unfold zx_mkall at h1
  simp only [Bool.and_eq_true] at h1
  obtain ⟨i, hi⟩ := zx_all2_ok h1.2.2.2.2 h
  exact zx_w_ok hi
/-- the pile, the last first -/
def zj_pl (f : Nat → Int32) : List Nat → Prop
  | [] => True
  | x :: r => f r.length = nI x ∧ (20 ≤ x ∧ x ≤ 23) ∧ zj_pl f r
theorem zj_pl_upd {f : Nat → Int32} {i : Nat} {x : Int32} : ∀ (P : List Nat), P.length ≤ i → zj_pl f P → zj_pl (upd f i x) P
  | [], _, _ => trivial
  | y :: r, h, h1 => by
    obtain ⟨h2, h3, h4⟩ := h1
    rw [List.length_cons] at h
    refine ⟨?_, h3, zj_pl_upd r (by omega) h4⟩
    rw [← h2]
    exact if_neg (by omega)
theorem zj_pl_push {f : Nat → Int32} {x : Nat} {P : List Nat} (hx : 20 ≤ x ∧ x ≤ 23) (h : zj_pl f P) : zj_pl (upd f P.length (nI x)) (x :: P) := ⟨if_pos rfl, hx, zj_pl_upd P (Nat.le_refl _) h⟩
/-- what is open: nots and brackets -/
def zj_os : List Nat → List Bool
  | [] => []
  | x :: r => if x = 20 then true :: zj_os r else if x = 23 then false :: zj_os r else zj_os r
/-- no joint lies straight upon a not -/
def zj_wf : List Nat → Bool
  | [] => true
  | x :: r => (match r with
    | [] => true
    | y :: _ => !((x == 21 || x == 22) && y == 20)) && zj_wf r
/-- the reference, between its steps -/
def zj_pk (u : Bool) (f : Nat → Int32) (pm : Int32) (P : List Nat) : Prop := match u with
  | true => pm = nI P.length ∧ zj_pl f P
  | false => True
def zj_mr (u : Bool) (M : zj_M) (ws : va_W) (tk : zj_T) (d1 l1 f1 o1 st : Nat) (P : List Nat) (fk : Int32) : Prop := (∃ (tok sp nu fa pm : Int32) (wd : Int64) (fv fe pf : Nat → Int32), zj_ms M ws (zj_ML M (nI M.t) (nI tk.2.2.2) tok (nI tk.2.2.1) sp nu wd fk fa (nI d1) (nI o1) (nI st) pm) fv fe pf ∧ zj_tok tk tok nu wd ∧ fv 20 = nI l1 ∧ fe 20 = nI f1 ∧ zj_pk u pf pm P) ∧ (tk.2.2.1 ≤ M.t ∧ tk.2.2.2 ≤ M.t ∧ tk.1 < 30 ∧ (tk.1 = 27 → 0 ≤ tk.2.1)) ∧ (d1 < 16 ∧ l1 ≤ 6 ∧ f1 ≤ 8) ∧ (o1 ≤ 40 ∧ st + P.length ≤ 2 * o1 ∧ P.length ≤ o1)
/-- where it has failed -/
def zj_mz (M : zj_M) (ws : va_W) (tk : zj_T) (k : Nat) : Prop := tk.2.2.1 ≤ M.t ∧ ∃ (L : List (Nat × Value)) (fv fe pf : Nat → Int32), zj_ms M ws L fv fe pf ∧ zj_lk L 44 = some (.int (nI k)) ∧ zj_lk L 45 = some (.int (nI tk.2.2.1))
def zj_nm (M : zj_M) (tk : zj_T) : zj_T := zj_tk (zj_gM M) M.t tk.2.2.2
theorem zj_tk_nn {g : Nat → Int} {t p : Nat} : (zj_tk g t p).1 = 27 → 0 ≤ (zj_tk g t p).2.1 := by
  unfold zj_tk
  generalize zj_run zj_bl g t p = q
  unfold zj_t2
  split
  · exact fun _ => Int.le_refl _
  · split
    · exact fun _ => Int.le_refl _
    · split
      · unfold zj_t3
        split
        · split
          · rename_i h
            exact fun _ => (zj_val_b h.1 h.2).1
          · exact fun _ => Int.le_refl _
        · exact fun _ => Int.le_refl _
      · exact fun _ => Int.le_refl _
theorem zj_next_m {l : Launch} {u : Bool} {M : zj_M} {ws0 : va_W} {tk : zj_T} {d1 l1 f1 o1 st : Nat} {P : List Nat} {fk : Int32} (hB : zj_Mok M) (h0 : zj_mr u M ws0 tk d1 l1 f1 o1 st P fk) : zj_W l 2 150 (zj_MX M [.ref M.aM] ws0) (fun _ _ _ v ws' => v = none ∧ zj_mr u M ws' (zj_nm M tk) d1 l1 f1 o1 st P fk) := by
  obtain ⟨⟨tok, sp, nu, fa, pm, wd, fv, fe, pf, hM, ht, h1⟩, ⟨ha, hb, hc, -⟩, h2⟩ := h0
  refine zj_W_imp (zj_next_W hB hM hb) ?_
  rintro ex av ws v ws' ⟨rfl, tok2, sp2, nu2, wd2, hM2, ht2⟩
  have hok := zj_tk_ok (g := zj_gM M) hb
  exact ⟨rfl, ⟨tok2, sp2, nu2, fa, pm, wd2, fv, fe, pf, hM2, ht2, h1⟩, ⟨hok.2.1, hok.2.2, hok.1, zj_tk_nn⟩, h2⟩
def zj_Zm (u : Bool) (M : zj_M) (c0 : zj_C) (ok : zj_T → Nat → Nat → Nat → Nat → Nat → List Nat → Prop) (_ : List Nat) (_ : List Value) (_ : va_W) (v : Option Value) (ws' : va_W) : Prop :=
  (v = some (.int 1) ∧ ∃ tk d l f o st P, zj_mr u M ws' tk d l f o st P 0 ∧ ok tk d l f o st P) ∨ (v = some (.int 0) ∧ ∃ tk k, zj_mz M ws' tk k ∧ zj_R (zj_gM M) M.t c0 (zj_bad tk k))
theorem zj_badM_W {l : Launch} {u : Bool} {M : zj_M} {ws0 : va_W} {tk : zj_T} {d1 l1 f1 o1 st : Nat} {P : List Nat} {fk : Int32} {k : Nat} (h0 : zj_mr u M ws0 tk d1 l1 f1 o1 st P fk) : zj_W l 1 157 (zj_MX M [.ref M.aM, .int (nI k)] ws0) (fun _ _ _ v ws' => v = some (.int 0) ∧ zj_mz M ws' tk k) := by
  refine zj_enterO (md := zx_m157) (ow := zx_oc13) rfl rfl rfl ?_ ?_
  · rintro ex tys av ws ⟨-, rfl, -⟩
    exact Nat.le_of_ble_eq_true rfl
  intro p e R s mi args below meth c Q D A ex nL own cc tys ws av hX C hnL hown KRi KRv KRa
  subst hnL
  obtain ⟨h2, h3, h4⟩ := hX
  subst h2
  subst h3
  subst h4
  obtain ⟨⟨tok, sp, nu, fa, pm, wd, fv, fe, pf, hM, ht, hv6, he9, hpl⟩, hbd, hbd2, hbd3⟩ := h0
  refine zj_aload_n C (List.mem_of_getElem? (i := 0) rfl) rfl rfl rfl ?_
  refine zj_iload_n C (List.mem_of_getElem? (i := 1) rfl) rfl rfl rfl ?_
  refine zj_putM (L' := (zj_ML M (nI M.t) (nI tk.2.2.2) tok (nI tk.2.2.1) sp nu wd (nI k) fa (nI d1) (nI o1) (nI st) pm)) C (List.mem_of_getElem? (i := 2) rfl) rfl rfl rfl hM (Nat.le_of_ble_eq_true rfl) (by decide) rfl (zj_fit_i rfl _) (by unfold zj_ML; repeat first | exact zj_sub_nil | refine zj_sub_cons rfl ?_) (fun w2 hw2M hw2A => ?_)
  refine zj_aload_n C (List.mem_of_getElem? (i := 3) rfl) rfl rfl rfl ?_
  refine zj_aload_n C (List.mem_of_getElem? (i := 4) rfl) rfl rfl rfl ?_
  refine zj_getM C (List.mem_of_getElem? (i := 5) rfl) rfl rfl rfl hw2M rfl ?_
  refine zj_putM (L' := (zj_ML M (nI M.t) (nI tk.2.2.2) tok (nI tk.2.2.1) sp nu wd (nI k) (nI tk.2.2.1) (nI d1) (nI o1) (nI st) pm)) C (List.mem_of_getElem? (i := 6) rfl) rfl rfl rfl hw2M (Nat.le_of_ble_eq_true rfl) (by decide) rfl (zj_fit_i rfl _) (by unfold zj_ML; repeat first | exact zj_sub_nil | refine zj_sub_cons rfl ?_) (fun w3 hw3M hw3A => ?_)
  refine zj_iconst (v := 0) C (List.mem_of_getElem? (i := 7) rfl) rfl (by decide) ?_
  exact KRi 14 _ _ _ (List.mem_of_getElem? (i := 8) rfl) (by decide) (Or.inr ⟨rfl, Or.inl rfl⟩) (hw3A.trans hw2A) ⟨rfl, hbd.1, _, _, _, _, hw3M, rfl, rfl⟩
theorem zj_cmp_self (x : Int64) : lg_cmp x x = 0 := by
  unfold lg_cmp
  simp
theorem zj_cmp_eq {x y : Int64} (h : lg_cmp x y = 0) : x = y := by
  unfold lg_cmp at h
  split at h
  · exact absurd h (by decide)
  · split at h
    · rename_i h2
      exact h2
    · exact absurd h (by decide)
theorem zj_isWord_W {l : Launch} {u : Bool} {M : zj_M} {ws0 : va_W} {tk : zj_T} {d1 l1 f1 o1 st : Nat} {P : List Nat} {fk : Int32} {k : Nat} (h0 : zj_mr u M ws0 tk d1 l1 f1 o1 st P fk) (hk : k < 21) : zj_W l 1 155 (zj_MX M [.ref M.aM, .long (zj_wc k)] ws0) (fun _ _ _ v ws' => ws0 = ws' ∧ ((v = some (.int 1) ∧ tk.1 = k) ∨ (v = some (.int 0) ∧ tk.1 ≠ k))) := by
  refine zj_enterO (md := zx_m155) (ow := zx_oc13) rfl rfl rfl ?_ ?_
  · rintro ex tys av ws ⟨-, rfl, -⟩
    exact Nat.le_of_ble_eq_true rfl
  intro p e R s mi args below meth c Q D A ex nL own cc tys ws av hX C hnL hown KRi KRv KRa
  subst hnL
  obtain ⟨h2, h3, h4⟩ := hX
  subst h2
  subst h3
  subst h4
  obtain ⟨⟨tok, sp, nu, fa, pm, wd, fv, fe, pf, hM, ht, hv6, he9, hpl⟩, hbd, hbd2, hbd3⟩ := h0
  refine zj_aload_n C (List.mem_of_getElem? (i := 0) rfl) rfl rfl rfl ?_
  refine zj_getM C (List.mem_of_getElem? (i := 1) rfl) rfl rfl rfl hM rfl ?_
  refine zj_iconst (v := 1) C (List.mem_of_getElem? (i := 2) rfl) rfl (by decide) ?_
  refine zj_icmp_ne (tgt := 21) C (List.mem_of_getElem? (i := 3) rfl) rfl (by decide) (fun hb => ?_) (fun hb => ?_)
  · skip
    refine zj_iconst (v := 0) C (List.mem_of_getElem? (i := 11) rfl) rfl (by decide) ?_
    exact KRi 22 _ _ _ (List.mem_of_getElem? (i := 12) rfl) (by decide) (Or.inr ⟨rfl, Or.inl rfl⟩) rfl ⟨rfl, Or.inr ⟨rfl, fun h => hb ((ht.1 k hk).mpr h).1⟩⟩
  refine zj_aload_n C (List.mem_of_getElem? (i := 4) rfl) rfl rfl rfl ?_
  refine zj_getM C (List.mem_of_getElem? (i := 5) rfl) rfl rfl rfl hM rfl ?_
  refine zj_lload_n C (List.mem_of_getElem? (i := 6) rfl) rfl rfl rfl ?_
  refine zj_lcmp (v := (lg_cmp wd (zj_wc k))) C (List.mem_of_getElem? (i := 7) rfl) rfl rfl ?_
  refine zj_if_ne (tgt := 21) C (List.mem_of_getElem? (i := 8) rfl) rfl (by decide) (fun hb2 => ?_) (fun hb2 => ?_)
  · have hne : wd ≠ zj_wc k := fun h => hb2 (by rw [h]; exact zj_cmp_self _)
    refine zj_iconst (v := 0) C (List.mem_of_getElem? (i := 11) rfl) rfl (by decide) ?_
    exact KRi 22 _ _ _ (List.mem_of_getElem? (i := 12) rfl) (by decide) (Or.inr ⟨rfl, Or.inl rfl⟩) rfl ⟨rfl, Or.inr ⟨rfl, fun h => hne ((ht.1 k hk).mpr h).2⟩⟩
  have heq : wd = zj_wc k := zj_cmp_eq hb2
  refine zj_iconst (v := 1) C (List.mem_of_getElem? (i := 9) rfl) rfl (by decide) ?_
  refine zj_goto (tgt := 22) C (List.mem_of_getElem? (i := 10) rfl) (by decide) ?_
  exact KRi 22 _ _ _ (List.mem_of_getElem? (i := 12) rfl) (by decide) (Or.inr ⟨rfl, Or.inr rfl⟩) rfl ⟨rfl, Or.inl ⟨rfl, (ht.1 k hk).mp ⟨hb, heq⟩⟩⟩
theorem zj_isSign_W {l : Launch} {u : Bool} {M : zj_M} {ws0 : va_W} {tk : zj_T} {d1 l1 f1 o1 st : Nat} {P : List Nat} {fk : Int32} {k : Nat} (h0 : zj_mr u M ws0 tk d1 l1 f1 o1 st P fk) (hk : 21 ≤ k) (hk2 : k < 27) : zj_W l 1 163 (zj_MX M [.ref M.aM, .int (zj_sc k)] ws0) (fun _ _ _ v ws' => ws0 = ws' ∧ ((v = some (.int 1) ∧ tk.1 = k) ∨ (v = some (.int 0) ∧ tk.1 ≠ k))) := by
  refine zj_enterO (md := zx_m163) (ow := zx_oc13) rfl rfl rfl ?_ ?_
  · rintro ex tys av ws ⟨-, rfl, -⟩
    exact Nat.le_of_ble_eq_true rfl
  intro p e R s mi args below meth c Q D A ex nL own cc tys ws av hX C hnL hown KRi KRv KRa
  subst hnL
  obtain ⟨h2, h3, h4⟩ := hX
  subst h2
  subst h3
  subst h4
  obtain ⟨⟨tok, sp, nu, fa, pm, wd, fv, fe, pf, hM, ht, hv6, he9, hpl⟩, hbd, hbd2, hbd3⟩ := h0
  refine zj_aload_n C (List.mem_of_getElem? (i := 0) rfl) rfl rfl rfl ?_
  refine zj_getM C (List.mem_of_getElem? (i := 1) rfl) rfl rfl rfl hM rfl ?_
  refine zj_iconst (v := 3) C (List.mem_of_getElem? (i := 2) rfl) rfl (by decide) ?_
  refine zj_icmp_ne (tgt := 20) C (List.mem_of_getElem? (i := 3) rfl) rfl (by decide) (fun hb => ?_) (fun hb => ?_)
  · skip
    refine zj_iconst (v := 0) C (List.mem_of_getElem? (i := 10) rfl) rfl (by decide) ?_
    exact KRi 21 _ _ _ (List.mem_of_getElem? (i := 11) rfl) (by decide) (Or.inr ⟨rfl, Or.inl rfl⟩) rfl ⟨rfl, Or.inr ⟨rfl, fun h => hb ((ht.2.1 k hk hk2).mpr h).1⟩⟩
  refine zj_aload_n C (List.mem_of_getElem? (i := 4) rfl) rfl rfl rfl ?_
  refine zj_getM C (List.mem_of_getElem? (i := 5) rfl) rfl rfl rfl hM rfl ?_
  refine zj_iload_n C (List.mem_of_getElem? (i := 6) rfl) rfl rfl rfl ?_
  refine zj_icmp_ne (tgt := 20) C (List.mem_of_getElem? (i := 7) rfl) rfl (by decide) (fun hb2 => ?_) (fun hb2 => ?_)
  · skip
    refine zj_iconst (v := 0) C (List.mem_of_getElem? (i := 10) rfl) rfl (by decide) ?_
    exact KRi 21 _ _ _ (List.mem_of_getElem? (i := 11) rfl) (by decide) (Or.inr ⟨rfl, Or.inl rfl⟩) rfl ⟨rfl, Or.inr ⟨rfl, fun h => hb2 ((ht.2.1 k hk hk2).mpr h).2⟩⟩
  refine zj_iconst (v := 1) C (List.mem_of_getElem? (i := 8) rfl) rfl (by decide) ?_
  refine zj_goto (tgt := 21) C (List.mem_of_getElem? (i := 9) rfl) (by decide) ?_
  exact KRi 21 _ _ _ (List.mem_of_getElem? (i := 11) rfl) (by decide) (Or.inr ⟨rfl, Or.inr rfl⟩) rfl ⟨rfl, Or.inl ⟨rfl, (ht.2.1 k hk hk2).mp ⟨hb, hb2⟩⟩⟩
theorem zj_sign_W {l : Launch} {u : Bool} {M : zj_M} {ws0 : va_W} {tk : zj_T} {d1 l1 f1 o1 st : Nat} {P : List Nat} {fk : Int32} {k : Nat} (hB : zj_Mok M) (h0 : zj_mr u M ws0 tk d1 l1 f1 o1 st P fk) (hk : 21 ≤ k) (hk2 : k < 27) : zj_W l 3 169 (zj_MX M [.ref M.aM, .int (zj_sc k)] ws0) (fun _ _ _ v ws' => (v = some (.int 1) ∧ tk.1 = k ∧ zj_mr u M ws' (zj_nm M tk) d1 l1 f1 o1 st P fk) ∨ (v = some (.int 0) ∧ tk.1 ≠ k ∧ zj_mz M ws' tk 1)) := by
  have h00 := h0
  refine zj_enterO (md := zx_m169) (ow := zx_oc13) rfl rfl rfl ?_ ?_
  · rintro ex tys av ws ⟨-, rfl, -⟩
    exact Nat.le_of_ble_eq_true rfl
  intro p e R s mi args below meth c Q D A ex nL own cc tys ws av hX C hnL hown KRi KRv KRa
  subst hnL
  obtain ⟨h2, h3, h4⟩ := hX
  subst h2
  subst h3
  subst h4
  obtain ⟨⟨tok, sp, nu, fa, pm, wd, fv, fe, pf, hM, ht, hv6, he9, hpl⟩, hbd, hbd2, hbd3⟩ := h0
  refine zj_aload_n C (List.mem_of_getElem? (i := 0) rfl) rfl rfl rfl ?_
  refine zj_iload_n C (List.mem_of_getElem? (i := 1) rfl) rfl rfl rfl ?_
  have hO := hM
  obtain ⟨⟨fsO, hO0, -⟩, -⟩ := hO
  refine zj_callV (As := [.int (zj_sc k)]) (rest := []) C (List.mem_of_getElem? (i := 2) rfl) rfl rfl rfl (by decide) (zj_W_mono (zj_isSign_W h00 hk hk2) (by decide)) rfl rfl hO0 rfl (Nat.le_of_ble_eq_true rfl) rfl ⟨rfl, rfl, rfl⟩ (fun v w2 hw2A hw2Z => ?_)
  obtain ⟨hw, hv⟩ := hw2Z
  subst hw
  rcases hv with ⟨hv, hc⟩ | ⟨hv, hc⟩
  · subst hv
    refine zj_if_ne (tgt := 14) C (List.mem_of_getElem? (i := 3) rfl) rfl (by decide) (fun hd => ?_) (fun hd => ?_)
    rotate_left
    · exact absurd hd (by decide)
    refine zj_aload_n C (List.mem_of_getElem? (i := 8) rfl) rfl rfl rfl ?_
    have hO := hM
    obtain ⟨⟨fsO, hO0, -⟩, -⟩ := hO
    refine zj_callV (As := []) (rest := []) C (List.mem_of_getElem? (i := 9) rfl) rfl rfl rfl (by decide) (zj_W_mono (zj_next_m hB h00) (by decide)) rfl rfl hO0 rfl (Nat.le_of_ble_eq_true rfl) rfl ⟨rfl, rfl, rfl⟩ (fun v w3 hw3A hw3Z => ?_)
    obtain ⟨hv, h3⟩ := hw3Z
    subst hv
    refine zj_iconst (v := 1) C (List.mem_of_getElem? (i := 10) rfl) rfl (by decide) ?_
    exact KRi 19 _ _ _ (List.mem_of_getElem? (i := 11) rfl) (by decide) (Or.inr ⟨rfl, Or.inr rfl⟩) hw3A (Or.inl ⟨rfl, hc, h3⟩)
  subst hv
  refine zj_if_ne (tgt := 14) C (List.mem_of_getElem? (i := 3) rfl) rfl (by decide) (fun hd => ?_) (fun hd => ?_)
  · exact absurd rfl hd
  refine zj_aload_n C (List.mem_of_getElem? (i := 4) rfl) rfl rfl rfl ?_
  refine zj_iconst (v := 1) C (List.mem_of_getElem? (i := 5) rfl) rfl (by decide) ?_
  have hO := hM
  obtain ⟨⟨fsO, hO0, -⟩, -⟩ := hO
  refine zj_callV (As := [.int (nI 1)]) (rest := []) C (List.mem_of_getElem? (i := 6) rfl) rfl rfl rfl (by decide) (zj_W_mono (zj_badM_W (k := 1) h00) (by decide)) rfl rfl hO0 rfl (Nat.le_of_ble_eq_true rfl) rfl ⟨rfl, rfl, rfl⟩ (fun v w3 hw3A hw3Z => ?_)
  obtain ⟨hv, h3⟩ := hw3Z
  subst hv
  exact KRi 13 _ _ _ (List.mem_of_getElem? (i := 7) rfl) (by decide) (Or.inr ⟨rfl, Or.inl rfl⟩) hw3A (Or.inr ⟨rfl, hc, h3⟩)
/-- a step is written: room for it told -/
theorem zj_write_W {l : Launch} {u : Bool} {M : zj_M} {ws0 : va_W} {tk : zj_T} {d1 l1 f1 o1 st : Nat} {P : List Nat} {fk : Int32} {xa xb xc : Int32} (h0 : zj_mr u M ws0 tk d1 l1 f1 o1 st P fk) (hr : st + P.length < 2 * o1) : zj_W l 1 165 (zj_MX M [.ref M.aM, .int xa, .int xb, .int xc] ws0) (fun _ _ _ v ws' => v = none ∧ zj_mr u M ws' tk d1 l1 f1 o1 (st + 1) P fk) := by
  refine zj_enterO (md := zx_m165) (ow := zx_oc13) rfl rfl rfl ?_ ?_
  · rintro ex tys av ws ⟨-, rfl, -⟩
    exact Nat.le_of_ble_eq_true rfl
  intro p e R s mi args below meth c Q D A ex nL own cc tys ws av hX C hnL hown KRi KRv KRa
  subst hnL
  obtain ⟨h2, h3, h4⟩ := hX
  subst h2
  subst h3
  subst h4
  obtain ⟨⟨tok, sp, nu, fa, pm, wd, fv, fe, pf, hM, ht, hv6, he9, hpl⟩, hbd, hbd2, hbd3⟩ := h0
  have hst : (2000 : Int32) + nI st = nI (2000 + st) := nI_add 2000 st
  refine zj_aload_n C (List.mem_of_getElem? (i := 0) rfl) rfl rfl rfl ?_
  refine zj_getM C (List.mem_of_getElem? (i := 1) rfl) rfl rfl rfl hM rfl ?_
  refine zj_sipush (v := 2000) C (List.mem_of_getElem? (i := 2) rfl) rfl (by decide) ?_
  refine zj_aload_n C (List.mem_of_getElem? (i := 3) rfl) rfl rfl rfl ?_
  refine zj_getM C (List.mem_of_getElem? (i := 4) rfl) rfl rfl rfl hM rfl ?_
  refine zj_iadd (v := (nI (2000 + st))) C (List.mem_of_getElem? (i := 5) rfl) rfl hst ?_
  refine zj_iload_n C (List.mem_of_getElem? (i := 6) rfl) rfl rfl rfl ?_
  refine zj_iasM (k := 33) (pl := 242) (N := 2100) C (List.mem_of_getElem? (i := 7) rfl) rfl (by decide) hM (vp_in_nI (by omega) (by decide)) (fun w2 hw2M hw2A => ?_)
  refine zj_aload_n C (List.mem_of_getElem? (i := 8) rfl) rfl rfl rfl ?_
  refine zj_getM C (List.mem_of_getElem? (i := 9) rfl) rfl rfl rfl hw2M rfl ?_
  refine zj_sipush (v := 2000) C (List.mem_of_getElem? (i := 10) rfl) rfl (by decide) ?_
  refine zj_aload_n C (List.mem_of_getElem? (i := 11) rfl) rfl rfl rfl ?_
  refine zj_getM C (List.mem_of_getElem? (i := 12) rfl) rfl rfl rfl hw2M rfl ?_
  refine zj_iadd (v := (nI (2000 + st))) C (List.mem_of_getElem? (i := 13) rfl) rfl hst ?_
  refine zj_iload_n C (List.mem_of_getElem? (i := 14) rfl) rfl rfl rfl ?_
  refine zj_iasM (k := 34) (pl := 243) (N := 2100) C (List.mem_of_getElem? (i := 15) rfl) rfl (by decide) hw2M (vp_in_nI (by omega) (by decide)) (fun w3 hw3M hw3A => ?_)
  refine zj_aload_n C (List.mem_of_getElem? (i := 16) rfl) rfl rfl rfl ?_
  refine zj_getM C (List.mem_of_getElem? (i := 17) rfl) rfl rfl rfl hw3M rfl ?_
  refine zj_sipush (v := 2000) C (List.mem_of_getElem? (i := 18) rfl) rfl (by decide) ?_
  refine zj_aload_n C (List.mem_of_getElem? (i := 19) rfl) rfl rfl rfl ?_
  refine zj_getM C (List.mem_of_getElem? (i := 20) rfl) rfl rfl rfl hw3M rfl ?_
  refine zj_iadd (v := (nI (2000 + st))) C (List.mem_of_getElem? (i := 21) rfl) rfl hst ?_
  refine zj_iload_n C (List.mem_of_getElem? (i := 22) rfl) rfl rfl rfl ?_
  refine zj_iasM (k := 35) (pl := 244) (N := 2100) C (List.mem_of_getElem? (i := 23) rfl) rfl (by decide) hw3M (vp_in_nI (by omega) (by decide)) (fun w4 hw4M hw4A => ?_)
  refine zj_aload_n C (List.mem_of_getElem? (i := 24) rfl) rfl rfl rfl ?_
  refine zj_dup C (List.mem_of_getElem? (i := 25) rfl) rfl rfl ?_
  refine zj_getM C (List.mem_of_getElem? (i := 26) rfl) rfl rfl rfl hw4M rfl ?_
  refine zj_iconst (v := 1) C (List.mem_of_getElem? (i := 27) rfl) rfl (by decide) ?_
  refine zj_iadd (v := (nI (st + 1))) C (List.mem_of_getElem? (i := 28) rfl) rfl (nI_1 _) ?_
  refine zj_putM (L' := (zj_ML M (nI M.t) (nI tk.2.2.2) tok (nI tk.2.2.1) sp nu wd fk fa (nI d1) (nI o1) (nI (st + 1)) pm)) C (List.mem_of_getElem? (i := 29) rfl) rfl rfl rfl hw4M (Nat.le_of_ble_eq_true rfl) (by decide) rfl (zj_fit_i rfl _) (by unfold zj_ML; repeat first | exact zj_sub_nil | refine zj_sub_cons rfl ?_) (fun w5 hw5M hw5A => ?_)
  exact KRv 52 _ _ (List.mem_of_getElem? (i := 30) rfl) rfl (hw5A.trans (hw4A.trans (hw3A.trans hw2A))) ⟨rfl, ⟨tok, sp, nu, fa, pm, wd, fv, fe, pf, hw5M, ht, hv6, he9, hpl⟩, hbd, hbd2, hbd3.1, by omega, hbd3.2.2⟩
theorem zj_nI_eq {a b : Nat} (ha : a < 2 ^ 31) (hb : b < 2 ^ 31) (h : nI a = nI b) : a = b := by
  have h1 := congrArg Int32.toInt h
  rw [nI_toInt ha, nI_toInt hb] at h1
  omega
def zj_bi (x : Nat) : Nat := if x = 20 then 3 else if x = 21 then 2 else 1
theorem zj_binds_W {l : Launch} {M : zj_M} {ws0 : va_W} {x : Nat} (hx : x ≤ 23) : zj_W l 1 167 (zj_MX M [.int (nI x)] ws0) (fun _ _ _ v ws' => ws0 = ws' ∧ v = some (.int (nI (zj_bi x)))) := by
  refine zj_enterO (md := zx_m167) (ow := zx_oc13) rfl rfl rfl ?_ ?_
  · rintro ex tys av ws ⟨-, rfl, -⟩
    exact Nat.le_of_ble_eq_true rfl
  intro p e R s mi args below meth c Q D A ex nL own cc tys ws av hX C hnL hown KRi KRv KRa
  subst hnL
  obtain ⟨h2, h3, h4⟩ := hX
  subst h2
  subst h3
  subst h4
  refine zj_iload_n C (List.mem_of_getElem? (i := 0) rfl) rfl rfl rfl ?_
  refine zj_bipush (v := 20) C (List.mem_of_getElem? (i := 1) rfl) rfl (by decide) ?_
  refine zj_icmp_ne (tgt := 10) C (List.mem_of_getElem? (i := 2) rfl) rfl (by decide) (fun hb => ?_) (fun hb => ?_)
  rotate_left
  · have hb : x = 20 := zj_nI_eq (by omega) (by decide) hb
    refine zj_iconst (v := 3) C (List.mem_of_getElem? (i := 3) rfl) rfl (by decide) ?_
    refine zj_goto (tgt := 21) C (List.mem_of_getElem? (i := 4) rfl) (by decide) ?_
    exact KRi 21 _ _ _ (List.mem_of_getElem? (i := 11) rfl) (by decide) (Or.inl rfl) rfl ⟨rfl, by rw [hb]; rfl⟩
  have hb : x ≠ 20 := fun h => hb (by rw [h]; rfl)
  refine zj_iload_n C (List.mem_of_getElem? (i := 5) rfl) rfl rfl rfl ?_
  refine zj_bipush (v := 21) C (List.mem_of_getElem? (i := 6) rfl) rfl (by decide) ?_
  refine zj_icmp_ne (tgt := 20) C (List.mem_of_getElem? (i := 7) rfl) rfl (by decide) (fun hb2 => ?_) (fun hb2 => ?_)
  rotate_left
  · have hb2 : x = 21 := zj_nI_eq (by omega) (by decide) hb2
    refine zj_iconst (v := 2) C (List.mem_of_getElem? (i := 8) rfl) rfl (by decide) ?_
    refine zj_goto (tgt := 21) C (List.mem_of_getElem? (i := 9) rfl) (by decide) ?_
    exact KRi 21 _ _ _ (List.mem_of_getElem? (i := 11) rfl) (by decide) (Or.inl rfl) rfl ⟨rfl, by rw [hb2]; rfl⟩
  have hb2 : x ≠ 21 := fun h => hb2 (by rw [h]; rfl)
  refine zj_iconst (v := 1) C (List.mem_of_getElem? (i := 10) rfl) rfl (by decide) ?_
  exact KRi 21 _ _ _ (List.mem_of_getElem? (i := 11) rfl) (by decide) (Or.inl rfl) rfl ⟨rfl, by unfold zj_bi; rw [if_neg hb, if_neg hb2]; rfl⟩
theorem zj_nI_pred (n : Nat) (h : n + 1 < 2 ^ 31) : nI (n + 1) - 1 = nI n := by
  apply Int32.toInt_inj.mp
  have h1 : (nI (n + 1)).toInt = ((n + 1 : Nat) : Int) := nI_toInt h
  have e1 : (1 : Int32).toInt = 1 := rfl
  rw [zx_subI _ _ (by rw [h1, e1]; omega) (by rw [h1, e1]; omega), h1, e1, nI_toInt (by omega)]
  omega
theorem zj_nI_pos1 (n : Nat) (h : n + 1 < 2 ^ 31) : ¬ nI (n + 1) ≤ 0 := by
  rw [Int32.le_iff_toInt_le, nI_toInt h]
  have e0 : (0 : Int32).toInt = 0 := rfl
  rw [e0]
  omega
/-- what waits and binds so much comes down -/
def zj_dn (b : Nat) : List Nat → List Nat
  | [] => []
  | x :: r => if x ≠ 23 ∧ b ≤ zj_bi x then zj_dn b r else x :: r
theorem zj_dn_len {b : Nat} : ∀ (P : List Nat), (zj_dn b P).length ≤ P.length
  | [] => Nat.le_refl _
  | x :: r => by
    rw [zj_dn]
    split
    · have := zj_dn_len (b := b) r
      rw [List.length_cons]
      omega
    · exact Nat.le_refl _
set_option maxHeartbeats 2000000 in
theorem zj_down_W {l : Launch} {M : zj_M} {ws0 : va_W} {tk : zj_T} {d1 l1 f1 o1 st : Nat} {P : List Nat} {fk : Int32} {b : Nat} (h0 : zj_mr true M ws0 tk d1 l1 f1 o1 st P fk) (hb3 : b ≤ 3) : zj_W l 2 166 (zj_MX M [.ref M.aM, .int (nI b)] ws0) (fun _ _ _ v ws' => v = none ∧ zj_mr true M ws' tk d1 l1 f1 o1 (st + P.length - (zj_dn b P).length) (zj_dn b P) fk) := by
  refine zj_enterO (md := zx_m166) (ow := zx_oc13) rfl rfl rfl ?_ ?_
  · rintro ex tys av ws ⟨-, rfl, -⟩
    exact Nat.le_of_ble_eq_true rfl
  intro p e R s mi args below meth c Q D A ex nL own cc tys ws av hX C hnL hown KRi KRv KRa
  subst hnL
  obtain ⟨h2, h3, h4⟩ := hX
  subst h2
  subst h3
  subst h4
  have loop : ∀ (Q0 : List Nat) (st1 : Nat) (ws1 : va_W), zj_mr true M ws1 tk d1 l1 f1 o1 st1 Q0 fk → zx_as ws1 = zx_as ws → zj_dn b Q0 = zj_dn b P → st1 + Q0.length = st + P.length → zj_go p l e R s mi args below meth c Q D A (zx_mV zx_m166.2.1) 0 [(0, .ref M.aM), (1, .int (nI b))] [] ws1 := by
    intro Q0
    induction Q0 with
    | nil =>
      intro st1 ws1 h1 hA hdn hsum
      have h11 := h1
      obtain ⟨⟨tok, sp, nu, fa, pm, wd, fv, fe, pf, hM, ht, hv6, he9, hpl⟩, hbd, hbd2, hbd3⟩ := h1
      obtain ⟨hpm, hpl⟩ := hpl
      subst hpm
      refine zj_aload_n C (List.mem_of_getElem? (i := 0) rfl) rfl rfl rfl ?_
      refine zj_getM C (List.mem_of_getElem? (i := 1) rfl) rfl rfl rfl hM rfl ?_
      refine zj_if_le (tgt := 69) C (List.mem_of_getElem? (i := 2) rfl) rfl (by decide) (fun hb => ?_) (fun hb => ?_)
      · have hl : (zj_dn b P).length = 0 := by rw [← hdn]; rfl
        have hs : st + P.length - (zj_dn b P).length = st1 := by rw [List.length_nil] at hsum; omega
        exact KRv 69 _ _ (List.mem_of_getElem? (i := 38) rfl) rfl hA ⟨rfl, by rw [hs, ← hdn]; exact h11⟩
      exact absurd (Int32.le_refl 0) hb
    | cons x r ih =>
      intro st1 ws1 h1 hA hdn hsum
      have h11 := h1
      obtain ⟨⟨tok, sp, nu, fa, pm, wd, fv, fe, pf, hM, ht, hv6, he9, hpl⟩, hbd, hbd2, hbd3⟩ := h1
      obtain ⟨hpm, hpl⟩ := hpl
      subst hpm
      obtain ⟨hpx, hx20, hpr⟩ := hpl
      rw [List.length_cons] at hsum
      have hlen : (x :: r).length = r.length + 1 := List.length_cons
      rw [hlen] at hM hbd3
      have hsub : nI (r.length + 1) - 1 = nI r.length := zj_nI_pred r.length (by omega)
      have stop : zj_dn b (x :: r) = x :: r → zj_go p l e R s mi args below meth c Q D A (zx_mV zx_m166.2.1) 69 [(0, .ref M.aM), (1, .int (nI b))] [] ws1 := by
        intro hs0
        rw [hs0] at hdn
        have hl : (zj_dn b P).length = r.length + 1 := by rw [← hdn]; rfl
        have hs : st + P.length - (zj_dn b P).length = st1 := by omega
        exact KRv 69 _ _ (List.mem_of_getElem? (i := 38) rfl) rfl hA ⟨rfl, by rw [hs, ← hdn]; exact h11⟩
      refine zj_aload_n C (List.mem_of_getElem? (i := 0) rfl) rfl rfl rfl ?_
      refine zj_getM C (List.mem_of_getElem? (i := 1) rfl) rfl rfl rfl hM rfl ?_
      refine zj_if_le (tgt := 69) C (List.mem_of_getElem? (i := 2) rfl) rfl (by decide) (fun hb => ?_) (fun hb => ?_)
      · exact absurd hb (zj_nI_pos1 _ (by omega))
      refine zj_aload_n C (List.mem_of_getElem? (i := 3) rfl) rfl rfl rfl ?_
      refine zj_getM C (List.mem_of_getElem? (i := 4) rfl) rfl rfl rfl hM rfl ?_
      refine zj_aload_n C (List.mem_of_getElem? (i := 5) rfl) rfl rfl rfl ?_
      refine zj_getM C (List.mem_of_getElem? (i := 6) rfl) rfl rfl rfl hM rfl ?_
      refine zj_iconst (v := 1) C (List.mem_of_getElem? (i := 7) rfl) rfl (by decide) ?_
      refine zj_isub (v := (nI r.length)) C (List.mem_of_getElem? (i := 8) rfl) rfl hsub ?_
      refine zj_iald (v := (nI x)) C (List.mem_of_getElem? (i := 9) rfl) rfl hM.2.2.2.2.1 (vp_in_nI (by omega) (by decide)) (by rw [nI_clamp (by omega)]; exact hpx) ?_
      refine zj_bipush (v := 23) C (List.mem_of_getElem? (i := 10) rfl) rfl (by decide) ?_
      refine zj_icmp_eq (tgt := 69) C (List.mem_of_getElem? (i := 11) rfl) rfl (by decide) (fun hb2 => ?_) (fun hb2 => ?_)
      · have hb2 : x = 23 := zj_nI_eq (by omega) (by decide) hb2
        exact stop (by rw [zj_dn, if_neg (fun h => h.1 hb2)])
      have hb2 : x ≠ 23 := fun h => hb2 (by rw [h]; rfl)
      refine zj_aload_n C (List.mem_of_getElem? (i := 12) rfl) rfl rfl rfl ?_
      refine zj_getM C (List.mem_of_getElem? (i := 13) rfl) rfl rfl rfl hM rfl ?_
      refine zj_aload_n C (List.mem_of_getElem? (i := 14) rfl) rfl rfl rfl ?_
      refine zj_getM C (List.mem_of_getElem? (i := 15) rfl) rfl rfl rfl hM rfl ?_
      refine zj_iconst (v := 1) C (List.mem_of_getElem? (i := 16) rfl) rfl (by decide) ?_
      refine zj_isub (v := (nI r.length)) C (List.mem_of_getElem? (i := 17) rfl) rfl hsub ?_
      refine zj_iald (v := (nI x)) C (List.mem_of_getElem? (i := 18) rfl) rfl hM.2.2.2.2.1 (vp_in_nI (by omega) (by decide)) (by rw [nI_clamp (by omega)]; exact hpx) ?_
      refine zj_callS (As := [.int (nI x)]) (rest := []) C (List.mem_of_getElem? (i := 19) rfl) rfl rfl (Or.inl rfl) (zj_W_mono (zj_binds_W (M := M) (ws0 := ws1) (x := x) (by omega)) (by decide)) rfl rfl (Nat.le_of_ble_eq_true rfl) rfl ⟨rfl, rfl, rfl⟩ (fun v w2 hw2A hw2Z => ?_)
      obtain ⟨hw, hv⟩ := hw2Z
      subst hw
      subst hv
      have hbi : zj_bi x ≤ 3 := by unfold zj_bi; split; decide; split <;> decide
      refine zj_iload_n C (List.mem_of_getElem? (i := 20) rfl) rfl rfl rfl ?_
      refine zj_icmp_lt (tgt := 69) C (List.mem_of_getElem? (i := 21) rfl) rfl (by decide) (fun hb3 => ?_) (fun hb3 => ?_)
      · have hb3 : zj_bi x < b := (nI_ltI (by omega) (by omega)).mp hb3
        exact stop (by rw [zj_dn, if_neg (fun h => by omega)])
      have hb4 : b ≤ zj_bi x := by
        rcases Nat.lt_or_ge (zj_bi x) b with h | h
        · exact absurd (nI_lt h (by omega)) hb3
        · exact h
      rw [zj_dn, if_pos ⟨hb2, hb4⟩] at hdn
      refine zj_aload_n C (List.mem_of_getElem? (i := 22) rfl) rfl rfl rfl ?_
      refine zj_dup C (List.mem_of_getElem? (i := 23) rfl) rfl rfl ?_
      refine zj_getM C (List.mem_of_getElem? (i := 24) rfl) rfl rfl rfl hM rfl ?_
      refine zj_iconst (v := 1) C (List.mem_of_getElem? (i := 25) rfl) rfl (by decide) ?_
      refine zj_isub (v := (nI r.length)) C (List.mem_of_getElem? (i := 26) rfl) rfl hsub ?_
      refine zj_putM (L' := (zj_ML M (nI M.t) (nI tk.2.2.2) tok (nI tk.2.2.1) sp nu wd fk fa (nI d1) (nI o1) (nI st1) (nI r.length))) C (List.mem_of_getElem? (i := 27) rfl) rfl rfl rfl hM (Nat.le_of_ble_eq_true rfl) (by decide) rfl (zj_fit_i rfl _) (by unfold zj_ML; repeat first | exact zj_sub_nil | refine zj_sub_cons rfl ?_) (fun w3 hw3M hw3A => ?_)
      refine zj_aload_n C (List.mem_of_getElem? (i := 28) rfl) rfl rfl rfl ?_
      refine zj_aload_n C (List.mem_of_getElem? (i := 29) rfl) rfl rfl rfl ?_
      refine zj_getM C (List.mem_of_getElem? (i := 30) rfl) rfl rfl rfl hw3M rfl ?_
      refine zj_aload_n C (List.mem_of_getElem? (i := 31) rfl) rfl rfl rfl ?_
      refine zj_getM C (List.mem_of_getElem? (i := 32) rfl) rfl rfl rfl hw3M rfl ?_
      refine zj_iald (v := (nI x)) C (List.mem_of_getElem? (i := 33) rfl) rfl hw3M.2.2.2.2.1 (vp_in_nI (by omega) (by decide)) (by rw [nI_clamp (by omega)]; exact hpx) ?_
      refine zj_iconst (v := 0) C (List.mem_of_getElem? (i := 34) rfl) rfl (by decide) ?_
      refine zj_iconst (v := 0) C (List.mem_of_getElem? (i := 35) rfl) rfl (by decide) ?_
      have h3 : zj_mr true M w3 tk d1 l1 f1 o1 st1 r fk := ⟨⟨tok, sp, nu, fa, _, wd, fv, fe, pf, hw3M, ht, hv6, he9, rfl, hpr⟩, hbd, hbd2, hbd3.1, by omega, by omega⟩
      have hO := hw3M
      obtain ⟨⟨fsO, hO0, -⟩, -⟩ := hO
      refine zj_callV (As := [.int (nI x), .int 0, .int 0]) (rest := []) C (List.mem_of_getElem? (i := 36) rfl) rfl rfl rfl (by decide) (zj_W_mono (zj_write_W (xa := nI x) (xb := 0) (xc := 0) h3 (by omega)) (by decide)) rfl rfl hO0 rfl (Nat.le_of_ble_eq_true rfl) rfl ⟨rfl, rfl, rfl⟩ (fun v w4 hw4A hw4Z => ?_)
      obtain ⟨hv, h4⟩ := hw4Z
      subst hv
      refine zj_goto (tgt := 0) C (List.mem_of_getElem? (i := 37) rfl) (by decide) ?_
      exact ih (st1 + 1) w4 h4 (hw4A.trans (hw3A.trans hA)) hdn (by omega)
  exact loop P st ws h0 rfl rfl rfl
/-- how many are open among the lowest -/
theorem zj_pl_at {f : Nat → Int32} : ∀ (P : List Nat) (j : Nat), zj_pl f P → j < P.length → ∃ x R, P.drop (P.length - (j + 1)) = x :: R ∧ R = P.drop (P.length - j) ∧ f j = nI x ∧ 20 ≤ x ∧ x ≤ 23
  | [], j, _, h => absurd h (Nat.not_lt_zero _)
  | y :: r, j, h1, h2 => by
    obtain ⟨h3, h4, h5⟩ := h1
    rw [List.length_cons] at h2
    by_cases hj : j = r.length
    · subst hj
      refine ⟨y, r, ?_, ?_, h3, h4⟩
      · rw [List.length_cons, Nat.sub_self]; rfl
      · rw [List.length_cons, show r.length + 1 - r.length = 1 by omega]; rfl
    · obtain ⟨x, R, g1, g2, g3⟩ := zj_pl_at r j h5 (by omega)
      refine ⟨x, R, ?_, ?_, g3⟩
      · rw [List.length_cons, show r.length + 1 - (j + 1) = (r.length - (j + 1)) + 1 by omega, List.drop_succ_cons]; exact g1
      · rw [List.length_cons, show r.length + 1 - j = (r.length - j) + 1 by omega, List.drop_succ_cons]; exact g2
theorem zj_os_len : ∀ (P : List Nat), (zj_os P).length ≤ P.length
  | [] => Nat.le_refl _
  | x :: r => by
    have h := zj_os_len r
    rw [zj_os, List.length_cons]
    split
    · rw [List.length_cons]; omega
    · split
      · rw [List.length_cons]; omega
      · omega
set_option maxHeartbeats 2000000 in
theorem zj_open_W {l : Launch} {M : zj_M} {ws0 : va_W} {tk : zj_T} {d1 l1 f1 o1 st : Nat} {P : List Nat} {fk : Int32} (h0 : zj_mr true M ws0 tk d1 l1 f1 o1 st P fk) : zj_W l 1 164 (zj_MX M [.ref M.aM] ws0) (fun _ _ _ v ws' => ws0 = ws' ∧ v = some (.int (nI (zj_os P).length))) := by
  refine zj_enterO (md := zx_m164) (ow := zx_oc13) rfl rfl rfl ?_ ?_
  · rintro ex tys av ws ⟨-, rfl, -⟩
    exact Nat.le_of_ble_eq_true rfl
  intro p e R s mi args below meth c Q D A ex nL own cc tys ws av hX C hnL hown KRi KRv KRa
  subst hnL
  obtain ⟨h2, h3, h4⟩ := hX
  subst h2
  subst h3
  subst h4
  obtain ⟨⟨tok, sp, nu, fa, pm, wd, fv, fe, pf, hM, ht, hv6, he9, hpl⟩, hbd, hbd2, hbd3⟩ := h0
  obtain ⟨hpm, hpl⟩ := hpl
  subst hpm
  have loop : ∀ (N j : Nat), P.length - j ≤ N → j ≤ P.length → zj_go p l e R s mi args below meth c Q D A (zx_mV zx_m164.2.1) 4 [(2, .int (nI j)), (1, .int (nI (zj_os (P.drop (P.length - j))).length)), (0, .ref M.aM)] [] ws := by
    intro N
    induction N with
    | zero =>
      intro j hN hj
      refine zj_iload_n C (List.mem_of_getElem? (i := 4) rfl) rfl rfl rfl ?_
      refine zj_aload_n C (List.mem_of_getElem? (i := 5) rfl) rfl rfl rfl ?_
      refine zj_getM C (List.mem_of_getElem? (i := 6) rfl) rfl rfl rfl hM rfl ?_
      refine zj_icmp_ge (tgt := 48) C (List.mem_of_getElem? (i := 7) rfl) rfl (by decide) (fun hb => ?_) (fun hb => ?_)
      · have hb : P.length ≤ j := (nI_leI (by omega) (by omega)).mp hb
        refine zj_iload_n C (List.mem_of_getElem? (i := 28) rfl) rfl rfl rfl ?_
        exact KRi 49 _ _ _ (List.mem_of_getElem? (i := 29) rfl) (by decide) (Or.inl rfl) rfl ⟨rfl, by rw [show P.length - j = 0 by omega]; rfl⟩
      exact absurd (nI_le (by omega) (by omega)) hb
    | succ N ih =>
      intro j hN hj
      refine zj_iload_n C (List.mem_of_getElem? (i := 4) rfl) rfl rfl rfl ?_
      refine zj_aload_n C (List.mem_of_getElem? (i := 5) rfl) rfl rfl rfl ?_
      refine zj_getM C (List.mem_of_getElem? (i := 6) rfl) rfl rfl rfl hM rfl ?_
      refine zj_icmp_ge (tgt := 48) C (List.mem_of_getElem? (i := 7) rfl) rfl (by decide) (fun hb => ?_) (fun hb => ?_)
      · have hb : P.length ≤ j := (nI_leI (by omega) (by omega)).mp hb
        refine zj_iload_n C (List.mem_of_getElem? (i := 28) rfl) rfl rfl rfl ?_
        exact KRi 49 _ _ _ (List.mem_of_getElem? (i := 29) rfl) (by decide) (Or.inl rfl) rfl ⟨rfl, by rw [show P.length - j = 0 by omega]; rfl⟩
      have hb : j < P.length := by
        rcases Nat.lt_or_ge j P.length with h | h
        · exact h
        · exact absurd (nI_le h (by omega)) hb
      obtain ⟨x, R2, g1, g2, g3, g4, g5⟩ := zj_pl_at P j hpl hb
      have hnx := ih (j + 1) (by omega) (by omega)
      rw [g1] at hnx
      have hol := zj_os_len R2
      have hrl : R2.length = j := by rw [g2, List.length_drop]; omega
      refine zj_iload_n C (List.mem_of_getElem? (i := 8) rfl) rfl rfl rfl ?_
      refine zj_aload_n C (List.mem_of_getElem? (i := 9) rfl) rfl rfl rfl ?_
      refine zj_getM C (List.mem_of_getElem? (i := 10) rfl) rfl rfl rfl hM rfl ?_
      refine zj_iload_n C (List.mem_of_getElem? (i := 11) rfl) rfl rfl rfl ?_
      refine zj_iald (v := (nI x)) C (List.mem_of_getElem? (i := 12) rfl) rfl hM.2.2.2.2.1 (vp_in_nI (by omega) (by decide)) (by rw [nI_clamp (by omega)]; exact g3) ?_
      refine zj_bipush (v := 20) C (List.mem_of_getElem? (i := 13) rfl) rfl (by decide) ?_
      refine zj_icmp_eq (tgt := 35) C (List.mem_of_getElem? (i := 14) rfl) rfl (by decide) (fun hc => ?_) (fun hc => ?_)
      · have hc : x = 20 := zj_nI_eq (by omega) (by decide) hc
        refine zj_iconst (v := 1) C (List.mem_of_getElem? (i := 21) rfl) rfl (by decide) ?_
        refine zj_goto (tgt := 40) C (List.mem_of_getElem? (i := 22) rfl) (by decide) ?_
        refine zj_iadd (v := (nI (zj_os (x :: R2)).length)) C (List.mem_of_getElem? (i := 24) rfl) rfl (by rw [← g2, zj_os, if_pos hc]; exact nI_1 _) ?_
        refine zj_istore_n C (List.mem_of_getElem? (i := 25) rfl) rfl rfl (by decide) rfl ?_
        refine zj_iinc (k := 1) (v := (nI (j + 1))) C (List.mem_of_getElem? (i := 26) rfl) rfl rfl (nI_succ j).symm (by decide) rfl ?_
        refine zj_goto (tgt := 4) C (List.mem_of_getElem? (i := 27) rfl) (by decide) ?_
        exact hnx
      have hc : x ≠ 20 := fun h => hc (by rw [h]; rfl)
      refine zj_aload_n C (List.mem_of_getElem? (i := 15) rfl) rfl rfl rfl ?_
      refine zj_getM C (List.mem_of_getElem? (i := 16) rfl) rfl rfl rfl hM rfl ?_
      refine zj_iload_n C (List.mem_of_getElem? (i := 17) rfl) rfl rfl rfl ?_
      refine zj_iald (v := (nI x)) C (List.mem_of_getElem? (i := 18) rfl) rfl hM.2.2.2.2.1 (vp_in_nI (by omega) (by decide)) (by rw [nI_clamp (by omega)]; exact g3) ?_
      refine zj_bipush (v := 23) C (List.mem_of_getElem? (i := 19) rfl) rfl (by decide) ?_
      refine zj_icmp_ne (tgt := 39) C (List.mem_of_getElem? (i := 20) rfl) rfl (by decide) (fun hc2 => ?_) (fun hc2 => ?_)
      rotate_left
      · have hc2 : x = 23 := zj_nI_eq (by omega) (by decide) hc2
        refine zj_iconst (v := 1) C (List.mem_of_getElem? (i := 21) rfl) rfl (by decide) ?_
        refine zj_goto (tgt := 40) C (List.mem_of_getElem? (i := 22) rfl) (by decide) ?_
        refine zj_iadd (v := (nI (zj_os (x :: R2)).length)) C (List.mem_of_getElem? (i := 24) rfl) rfl (by rw [← g2, zj_os, if_neg hc, if_pos hc2]; exact nI_1 _) ?_
        refine zj_istore_n C (List.mem_of_getElem? (i := 25) rfl) rfl rfl (by decide) rfl ?_
        refine zj_iinc (k := 1) (v := (nI (j + 1))) C (List.mem_of_getElem? (i := 26) rfl) rfl rfl (nI_succ j).symm (by decide) rfl ?_
        refine zj_goto (tgt := 4) C (List.mem_of_getElem? (i := 27) rfl) (by decide) ?_
        exact hnx
      have hc2 : x ≠ 23 := fun h => hc2 (by rw [h]; rfl)
      refine zj_iconst (v := 0) C (List.mem_of_getElem? (i := 23) rfl) rfl (by decide) ?_
      refine zj_iadd (v := (nI (zj_os (x :: R2)).length)) C (List.mem_of_getElem? (i := 24) rfl) rfl (by rw [← g2, zj_os, if_neg hc, if_neg hc2]; exact Int32.add_zero _) ?_
      refine zj_istore_n C (List.mem_of_getElem? (i := 25) rfl) rfl rfl (by decide) rfl ?_
      refine zj_iinc (k := 1) (v := (nI (j + 1))) C (List.mem_of_getElem? (i := 26) rfl) rfl rfl (nI_succ j).symm (by decide) rfl ?_
      refine zj_goto (tgt := 4) C (List.mem_of_getElem? (i := 27) rfl) (by decide) ?_
      exact hnx
  refine zj_iconst (v := 0) C (List.mem_of_getElem? (i := 0) rfl) rfl (by decide) ?_
  refine zj_istore_n C (List.mem_of_getElem? (i := 1) rfl) rfl rfl (by decide) rfl ?_
  refine zj_iconst (v := 0) C (List.mem_of_getElem? (i := 2) rfl) rfl (by decide) ?_
  refine zj_istore_n C (List.mem_of_getElem? (i := 3) rfl) rfl rfl (by decide) rfl ?_
  have h5 := loop P.length 0 (by omega) (by omega)
  rw [Nat.sub_zero, List.drop_length] at h5
  exact h5
theorem zj_os_drop : ∀ (P : List Nat) (i : Nat), false ∈ zj_os (P.drop i) → false ∈ zj_os P
  | [], i, h => by rw [List.drop_nil] at h; exact h
  | x :: r, 0, h => h
  | x :: r, i + 1, h => by
    rw [List.drop_succ_cons] at h
    have h1 := zj_os_drop r i h
    rw [zj_os]
    split
    · exact List.mem_cons_of_mem _ h1
    · split
      · exact List.mem_cons_of_mem _ h1
      · exact h1
set_option maxHeartbeats 2000000 in
theorem zj_isOpen_W {l : Launch} {M : zj_M} {ws0 : va_W} {tk : zj_T} {d1 l1 f1 o1 st : Nat} {P : List Nat} {fk : Int32} (h0 : zj_mr true M ws0 tk d1 l1 f1 o1 st P fk) : zj_W l 1 168 (zj_MX M [.ref M.aM] ws0) (fun _ _ _ v ws' => ws0 = ws' ∧ ((v = some (.int 1) ∧ false ∈ zj_os P) ∨ (v = some (.int 0) ∧ ¬ false ∈ zj_os P))) := by
  refine zj_enterO (md := zx_m168) (ow := zx_oc13) rfl rfl rfl ?_ ?_
  · rintro ex tys av ws ⟨-, rfl, -⟩
    exact Nat.le_of_ble_eq_true rfl
  intro p e R s mi args below meth c Q D A ex nL own cc tys ws av hX C hnL hown KRi KRv KRa
  subst hnL
  obtain ⟨h2, h3, h4⟩ := hX
  subst h2
  subst h3
  subst h4
  obtain ⟨⟨tok, sp, nu, fa, pm, wd, fv, fe, pf, hM, ht, hv6, he9, hpl⟩, hbd, hbd2, hbd3⟩ := h0
  obtain ⟨hpm, hpl⟩ := hpl
  subst hpm
  have loop : ∀ (N j : Nat), P.length - j ≤ N → j ≤ P.length → ¬ false ∈ zj_os (P.drop (P.length - j)) → zj_go p l e R s mi args below meth c Q D A (zx_mV zx_m168.2.1) 2 [(1, .int (nI j)), (0, .ref M.aM)] [] ws := by
    intro N
    induction N with
    | zero =>
      intro j hN hj hno
      refine zj_iload_n C (List.mem_of_getElem? (i := 2) rfl) rfl rfl rfl ?_
      refine zj_aload_n C (List.mem_of_getElem? (i := 3) rfl) rfl rfl rfl ?_
      refine zj_getM C (List.mem_of_getElem? (i := 4) rfl) rfl rfl rfl hM rfl ?_
      refine zj_icmp_ge (tgt := 29) C (List.mem_of_getElem? (i := 5) rfl) rfl (by decide) (fun hb => ?_) (fun hb => ?_)
      · have hb : P.length ≤ j := (nI_leI (by omega) (by omega)).mp hb
        refine zj_iconst (v := 0) C (List.mem_of_getElem? (i := 16) rfl) rfl (by decide) ?_
        rw [show P.length - j = 0 by omega, List.drop_zero] at hno
        exact KRi 30 _ _ _ (List.mem_of_getElem? (i := 17) rfl) (by decide) (Or.inr ⟨rfl, Or.inl rfl⟩) rfl ⟨rfl, Or.inr ⟨rfl, hno⟩⟩
      exact absurd (nI_le (by omega) (by omega)) hb
    | succ N ih =>
      intro j hN hj hno
      refine zj_iload_n C (List.mem_of_getElem? (i := 2) rfl) rfl rfl rfl ?_
      refine zj_aload_n C (List.mem_of_getElem? (i := 3) rfl) rfl rfl rfl ?_
      refine zj_getM C (List.mem_of_getElem? (i := 4) rfl) rfl rfl rfl hM rfl ?_
      refine zj_icmp_ge (tgt := 29) C (List.mem_of_getElem? (i := 5) rfl) rfl (by decide) (fun hb => ?_) (fun hb => ?_)
      · have hb : P.length ≤ j := (nI_leI (by omega) (by omega)).mp hb
        refine zj_iconst (v := 0) C (List.mem_of_getElem? (i := 16) rfl) rfl (by decide) ?_
        rw [show P.length - j = 0 by omega, List.drop_zero] at hno
        exact KRi 30 _ _ _ (List.mem_of_getElem? (i := 17) rfl) (by decide) (Or.inr ⟨rfl, Or.inl rfl⟩) rfl ⟨rfl, Or.inr ⟨rfl, hno⟩⟩
      have hb : j < P.length := by
        rcases Nat.lt_or_ge j P.length with h | h
        · exact h
        · exact absurd (nI_le h (by omega)) hb
      obtain ⟨x, R2, g1, g2, g3, g4, g5⟩ := zj_pl_at P j hpl hb
      refine zj_aload_n C (List.mem_of_getElem? (i := 6) rfl) rfl rfl rfl ?_
      refine zj_getM C (List.mem_of_getElem? (i := 7) rfl) rfl rfl rfl hM rfl ?_
      refine zj_iload_n C (List.mem_of_getElem? (i := 8) rfl) rfl rfl rfl ?_
      refine zj_iald (v := (nI x)) C (List.mem_of_getElem? (i := 9) rfl) rfl hM.2.2.2.2.1 (vp_in_nI (by omega) (by decide)) (by rw [nI_clamp (by omega)]; exact g3) ?_
      refine zj_bipush (v := 23) C (List.mem_of_getElem? (i := 10) rfl) rfl (by decide) ?_
      refine zj_icmp_ne (tgt := 23) C (List.mem_of_getElem? (i := 11) rfl) rfl (by decide) (fun hc => ?_) (fun hc => ?_)
      rotate_left
      · have hc : x = 23 := zj_nI_eq (by omega) (by decide) hc
        refine zj_iconst (v := 1) C (List.mem_of_getElem? (i := 12) rfl) rfl (by decide) ?_
        exact KRi 22 _ _ _ (List.mem_of_getElem? (i := 13) rfl) (by decide) (Or.inr ⟨rfl, Or.inr rfl⟩) rfl ⟨rfl, Or.inl ⟨rfl, zj_os_drop P (P.length - (j + 1)) (by rw [g1, zj_os, if_neg (by omega), if_pos hc]; exact List.mem_cons_self)⟩⟩
      have hc : x ≠ 23 := fun h => hc (by rw [h]; rfl)
      refine zj_iinc (k := 0) (v := (nI (j + 1))) C (List.mem_of_getElem? (i := 14) rfl) rfl rfl (nI_succ j).symm (by decide) rfl ?_
      refine zj_goto (tgt := 2) C (List.mem_of_getElem? (i := 15) rfl) (by decide) ?_
      refine ih (j + 1) (by omega) (by omega) ?_
      rw [g1, zj_os]
      rw [← g2] at hno
      split
      · intro h
        rcases List.mem_cons.mp h with h | h
        · cases h
        · exact hno h
      · first
          | exact hno
          | (rw [if_neg hc]; exact hno)
  refine zj_iconst (v := 0) C (List.mem_of_getElem? (i := 0) rfl) rfl (by decide) ?_
  refine zj_istore_n C (List.mem_of_getElem? (i := 1) rfl) rfl rfl (by decide) rfl ?_
  exact loop P.length 0 (by omega) (by omega) (by rw [Nat.sub_zero, List.drop_length]; exact List.not_mem_nil)
theorem zj_atom_W {l : Launch} {u : Bool} {M : zj_M} {ws0 : va_W} {tk : zj_T} {d1 l1 f1 o1 st : Nat} {P : List Nat} {fk : Int32} (h0 : zj_mr u M ws0 tk d1 l1 f1 o1 st P fk) : zj_W l 2 162 (zj_MX M [.ref M.aM] ws0) (fun _ _ _ v ws' => ws0 = ws' ∧ ((∃ a, tk.1 = 11 + a ∧ a < 10 ∧ v = some (.int (nI a))) ∨ (¬ (11 ≤ tk.1 ∧ tk.1 ≤ 20) ∧ v = some (.int (-1))))) := by
  have h00 := h0
  refine zj_enterO (md := zx_m162) (ow := zx_oc13) rfl rfl rfl ?_ ?_
  · rintro ex tys av ws ⟨-, rfl, -⟩
    exact Nat.le_of_ble_eq_true rfl
  intro p e R s mi args below meth c Q D A ex nL own cc tys ws av hX C hnL hown KRi KRv KRa
  subst hnL
  obtain ⟨h2, h3, h4⟩ := hX
  subst h2
  subst h3
  subst h4
  obtain ⟨⟨tok, sp, nu, fa, pm, wd, fv, fe, pf, hM, ht, hv6, he9, hpl⟩, hbd, hbd2, hbd3⟩ := h0
  refine zj_aload_n C (List.mem_of_getElem? (i := 0) rfl) rfl rfl rfl ?_
  refine zj_ldc2 (v := zj_wc 11) C (List.mem_of_getElem? (i := 1) rfl) rfl (zj_long hown (k := 11) (ix := 361) (by decide)) ?_
  have hO := hM
  obtain ⟨⟨fsO, hO0, -⟩, -⟩ := hO
  refine zj_callV (As := [.long (zj_wc 11)]) (rest := []) C (List.mem_of_getElem? (i := 2) rfl) rfl rfl rfl (by decide) (zj_W_mono (zj_isWord_W (k := 11) h00 (by decide)) (by decide)) rfl rfl hO0 rfl (Nat.le_of_ble_eq_true rfl) rfl ⟨rfl, rfl, rfl⟩ (fun v w2 hw2A hw2Z => ?_)
  obtain ⟨hw, hv⟩ := hw2Z
  subst hw
  rcases hv with ⟨hv, hc11⟩ | ⟨hv, hc11⟩
  · subst hv
    refine zj_if_eq (tgt := 12) C (List.mem_of_getElem? (i := 3) rfl) rfl (by decide) (fun hd => ?_) (fun hd => ?_)
    · exact absurd hd (by decide)
    refine zj_iconst (v := 0) C (List.mem_of_getElem? (i := 4) rfl) rfl (by decide) ?_
    exact KRi 11 _ _ _ (List.mem_of_getElem? (i := 5) rfl) (by decide) (Or.inl rfl) rfl ⟨rfl, Or.inl ⟨0, hc11, by decide, rfl⟩⟩
  subst hv
  refine zj_if_eq (tgt := 12) C (List.mem_of_getElem? (i := 3) rfl) rfl (by decide) (fun hd => ?_) (fun hd => ?_)
  rotate_left
  · exact absurd rfl hd
  refine zj_aload_n C (List.mem_of_getElem? (i := 6) rfl) rfl rfl rfl ?_
  refine zj_ldc2 (v := zj_wc 12) C (List.mem_of_getElem? (i := 7) rfl) rfl (zj_long hown (k := 12) (ix := 363) (by decide)) ?_
  have hO := hM
  obtain ⟨⟨fsO, hO0, -⟩, -⟩ := hO
  refine zj_callV (As := [.long (zj_wc 12)]) (rest := []) C (List.mem_of_getElem? (i := 8) rfl) rfl rfl rfl (by decide) (zj_W_mono (zj_isWord_W (k := 12) h00 (by decide)) (by decide)) rfl rfl hO0 rfl (Nat.le_of_ble_eq_true rfl) rfl ⟨rfl, rfl, rfl⟩ (fun v w2 hw2A hw2Z => ?_)
  obtain ⟨hw, hv⟩ := hw2Z
  subst hw
  rcases hv with ⟨hv, hc12⟩ | ⟨hv, hc12⟩
  · subst hv
    refine zj_if_eq (tgt := 24) C (List.mem_of_getElem? (i := 9) rfl) rfl (by decide) (fun hd => ?_) (fun hd => ?_)
    · exact absurd hd (by decide)
    refine zj_iconst (v := 1) C (List.mem_of_getElem? (i := 10) rfl) rfl (by decide) ?_
    exact KRi 23 _ _ _ (List.mem_of_getElem? (i := 11) rfl) (by decide) (Or.inl rfl) rfl ⟨rfl, Or.inl ⟨1, hc12, by decide, rfl⟩⟩
  subst hv
  refine zj_if_eq (tgt := 24) C (List.mem_of_getElem? (i := 9) rfl) rfl (by decide) (fun hd => ?_) (fun hd => ?_)
  rotate_left
  · exact absurd rfl hd
  refine zj_aload_n C (List.mem_of_getElem? (i := 12) rfl) rfl rfl rfl ?_
  refine zj_ldc2 (v := zj_wc 13) C (List.mem_of_getElem? (i := 13) rfl) rfl (zj_long hown (k := 13) (ix := 365) (by decide)) ?_
  have hO := hM
  obtain ⟨⟨fsO, hO0, -⟩, -⟩ := hO
  refine zj_callV (As := [.long (zj_wc 13)]) (rest := []) C (List.mem_of_getElem? (i := 14) rfl) rfl rfl rfl (by decide) (zj_W_mono (zj_isWord_W (k := 13) h00 (by decide)) (by decide)) rfl rfl hO0 rfl (Nat.le_of_ble_eq_true rfl) rfl ⟨rfl, rfl, rfl⟩ (fun v w2 hw2A hw2Z => ?_)
  obtain ⟨hw, hv⟩ := hw2Z
  subst hw
  rcases hv with ⟨hv, hc13⟩ | ⟨hv, hc13⟩
  · subst hv
    refine zj_if_eq (tgt := 36) C (List.mem_of_getElem? (i := 15) rfl) rfl (by decide) (fun hd => ?_) (fun hd => ?_)
    · exact absurd hd (by decide)
    refine zj_iconst (v := 2) C (List.mem_of_getElem? (i := 16) rfl) rfl (by decide) ?_
    exact KRi 35 _ _ _ (List.mem_of_getElem? (i := 17) rfl) (by decide) (Or.inl rfl) rfl ⟨rfl, Or.inl ⟨2, hc13, by decide, rfl⟩⟩
  subst hv
  refine zj_if_eq (tgt := 36) C (List.mem_of_getElem? (i := 15) rfl) rfl (by decide) (fun hd => ?_) (fun hd => ?_)
  rotate_left
  · exact absurd rfl hd
  refine zj_aload_n C (List.mem_of_getElem? (i := 18) rfl) rfl rfl rfl ?_
  refine zj_ldc2 (v := zj_wc 14) C (List.mem_of_getElem? (i := 19) rfl) rfl (zj_long hown (k := 14) (ix := 367) (by decide)) ?_
  have hO := hM
  obtain ⟨⟨fsO, hO0, -⟩, -⟩ := hO
  refine zj_callV (As := [.long (zj_wc 14)]) (rest := []) C (List.mem_of_getElem? (i := 20) rfl) rfl rfl rfl (by decide) (zj_W_mono (zj_isWord_W (k := 14) h00 (by decide)) (by decide)) rfl rfl hO0 rfl (Nat.le_of_ble_eq_true rfl) rfl ⟨rfl, rfl, rfl⟩ (fun v w2 hw2A hw2Z => ?_)
  obtain ⟨hw, hv⟩ := hw2Z
  subst hw
  rcases hv with ⟨hv, hc14⟩ | ⟨hv, hc14⟩
  · subst hv
    refine zj_if_eq (tgt := 48) C (List.mem_of_getElem? (i := 21) rfl) rfl (by decide) (fun hd => ?_) (fun hd => ?_)
    · exact absurd hd (by decide)
    refine zj_iconst (v := 3) C (List.mem_of_getElem? (i := 22) rfl) rfl (by decide) ?_
    exact KRi 47 _ _ _ (List.mem_of_getElem? (i := 23) rfl) (by decide) (Or.inl rfl) rfl ⟨rfl, Or.inl ⟨3, hc14, by decide, rfl⟩⟩
  subst hv
  refine zj_if_eq (tgt := 48) C (List.mem_of_getElem? (i := 21) rfl) rfl (by decide) (fun hd => ?_) (fun hd => ?_)
  rotate_left
  · exact absurd rfl hd
  refine zj_aload_n C (List.mem_of_getElem? (i := 24) rfl) rfl rfl rfl ?_
  refine zj_ldc2 (v := zj_wc 15) C (List.mem_of_getElem? (i := 25) rfl) rfl (zj_long hown (k := 15) (ix := 369) (by decide)) ?_
  have hO := hM
  obtain ⟨⟨fsO, hO0, -⟩, -⟩ := hO
  refine zj_callV (As := [.long (zj_wc 15)]) (rest := []) C (List.mem_of_getElem? (i := 26) rfl) rfl rfl rfl (by decide) (zj_W_mono (zj_isWord_W (k := 15) h00 (by decide)) (by decide)) rfl rfl hO0 rfl (Nat.le_of_ble_eq_true rfl) rfl ⟨rfl, rfl, rfl⟩ (fun v w2 hw2A hw2Z => ?_)
  obtain ⟨hw, hv⟩ := hw2Z
  subst hw
  rcases hv with ⟨hv, hc15⟩ | ⟨hv, hc15⟩
  · subst hv
    refine zj_if_eq (tgt := 60) C (List.mem_of_getElem? (i := 27) rfl) rfl (by decide) (fun hd => ?_) (fun hd => ?_)
    · exact absurd hd (by decide)
    refine zj_iconst (v := 4) C (List.mem_of_getElem? (i := 28) rfl) rfl (by decide) ?_
    exact KRi 59 _ _ _ (List.mem_of_getElem? (i := 29) rfl) (by decide) (Or.inl rfl) rfl ⟨rfl, Or.inl ⟨4, hc15, by decide, rfl⟩⟩
  subst hv
  refine zj_if_eq (tgt := 60) C (List.mem_of_getElem? (i := 27) rfl) rfl (by decide) (fun hd => ?_) (fun hd => ?_)
  rotate_left
  · exact absurd rfl hd
  refine zj_aload_n C (List.mem_of_getElem? (i := 30) rfl) rfl rfl rfl ?_
  refine zj_ldc2 (v := zj_wc 16) C (List.mem_of_getElem? (i := 31) rfl) rfl (zj_long hown (k := 16) (ix := 371) (by decide)) ?_
  have hO := hM
  obtain ⟨⟨fsO, hO0, -⟩, -⟩ := hO
  refine zj_callV (As := [.long (zj_wc 16)]) (rest := []) C (List.mem_of_getElem? (i := 32) rfl) rfl rfl rfl (by decide) (zj_W_mono (zj_isWord_W (k := 16) h00 (by decide)) (by decide)) rfl rfl hO0 rfl (Nat.le_of_ble_eq_true rfl) rfl ⟨rfl, rfl, rfl⟩ (fun v w2 hw2A hw2Z => ?_)
  obtain ⟨hw, hv⟩ := hw2Z
  subst hw
  rcases hv with ⟨hv, hc16⟩ | ⟨hv, hc16⟩
  · subst hv
    refine zj_if_eq (tgt := 72) C (List.mem_of_getElem? (i := 33) rfl) rfl (by decide) (fun hd => ?_) (fun hd => ?_)
    · exact absurd hd (by decide)
    refine zj_iconst (v := 5) C (List.mem_of_getElem? (i := 34) rfl) rfl (by decide) ?_
    exact KRi 71 _ _ _ (List.mem_of_getElem? (i := 35) rfl) (by decide) (Or.inl rfl) rfl ⟨rfl, Or.inl ⟨5, hc16, by decide, rfl⟩⟩
  subst hv
  refine zj_if_eq (tgt := 72) C (List.mem_of_getElem? (i := 33) rfl) rfl (by decide) (fun hd => ?_) (fun hd => ?_)
  rotate_left
  · exact absurd rfl hd
  refine zj_aload_n C (List.mem_of_getElem? (i := 36) rfl) rfl rfl rfl ?_
  refine zj_ldc2 (v := zj_wc 17) C (List.mem_of_getElem? (i := 37) rfl) rfl (zj_long hown (k := 17) (ix := 373) (by decide)) ?_
  have hO := hM
  obtain ⟨⟨fsO, hO0, -⟩, -⟩ := hO
  refine zj_callV (As := [.long (zj_wc 17)]) (rest := []) C (List.mem_of_getElem? (i := 38) rfl) rfl rfl rfl (by decide) (zj_W_mono (zj_isWord_W (k := 17) h00 (by decide)) (by decide)) rfl rfl hO0 rfl (Nat.le_of_ble_eq_true rfl) rfl ⟨rfl, rfl, rfl⟩ (fun v w2 hw2A hw2Z => ?_)
  obtain ⟨hw, hv⟩ := hw2Z
  subst hw
  rcases hv with ⟨hv, hc17⟩ | ⟨hv, hc17⟩
  · subst hv
    refine zj_if_eq (tgt := 85) C (List.mem_of_getElem? (i := 39) rfl) rfl (by decide) (fun hd => ?_) (fun hd => ?_)
    · exact absurd hd (by decide)
    refine zj_bipush (v := 6) C (List.mem_of_getElem? (i := 40) rfl) rfl (by decide) ?_
    exact KRi 84 _ _ _ (List.mem_of_getElem? (i := 41) rfl) (by decide) (Or.inl rfl) rfl ⟨rfl, Or.inl ⟨6, hc17, by decide, rfl⟩⟩
  subst hv
  refine zj_if_eq (tgt := 85) C (List.mem_of_getElem? (i := 39) rfl) rfl (by decide) (fun hd => ?_) (fun hd => ?_)
  rotate_left
  · exact absurd rfl hd
  refine zj_aload_n C (List.mem_of_getElem? (i := 42) rfl) rfl rfl rfl ?_
  refine zj_ldc2 (v := zj_wc 18) C (List.mem_of_getElem? (i := 43) rfl) rfl (zj_long hown (k := 18) (ix := 375) (by decide)) ?_
  have hO := hM
  obtain ⟨⟨fsO, hO0, -⟩, -⟩ := hO
  refine zj_callV (As := [.long (zj_wc 18)]) (rest := []) C (List.mem_of_getElem? (i := 44) rfl) rfl rfl rfl (by decide) (zj_W_mono (zj_isWord_W (k := 18) h00 (by decide)) (by decide)) rfl rfl hO0 rfl (Nat.le_of_ble_eq_true rfl) rfl ⟨rfl, rfl, rfl⟩ (fun v w2 hw2A hw2Z => ?_)
  obtain ⟨hw, hv⟩ := hw2Z
  subst hw
  rcases hv with ⟨hv, hc18⟩ | ⟨hv, hc18⟩
  · subst hv
    refine zj_if_eq (tgt := 98) C (List.mem_of_getElem? (i := 45) rfl) rfl (by decide) (fun hd => ?_) (fun hd => ?_)
    · exact absurd hd (by decide)
    refine zj_bipush (v := 7) C (List.mem_of_getElem? (i := 46) rfl) rfl (by decide) ?_
    exact KRi 97 _ _ _ (List.mem_of_getElem? (i := 47) rfl) (by decide) (Or.inl rfl) rfl ⟨rfl, Or.inl ⟨7, hc18, by decide, rfl⟩⟩
  subst hv
  refine zj_if_eq (tgt := 98) C (List.mem_of_getElem? (i := 45) rfl) rfl (by decide) (fun hd => ?_) (fun hd => ?_)
  rotate_left
  · exact absurd rfl hd
  refine zj_aload_n C (List.mem_of_getElem? (i := 48) rfl) rfl rfl rfl ?_
  refine zj_ldc2 (v := zj_wc 19) C (List.mem_of_getElem? (i := 49) rfl) rfl (zj_long hown (k := 19) (ix := 377) (by decide)) ?_
  have hO := hM
  obtain ⟨⟨fsO, hO0, -⟩, -⟩ := hO
  refine zj_callV (As := [.long (zj_wc 19)]) (rest := []) C (List.mem_of_getElem? (i := 50) rfl) rfl rfl rfl (by decide) (zj_W_mono (zj_isWord_W (k := 19) h00 (by decide)) (by decide)) rfl rfl hO0 rfl (Nat.le_of_ble_eq_true rfl) rfl ⟨rfl, rfl, rfl⟩ (fun v w2 hw2A hw2Z => ?_)
  obtain ⟨hw, hv⟩ := hw2Z
  subst hw
  rcases hv with ⟨hv, hc19⟩ | ⟨hv, hc19⟩
  · subst hv
    refine zj_if_eq (tgt := 111) C (List.mem_of_getElem? (i := 51) rfl) rfl (by decide) (fun hd => ?_) (fun hd => ?_)
    · exact absurd hd (by decide)
    refine zj_bipush (v := 8) C (List.mem_of_getElem? (i := 52) rfl) rfl (by decide) ?_
    exact KRi 110 _ _ _ (List.mem_of_getElem? (i := 53) rfl) (by decide) (Or.inl rfl) rfl ⟨rfl, Or.inl ⟨8, hc19, by decide, rfl⟩⟩
  subst hv
  refine zj_if_eq (tgt := 111) C (List.mem_of_getElem? (i := 51) rfl) rfl (by decide) (fun hd => ?_) (fun hd => ?_)
  rotate_left
  · exact absurd rfl hd
  refine zj_aload_n C (List.mem_of_getElem? (i := 54) rfl) rfl rfl rfl ?_
  refine zj_ldc2 (v := zj_wc 20) C (List.mem_of_getElem? (i := 55) rfl) rfl (zj_long hown (k := 20) (ix := 379) (by decide)) ?_
  have hO := hM
  obtain ⟨⟨fsO, hO0, -⟩, -⟩ := hO
  refine zj_callV (As := [.long (zj_wc 20)]) (rest := []) C (List.mem_of_getElem? (i := 56) rfl) rfl rfl rfl (by decide) (zj_W_mono (zj_isWord_W (k := 20) h00 (by decide)) (by decide)) rfl rfl hO0 rfl (Nat.le_of_ble_eq_true rfl) rfl ⟨rfl, rfl, rfl⟩ (fun v w2 hw2A hw2Z => ?_)
  obtain ⟨hw, hv⟩ := hw2Z
  subst hw
  rcases hv with ⟨hv, hc20⟩ | ⟨hv, hc20⟩
  · subst hv
    refine zj_if_eq (tgt := 126) C (List.mem_of_getElem? (i := 57) rfl) rfl (by decide) (fun hd => ?_) (fun hd => ?_)
    · exact absurd hd (by decide)
    refine zj_bipush (v := 9) C (List.mem_of_getElem? (i := 58) rfl) rfl (by decide) ?_
    refine zj_goto (tgt := 127) C (List.mem_of_getElem? (i := 59) rfl) (by decide) ?_
    exact KRi 127 _ _ _ (List.mem_of_getElem? (i := 61) rfl) (by decide) (Or.inl rfl) rfl ⟨rfl, Or.inl ⟨9, hc20, by decide, rfl⟩⟩
  subst hv
  refine zj_if_eq (tgt := 126) C (List.mem_of_getElem? (i := 57) rfl) rfl (by decide) (fun hd => ?_) (fun hd => ?_)
  rotate_left
  · exact absurd rfl hd
  refine zj_iconst (v := (-1)) C (List.mem_of_getElem? (i := 60) rfl) rfl (by decide) ?_
  exact KRi 127 _ _ _ (List.mem_of_getElem? (i := 61) rfl) (by decide) (Or.inl rfl) rfl ⟨rfl, Or.inr ⟨by omega, rfl⟩⟩
end
