noncomputable section
/-! zg: a run told against an earlier state; what is known by hand is put into a state -/
def zg_rk3 (hA : List zx_C) (Kr : List Nat) (f : zx_Fn) (md : zx_MD) (m : Nat) (outs : List zx_Ou) (dE : Option (List (Nat × (Int × Int)) × (zx_Ou → Bool)) × Bool) (nds : List zg_Nd) (pc : Nat) (T : zx_T) : Bool := match zx_ex (zw_YK zx_Yt Kr false) zx_dt zx_rmt (zg_sp nds) md f 3000 (zx_drop pc md.1) T.1 T.2.1 T.2.2.1 T.2.2.2.2 T.2.2.2.1 with
  | some os => zg_ck m outs hA dE nds os
  | none => false
/-- behind a call the bounds are spread -/
def zg_o4 (n0 : Nat) (f : zx_G → Bool) (G : zx_G) : Bool := match zv_pc n0 G with
  | some G1 => f G1
  | none => true
theorem zg_o4_ok {n0 : Nat} {f : zx_G → Bool} {G G1 : zx_G} (h : zg_o4 n0 f G = true) (hG1 : zv_pc n0 G = some G1) : f G1 = true := by
  unfold zg_o4 at h
  rw [hG1] at h
  exact h
def zg_ca2n (Kr : List Nat) (f : zx_Fn) (md : zx_MD) (m : Nat) (outs : List zx_Ou) (dE0 : Option (List (Nat × (Int × Int)) × (zx_Ou → Bool)) × Bool) (nds0 : List zg_Nd) (dE : Option (List (Nat × (Int × Int)) × (zx_Ou → Bool)) × Bool) (nds : List zg_Nd) (pc ix : Nat) (en : zw_En) (T : zx_T) : Bool := match zg_cl en.2.2.2.2.2.1 md.2.1 md.2.2.1 ix en T.1 T.2.1 T.2.2.2.2 T.2.2.2.1 with
  | some z => z.1.all (fun o => zg_o4 T.1.length (fun G1 => (fun (T' : zx_T) => if zg_rz o.2.2 = true then zg_rk Kr f md m outs dE0 nds0 (pc + 3) T' else (zg_rn1 G1 o.2.2 && zg_rk Kr f md m outs dE nds (pc + 3) T')) (G1, o.2.1, T.2.2.1, o.2.2.toList ++ z.2.2.1, z.2.2.2)) o.1)
  | none => false
def zg_ca3 (Kr : List Nat) (f : zx_Fn) (md : zx_MD) (m : Nat) (outs : List zx_Ou) (dE0 : Option (List (Nat × (Int × Int)) × (zx_Ou → Bool)) × Bool) (nds0 : List zg_Nd) (dE : Option (List (Nat × (Int × Int)) × (zx_Ou → Bool)) × Bool) (nds : List zg_Nd) (pc ix : Nat) (en : zw_En) (T : zx_T) : Bool := match zg_cl en.2.2.2.2.2.1 md.2.1 md.2.2.1 ix en T.1 T.2.1 T.2.2.2.2 T.2.2.2.1 with
  | some z => z.1.all (fun o => zg_o4 T.1.length (fun G1 => (fun (T' : zx_T) => if zg_rz o.2.2 = true then zg_rk3 T.2.1 Kr f md m outs dE0 nds0 (pc + 3) T' else (zg_rn1 G1 o.2.2 && zg_rk3 T.2.1 Kr f md m outs dE nds (pc + 3) T')) (G1, o.2.1, T.2.2.1, o.2.2.toList ++ z.2.2.1, z.2.2.2)) o.1)
  | none => false
def zg_ctn (md : zx_MD) (m : Nat) (ix : Nat) (en : zw_En) (T T' : zx_T) : Bool := match zg_cl en.2.2.2.2.2.1 md.2.1 md.2.2.1 ix en T.1 T.2.1 T.2.2.2.2 T.2.2.2.1 with
  | some z => z.1.all (fun o => zg_o4 T.1.length (fun G1 => (fun (T1 : zx_T) => zw_T m T' T1 (zw_sg m T' T1)) (G1, o.2.1, T.2.2.1, o.2.2.toList ++ z.2.2.1, z.2.2.2)) o.1)
  | none => false
/-- a contract of the checker, as one by hand -/
theorem zg_of {l : Launch} {d : Nat} {en : zw_En} (h : vN l d en) (hfl : zv_fl en = false) : zg_EN l d en (fun _ _ => True) (fun _ _ _ _ => True) := by
  intro y cc maxL ret rm h1 h2 D A b ex ρ tys ws sz av h4 h5 h6 h7 _
  have h8 : (zw_YK zx_Yt (zv_K en) (zv_fl en)).2.2 ws := by
    rw [hfl]
    exact trivial
  exact zx_Met_imp (h y cc maxL ret rm h1 h2 D A b ex ρ tys ws sz av h4 h5 h6 h7 h8) ⟨Nat.le_refl _, Nat.le_refl _, Nat.le_refl _, Nat.le_refl _⟩ (fun _ _ h => ⟨h, fun _ q => q⟩) (fun _ _ _ _ _ h _ => by
    obtain ⟨⟨o, ho, v, r2, tys', ws', e1, e2, e3, e4, e5, e6, e7, e8⟩, e9⟩ := h
    exact ⟨⟨o, ho, v, r2, tys', ws', e1, e2, e3, e4, e5, e6, e7, e8, trivial⟩, e9⟩)
section ZGI
variable {p : Program} {l : Launch} {e : Env} {R : Room} {s : State} {mi : MethodId} {args : Array Value} {below : List Frame} {meth : Method} {c : Code} {Q : State → Prop} {D : va_G} {A : Nat → Prop} {b : Nat} {ex : List Nat} {ad0 : zx_A0} {nL : Nat} {own : String} {cc : ByteArray} {Kr : List Nat} {d : Nat} {md : zx_MD}
theorem zg_pcn {pc n0 : Nat} {T : zx_T} {ρ : List Int} {ws : va_W} (hgo : ∀ G', zv_pc n0 T.1 = some G' → zg_go p l e R s mi args below meth c Q D A b ex ad0 nL pc (G', T.2) ρ ws) : zg_go p l e R s mi args below meth c Q D A b ex ad0 nL pc T ρ ws := by
  intro H locs ls kc tys lc hG B
  obtain ⟨G', h1, h2⟩ := zv_pc_ok (n0 := n0) hG
  exact hgo G' h1 H locs ls kc tys lc h2 B
theorem zg_run3 (C : zg_cx p R s mi args meth c A b ex nL own cc Kr d md) (hK : ∀ i ∈ ad0.2, i ∈ Kr) {f : zx_Fn} (hf : zx_FOK l vwCl zx_Ts zx_nw zx_sts (zw_YK zx_Yt Kr false) zx_aos zx_PRt zx_rmt d f) {m pc : Nat} {outs : List zx_Ou} {dE : Option (List (Nat × (Int × Int)) × (zx_Ou → Bool)) × Bool} {nds : List zg_Nd} {T : zx_T} {ρe r : List Int} {ws wsA : va_W} {hA : List zx_C} {tysA : List (ClassId × FieldType)} {Zv : Option Value → va_W → Prop} (hm : ρe.length = m) (hhA : zx_F2 (fun c q => zx_RC vwCl b ex (ρe ++ r) (zx_as wsA) tysA c q.2) hA wsA) (hck : zg_rk3 hA Kr f md m outs dE nds pc T = true)
    (KE : ∀ (o : zx_Ou) (r : List Int) (ws' : va_W), zw_E m o outs = true → (∀ v, zx_rv b ex (ρe ++ r) (zx_as ws') o.2.2 v → Zv v ws') → zg_ed p l e R s mi args below meth c Q D A b ex ad0 nL cc md.2.2.2 (zx_mR md.2.1) o (ρe ++ r) ws')
    (hE : ∀ (o : zx_Ou) (r' : List Int) (ws' : va_W) (tys : List (ClassId × FieldType)) (v : Option Value), zx_KP (ws, Kr) ws' → zx_ok (ρe ++ r') o.1 → zx_F2 (fun c q => zx_RC vwCl b ex (ρe ++ r') (zx_as ws') tys c q.2) o.2.1 ws' → (dE.2 = true ∧ v = some (.int 0)) ∨ (∃ l, dE.1 = some l ∧ zg_fs wsA ws' l.1 ∧ l.2 o = true) → zx_rv b ex (ρe ++ r') (zx_as ws') o.2.2 v → Zv v ws')
    (hC : ∀ t ∈ nds, ∀ (r' : List Int) (ws' : va_W), zx_KP (ws, Kr) ws' → zg_fs wsA ws' t.2.2.1 → zg_os (ρe ++ r) (ρe ++ r') t.2.2.2 → zg_go p l e R s mi args below meth c Q D A b ex ad0 nL t.1 t.2.1 (ρe ++ r') ws') : zg_go p l e R s mi args below meth c Q D A b ex ad0 nL pc T (ρe ++ r) ws := by
  unfold zg_rk3 at hck
  split at hck
  case h_2 => cases hck
  rename_i os hos
  refine zg_with (fun tys hG hh => ?_)
  refine zg_run C hK hf hos (fun o ho r2 ws' kp => ?_) (fun q hq r2 ws' kp => ?_)
  · have h1 := zg_ck_l hck ho
    unfold zg_o1 at h1
    rw [Bool.and_eq_true, Bool.or_eq_true] at h1
    obtain ⟨h1, h2⟩ := h1
    intro H' locs' ls' kc' pc' k' ir tys' g1 g2 g3 g4 g5 g6 g7 g8 g9 g10 g11
    rw [List.append_assoc] at g1 g7 g11
    refine KE o (r ++ r2) ws' h1 (fun v hv => ?_) H' locs' ls' kc' pc' k' ir tys' g1 g2 g3 g4 g5 g6 g7 g8 g9 g10 g11
    refine hE o (r ++ r2) ws' tys' v kp g1 g7 ?_ hv
    rcases h2 with h2 | h2
    · rw [Bool.and_eq_true] at h2
      exact Or.inl ⟨h2.1, zg_rz_ok h2.2 hv⟩
    · rw [← List.append_assoc] at g1 g7
      split at h2
      · rename_i l hl
        rw [Bool.and_eq_true] at h2
        exact Or.inr ⟨l, hl, zg_dr_ok g1 hhA g7 h2.1, h2.2⟩
      · cases h2
  · have h1 := zg_ck_r hck hq
    obtain ⟨t, ht, h2⟩ := List.any_eq_true.mp h1
    unfold zg_q1 at h2
    simp only [Bool.and_eq_true] at h2
    obtain ⟨c1, c2, c3, c4⟩ := h2
    have c1 := Nat.eq_of_beq_eq_true c1
    rw [c1]
    refine zg_with (fun tys' hG' hh' => ?_)
    have hd := zg_dr_ok hG' hhA hh' c3
    have hG'' := hG'
    rw [List.append_assoc]
    refine zg_T hm c2 (fun r' hσ => ?_)
    refine hC t ht r' ws' kp hd (fun x hx w hw => ?_)
    have c5 := List.all_eq_true.mp c4 x hx
    unfold zg_or at c5
    split at c5
    case h_2 => cases c5
    rename_i e1 he1
    obtain ⟨w', k1, k2⟩ := zw_sub_ok hσ he1
    rw [← List.append_assoc] at k2
    have k3 := zg_xb_ok hG'' c5 (zx_sub_ev k2 (zx_ev_app hw))
    exact ⟨w', k1, by omega, by omega⟩
theorem zg_call2n (C : zg_cx p R s mi args meth c A b ex nL own cc Kr d md) (hK : ∀ i ∈ ad0.2, i ∈ Kr) {f : zx_Fn} (hf : zx_FOK l vwCl zx_Ts zx_nw zx_sts (zw_YK zx_Yt Kr false) zx_aos zx_PRt zx_rmt d f) {m pc ix : Nat} {outs : List zx_Ou} {dE0 dE : Option (List (Nat × (Int × Int)) × (zx_Ou → Bool)) × Bool} {nds0 nds : List zg_Nd} {T : zx_T} {ρe r : List Int} {ws : va_W} {Zv : Option Value → va_W → Prop} {en : zw_En} {X : List Value → va_W → Prop} {Z : List Value → va_W → Option Value → va_W → Prop} {as : List zx_V} (hm : ρe.length = m) (hen : zg_EN l d en X Z) (hK2 : ∀ i ∈ ad0.2, i ∈ en.2.2.2.2.2.1) (hd : (pc, Instr.invokevirtual ix, 3) ∈ md.1) (hck : zg_ca2n Kr f md m outs dE0 nds0 dE nds pc ix en T = true) (has : zg_cas md ix en T = as)
    (KE : ∀ (o : zx_Ou) (r : List Int) (ws' : va_W), zw_E m o outs = true → (∀ v, zx_rv b ex (ρe ++ r) (zx_as ws') o.2.2 v → Zv v ws') → zg_ed p l e R s mi args below meth c Q D A b ex ad0 nL cc md.2.2.2 (zx_mR md.2.1) o (ρe ++ r) ws')
    (hX : ∀ av, zx_F2 (zx_R b ex (ρe ++ r) (zx_as ws)) as av → X av ws)
    (K0 : ∀ (av : List Value) (ws1 : va_W), zx_F2 (zx_R b ex (ρe ++ r) (zx_as ws)) as av → zx_KP (ws, en.2.2.2.2.2.1) ws1 → Z av ws (some (.int 0)) ws1 → (∀ (o : zx_Ou) (r' : List Int) (ws' : va_W) (tys : List (ClassId × FieldType)) (v' : Option Value), zx_KP (ws1, Kr) ws' → zx_ok (ρe ++ r') o.1 → zx_F2 (fun c q => zx_RC vwCl b ex (ρe ++ r') (zx_as ws') tys c q.2) o.2.1 ws' → (dE0.2 = true ∧ v' = some (.int 0)) ∨ (∃ l, dE0.1 = some l ∧ zg_fs ws1 ws' l.1 ∧ l.2 o = true) → zx_rv b ex (ρe ++ r') (zx_as ws') o.2.2 v' → Zv v' ws') ∧ ∀ t ∈ nds0, ∀ (r' : List Int) (ws' : va_W), zx_KP (ws1, Kr) ws' → zg_fs ws1 ws' t.2.2.1 → zg_os (ρe ++ r) (ρe ++ r') t.2.2.2 → zg_go p l e R s mi args below meth c Q D A b ex ad0 nL t.1 t.2.1 (ρe ++ r') ws')
    (K : ∀ (av : List Value) (v : Option Value) (ws1 : va_W), zx_F2 (zx_R b ex (ρe ++ r) (zx_as ws)) as av → zx_KP (ws, en.2.2.2.2.2.1) ws1 → Z av ws v ws1 → v ≠ some (.int 0) → (∀ (o : zx_Ou) (r' : List Int) (ws' : va_W) (tys : List (ClassId × FieldType)) (v' : Option Value), zx_KP (ws1, Kr) ws' → zx_ok (ρe ++ r') o.1 → zx_F2 (fun c q => zx_RC vwCl b ex (ρe ++ r') (zx_as ws') tys c q.2) o.2.1 ws' → (dE.2 = true ∧ v' = some (.int 0)) ∨ (∃ l, dE.1 = some l ∧ zg_fs ws1 ws' l.1 ∧ l.2 o = true) → zx_rv b ex (ρe ++ r') (zx_as ws') o.2.2 v' → Zv v' ws') ∧ ∀ t ∈ nds, ∀ (r' : List Int) (ws' : va_W), zx_KP (ws1, Kr) ws' → zg_fs ws1 ws' t.2.2.1 → zg_os (ρe ++ r) (ρe ++ r') t.2.2.2 → zg_go p l e R s mi args below meth c Q D A b ex ad0 nL t.1 t.2.1 (ρe ++ r') ws') : zg_go p l e R s mi args below meth c Q D A b ex ad0 nL pc T (ρe ++ r) ws := by
  unfold zg_ca2n at hck
  unfold zg_cas at has
  split at hck
  case h_2 => cases hck
  rename_i z hz
  rw [hz] at has
  obtain ⟨os, as', rk, k'⟩ := z
  have has : as' = as := has
  subst has
  refine zg_call C hK2 hen hd hz hX (fun o ho av v r2 ws1 ha kp hv hZ => ?_)
  have h0 := List.all_eq_true.mp hck o ho
  refine zg_pcn (n0 := T.1.length) (fun G1 hG1 => ?_)
  have h1 := zg_o4_ok h0 hG1
  have h1 : (if zg_rz o.2.2 = true then zg_rk Kr f md m outs dE0 nds0 (pc + 3) (G1, o.2.1, T.2.2.1, o.2.2.toList ++ rk, k') else (zg_rn1 G1 o.2.2 && zg_rk Kr f md m outs dE nds (pc + 3) (G1, o.2.1, T.2.2.1, o.2.2.toList ++ rk, k'))) = true := h1
  have hup : ∀ (t : zg_Nd) (r' : List Int), zg_os (ρe ++ (r ++ r2)) (ρe ++ r') t.2.2.2 → zg_os (ρe ++ r) (ρe ++ r') t.2.2.2 := fun t r' hos x hx w hw => hos x hx w (by rw [← List.append_assoc]; exact zx_ev_app hw)
  rw [List.append_assoc]
  split at h1
  · rename_i h0
    have hv0 := zg_rz_ok h0 hv
    subst hv0
    obtain ⟨k1, k2⟩ := K0 av ws1 ha kp hZ
    exact zg_run2 C hK hf hm h1 KE k1 (fun t ht r' ws' kp' hfs hos => k2 t ht r' ws' kp' hfs (hup t r' hos))
  · rw [Bool.and_eq_true] at h1
    refine zg_with (fun tys0 hG0 hh0 => ?_)
    have hv9 := zg_rn1_ok (by rw [← List.append_assoc] at hG0; exact hG0) h1.1 hv
    obtain ⟨k1, k2⟩ := K av v ws1 ha kp hZ hv9
    exact zg_run2 C hK hf hm h1.2 KE k1 (fun t ht r' ws' kp' hfs hos => k2 t ht r' ws' kp' hfs (hup t r' hos))
theorem zg_call3 (C : zg_cx p R s mi args meth c A b ex nL own cc Kr d md) (hK : ∀ i ∈ ad0.2, i ∈ Kr) {f : zx_Fn} (hf : zx_FOK l vwCl zx_Ts zx_nw zx_sts (zw_YK zx_Yt Kr false) zx_aos zx_PRt zx_rmt d f) {m pc ix : Nat} {outs : List zx_Ou} {dE0 dE : Option (List (Nat × (Int × Int)) × (zx_Ou → Bool)) × Bool} {nds0 nds : List zg_Nd} {T : zx_T} {ρe r : List Int} {ws : va_W} {Zv : Option Value → va_W → Prop} {en : zw_En} {X : List Value → va_W → Prop} {Z : List Value → va_W → Option Value → va_W → Prop} {as : List zx_V} (hm : ρe.length = m) (hen : zg_EN l d en X Z) (hK2 : ∀ i ∈ ad0.2, i ∈ en.2.2.2.2.2.1) (hd : (pc, Instr.invokevirtual ix, 3) ∈ md.1) (hck : zg_ca3 Kr f md m outs dE0 nds0 dE nds pc ix en T = true) (has : zg_cas md ix en T = as)
    (KE : ∀ (o : zx_Ou) (r : List Int) (ws' : va_W), zw_E m o outs = true → (∀ v, zx_rv b ex (ρe ++ r) (zx_as ws') o.2.2 v → Zv v ws') → zg_ed p l e R s mi args below meth c Q D A b ex ad0 nL cc md.2.2.2 (zx_mR md.2.1) o (ρe ++ r) ws')
    (hX : ∀ av, zx_F2 (zx_R b ex (ρe ++ r) (zx_as ws)) as av → X av ws)
    (K0 : ∀ (av : List Value) (ws1 : va_W), zx_F2 (zx_R b ex (ρe ++ r) (zx_as ws)) as av → zx_KP (ws, en.2.2.2.2.2.1) ws1 → Z av ws (some (.int 0)) ws1 → (∀ (o : zx_Ou) (r' : List Int) (ws' : va_W) (tys : List (ClassId × FieldType)) (v' : Option Value), zx_KP (ws1, Kr) ws' → zx_ok (ρe ++ r') o.1 → zx_F2 (fun c q => zx_RC vwCl b ex (ρe ++ r') (zx_as ws') tys c q.2) o.2.1 ws' → (dE0.2 = true ∧ v' = some (.int 0)) ∨ (∃ l, dE0.1 = some l ∧ zg_fs ws ws' l.1 ∧ l.2 o = true) → zx_rv b ex (ρe ++ r') (zx_as ws') o.2.2 v' → Zv v' ws') ∧ ∀ t ∈ nds0, ∀ (r' : List Int) (ws' : va_W), zx_KP (ws1, Kr) ws' → zg_fs ws ws' t.2.2.1 → zg_os (ρe ++ r) (ρe ++ r') t.2.2.2 → zg_go p l e R s mi args below meth c Q D A b ex ad0 nL t.1 t.2.1 (ρe ++ r') ws')
    (K : ∀ (av : List Value) (v : Option Value) (ws1 : va_W), zx_F2 (zx_R b ex (ρe ++ r) (zx_as ws)) as av → zx_KP (ws, en.2.2.2.2.2.1) ws1 → Z av ws v ws1 → v ≠ some (.int 0) → (∀ (o : zx_Ou) (r' : List Int) (ws' : va_W) (tys : List (ClassId × FieldType)) (v' : Option Value), zx_KP (ws1, Kr) ws' → zx_ok (ρe ++ r') o.1 → zx_F2 (fun c q => zx_RC vwCl b ex (ρe ++ r') (zx_as ws') tys c q.2) o.2.1 ws' → (dE.2 = true ∧ v' = some (.int 0)) ∨ (∃ l, dE.1 = some l ∧ zg_fs ws ws' l.1 ∧ l.2 o = true) → zx_rv b ex (ρe ++ r') (zx_as ws') o.2.2 v' → Zv v' ws') ∧ ∀ t ∈ nds, ∀ (r' : List Int) (ws' : va_W), zx_KP (ws1, Kr) ws' → zg_fs ws ws' t.2.2.1 → zg_os (ρe ++ r) (ρe ++ r') t.2.2.2 → zg_go p l e R s mi args below meth c Q D A b ex ad0 nL t.1 t.2.1 (ρe ++ r') ws') : zg_go p l e R s mi args below meth c Q D A b ex ad0 nL pc T (ρe ++ r) ws := by
  unfold zg_ca3 at hck
  unfold zg_cas at has
  split at hck
  case h_2 => cases hck
  rename_i z hz
  rw [hz] at has
  obtain ⟨os, as', rk, k'⟩ := z
  have has : as' = as := has
  subst has
  refine zg_with (fun tysA hGA hhA => ?_)
  refine zg_call C hK2 hen hd hz hX (fun o ho av v r2 ws1 ha kp hv hZ => ?_)
  have hhB := zx_F2_imp (fun (c : zx_C) (q : Nat × va_E) (h : zx_RC vwCl b ex (ρe ++ r) (zx_as ws) tysA c q.2) => zx_RC_up (r := r2) h) hhA
  rw [List.append_assoc] at hhB
  have h0 := List.all_eq_true.mp hck o ho
  refine zg_pcn (n0 := T.1.length) (fun G1 hG1 => ?_)
  have h1 := zg_o4_ok h0 hG1
  have h1 : (if zg_rz o.2.2 = true then zg_rk3 T.2.1 Kr f md m outs dE0 nds0 (pc + 3) (G1, o.2.1, T.2.2.1, o.2.2.toList ++ rk, k') else (zg_rn1 G1 o.2.2 && zg_rk3 T.2.1 Kr f md m outs dE nds (pc + 3) (G1, o.2.1, T.2.2.1, o.2.2.toList ++ rk, k'))) = true := h1
  have hup : ∀ (t : zg_Nd) (r' : List Int), zg_os (ρe ++ (r ++ r2)) (ρe ++ r') t.2.2.2 → zg_os (ρe ++ r) (ρe ++ r') t.2.2.2 := fun t r' hos x hx w hw => hos x hx w (by rw [← List.append_assoc]; exact zx_ev_app hw)
  rw [List.append_assoc]
  split at h1
  · rename_i h0
    have hv0 := zg_rz_ok h0 hv
    subst hv0
    obtain ⟨k1, k2⟩ := K0 av ws1 ha kp hZ
    exact zg_run3 C hK hf hm hhB h1 KE k1 (fun t ht r' ws' kp' hfs hos => k2 t ht r' ws' kp' hfs (hup t r' hos))
  · rw [Bool.and_eq_true] at h1
    refine zg_with (fun tys0 hG0 hh0 => ?_)
    have hv9 := zg_rn1_ok (by rw [← List.append_assoc] at hG0; exact hG0) h1.1 hv
    obtain ⟨k1, k2⟩ := K av v ws1 ha kp hZ hv9
    exact zg_run3 C hK hf hm hhB h1.2 KE k1 (fun t ht r' ws' kp' hfs hos => k2 t ht r' ws' kp' hfs (hup t r' hos))
theorem zg_callTn (C : zg_cx p R s mi args meth c A b ex nL own cc Kr d md) {m pc ix : Nat} {T T' : zx_T} {ρe r : List Int} {ws : va_W} {en : zw_En} {X : List Value → va_W → Prop} {Z : List Value → va_W → Option Value → va_W → Prop} {as : List zx_V} (hm : ρe.length = m) (hen : zg_EN l d en X Z) (hK2 : ∀ i ∈ ad0.2, i ∈ en.2.2.2.2.2.1) (hd : (pc, Instr.invokevirtual ix, 3) ∈ md.1) (hck : zg_ctn md m ix en T T' = true) (has : zg_cas md ix en T = as)
    (hX : ∀ av, zx_F2 (zx_R b ex (ρe ++ r) (zx_as ws)) as av → X av ws)
    (K : ∀ (av : List Value) (v : Option Value) (ws1 : va_W) (r' : List Int), zx_F2 (zx_R b ex (ρe ++ r) (zx_as ws)) as av → zx_KP (ws, en.2.2.2.2.2.1) ws1 → Z av ws v ws1 → zg_go p l e R s mi args below meth c Q D A b ex ad0 nL (pc + 3) T' (ρe ++ r') ws1) : zg_go p l e R s mi args below meth c Q D A b ex ad0 nL pc T (ρe ++ r) ws := by
  unfold zg_ctn at hck
  unfold zg_cas at has
  split at hck
  case h_2 => cases hck
  rename_i z hz
  rw [hz] at has
  obtain ⟨os, as', rk, k'⟩ := z
  have has : as' = as := has
  subst has
  refine zg_call C hK2 hen hd hz hX (fun o ho av v r2 ws1 ha kp hv hZ => ?_)
  have h0 := List.all_eq_true.mp hck o ho
  refine zg_pcn (n0 := T.1.length) (fun G1 hG1 => ?_)
  have h1 := zg_o4_ok h0 hG1
  rw [List.append_assoc]
  exact zg_T hm h1 (fun r' _ => K av v ws1 r' ha kp hZ)
/-- a new unknown -/
theorem zg_newu {pc : Nat} {T : zx_T} {ρ : List Int} {ws : va_W} {v : Int} {q : zx_b} (h1 : q.1.1 ≤ v) (h2 : v ≤ q.1.2) (h3 : ∀ e, q.2 = some e → zx_ev ρ e = some v) (hgo : zg_go p l e R s mi args below meth c Q D A b ex ad0 nL pc (T.1 ++ [q], T.2) (ρ ++ [v]) ws) : zg_go p l e R s mi args below meth c Q D A b ex ad0 nL pc T ρ ws :=
  fun H locs ls kc tys lc hG B => hgo H locs ls kc tys lc (zx_ok_pushq hG h1 h2 h3) (zx_B_up B)
/-- a place of a row, its content known -/
def zg_pl (T : zx_T) (i : Nat) (x y : zx_L) : zx_T := match T.2.1[i]? with
  | some (.inr (.inl (0, n, true, t :: _))) => (T.1, T.2.1.set i (.inr (.inl (0, n, true, [t, .inl (.inl x), .inl (.inl y)]))), T.2.2)
  | _ => T
theorem zg_addp {pc i w n : Nat} {T : zx_T} {ρ : List Int} {ws : va_W} {f : Nat → Int32} {x y : zx_L} {t : zx_S} {fs : List zx_S} (hT : T.2.1[i]? = some (.inr (.inl (0, n, true, t :: fs)))) (hf : zg_row ws i f) (hx : zx_ev ρ x = some (w : Int)) (hw : w < n) (hy : zx_ev ρ y = some (f w).toInt) (hgo : zg_go p l e R s mi args below meth c Q D A b ex ad0 nL pc (zg_pl T i x y) ρ ws) : zg_go p l e R s mi args below meth c Q D A b ex ad0 nL pc T ρ ws := by
  intro H locs ls kc tys lc hG B
  unfold zg_pl at hgo
  rw [hT] at hgo
  obtain ⟨b1, b2, b3, b4, b5, b6, b7, b8⟩ := B
  refine hgo H locs ls kc tys lc hG ⟨b1, b2, b3, b4, ?_, b6, b7, b8⟩
  obtain ⟨⟨a, q⟩, h1, cB, t0, h2, h3⟩ := zx_F2_get b5 hT
  have h6 : ws.set i (a, q) = ws := by
    obtain ⟨hl, hq⟩ := List.getElem?_eq_some_iff.mp h1
    rw [← hq, List.set_getElem_self]
  have hab : zx_RC vwCl b ex ρ (zx_as ws) tys (.inr (.inl (0, n, true, [t, .inl (.inl x), .inl (.inl y)]))) q := by
    rcases h3 with ⟨h3, g, h4, h8⟩ | ⟨h3, -⟩
    · have h4 : q = .inl (cB, n, .inl g) := h4
      subst h4
      have e9 := zg_row_eq hf h1
      subst e9
      obtain ⟨t', fs', k1, k2, k3⟩ := h8
      cases k1
      refine ⟨cB, t0, h2, Or.inl ⟨h3, f, rfl, t, _, rfl, k2, fun u hu => ?_⟩⟩
      have hu : u ∈ [(x, (Sum.inl y : zx_V))] := hu
      rw [List.mem_singleton] at hu
      subst hu
      exact ⟨w, hx, by omega, by show (w : Int) < (n : Int); omega, f w, rfl, hy⟩
    · have h3 : 3 ≤ 0 := h3
      omega
  have h9 := zx_F2_set (R := fun (c : zx_C) (q : Nat × va_E) => zx_RC vwCl b ex ρ (zx_as ws) tys c q.2) (b := (a, q)) hab i b5
  rw [h6] at h9
  exact h9
/-- an unknown's bounds -/
def zg_bd (T : zx_T) (x : Nat) (lo hi : Int) : zx_T := match T.1[x]? with
  | some g => (T.1.set x ((lo, hi), g.2), T.2)
  | none => T
theorem zg_bnd {pc x : Nat} {T : zx_T} {ρ : List Int} {ws : va_W} {w lo hi : Int} (hx : zx_ev ρ ([(x, 1)], 0) = some w) (h1 : lo ≤ w) (h2 : w ≤ hi) (hgo : zg_go p l e R s mi args below meth c Q D A b ex ad0 nL pc (zg_bd T x lo hi) ρ ws) : zg_go p l e R s mi args below meth c Q D A b ex ad0 nL pc T ρ ws := by
  intro H locs ls kc tys lc hG B
  unfold zg_bd at hgo
  cases hg : T.1[x]? with
  | none =>
    rw [hg] at hgo
    exact hgo H locs ls kc tys lc hG B
  | some g =>
    rw [hg] at hgo
    refine hgo H locs ls kc tys lc (zx_ok_set hG hg (fun v hv => ?_)) B
    obtain ⟨u, h4, h5⟩ := zx_ev_iff.mp hx
    obtain ⟨v1, u1, h6, h7, h8⟩ := zx_evl_cons.mp h4
    have h7 : (0 : Int) = u1 := Option.some.inj h7
    have h6 : ρ[x]? = some v1 := h6
    rw [hv] at h6
    have h6 := Option.some.inj h6
    have h8 : u = 1 * v1 + u1 := h8
    have h5 : w = u + 0 := h5
    exact ⟨by show lo ≤ v; omega, by show v ≤ hi; omega⟩
end ZGI
end
