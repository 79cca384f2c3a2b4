noncomputable section
/-! zg: a run to its ends and places, fields and expressions told -/
/-- a place: its state; fields, how much more; expressions, how much more than others -/
abbrev zg_Nd : Type := Nat × (zx_T × (List (Nat × (Int × Int)) × List (zx_L × (zx_L × (Int × Int)))))
def zg_dr (G' : zx_G) (h h' : List zx_C) (q : Nat × (Int × Int)) : Bool := match zg_fe h q.1, zg_fe h' q.1 with
  | some f, some f' => zg_xb G' (zx_sub f' f) q.2.1 q.2.2
  | _, _ => false
def zg_or (G' : zx_G) (σ : List zx_L) (q : zx_L × (zx_L × (Int × Int))) : Bool := match zw_sub σ q.1 with
  | some e => zg_xb G' (zx_sub e q.2.1) q.2.2.1 q.2.2.2
  | none => false
def zg_q1 (m : Nat) (h : List zx_C) (q : Nat × zx_T) (t : zg_Nd) : Bool := Nat.beq q.1 t.1 && (fun (σ : List zx_L) => zw_T m t.2.1 q.2 σ && (t.2.2.1.all (zg_dr q.2.1 h q.2.2.1) && t.2.2.2.all (zg_or q.2.1 σ))) (zw_sg m t.2.1 q.2)
def zg_rz (o : Option zx_V) : Bool := match o with
  | some (.inl e) => zx_isc e && decide (e.2 = 0)
  | _ => false
def zg_o1 (m : Nat) (outs : List zx_Ou) (h : List zx_C) (dE : Option (List (Nat × (Int × Int)) × (zx_Ou → Bool)) × Bool) (o : zx_Ou) : Bool := zw_E m o outs && ((dE.2 && zg_rz o.2.2) || (match dE.1 with
    | some l => l.1.all (zg_dr o.1 h o.2.1) && l.2 o
    | none => false))
def zg_ck (m : Nat) (outs : List zx_Ou) (h : List zx_C) (dE : Option (List (Nat × (Int × Int)) × (zx_Ou → Bool)) × Bool) (nds : List zg_Nd) : List zx_Os → Bool
  | [] => true
  | .inl o :: r => zg_o1 m outs h dE o && zg_ck m outs h dE nds r
  | .inr q :: r => nds.any (zg_q1 m h q) && zg_ck m outs h dE nds r
def zg_sp (nds : List zg_Nd) (pc : Nat) : Bool := nds.any (fun t => Nat.beq t.1 pc)
def zg_rk (Kr : List Nat) (f : zx_Fn) (md : zx_MD) (m : Nat) (outs : List zx_Ou) (dE : Option (List (Nat × (Int × Int)) × (zx_Ou → Bool)) × Bool) (nds : List zg_Nd) (pc : Nat) (T : zx_T) : Bool := match zx_ex (zw_YK zx_Yt Kr false) zx_dt zx_rmt (zg_sp nds) md f 3000 (zx_drop pc md.1) T.1 T.2.1 T.2.2.1 T.2.2.2.2 T.2.2.2.1 with
  | some os => zg_ck m outs T.2.1 dE nds os
  | none => false
theorem zg_ck_l {m : Nat} {outs : List zx_Ou} {h : List zx_C} {dE : Option (List (Nat × (Int × Int)) × (zx_Ou → Bool)) × Bool} {nds : List zg_Nd} {o : zx_Ou} : ∀ {os : List zx_Os}, zg_ck m outs h dE nds os = true → .inl o ∈ os → zg_o1 m outs h dE o = true
  | .inl a :: r, hc, hm => by
    rw [zg_ck, Bool.and_eq_true] at hc
    rcases List.mem_cons.mp hm with g | g
    · cases g; exact hc.1
    · exact zg_ck_l hc.2 g
  | .inr a :: r, hc, hm => by
    rw [zg_ck, Bool.and_eq_true] at hc
    rcases List.mem_cons.mp hm with g | g
    · cases g
    · exact zg_ck_l hc.2 g
theorem zg_ck_r {m : Nat} {outs : List zx_Ou} {h : List zx_C} {dE : Option (List (Nat × (Int × Int)) × (zx_Ou → Bool)) × Bool} {nds : List zg_Nd} {q : Nat × zx_T} : ∀ {os : List zx_Os}, zg_ck m outs h dE nds os = true → .inr q ∈ os → nds.any (zg_q1 m h q) = true
  | .inl a :: r, hc, hm => by
    rw [zg_ck, Bool.and_eq_true] at hc
    rcases List.mem_cons.mp hm with g | g
    · cases g
    · exact zg_ck_r hc.2 g
  | .inr a :: r, hc, hm => by
    rw [zg_ck, Bool.and_eq_true] at hc
    rcases List.mem_cons.mp hm with g | g
    · cases g; exact hc.1
    · exact zg_ck_r hc.2 g
/-- fields behind a run -/
def zg_fs (ws ws' : va_W) (dE : List (Nat × (Int × Int))) : Prop := ∀ q ∈ dE, ∀ w, zg_fld ws q.1 w → ∃ w', zg_fld ws' q.1 w' ∧ w + q.2.1 ≤ w' ∧ w' ≤ w + q.2.2
def zg_os (ρ ρ' : List Int) (l : List (zx_L × (zx_L × (Int × Int)))) : Prop := ∀ q ∈ l, ∀ w, zx_ev ρ q.2.1 = some w → ∃ w', zx_ev ρ' q.1 = some w' ∧ w + q.2.2.1 ≤ w' ∧ w' ≤ w + q.2.2.2
theorem zg_rz_ok {b : Nat} {ex : List Nat} {ρ : List Int} {ad : List Nat} {o : Option zx_V} {v : Option Value} (h : zg_rz o = true) (hv : zx_rv b ex ρ ad o v) : v = some (.int 0) := by
  unfold zg_rz at h
  split at h
  case h_2 => cases h
  rename_i e
  rw [Bool.and_eq_true, decide_eq_true_iff] at h
  rcases v with _ | x
  · exact hv.elim
  · obtain ⟨w, h1, h2⟩ := (hv : ∃ w : Int32, x = .int w ∧ zx_ev ρ e = some w.toInt)
    subst h1
    have h3 := zx_isc_ev h.1 h2
    have h4 : w.toInt = 0 := by omega
    have h5 : w = 0 := by
      have h6 : w.toInt = (0 : Int32).toInt := h4
      exact Int32.toInt_inj.mp h6
    rw [h5]
section ZGR
variable {p : Program} {l : Launch} {e : Env} {R : Room} {s : State} {mi : MethodId} {args : Array Value} {below : List Frame} {meth : Method} {c : Code} {Q : State → Prop} {D : va_G} {A : Nat → Prop} {b : Nat} {ex : List Nat} {ad0 : zx_A0} {nL : Nat} {own : String} {cc : ByteArray} {Kr : List Nat} {d : Nat} {md : zx_MD}
theorem zg_dr_ok {ρ r2 : List Int} {tys tys' : List (ClassId × FieldType)} {G' : zx_G} {h h' : List zx_C} {ws ws' : va_W} (hG' : zx_ok (ρ ++ r2) G') (hh : zx_F2 (fun c q => zx_RC vwCl b ex ρ (zx_as ws) tys c q.2) h ws) (hh' : zx_F2 (fun c q => zx_RC vwCl b ex (ρ ++ r2) (zx_as ws') tys' c q.2) h' ws') {dE : List (Nat × (Int × Int))} (hc : dE.all (zg_dr G' h h') = true) : zg_fs ws ws' dE := by
  intro q hq w hw
  have hc := List.all_eq_true.mp hc q hq
  unfold zg_dr at hc
  split at hc
  case h_2 => cases hc
  rename_i f f' hf hf'
  obtain ⟨w1, h1, h2⟩ := zg_fe_ok hh hf
  obtain ⟨w2, h4, h5⟩ := zg_fe_ok hh' hf'
  have h3 := zg_fld_u hw h1
  subst h3
  have h6 := zg_xb_ok hG' hc (zx_sub_ev h5 (zx_ev_app h2))
  exact ⟨w2, h4, by omega, by omega⟩
theorem zg_run2 (C : zg_cx p R s mi args meth c A b ex nL own cc Kr d md) (hK : ∀ i ∈ ad0.2, i ∈ Kr) {f : zx_Fn} (hf : zx_FOK l vwCl zx_Ts zx_nw zx_sts (zw_YK zx_Yt Kr false) zx_aos zx_PRt zx_rmt d f) {m pc : Nat} {outs : List zx_Ou} {dE : Option (List (Nat × (Int × Int)) × (zx_Ou → Bool)) × Bool} {nds : List zg_Nd} {T : zx_T} {ρe r : List Int} {ws : va_W} {Zv : Option Value → va_W → Prop} (hm : ρe.length = m) (hck : zg_rk Kr f md m outs dE nds pc T = true)
    (KE : ∀ (o : zx_Ou) (r : List Int) (ws' : va_W), zw_E m o outs = true → (∀ v, zx_rv b ex (ρe ++ r) (zx_as ws') o.2.2 v → Zv v ws') → zg_ed p l e R s mi args below meth c Q D A b ex ad0 nL cc md.2.2.2 (zx_mR md.2.1) o (ρe ++ r) ws')
    (hE : ∀ (o : zx_Ou) (r' : List Int) (ws' : va_W) (tys : List (ClassId × FieldType)) (v : Option Value), zx_KP (ws, Kr) ws' → zx_ok (ρe ++ r') o.1 → zx_F2 (fun c q => zx_RC vwCl b ex (ρe ++ r') (zx_as ws') tys c q.2) o.2.1 ws' → (dE.2 = true ∧ v = some (.int 0)) ∨ (∃ l, dE.1 = some l ∧ zg_fs ws ws' l.1 ∧ l.2 o = true) → zx_rv b ex (ρe ++ r') (zx_as ws') o.2.2 v → Zv v ws')
    (hC : ∀ t ∈ nds, ∀ (r' : List Int) (ws' : va_W), zx_KP (ws, Kr) ws' → zg_fs ws ws' t.2.2.1 → zg_os (ρe ++ r) (ρe ++ r') t.2.2.2 → zg_go p l e R s mi args below meth c Q D A b ex ad0 nL t.1 t.2.1 (ρe ++ r') ws') : zg_go p l e R s mi args below meth c Q D A b ex ad0 nL pc T (ρe ++ r) ws := by
  unfold zg_rk at hck
  split at hck
  case h_2 => cases hck
  rename_i os hos
  refine zg_with (fun tys hG hh => ?_)
  refine zg_run C hK hf hos (fun o ho r2 ws' kp => ?_) (fun q hq r2 ws' kp => ?_)
  · have h1 := zg_ck_l hck ho
    unfold zg_o1 at h1
    rw [Bool.and_eq_true, Bool.or_eq_true] at h1
    obtain ⟨h1, h2⟩ := h1
    intro H' locs' ls' kc' pc' k' ir tys' g1 g2 g3 g4 g5 g6 g7 g8 g9 g10 g11
    rw [List.append_assoc] at g1 g7 g11
    refine KE o (r ++ r2) ws' h1 (fun v hv => ?_) H' locs' ls' kc' pc' k' ir tys' g1 g2 g3 g4 g5 g6 g7 g8 g9 g10 g11
    refine hE o (r ++ r2) ws' tys' v kp g1 g7 ?_ hv
    rcases h2 with h2 | h2
    · rw [Bool.and_eq_true] at h2
      exact Or.inl ⟨h2.1, zg_rz_ok h2.2 hv⟩
    · rw [← List.append_assoc] at g1 g7
      split at h2
      · rename_i l hl
        rw [Bool.and_eq_true] at h2
        exact Or.inr ⟨l, hl, zg_dr_ok g1 hh g7 h2.1, h2.2⟩
      · cases h2
  · have h1 := zg_ck_r hck hq
    obtain ⟨t, ht, h2⟩ := List.any_eq_true.mp h1
    unfold zg_q1 at h2
    simp only [Bool.and_eq_true] at h2
    obtain ⟨c1, c2, c3, c4⟩ := h2
    have c1 := Nat.eq_of_beq_eq_true c1
    rw [c1]
    refine zg_with (fun tys' hG' hh' => ?_)
    have hd := zg_dr_ok hG' hh hh' c3
    have hG'' := hG'
    rw [List.append_assoc]
    refine zg_T hm c2 (fun r' hσ => ?_)
    refine hC t ht r' ws' kp hd (fun x hx w hw => ?_)
    have c5 := List.all_eq_true.mp c4 x hx
    unfold zg_or at c5
    split at c5
    case h_2 => cases c5
    rename_i e1 he1
    obtain ⟨w', k1, k2⟩ := zw_sub_ok hσ he1
    rw [← List.append_assoc] at k2
    have k3 := zg_xb_ok hG'' c5 (zx_sub_ev k2 (zx_ev_app hw))
    exact ⟨w', k1, by omega, by omega⟩
/-- a lower bound of a field is known -/
def zg_tg (T : zx_T) (q : Nat) (lo : Int) : Option zx_T := match zg_fe T.2.1 q with
  | some ([(x, 1)], 0) => (match zy_get T.1 x with
    | some g => some (T.1.set x ((lo, g.1.2), g.2), T.2)
    | none => none)
  | _ => none
theorem zg_tight {pc q : Nat} {lo w : Int} {T T' : zx_T} {ρ : List Int} {ws : va_W} (ht : zg_tg T q lo = some T') (hw : zg_fld ws q w) (hlo : lo ≤ w) (hgo : zg_go p l e R s mi args below meth c Q D A b ex ad0 nL pc T' ρ ws) : zg_go p l e R s mi args below meth c Q D A b ex ad0 nL pc T ρ ws := by
  intro H locs ls kc tys lc hG B
  unfold zg_tg at ht
  split at ht
  case h_2 => cases ht
  rename_i x hx
  split at ht
  case h_2 => cases ht
  rename_i g hg
  cases ht
  rw [zy_get_eq] at hg
  obtain ⟨w1, h1, h2⟩ := zg_fe_ok B.2.2.2.2.1 hx
  have h3 := zg_fld_u hw h1
  subst h3
  refine hgo H locs ls kc tys lc (zx_ok_set hG hg (fun v hv => ?_)) B
  obtain ⟨u, h4, h5⟩ := zx_ev_iff.mp h2
  obtain ⟨v1, u1, h6, h7, h8⟩ := zx_evl_cons.mp h4
  cases h7
  rw [hv] at h6
  cases h6
  have h9 := hG.2 _ _ _ hv hg
  exact ⟨by show lo ≤ v; omega, h9.2.1⟩
end ZGR
/-- it isn't 0 -/
def zg_rn1 (G : zx_G) (o : Option zx_V) : Bool := match o with
  | none => true
  | some (.inl e) => zg_xb G e 1 1
  | some (.inr _) => true
theorem zg_rn1_ok {b : Nat} {ex : List Nat} {ρ : List Int} {ad : List Nat} {G : zx_G} {o : Option zx_V} {v : Option Value} (hG : zx_ok ρ G) (h : zg_rn1 G o = true) (hv : zx_rv b ex ρ ad o v) : v ≠ some (.int 0) := by
  intro h0
  subst h0
  rcases o with _ | e | q
  · exact hv.elim
  · obtain ⟨w, h1, h2⟩ := (hv : ∃ w : Int32, Value.int 0 = .int w ∧ zx_ev ρ e = some w.toInt)
    cases h1
    have h3 := zg_xb_ok hG (show zg_xb G e 1 1 = true from h) h2
    exact absurd h3.1 (by decide)
  · rcases q with q | q
    · rcases hv with ⟨-, h1⟩ | ⟨i, a, -, -, h1⟩
      · cases h1
      · cases h1
    · cases q
      · exact nomatch hv
      · obtain ⟨w, h1⟩ := (hv : ∃ w : Int64, Value.int 0 = .long w)
        cases h1
/-- a call, and the runs behind it -/
def zg_ca (Kr : List Nat) (f : zx_Fn) (md : zx_MD) (m : Nat) (outs : List zx_Ou) (dE0 : Option (List (Nat × (Int × Int)) × (zx_Ou → Bool)) × Bool) (nds0 : List zg_Nd) (dE : Option (List (Nat × (Int × Int)) × (zx_Ou → Bool)) × Bool) (nds : List zg_Nd) (pc ix : Nat) (en : zw_En) (T : zx_T) : Bool := match zg_cl en.2.2.2.2.2.1 md.2.1 md.2.2.1 ix en T.1 T.2.1 T.2.2.2.2 T.2.2.2.1 with
  | some z => z.1.all (fun o => (fun (T' : zx_T) => if zg_rz o.2.2 = true then zg_rk Kr f md m outs dE0 nds0 (pc + 3) T' else (zg_rn1 o.1 o.2.2 && zg_rk Kr f md m outs dE nds (pc + 3) T')) (o.1, o.2.1, T.2.2.1, o.2.2.toList ++ z.2.2.1, z.2.2.2))
  | none => false
def zg_cas (md : zx_MD) (ix : Nat) (en : zw_En) (T : zx_T) : List zx_V := match zg_cl en.2.2.2.2.2.1 md.2.1 md.2.2.1 ix en T.1 T.2.1 T.2.2.2.2 T.2.2.2.1 with
  | some z => z.2.1
  | none => []
/-- a call, and one state behind it -/
def zg_ct (md : zx_MD) (m : Nat) (ix : Nat) (en : zw_En) (T T' : zx_T) : Bool := match zg_cl en.2.2.2.2.2.1 md.2.1 md.2.2.1 ix en T.1 T.2.1 T.2.2.2.2 T.2.2.2.1 with
  | some z => z.1.all (fun o => (fun (T1 : zx_T) => zw_T m T' T1 (zw_sg m T' T1)) (o.1, o.2.1, T.2.2.1, o.2.2.toList ++ z.2.2.1, z.2.2.2))
  | none => false
def zg_sto (K0 : List Nat) (T : zx_T) : Option (Nat × (Nat × (zx_L × (zx_L × zx_T)))) := zg_st K0 T.1 T.2.1 T.2.2.1 T.2.2.2.2 T.2.2.2.1
def zg_sT (K0 : List Nat) (T : zx_T) : zx_T := match zg_sto K0 T with
  | some z => z.2.2.2.2
  | none => T
def zg_sE (K0 : List Nat) (T : zx_T) : zx_L := match zg_sto K0 T with
  | some z => z.2.2.1
  | none => ([], 0)
def zg_sV (K0 : List Nat) (T : zx_T) : zx_L := match zg_sto K0 T with
  | some z => z.2.2.2.1
  | none => ([], 0)
def zg_sk (K0 : List Nat) (T : zx_T) (i n : Nat) : Bool := match zg_sto K0 T with
  | some z => Nat.beq z.1 i && Nat.beq z.2.1 n
  | none => false
section ZGA
variable {p : Program} {l : Launch} {e : Env} {R : Room} {s : State} {mi : MethodId} {args : Array Value} {below : List Frame} {meth : Method} {c : Code} {Q : State → Prop} {D : va_G} {A : Nat → Prop} {b : Nat} {ex : List Nat} {ad0 : zx_A0} {nL : Nat} {own : String} {cc : ByteArray} {Kr : List Nat} {d : Nat} {md : zx_MD}
theorem zg_store2 (C : zg_cx p R s mi args meth c A b ex nL own cc Kr d md) {pc i n : Nat} {T : zx_T} {ρ : List Int} {ws : va_W} (hd : (pc, Instr.iastore, 1) ∈ md.1) (hk : zg_sk ad0.2 T i n = true) (hi : i ≠ 0)
    (hgo : ∀ (f : Nat → Int32) (w : Nat) (v' : Int32) (ws' : va_W), zg_row ws i f → zx_ev ρ (zg_sE ad0.2 T) = some (w : Int) → w < n → zx_ev ρ (zg_sV ad0.2 T) = some v'.toInt → zg_row ws' i (upd f w v') → (∀ j g, j ≠ i → zg_row ws j g → zg_row ws' j g) → (∀ q x, zg_fld ws q x → zg_fld ws' q x) → zg_go p l e R s mi args below meth c Q D A b ex ad0 nL (pc + 1) (zg_sT ad0.2 T) ρ ws') : zg_go p l e R s mi args below meth c Q D A b ex ad0 nL pc T ρ ws := by
  unfold zg_sk at hk
  unfold zg_sE zg_sV zg_sT at hgo
  split at hk
  case h_2 => cases hk
  rename_i z hz
  rw [hz] at hgo
  obtain ⟨i', n', e1, v1, T'⟩ := z
  rw [Bool.and_eq_true] at hk
  have e9 := Nat.eq_of_beq_eq_true hk.1
  have e8 := Nat.eq_of_beq_eq_true hk.2
  have e9 : i' = i := e9
  have e8 : n' = n := e8
  subst e9
  subst e8
  refine zg_store C hd hz (fun a cA f w v' h1 h2 h3 h4 => ?_)
  exact hgo f w v' _ ⟨a, cA, n', h1⟩ h2 h3 h4 (zg_row_set h1) (fun j g hj hg => zg_row_ne (Ne.symm hj) hg) (fun q x hx => zg_fld_ne hi hx)
theorem zg_run0 (C : zg_cx p R s mi args meth c A b ex nL own cc Kr d md) (hK : ∀ i ∈ ad0.2, i ∈ Kr) {f : zx_Fn} (hf : zx_FOK l vwCl zx_Ts zx_nw zx_sts (zw_YK zx_Yt Kr false) zx_aos zx_PRt zx_rmt d f) {m pc : Nat} {outs : List zx_Ou} {dE : Option (List (Nat × (Int × Int)) × (zx_Ou → Bool)) × Bool} {nds : List zg_Nd} {T : zx_T} {ρe : List Int} {ws : va_W} {Zv : Option Value → va_W → Prop} (hm : ρe.length = m) (hck : zg_rk Kr f md m outs dE nds pc T = true)
    (KE : ∀ (o : zx_Ou) (r : List Int) (ws' : va_W), zw_E m o outs = true → (∀ v, zx_rv b ex (ρe ++ r) (zx_as ws') o.2.2 v → Zv v ws') → zg_ed p l e R s mi args below meth c Q D A b ex ad0 nL cc md.2.2.2 (zx_mR md.2.1) o (ρe ++ r) ws')
    (hE : ∀ (o : zx_Ou) (r' : List Int) (ws' : va_W) (tys : List (ClassId × FieldType)) (v : Option Value), zx_KP (ws, Kr) ws' → zx_ok (ρe ++ r') o.1 → zx_F2 (fun c q => zx_RC vwCl b ex (ρe ++ r') (zx_as ws') tys c q.2) o.2.1 ws' → (dE.2 = true ∧ v = some (.int 0)) ∨ (∃ l, dE.1 = some l ∧ zg_fs ws ws' l.1 ∧ l.2 o = true) → zx_rv b ex (ρe ++ r') (zx_as ws') o.2.2 v → Zv v ws')
    (hC : ∀ t ∈ nds, ∀ (r' : List Int) (ws' : va_W), zx_KP (ws, Kr) ws' → zg_fs ws ws' t.2.2.1 → zg_os (ρe ++ []) (ρe ++ r') t.2.2.2 → zg_go p l e R s mi args below meth c Q D A b ex ad0 nL t.1 t.2.1 (ρe ++ r') ws') : zg_go p l e R s mi args below meth c Q D A b ex ad0 nL pc T ρe ws := by
  have h := zg_run2 (r := []) C hK hf hm hck KE hE hC
  rw [List.append_nil] at h
  exact h
theorem zg_call2 (C : zg_cx p R s mi args meth c A b ex nL own cc Kr d md) (hK : ∀ i ∈ ad0.2, i ∈ Kr) {f : zx_Fn} (hf : zx_FOK l vwCl zx_Ts zx_nw zx_sts (zw_YK zx_Yt Kr false) zx_aos zx_PRt zx_rmt d f) {m pc ix : Nat} {outs : List zx_Ou} {dE0 dE : Option (List (Nat × (Int × Int)) × (zx_Ou → Bool)) × Bool} {nds0 nds : List zg_Nd} {T : zx_T} {ρe r : List Int} {ws : va_W} {Zv : Option Value → va_W → Prop} {en : zw_En} {X : List Value → va_W → Prop} {Z : List Value → va_W → Option Value → va_W → Prop} {as : List zx_V} (hm : ρe.length = m) (hen : zg_EN l d en X Z) (hK2 : ∀ i ∈ ad0.2, i ∈ en.2.2.2.2.2.1) (hd : (pc, Instr.invokevirtual ix, 3) ∈ md.1) (hck : zg_ca Kr f md m outs dE0 nds0 dE nds pc ix en T = true) (has : zg_cas md ix en T = as)
    (KE : ∀ (o : zx_Ou) (r : List Int) (ws' : va_W), zw_E m o outs = true → (∀ v, zx_rv b ex (ρe ++ r) (zx_as ws') o.2.2 v → Zv v ws') → zg_ed p l e R s mi args below meth c Q D A b ex ad0 nL cc md.2.2.2 (zx_mR md.2.1) o (ρe ++ r) ws')
    (hX : ∀ av, zx_F2 (zx_R b ex (ρe ++ r) (zx_as ws)) as av → X av ws)
    (K0 : ∀ (av : List Value) (ws1 : va_W), zx_F2 (zx_R b ex (ρe ++ r) (zx_as ws)) as av → zx_KP (ws, en.2.2.2.2.2.1) ws1 → Z av ws (some (.int 0)) ws1 → (∀ (o : zx_Ou) (r' : List Int) (ws' : va_W) (tys : List (ClassId × FieldType)) (v' : Option Value), zx_KP (ws1, Kr) ws' → zx_ok (ρe ++ r') o.1 → zx_F2 (fun c q => zx_RC vwCl b ex (ρe ++ r') (zx_as ws') tys c q.2) o.2.1 ws' → (dE0.2 = true ∧ v' = some (.int 0)) ∨ (∃ l, dE0.1 = some l ∧ zg_fs ws1 ws' l.1 ∧ l.2 o = true) → zx_rv b ex (ρe ++ r') (zx_as ws') o.2.2 v' → Zv v' ws') ∧ ∀ t ∈ nds0, ∀ (r' : List Int) (ws' : va_W), zx_KP (ws1, Kr) ws' → zg_fs ws1 ws' t.2.2.1 → zg_os (ρe ++ r) (ρe ++ r') t.2.2.2 → zg_go p l e R s mi args below meth c Q D A b ex ad0 nL t.1 t.2.1 (ρe ++ r') ws')
    (K : ∀ (av : List Value) (v : Option Value) (ws1 : va_W), zx_F2 (zx_R b ex (ρe ++ r) (zx_as ws)) as av → zx_KP (ws, en.2.2.2.2.2.1) ws1 → Z av ws v ws1 → v ≠ some (.int 0) → (∀ (o : zx_Ou) (r' : List Int) (ws' : va_W) (tys : List (ClassId × FieldType)) (v' : Option Value), zx_KP (ws1, Kr) ws' → zx_ok (ρe ++ r') o.1 → zx_F2 (fun c q => zx_RC vwCl b ex (ρe ++ r') (zx_as ws') tys c q.2) o.2.1 ws' → (dE.2 = true ∧ v' = some (.int 0)) ∨ (∃ l, dE.1 = some l ∧ zg_fs ws1 ws' l.1 ∧ l.2 o = true) → zx_rv b ex (ρe ++ r') (zx_as ws') o.2.2 v' → Zv v' ws') ∧ ∀ t ∈ nds, ∀ (r' : List Int) (ws' : va_W), zx_KP (ws1, Kr) ws' → zg_fs ws1 ws' t.2.2.1 → zg_os (ρe ++ r) (ρe ++ r') t.2.2.2 → zg_go p l e R s mi args below meth c Q D A b ex ad0 nL t.1 t.2.1 (ρe ++ r') ws') : zg_go p l e R s mi args below meth c Q D A b ex ad0 nL pc T (ρe ++ r) ws := by
  unfold zg_ca at hck
  unfold zg_cas at has
  split at hck
  case h_2 => cases hck
  rename_i z hz
  rw [hz] at has
  obtain ⟨os, as', rk, k'⟩ := z
  have has : as' = as := has
  subst has
  refine zg_call C hK2 hen hd hz hX (fun o ho av v r2 ws1 ha kp hv hZ => ?_)
  have h1 := List.all_eq_true.mp hck o ho
  have h1 : (if zg_rz o.2.2 = true then zg_rk Kr f md m outs dE0 nds0 (pc + 3) (o.1, o.2.1, T.2.2.1, o.2.2.toList ++ rk, k') else (zg_rn1 o.1 o.2.2 && zg_rk Kr f md m outs dE nds (pc + 3) (o.1, o.2.1, T.2.2.1, o.2.2.toList ++ rk, k'))) = true := h1
  have hup : ∀ (t : zg_Nd) (r' : List Int), zg_os (ρe ++ (r ++ r2)) (ρe ++ r') t.2.2.2 → zg_os (ρe ++ r) (ρe ++ r') t.2.2.2 := fun t r' hos x hx w hw => hos x hx w (by rw [← List.append_assoc]; exact zx_ev_app hw)
  rw [List.append_assoc]
  split at h1
  · rename_i h0
    have hv0 := zg_rz_ok h0 hv
    subst hv0
    obtain ⟨k1, k2⟩ := K0 av ws1 ha kp hZ
    exact zg_run2 C hK hf hm h1 KE k1 (fun t ht r' ws' kp' hfs hos => k2 t ht r' ws' kp' hfs (hup t r' hos))
  · rw [Bool.and_eq_true] at h1
    refine zg_with (fun tys0 hG0 hh0 => ?_)
    have hv9 := zg_rn1_ok (by rw [← List.append_assoc] at hG0; exact hG0) h1.1 hv
    obtain ⟨k1, k2⟩ := K av v ws1 ha kp hZ hv9
    exact zg_run2 C hK hf hm h1.2 KE k1 (fun t ht r' ws' kp' hfs hos => k2 t ht r' ws' kp' hfs (hup t r' hos))
theorem zg_callT (C : zg_cx p R s mi args meth c A b ex nL own cc Kr d md) {m pc ix : Nat} {T T' : zx_T} {ρe r : List Int} {ws : va_W} {en : zw_En} {X : List Value → va_W → Prop} {Z : List Value → va_W → Option Value → va_W → Prop} {as : List zx_V} (hm : ρe.length = m) (hen : zg_EN l d en X Z) (hK2 : ∀ i ∈ ad0.2, i ∈ en.2.2.2.2.2.1) (hd : (pc, Instr.invokevirtual ix, 3) ∈ md.1) (hck : zg_ct md m ix en T T' = true) (has : zg_cas md ix en T = as)
    (hX : ∀ av, zx_F2 (zx_R b ex (ρe ++ r) (zx_as ws)) as av → X av ws)
    (K : ∀ (av : List Value) (v : Option Value) (ws1 : va_W) (r' : List Int), zx_F2 (zx_R b ex (ρe ++ r) (zx_as ws)) as av → zx_KP (ws, en.2.2.2.2.2.1) ws1 → Z av ws v ws1 → zg_go p l e R s mi args below meth c Q D A b ex ad0 nL (pc + 3) T' (ρe ++ r') ws1) : zg_go p l e R s mi args below meth c Q D A b ex ad0 nL pc T (ρe ++ r) ws := by
  unfold zg_ct at hck
  unfold zg_cas at has
  split at hck
  case h_2 => cases hck
  rename_i z hz
  rw [hz] at has
  obtain ⟨os, as', rk, k'⟩ := z
  have has : as' = as := has
  subst has
  refine zg_call C hK2 hen hd hz hX (fun o ho av v r2 ws1 ha kp hv hZ => ?_)
  have h1 := List.all_eq_true.mp hck o ho
  rw [List.append_assoc]
  exact zg_T hm h1 (fun r' _ => K av v ws1 r' ha kp hZ)
end ZGA
end
