noncomputable section
/-! zgL: the law's frame by hand: its script, the reference's cells behind the class's -/
def zgL_cx (p : Program) (R : Room) (s : State) (mi : MethodId) (args : Array Value) (meth : Method) (c : Code) (A : Nat → Prop) (ex : List Nat) (nL : Nat) (own : String) (cc : ByteArray) (Kr : List Nat) (d : Nat) (md : zx_MD) : Prop :=
  zx_FX p s mi args meth c R cc own zx_Ts zx_nw vwCl A ex nL zx_sts (zw_YK zx_Yt Kr false) zx_aos zx_dt md.2.1 ∧ zx_LK own vwCl zx_Ts zx_nw zx_PRt md.2.2.1 ∧ (d + 1 ≤ R.frames ∧ 100 * (d + 1) ≤ R.locals) ∧ c.maxLocals = nL ∧ zx_TB cc md.1
/-- the law as it runs from a head on: it makes no cell there (what told throws is made by hand) -/
def zx_mlw : zx_MD := (zx_tblaw, ((zx_fd zx_Fc14, zx_fd zx_Sc14, zx_fd zx_Cc14, zx_fd zx_Ic14, zx_has zx_Lc14, zx_fd [], 7, false, (0, 0), true), (zx_fd zx_Kc14, 1)))
/-- fields of an object of a list of cells, whatever the references are -/
theorem zgL_fe_ok {b : Nat} {ex : List Nat} {ρ : List Int} {ad : List Nat} {tys : List (ClassId × FieldType)} {h : List zx_C} {ws : va_W} (hh : zx_F2 (fun c q => zx_RC vwCl b ex ρ ad tys c q.2) h ws) {q : Nat} {e : zx_L} (he : zg_fe h q = some e) : ∃ w, zg_fld ws q w ∧ zx_ev ρ e = some w := by
  unfold zg_fe at he
  split at he
  case h_2 => cases he
  rename_i o r
  split at he
  case h_2 => cases he
  rename_i e' hs
  cases he
  rw [zy_get_eq] at hs
  rcases ws with _ | ⟨y, t⟩
  · exact hh.elim
  · obtain ⟨⟨fs, h1, h2⟩, -⟩ := hh
    obtain ⟨x, h3, h4⟩ := zx_F2_get h2 hs
    obtain ⟨w, h5, h6⟩ := (h4 : ∃ w : Int32, x = .int w ∧ zx_ev ρ e = some w.toInt)
    subst h5
    obtain ⟨ya, ye⟩ := y
    have h1 : ye = .inr (o.1, fs) := h1
    subst h1
    exact ⟨w.toInt, ⟨ya, o.1, fs, w, rfl, h3, rfl⟩, h6⟩
theorem zgL_dr_ok {ρ r2 : List Int} {tys tys' : List (ClassId × FieldType)} {G' : zx_G} {h h' : List zx_C} {ws ws' : va_W} {b : Nat} {ex ad ad' : List Nat} (hG' : zx_ok (ρ ++ r2) G') (hh : zx_F2 (fun c q => zx_RC vwCl b ex ρ ad tys c q.2) h ws) (hh' : zx_F2 (fun c q => zx_RC vwCl b ex (ρ ++ r2) ad' tys' c q.2) h' ws') {dE : List (Nat × (Int × Int))} (hc : dE.all (zg_dr G' h h') = true) : zg_fs ws ws' dE := by
  intro q hq w hw
  have hc := List.all_eq_true.mp hc q hq
  unfold zg_dr at hc
  split at hc
  case h_2 => cases hc
  rename_i f f' hf hf'
  obtain ⟨w1, h1, h2⟩ := zgL_fe_ok hh hf
  obtain ⟨w2, h4, h5⟩ := zgL_fe_ok hh' hf'
  have h3 := zg_fld_u hw h1
  subst h3
  have h6 := zg_xb_ok hG' hc (zx_sub_ev h5 (zx_ev_app h2))
  exact ⟨w2, h4, by omega, by omega⟩
theorem zgL_drop {α β : Type} {Rr : α → β → Prop} : ∀ (o : Nat) {l : List α} {m : List β}, zx_F2 Rr l m → zx_F2 Rr (l.drop o) (m.drop o)
  | 0, _, _, h => by rw [List.drop_zero, List.drop_zero]; exact h
  | o + 1, [], [], h => trivial
  | o + 1, a :: l, b :: m, h => zgL_drop o h.2
  | o + 1, [], _ :: _, h => h.elim
  | o + 1, _ :: _, [], h => h.elim
def zgL_q1 (o m : Nat) (h : List zx_C) (q : Nat × zx_T) (t : zg_Nd) : Bool := Nat.beq q.1 t.1 && (fun (σ : List zx_L) => zw_T m t.2.1 q.2 σ && (t.2.2.1.all (zg_dr q.2.1 (h.drop o) (q.2.2.1.drop o)) && t.2.2.2.all (zg_or q.2.1 σ))) (zw_sg m t.2.1 q.2)
/-- ends give true; places are told -/
def zgL_ck (o m : Nat) (h : List zx_C) (nds : List zg_Nd) : List zx_Os → Bool
  | [] => true
  | .inl u :: r => (match u.2.2 with
    | some (.inl e) => zx_isc e && decide (e.2 = 1)
    | _ => false) && zgL_ck o m h nds r
  | .inr q :: r => nds.any (zgL_q1 o m h q) && zgL_ck o m h nds r
theorem zgL_ck_r {o m : Nat} {h : List zx_C} {nds : List zg_Nd} {q : Nat × zx_T} : ∀ {os : List zx_Os}, zgL_ck o m h nds os = true → .inr q ∈ os → nds.any (zgL_q1 o m h q) = true
  | .inl a :: r, hc, hm => by
    rw [zgL_ck, Bool.and_eq_true] at hc
    rcases List.mem_cons.mp hm with g | g
    · cases g
    · exact zgL_ck_r hc.2 g
  | .inr a :: r, hc, hm => by
    rw [zgL_ck, Bool.and_eq_true] at hc
    rcases List.mem_cons.mp hm with g | g
    · cases g; exact hc.1
    · exact zgL_ck_r hc.2 g
def zgL_is1 (u : zx_Ou) : Bool := match u.2.2 with
  | some (.inl e) => zx_isc e && decide (e.2 = 1)
  | _ => false
theorem zgL_ck_l {o m : Nat} {h : List zx_C} {nds : List zg_Nd} {u : zx_Ou} : ∀ {os : List zx_Os}, zgL_ck o m h nds os = true → .inl u ∈ os → zgL_is1 u = true
  | .inl a :: r, hc, hm => by
    rw [zgL_ck, Bool.and_eq_true] at hc
    rcases List.mem_cons.mp hm with g | g
    · cases g; exact hc.1
    · exact zgL_ck_l hc.2 g
  | .inr a :: r, hc, hm => by
    rw [zgL_ck, Bool.and_eq_true] at hc
    rcases List.mem_cons.mp hm with g | g
    · cases g
    · exact zgL_ck_l hc.2 g
def zgL_rk (o : Nat) (hA : List zx_C) (Kr : List Nat) (f : zx_Fn) (md : zx_MD) (m : Nat) (nds : List zg_Nd) (pc : Nat) (T : zx_T) : Bool := match zx_ex (zw_YK zx_Yt Kr false) zx_dt zx_rmt (zg_sp nds) md f 3000 (zx_drop pc md.1) T.1 T.2.1 T.2.2.1 T.2.2.2.2 T.2.2.2.1 with
  | some os => zgL_ck o m hA nds os
  | none => false
/-- a call's states -/
def zgL_cl (o : Nat) (KK : List Nat) (M : zx_M) (cf : Nat → Option (Nat × Nat × Nat × Nat)) (ix : Nat) (en : zw_En) (G : zx_G) (h : List zx_C) (k : Nat × Nat) (sk : List zx_V) : Option (List zx_Ou × (List zx_V × (List zx_V × (Nat × Nat)))) := match cf ix with
  | some q => (match zy_get zx_rmt q.2.1 with
    | some rm => if q.1 = 0 ∧ (sk.take q.2.2.1).length = q.2.2.1 ∧ zx_cats (sk.drop q.2.2.1) ≤ 8 ∧ zx_le2 (k.1 + rm.1, k.2 + rm.2) (zx_mR M) = true ∧ zx_recvr 0 q.2.2.2 h (sk.take q.2.2.1).reverse = true ∧ zw_off en.2.2.2.1 (sk.take q.2.2.1).reverse = o then (match zw_mmE KK true q.2.1 G h (sk.take q.2.2.1).reverse [en] with
      | some os => some (os, (sk.take q.2.2.1).reverse, sk.drop q.2.2.1, k.1 + rm.1, k.2 + rm.2)
      | none => none) else none
    | none => none)
  | none => none
def zgL_ca (o : Nat) (KK Kr : List Nat) (f : zx_Fn) (md : zx_MD) (m : Nat) (dC : List (Nat × (Int × Int))) (nds : List zg_Nd) (pc ix : Nat) (en : zw_En) (T : zx_T) : Bool := match zgL_cl o KK md.2.1 md.2.2.1 ix en T.1 T.2.1 T.2.2.2.2 T.2.2.2.1 with
  | some z => z.1.all (fun u => Nat.beq u.2.1.length T.2.1.length && zg_o4 T.1.length (fun G1 => dC.all (zg_dr G1 (T.2.1.drop o) (u.2.1.drop o)) && zgL_rk o u.2.1 Kr f md m nds (pc + 3) (G1, u.2.1, T.2.2.1, u.2.2.toList ++ z.2.2.1, z.2.2.2)) u.1)
  | none => false
/-- the reference's cells -/
def zgL_bk (o n : Nat) (ws : va_W) : va_W := (ws.drop o).take n
theorem zgL_bk_get {o n i : Nat} {ws : va_W} (hi : i < n) : (zgL_bk o n ws)[i]? = ws[o + i]? := by
  unfold zgL_bk
  rw [List.getElem?_take, if_pos hi, List.getElem?_drop]
theorem zgL_bk_row {o n i : Nat} {ws : va_W} {f : Nat → Int32} (hi : i < n) : zg_row (zgL_bk o n ws) i f ↔ zg_row ws (o + i) f := by
  unfold zg_row
  rw [zgL_bk_get hi]
theorem zgL_bk_fld {o n q : Nat} {ws : va_W} {w : Int} (hn : 0 < n) : zg_fld (zgL_bk o n ws) q w ↔ zg_fld (ws.drop o) q w := by
  unfold zg_fld
  rw [zgL_bk_get hn, List.getElem?_drop]
/-- behind a call at a block -/
def zgL_be (o n : Nat) (ws ws1 : va_W) : va_W := ws.take o ++ (ws1 ++ ws.drop (o + n))
theorem zgL_be_bk {o n : Nat} {ws ws1 : va_W} (h : o + n ≤ ws.length) (h1 : (zgL_be o n ws ws1).length = ws.length) : zgL_bk o n (zgL_be o n ws ws1) = ws1 := by
  unfold zgL_be at h1
  rw [List.length_append, List.length_append, List.length_take, List.length_drop] at h1
  have h2 : ws1.length = n := by omega
  have h3 : (ws.take o).length = o := by rw [List.length_take]; omega
  unfold zgL_bk zgL_be
  rw [List.drop_append_of_le_length (by omega), List.drop_eq_nil_of_le (by omega), List.nil_append, List.take_append_of_le_length (by omega), List.take_of_length_le (by omega)]
section ZGLA
variable {p : Program} {l : Launch} {e : Env} {R : Room} {s : State} {mi : MethodId} {args : Array Value} {below : List Frame} {meth : Method} {c : Code} {Q : State → Prop} {D : va_G} {A : Nat → Prop} {b : Nat} {ex : List Nat} {ad0 : zx_A0} {nL : Nat} {own : String} {cc : ByteArray} {Kr : List Nat} {d : Nat} {md : zx_MD} {xs : Nat → Int32}
theorem zgL_run (C : zgL_cx p R s mi args meth c A ex nL own cc Kr d md) (hK : ∀ i ∈ ad0.2, i ∈ Kr) {f : zx_Fn} (hf : zx_FOK l vwCl zx_Ts zx_nw zx_sts (zw_YK zx_Yt Kr false) zx_aos zx_PRt zx_rmt d f) {stp : Nat → Bool} {n pc : Nat} {T : zx_T} {ρ : List Int} {ws : va_W} {os : List zx_Os} (hS : zx_SX b xs A s md.2.1 ρ) (hos : zx_ex (zw_YK zx_Yt Kr false) zx_dt zx_rmt stp md f n (zx_drop pc md.1) T.1 T.2.1 T.2.2.1 T.2.2.2.2 T.2.2.2.1 = some os)
    (hE : ∀ o, .inl o ∈ os → ∀ (r2 : List Int) (ws' : va_W), zx_KP (ws, Kr) ws' → zg_ed p l e R s mi args below meth c Q D A b ex ad0 nL cc md.2.2.2 (zx_mR md.2.1) o (ρ ++ r2) ws')
    (hC : ∀ q, .inr q ∈ os → ∀ (r2 : List Int) (ws' : va_W), zx_KP (ws, Kr) ws' → zg_go p l e R s mi args below meth c Q D A b ex ad0 nL q.1 q.2 (ρ ++ r2) ws') : zg_go p l e R s mi args below meth c Q D A b ex ad0 nL pc T ρ ws := by
  intro H locs ls kc tys lc hG B
  obtain ⟨F, hLK, hroom, hml, htbl⟩ := C
  cases hc : zx_drop pc md.1 with
  | nil => rw [hc, zx_ex_nil] at hos; cases hos
  | cons x nx =>
    obtain ⟨g1, g2⟩ := zx_drop_ok (t := pc) (l := md.1)
    rw [hc] at hos g1
    rw [← g2 x nx hc]
    obtain ⟨b1, b2, b3, ⟨b4, b40⟩, b5⟩ := B
    refine zx_ex_ok (Y := zw_YK zx_Yt Kr false) (xs := xs) (md := md) (f := f) (k := T.2.2.2.2) (ad0 := (ws, Kr)) ⟨rfl, fun _ _ => trivial⟩ F zx_arrs hf hLK zx_Ts_good zx_nw_kind hroom hml htbl n x nx ρ _ _ _ _ os H locs ls kc hS g1 ⟨hG, tys, ws, lc, b1, b2, b3, ⟨b4, zx_KP_rf ws Kr⟩, b5⟩ hos ⟨fun o ho r2 H' locs' ls' kc' pc' k' ir tys' ws' g1 g2 g3 g4 g5 g6 g7 g8 g9 g10 g11 => ?_, fun q hq r2 H' locs' ls' kc' J' => ?_⟩
    · exact hE o ho r2 ws' g6 H' locs' ls' kc' pc' k' ir tys' g1 g2 g3 g4 g5 (zg_KP_tr b40 hK g6) g7 g8 g9 g10 g11
    · obtain ⟨hG', tys', ws', lc', a1, a2, a3, ⟨a4, a40⟩, a5⟩ := J'
      exact hC q hq r2 ws' a40 H' locs' ls' kc' tys' lc' hG' ⟨a1, a2, a3, ⟨a4, zg_KP_tr b40 hK a40⟩, a5⟩
theorem zgL_run3 (C : zgL_cx p R s mi args meth c A ex nL own cc Kr d md) (hK : ∀ i ∈ ad0.2, i ∈ Kr) {f : zx_Fn} (hf : zx_FOK l vwCl zx_Ts zx_nw zx_sts (zw_YK zx_Yt Kr false) zx_aos zx_PRt zx_rmt d f) {m pc o : Nat} {nds : List zg_Nd} {T : zx_T} {ρe r : List Int} {ws wsA : va_W} {hA : List zx_C} {adA : List Nat} {tysA : List (ClassId × FieldType)} (hm : ρe.length = m) (hS : ∀ r, zx_SX b xs A s md.2.1 (ρe ++ r)) (hhA : zx_F2 (fun c q => zx_RC vwCl b ex (ρe ++ r) adA tysA c q.2) hA wsA) (hck : zgL_rk o hA Kr f md m nds pc T = true)
    (KE : ∀ (u : zx_Ou) (r : List Int) (ws' : va_W), zgL_is1 u = true → zg_ed p l e R s mi args below meth c Q D A b ex ad0 nL cc md.2.2.2 (zx_mR md.2.1) u (ρe ++ r) ws')
    (hC : ∀ t ∈ nds, ∀ (r' : List Int) (ws' : va_W), zx_KP (ws, Kr) ws' → zg_fs (wsA.drop o) (ws'.drop o) t.2.2.1 → zg_os (ρe ++ r) (ρe ++ r') t.2.2.2 → zg_go p l e R s mi args below meth c Q D A b ex ad0 nL t.1 t.2.1 (ρe ++ r') ws') : zg_go p l e R s mi args below meth c Q D A b ex ad0 nL pc T (ρe ++ r) ws := by
  unfold zgL_rk at hck
  split at hck
  case h_2 => cases hck
  rename_i os hos
  refine zg_with (fun tys hG hh => ?_)
  refine zgL_run C hK hf (hS r) hos (fun u hu r2 ws' kp => ?_) (fun q hq r2 ws' kp => ?_)
  · rw [List.append_assoc]
    exact KE u (r ++ r2) ws' (zgL_ck_l hck hu)
  · have h1 := zgL_ck_r hck hq
    obtain ⟨t, ht, h2⟩ := List.any_eq_true.mp h1
    unfold zgL_q1 at h2
    simp only [Bool.and_eq_true] at h2
    obtain ⟨c1, c2, c3, c4⟩ := h2
    have c1 := Nat.eq_of_beq_eq_true c1
    rw [c1]
    refine zg_with (fun tys' hG' hh' => ?_)
    have hd := zgL_dr_ok hG' (zgL_drop o hhA) (zgL_drop o hh') c3
    have hG'' := hG'
    rw [List.append_assoc]
    refine zg_T hm c2 (fun r' hσ => ?_)
    refine hC t ht r' ws' kp hd (fun x hx w hw => ?_)
    have c5 := List.all_eq_true.mp c4 x hx
    unfold zg_or at c5
    split at c5
    case h_2 => cases c5
    rename_i e1 he1
    obtain ⟨w', k1, k2⟩ := zw_sub_ok hσ he1
    rw [← List.append_assoc] at k2
    have k3 := zg_xb_ok hG'' c5 (zx_sub_ev k2 (zx_ev_app hw))
    exact ⟨w', k1, by omega, by omega⟩
end ZGLA
section ZGLC
variable {p : Program} {l : Launch} {e : Env} {R : Room} {s : State} {m : MethodId} {args : Array Value} {below : List Frame} {meth : Method} {c : Code} {Q : State → Prop} {D : va_G} {A : Nat → Prop} {b : Nat} {ex : List Nat} {ad0 : zx_A0} {nL : Nat} {own : String} {cc : ByteArray} {Kr : List Nat} {d : Nat} {md : zx_MD}
variable {ρ : List Int} {G : zx_G} {h : List zx_C} {lv : List (Nat × zx_V)} {k : Nat × Nat} {sk : List zx_V} {H : Heap} {locs : List Loc} {ls : Array Slot} {kc : List Value} {tys : List (ClassId × FieldType)} {ws : va_W} {lc : List (Nat × Value)} {pc : Nat}
theorem zgL_call0 {o ix : Nat} {KK : List Nat} {en : zw_En} {X : List Value → va_W → Prop} {Z : List Value → va_W → Option Value → va_W → Prop} {os : List zx_Ou} {as rk : List zx_V} {k' : Nat × Nat} (C : zgL_cx p R s m args meth c A ex nL own cc Kr d md) (hK : ∀ i ∈ ad0.2, i ∈ KK) (hen : zg_EN l d en X Z) (hd : decode cc pc = .ok (.invokevirtual ix, 3)) (hcl : zgL_cl o KK md.2.1 md.2.2.1 ix en G h k sk = some (os, as, rk, k')) (hG : zx_ok ρ G) (B : zx_B D vwCl A b ex ad0 nL s ρ h lv sk H locs ls kc tys ws lc)
    (hX : ∀ av, zx_F2 (zx_R b ex ρ (zx_as ws)) as av → X av ((ws.drop o).take en.2.2.1.length))
    (K : ∀ u ∈ os, ∀ (av : List Value) (v : Option Value) (r2 : List Int) (ws' : va_W), zx_F2 (zx_R b ex ρ (zx_as ws)) as av → zx_KP (ws, KK) ws' → zx_rv b ex (ρ ++ r2) (zx_as ws') u.2.2 v → (∃ ws1, ws' = zgL_be o en.2.2.1.length ws ws1 ∧ Z av ((ws.drop o).take en.2.2.1.length) v ws1) → zg_go p l e R s m args below meth c Q D A b ex ad0 nL (pc + 3) (u.1, u.2.1, lv, u.2.2.toList ++ rk, k') (ρ ++ r2) ws') : W p l e R s m args below meth c H locs k.1 k.2 Q (F0 m pc ls kc) := by
  obtain ⟨F, hLK, hroom, hml, htbl⟩ := C
  obtain ⟨hx, hb, hown, hts, hnw, hA, hR, hin, hnL, hCX, hao, hCK, hMK⟩ := F
  have hsz : ls.size = nL := B.2.2.2.2.2.2.1.1
  unfold zgL_cl at hcl
  simp only [zy_get_eq] at hcl
  split at hcl
  case h_2 => cases hcl
  rename_i q hq
  obtain ⟨L5, L0, -⟩ := hLK.2 ix q hq
  split at hcl
  case h_2 => cases hcl
  rename_i rm hrm
  split at hcl
  case isFalse => cases hcl
  rename_i hc
  obtain ⟨g, c1, c2, c3, c4, c5⟩ := hc
  split at hcl
  case h_2 => cases hcl
  rename_i os' hos
  cases hcl
  rw [zw_mmE] at hos
  split at hos
  case isFalse => cases hos
  rename_i hcc
  simp only [Bool.and_eq_true] at hcc
  obtain ⟨e1, e2, e3, e4, e6, e5⟩ := hcc
  have hj := Nat.eq_of_beq_eq_true e1
  unfold zw_mmE.zw_mm1 at e6
  rw [Bool.and_eq_true] at e6
  cases hos
  rw [c5] at e2 e3 e4 e6 K
  have hne5 : q.1 < 5 := by omega
  obtain ⟨y, yc, maxL, ret, n1, n2, n3, n4, n5, n6, L0⟩ := L0 hne5
  have h8 := B.2.2.2.2.2.2.2
  obtain ⟨htk, hdr⟩ := zx_F2_take q.2.2.1 h8
  have hav := zx_F2_rev htk
  have hcat := zx_cats_ok hdr
  have hW8 : ((kc.drop q.2.2.1).map fun v => v.category).sum ≤ 8 := by rw [hcat]; exact c2
  have hk2 : k.1 + rm.1 ≤ R.cells ∧ k.2 + rm.2 ≤ R.slots := by
    unfold zx_le2 at c3
    rw [Bool.and_eq_true] at c3
    rw [hR.1, hR.2]
    exact ⟨Nat.le_of_ble_eq_true c3.1, Nat.le_of_ble_eq_true c3.2⟩
  rw [← hj] at n1 hrm
  have hM := zg_loc (o := o) (D := D) (Z' := fun v ws' => ∃ ws1, ws' = zgL_be o en.2.2.1.length ws ws1 ∧ Z (kc.take q.2.2.1).reverse ((ws.drop o).take en.2.2.1.length) v ws1) hen (fun u hu => Nat.eq_of_beq_eq_true (List.all_eq_true.mp e5 u hu)) e3 e4 e2 e6.1 n1 hrm hG B.2.2.2.2.1 hav (sz := H.size) (fun x hx => hA x (Nat.le_trans B.2.2.2.1.1.1 hx)) (hX _ hav) (fun v ws1 hz => ⟨ws1, rfl, hz⟩)
  have hrooms : ({ frames := d, cells := rm.1, slots := rm.2, locals := 100 * d } : Room).frames + 1 ≤ R.frames ∧ 8 + (maxL + 11) + ({ frames := d, cells := rm.1, slots := rm.2, locals := 100 * d } : Room).locals ≤ R.locals := ⟨hroom.1, by show 8 + (maxL + 11) + 100 * d ≤ R.locals; omega⟩
  have hgT : GoodIn zx_Ts (Jvm.Cond.code y yc maxL ret :: zx_Ts) := by
    intro w hw
    have hw2 : w ∈ zx_Ts := (List.mem_cons.mp hw).elim (fun g => by rw [g]; exact n3) id
    exact ⟨hw2, good_of_word (List.all_eq_true.mp zx_Ts_good w hw2)⟩
  have hgo : ∀ w ∈ zx_Ts, w ∈ zx_Ts ∧ ((w.onTables && w.keeps) = true ∨ ∃ ty, w = .arrayClass ty) := fun w hw => ⟨hw, good_of_word (List.all_eq_true.mp zx_Ts_good w hw)⟩
  have hcall : CallFix p m c cc nL s args zx_Ts own := ⟨hx, hb, hml, hown, hts⟩
  have hstk : kc = kc.take q.2.2.1 ++ kc.drop q.2.2.1 := (List.take_append_drop _ _).symm
  have hpre : ∀ U : State, U.heap = H → s.WarmedH U.vm → zx_Pc D vwCl A ex zx_sts zx_Yt zx_nw zx_aos tys ws H.size (kc.take q.2.2.1).reverse (kc.take q.2.2.1).reverse.toArray U := fun U hU hW =>
    ⟨rfl, by rw [hU], by rw [hU]; exact B.2.1, va_K.moved hW.alike B.1, B.2.2.1, by rw [hU]; exact zx_CX_move (Y := zx_Yt) hW.alike (fun a h1 h2 => B.2.2.2.1.1.2.1 a h1 h2) hCX, zx_nw_warm zx_nw_kind hW hnw, fun C hC => va_AO.moved hW.alike (hao C hC)⟩
  have hbl : FrameBlind (zx_Pc D vwCl A ex zx_sts zx_Yt zx_nw zx_aos tys ws H.size (kc.take q.2.2.1).reverse) := zx_blind zx_nw_kind
  have hsub : zx_B D vwCl A b ex ad0 nL s ρ h lv (sk.drop q.2.2.1) H locs ls (kc.drop q.2.2.1) tys ws lc := zx_B_sk B hdr
  have hkl : (kc.take q.2.2.1).length = q.2.2.1 := by rw [← zx_F2_len htk]; exact c1
  have hrec : ∀ (v : zx_V) (as : List zx_V), (sk.take q.2.2.1).reverse = v :: as → ∃ (x : Value) (As : List Value), (kc.take q.2.2.1).reverse = x :: As ∧ zx_R b ex ρ (zx_as ws) v x ∧ kc = As.reverse ++ x :: kc.drop q.2.2.1 ∧ As.length = q.2.2.1 - 1 := by
    intro v as hs
    rw [hs] at hav
    cases hr : (kc.take q.2.2.1).reverse with
    | nil => rw [hr] at hav; exact hav.elim
    | cons x As =>
      rw [hr] at hav
      have h9 : kc.take q.2.2.1 = As.reverse ++ [x] := by
        have := congrArg List.reverse hr
        rw [List.reverse_reverse, List.reverse_cons] at this
        exact this
      refine ⟨x, As, rfl, hav.1, ?_, ?_⟩
      · have h10 := hstk
        rw [h9, List.append_assoc] at h10
        exact h10
      · have h11 := congrArg List.length h9
        rw [hkl, List.length_append, List.length_reverse, List.length_singleton] at h11
        omega
  obtain ⟨j1, j2, j3, j4, j50⟩ := L0.1 g
  obtain ⟨ids, as, hs, c4⟩ := zx_recvr0 c4
  obtain ⟨x, As, r1, r2, r3, r4⟩ := hrec _ _ hs
  rcases r2 with ⟨h4, -⟩ | ⟨i0, a, h4, h5, rfl⟩
  · cases h4
  have hrcv : ∃ cell : Cell, H[a]? = some cell ∧ cell.vm.isStatics = false ∧ s.vm.findClass y.cls = some cell.cls := by
    obtain ⟨o1, ss, o2⟩ := zx_objs_ok c4 h4
    obtain ⟨en, g1, fs, rfl, g2⟩ := zx_cell B o1 h5 o2
    rcases j50 with ⟨j51, -⟩ | ⟨T, N, j5⟩
    · obtain ⟨rr, hc1, -⟩ := B.2.1 _ _ g1
      rw [j51] at hc1
      exact absurd (List.getElem?_eq_some_iff.mp hc1).1 (by have := hLK.1; omega)
    · exact va_recv B.1 B.2.1 j5 g1
  have K2 := fun u hu v r2 ws' h1 h2 h3 => K u hu _ v r2 ws' hav h1 h2 h3
  rw [r1] at hM hpre hbl K2
  have hkk : W p l e R s m args below meth c H locs k.1 k.2 Q (F0 m pc ls (As.reverse ++ .ref a :: kc.drop q.2.2.1)) :=
    zg_run_W hK hA hsub (va_runV (As := As) (rest := kc.drop q.2.2.1) hcall hM (cwV (q.2.2.1 - 1) hts (fun w hw => by
      rcases List.mem_append.mp hw with hw | hw
      · simp only [List.mem_cons, List.not_mem_nil, or_false] at hw
        rcases hw with rfl | rfl | rfl | rfl
        · exact hgo _ j1
        · exact hgo _ j2
        · exact hgo _ j3
        · exact hgo _ n4
      · exact hgT w hw) rfl rfl rfl ⟨rfl, n5, n6, j4⟩ hrooms) ⟨hbl, hrcv, hpre⟩ rfl r4 hsz rfl (lv_room hW8) hd hk2) K2
  rw [r3]
  exact hkk
theorem zgL_call (C : zgL_cx p R s m args meth c A ex nL own cc Kr d md) {o ix : Nat} {KK : List Nat} (hK : ∀ i ∈ ad0.2, i ∈ KK) {en : zw_En} {X : List Value → va_W → Prop} {Z : List Value → va_W → Option Value → va_W → Prop} {os : List zx_Ou} {as rk : List zx_V} {k' : Nat × Nat} {T : zx_T} (hen : zg_EN l d en X Z) (hd : (pc, Instr.invokevirtual ix, 3) ∈ md.1) (hcl : zgL_cl o KK md.2.1 md.2.2.1 ix en T.1 T.2.1 T.2.2.2.2 T.2.2.2.1 = some (os, as, rk, k'))
    (hX : ∀ av, zx_F2 (zx_R b ex ρ (zx_as ws)) as av → X av ((ws.drop o).take en.2.2.1.length))
    (K : ∀ u ∈ os, ∀ (av : List Value) (v : Option Value) (r2 : List Int) (ws' : va_W), zx_F2 (zx_R b ex ρ (zx_as ws)) as av → zx_KP (ws, KK) ws' → zx_rv b ex (ρ ++ r2) (zx_as ws') u.2.2 v → (∃ ws1, ws' = zgL_be o en.2.2.1.length ws ws1 ∧ Z av ((ws.drop o).take en.2.2.1.length) v ws1) → zg_go p l e R s m args below meth c Q D A b ex ad0 nL (pc + 3) (u.1, u.2.1, T.2.2.1, u.2.2.toList ++ rk, k') (ρ ++ r2) ws') : zg_go p l e R s m args below meth c Q D A b ex ad0 nL pc T ρ ws :=
  fun _ _ _ _ _ _ hG B => zgL_call0 C hK hen (C.2.2.2.2 _ hd).1 hcl hG B hX K
/-- a call by hand, and what follows: fields over the call, and from there on -/
theorem zgL_call3 (C : zgL_cx p R s m args meth c A ex nL own cc Kr d md) {f : zx_Fn} (hf : zx_FOK l vwCl zx_Ts zx_nw zx_sts (zw_YK zx_Yt Kr false) zx_aos zx_PRt zx_rmt d f) {xs : Nat → Int32} {o ix mm : Nat} {KK : List Nat} (hK : ∀ i ∈ ad0.2, i ∈ KK) (hK2 : ∀ i ∈ ad0.2, i ∈ Kr) {en : zw_En} {X : List Value → va_W → Prop} {Z : List Value → va_W → Option Value → va_W → Prop} {T : zx_T} {dC : List (Nat × (Int × Int))} {nds : List zg_Nd} {ρe r : List Int} (hm : ρe.length = mm) (hS : ∀ r, zx_SX b xs A s md.2.1 (ρe ++ r)) (hen : zg_EN l d en X Z) (hd : (pc, Instr.invokevirtual ix, 3) ∈ md.1) (hck : zgL_ca o KK Kr f md mm dC nds pc ix en T = true) (hlen : o + en.2.2.1.length ≤ T.2.1.length)
    (KE : ∀ (u : zx_Ou) (r : List Int) (ws' : va_W), zgL_is1 u = true → zg_ed p l e R s m args below meth c Q D A b ex ad0 nL cc md.2.2.2 (zx_mR md.2.1) u (ρe ++ r) ws')
    (hX : ∀ av, X av (zgL_bk o en.2.2.1.length ws))
    (hC : ∀ (av : List Value) (v : Option Value) (ws1 : va_W), zx_KP (ws, KK) ws1 → Z av (zgL_bk o en.2.2.1.length ws) v (zgL_bk o en.2.2.1.length ws1) → zg_fs (ws.drop o) (ws1.drop o) dC → ∀ t ∈ nds, ∀ (r' : List Int) (ws' : va_W), zx_KP (ws1, Kr) ws' → zg_fs (ws1.drop o) (ws'.drop o) t.2.2.1 → zg_os (ρe ++ r) (ρe ++ r') t.2.2.2 → zg_go p l e R s m args below meth c Q D A b ex ad0 nL t.1 t.2.1 (ρe ++ r') ws') : zg_go p l e R s m args below meth c Q D A b ex ad0 nL pc T (ρe ++ r) ws := by
  unfold zgL_ca at hck
  split at hck
  case h_2 => cases hck
  rename_i z hz
  obtain ⟨os, as', rk, k'⟩ := z
  refine zg_with (fun tysA hGA hhA => ?_)
  refine zgL_call C hK hen hd hz (fun av _ => hX av) (fun u hu av v r2 ws1 ha kp hv hZ => ?_)
  obtain ⟨ws2, e1, hZ⟩ := hZ
  have h0 := List.all_eq_true.mp hck u hu
  rw [Bool.and_eq_true] at h0
  have hul : u.2.1.length = T.2.1.length := Nat.eq_of_beq_eq_true h0.1
  refine zg_pcn (n0 := T.1.length) (fun G1 hG1 => ?_)
  have h1 := zg_o4_ok h0.2 hG1
  have h1 : (dC.all (zg_dr G1 (T.2.1.drop o) (u.2.1.drop o)) && zgL_rk o u.2.1 Kr f md mm nds (pc + 3) (G1, u.2.1, T.2.2.1, u.2.2.toList ++ rk, k')) = true := h1
  rw [Bool.and_eq_true] at h1
  refine zg_with (fun tysB hGB hhB => ?_)
  have hl1 := zx_F2_len hhA
  have hl2 : u.2.1.length = ws1.length := zx_F2_len hhB
  have hZ2 : Z av (zgL_bk o en.2.2.1.length ws) v (zgL_bk o en.2.2.1.length ws1) := by
    have h9 : zgL_bk o en.2.2.1.length ws1 = ws2 := by
      rw [e1]
      refine zgL_be_bk (by omega) ?_
      rw [← e1]
      omega
    rw [h9]
    exact hZ
  have hd1 := zgL_dr_ok hGB (zgL_drop o hhA) (zgL_drop o hhB) h1.1
  rw [List.append_assoc] at hhB ⊢
  refine zgL_run3 (o := o) (xs := xs) C hK2 hf hm hS hhB h1.2 KE (fun t ht r' ws' kp' hfs hos => ?_)
  exact hC av v ws1 kp hZ2 hd1 t ht r' ws' kp' hfs (fun x hx w hw => hos x hx w (by rw [← List.append_assoc]; exact zx_ev_app hw))
end ZGLC
end
