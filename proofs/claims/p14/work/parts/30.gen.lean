noncomputable section
/-! zg: methods by hand between checked runs -/
def zg_go (p : Program) (l : Launch) (e : Env) (R : Room) (s : State) (mi : MethodId) (args : Array Value) (below : List Frame) (meth : Method) (c : Code) (Q : State → Prop) (D : va_G) (A : Nat → Prop) (b : Nat) (ex : List Nat) (ad0 : zx_A0) (nL : Nat) (pc : Nat) (T : zx_T) (ρ : List Int) (ws : va_W) : Prop :=
  ∀ (H : Heap) (locs : List Loc) (ls : Array Slot) (kc : List Value) (tys : List (ClassId × FieldType)) (lc : List (Nat × Value)), zx_ok ρ T.1 → zx_B D vwCl A b ex ad0 nL s ρ T.2.1 T.2.2.1 T.2.2.2.1 H locs ls kc tys ws lc → W p l e R s mi args below meth c H locs T.2.2.2.2.1 T.2.2.2.2.2 Q (F0 mi pc ls kc)
def zg_ed (p : Program) (l : Launch) (e : Env) (R : Room) (s : State) (mi : MethodId) (args : Array Value) (below : List Frame) (meth : Method) (c : Code) (Q : State → Prop) (D : va_G) (A : Nat → Prop) (b : Nat) (ex : List Nat) (ad0 : zx_A0) (nL : Nat) (cc : ByteArray) (rt : Nat) (rm : Nat × Nat) (o : zx_Ou) (ρ : List Int) (ws : va_W) : Prop :=
  ∀ (H' : Heap) (locs' : List Loc) (ls' : Array Slot) (kc' : List Value) (pc' : Nat) (k' : Nat × Nat) (ir : Instr) (tys : List (ClassId × FieldType)), zx_ok ρ o.1 → va_K D vwCl tys s → va_P D vwCl ws H' → va_D A ws → va_S A s.heap H' locs' → zx_KP ad0 ws → zx_F2 (fun c q => zx_RC vwCl b ex ρ (zx_as ws) tys c q.2) o.2.1 ws → k'.1 ≤ rm.1 → k'.2 ≤ rm.2 → decode cc pc' = .ok (ir, 1) → zx_end b ex ρ (zx_as ws) rt ir o kc' → W p l e R s mi args below meth c H' locs' k'.1 k'.2 Q (F0 mi pc' ls' kc')
/-- a frame of a method, and what goes with it -/
def zg_cx (p : Program) (R : Room) (s : State) (mi : MethodId) (args : Array Value) (meth : Method) (c : Code) (A : Nat → Prop) (b : Nat) (ex : List Nat) (nL : Nat) (own : String) (cc : ByteArray) (Kr : List Nat) (d : Nat) (md : zx_MD) : Prop :=
  zx_FX p s mi args meth c R cc own zx_Ts zx_nw vwCl A ex nL zx_sts (zw_YK zx_Yt Kr false) zx_aos zx_dt md.2.1 ∧ zx_LK own vwCl zx_Ts zx_nw zx_PRt md.2.2.1 ∧ (d + 1 ≤ R.frames ∧ 100 * (d + 1) ≤ R.locals) ∧ c.maxLocals = nL ∧ zx_TB cc md.1 ∧ ∀ ρ : List Int, zx_SX b (fun _ => 0) A s md.2.1 ρ
theorem zg_KP_tr {a : zx_A0} {ws ws' : va_W} {K : List Nat} (h : zx_KP a ws) (hK : ∀ i ∈ a.2, i ∈ K) (h' : zx_KP (ws, K) ws') : zx_KP a ws' := by
  obtain ⟨⟨xt, h1⟩, h2⟩ := h
  obtain ⟨⟨xt', h3⟩, h4⟩ := h'
  have h3 : zx_as ws' = zx_as ws ++ xt' := h3
  exact ⟨⟨xt ++ xt', by rw [h3, h1, List.append_assoc]⟩, fun i hi q hq => h4 i (hK i hi) q (h2 i hi q hq)⟩
section ZG
variable {p : Program} {l : Launch} {e : Env} {R : Room} {s : State} {mi : MethodId} {args : Array Value} {below : List Frame} {meth : Method} {c : Code} {Q : State → Prop} {D : va_G} {A : Nat → Prop} {b : Nat} {ex : List Nat} {ad0 : zx_A0} {nL : Nat} {own : String} {cc : ByteArray} {Kr : List Nat} {d : Nat} {md : zx_MD}
theorem zg_with {pc : Nat} {T : zx_T} {ρ : List Int} {ws : va_W} (h : ∀ tys, zx_ok ρ T.1 → zx_F2 (fun c q => zx_RC vwCl b ex ρ (zx_as ws) tys c q.2) T.2.1 ws → zg_go p l e R s mi args below meth c Q D A b ex ad0 nL pc T ρ ws) : zg_go p l e R s mi args below meth c Q D A b ex ad0 nL pc T ρ ws :=
  fun H locs ls kc tys lc hG B => h tys hG B.2.2.2.2.1 H locs ls kc tys lc hG B
/-- what is kept of the entry's cells is kept -/
theorem zg_kept {pc : Nat} {T : zx_T} {ρ : List Int} {ws : va_W} (h : zx_KP ad0 ws → zg_go p l e R s mi args below meth c Q D A b ex ad0 nL pc T ρ ws) : zg_go p l e R s mi args below meth c Q D A b ex ad0 nL pc T ρ ws :=
  fun H locs ls kc tys lc hG B => h B.2.2.2.1.2 H locs ls kc tys lc hG B
theorem zg_run (C : zg_cx p R s mi args meth c A b ex nL own cc Kr d md) (hK : ∀ i ∈ ad0.2, i ∈ Kr) {f : zx_Fn} (hf : zx_FOK l vwCl zx_Ts zx_nw zx_sts (zw_YK zx_Yt Kr false) zx_aos zx_PRt zx_rmt d f) {stp : Nat → Bool} {n pc : Nat} {T : zx_T} {ρ : List Int} {ws : va_W} {os : List zx_Os} (hos : zx_ex (zw_YK zx_Yt Kr false) zx_dt zx_rmt stp md f n (zx_drop pc md.1) T.1 T.2.1 T.2.2.1 T.2.2.2.2 T.2.2.2.1 = some os)
    (hE : ∀ o, .inl o ∈ os → ∀ (r2 : List Int) (ws' : va_W), zx_KP (ws, Kr) ws' → zg_ed p l e R s mi args below meth c Q D A b ex ad0 nL cc md.2.2.2 (zx_mR md.2.1) o (ρ ++ r2) ws')
    (hC : ∀ q, .inr q ∈ os → ∀ (r2 : List Int) (ws' : va_W), zx_KP (ws, Kr) ws' → zg_go p l e R s mi args below meth c Q D A b ex ad0 nL q.1 q.2 (ρ ++ r2) ws') : zg_go p l e R s mi args below meth c Q D A b ex ad0 nL pc T ρ ws := by
  intro H locs ls kc tys lc hG B
  obtain ⟨F, hLK, hroom, hml, htbl, hS⟩ := C
  cases hc : zx_drop pc md.1 with
  | nil => rw [hc, zx_ex_nil] at hos; cases hos
  | cons x nx =>
    obtain ⟨g1, g2⟩ := zx_drop_ok (t := pc) (l := md.1)
    rw [hc] at hos g1
    rw [← g2 x nx hc]
    obtain ⟨b1, b2, b3, ⟨b4, b40⟩, b5⟩ := B
    refine zx_ex_ok (Y := zw_YK zx_Yt Kr false) (xs := fun _ => 0) (md := md) (f := f) (k := T.2.2.2.2) (ad0 := (ws, Kr)) ⟨rfl, fun _ _ => trivial⟩ F zx_arrs hf hLK zx_Ts_good zx_nw_kind hroom hml htbl n x nx ρ _ _ _ _ os H locs ls kc (hS ρ) g1 ⟨hG, tys, ws, lc, b1, b2, b3, ⟨b4, zx_KP_rf ws Kr⟩, b5⟩ hos ⟨fun o ho r2 H' locs' ls' kc' pc' k' ir tys' ws' g1 g2 g3 g4 g5 g6 g7 g8 g9 g10 g11 => ?_, fun q hq r2 H' locs' ls' kc' J' => ?_⟩
    · exact hE o ho r2 ws' g6 H' locs' ls' kc' pc' k' ir tys' g1 g2 g3 g4 g5 (zg_KP_tr b40 hK g6) g7 g8 g9 g10 g11
    · obtain ⟨hG', tys', ws', lc', a1, a2, a3, ⟨a4, a40⟩, a5⟩ := J'
      exact hC q hq r2 ws' a40 H' locs' ls' kc' tys' lc' hG' ⟨a1, a2, a3, ⟨a4, zg_KP_tr b40 hK a40⟩, a5⟩
theorem zg_T {m pc : Nat} {T0 T : zx_T} {σ : List zx_L} {ρe r : List Int} {ws : va_W} (hm : ρe.length = m) (h : zw_T m T0 T σ = true) (hgo : ∀ r', zw_sig (ρe ++ r) σ (ρe ++ r') → zg_go p l e R s mi args below meth c Q D A b ex ad0 nL pc T0 (ρe ++ r') ws) : zg_go p l e R s mi args below meth c Q D A b ex ad0 nL pc T (ρe ++ r) ws := by
  intro H locs ls kc tys lc hG B
  unfold zw_T at h
  simp only [Bool.and_eq_true] at h
  obtain ⟨h1, h2, h3, h4, h5, h6, h7, h8⟩ := h
  obtain ⟨b1, b2, b3, b4, b5, b6, b7, b8⟩ := B
  obtain ⟨ρ0, g1, g2⟩ := zw_bd_ok hG h1
  have g3 := zw_pre hm h2 g1 (by rw [g2.1]; exact Nat.le_of_ble_eq_true h3)
  rw [g3] at g1 g2
  have hlen := Nat.eq_of_beq_eq_true h4
  have had : ∀ i, i < T.2.1.length → (zx_as ws)[i]? = (zx_as ws)[i + 0]? := fun i _ => rfl
  have c5 := zw_H_ok hG g1 had h5 b5
  rw [List.take_of_length_le (by rw [← zx_F2_len b5, hlen]; exact Nat.le_refl _)] at c5
  obtain ⟨lc0, c6, c7⟩ := zw_lv_ok hG g1 had b6 h6
  unfold zx_le2 at h8
  rw [Bool.and_eq_true] at h8
  refine W.widen (k := T0.2.2.2.2.1) (n := T0.2.2.2.2.2) (Nat.le_of_ble_eq_true h8.1) (Nat.le_of_ble_eq_true h8.2) ?_
  exact hgo (ρ0.drop m) g1 H locs ls kc tys lc0 g2 ⟨b1, b2, b3, b4, c5, c6, ⟨b7.1, b7.2.1, fun q hq => b7.2.2 q (c7 q hq)⟩, zw_Vs_ok hG g1 had h7 b8⟩
/-- a store into a row, its content told -/
def zg_st (K0 : List Nat) (G : zx_G) (h : List zx_C) (lv : List (Nat × zx_V)) (k : Nat × Nat) (sk : List zx_V) : Option (Nat × (Nat × (zx_L × (zx_L × zx_T)))) := match sk with
  | .inl v :: .inl e :: .inr (.inl ([id], false)) :: r => if id < 64 then none else (match zy_get h (id - 64), zv_rng G v, zv_rng G e with
    | some (.inr (.inl (0, n, true, .inr t :: _))), some tv, some te => if 0 ≤ te.1 ∧ te.2 < (n : Int) ∧ t.1 ≤ tv.1 ∧ tv.2 ≤ t.2 ∧ zx_wk0 K0 [id] = true then some (id - 64, n, e, v, (G, h.set (id - 64) (.inr (.inl (0, n, true, [.inr t]))), lv, r, k)) else none
    | _, _, _ => none)
  | _ => none
theorem zg_store0 {pc i n : Nat} {e1 v1 : zx_L} {T' : zx_T} {G : zx_G} {h : List zx_C} {lv : List (Nat × zx_V)} {sk : List zx_V} {k : Nat × Nat} {ρ : List Int} {ws : va_W} {H : Heap} {locs : List Loc} {ls : Array Slot} {kc : List Value} {tys : List (ClassId × FieldType)} {lc : List (Nat × Value)} (hx : p.tables.exec = Jvm.exec) (hb : c.code = cc) (hd : decode cc pc = .ok (.iastore, 1)) (hst : zg_st ad0.2 G h lv k sk = some (i, n, e1, v1, T'))
    (hgo : ∀ (a : Nat) (cA : ClassId) (f : Nat → Int32) (w : Nat) (v' : Int32), ws[i]? = some (a, .inl (cA, n, .inl f)) → zx_ev ρ e1 = some (w : Int) → w < n → zx_ev ρ v1 = some v'.toInt → zg_go p l e R s mi args below meth c Q D A b ex ad0 nL (pc + 1) T' ρ (ws.set i (a, .inl (cA, n, .inl (upd f w v'))))) (hG : zx_ok ρ G) (B : zx_B D vwCl A b ex ad0 nL s ρ h lv sk H locs ls kc tys ws lc) : W p l e R s mi args below meth c H locs k.1 k.2 Q (F0 mi pc ls kc) := by
  unfold zg_st at hst
  split at hst
  case h_2 => cases hst
  rename_i v2 e2 id r
  obtain ⟨v', kr1, rfl, hv, B1⟩ := zx_topi B
  obtain ⟨w, kr2, rfl, he, B2⟩ := zx_topi B1
  obtain ⟨x3, kr, rfl, hv3, B3⟩ := zx_top1 B2
  split at hst
  · cases hst
  rename_i hi
  rcases hv3 with ⟨h4, -⟩ | ⟨i0, a, h4, h5, rfl⟩
  · cases h4
  have hid : i0 = id := List.mem_singleton.mp h4
  subst hid
  split at hst
  case h_2 => cases hst
  rename_i n0 t fs tv te har htv hte
  rw [zy_get_eq] at har
  obtain ⟨v4, v5⟩ := zv_rng_ok hG htv hv
  obtain ⟨w2, w3⟩ := zv_rng_ok hG hte he
  split at hst
  case isFalse => cases hst
  rename_i hc
  obtain ⟨c1, c2, c3, c4, c5⟩ := hc
  cases hst
  have hkk : ¬ (i0 - 64) ∈ ad0.2 := zx_wk0_ok (ids := [i0]) c5 (List.mem_singleton.mpr rfl)
  obtain ⟨en, g1, cA, t0, g2, g3⟩ := zx_cell B3 hi h5 har
  rcases g3 with ⟨g3, f, rfl, g4⟩ | ⟨g3, -⟩
  case inr =>
    have g3 : 3 ≤ 0 := g3
    omega
  obtain ⟨t', fs', k1, k2, k3⟩ := g4
  cases k1
  have hvp : vp_in w n := vp_in_iff.mpr ⟨by omega, by omega⟩
  have hwn : w.toNatClampNeg = w.toInt.toNat := rfl
  have hq : zx_RC vwCl b ex ρ (zx_as ws) tys (.inr (.inl (0, n, true, [.inr t]))) (.inl (cA, n, .inl (upd f w.toNatClampNeg v'))) := by
    refine ⟨cA, t0, g2, Or.inl ⟨g3, _, rfl, .inr t, [], rfl, fun j hj => ?_, fun q hq => nomatch hq⟩⟩
    by_cases hj2 : j = w.toNatClampNeg
    · have e9 : upd f w.toNatClampNeg v' j = v' := by simp [upd, hj2]
      show zx_RS b ex ρ (zx_as ws) (.inr t) (.int (upd f w.toNatClampNeg v' j))
      rw [e9]
      exact ⟨v', rfl, by omega, by omega⟩
    · have e9 : upd f w.toNatClampNeg v' j = f j := by simp [upd, hj2]
      show zx_RS b ex ρ (zx_as ws) (.inr t) (.int (upd f w.toNatClampNeg v' j))
      rw [e9]
      exact k2 j hj
  refine va_iast hx hb B.1 B.2.1 B.2.2.1 B.2.2.2.1.1 (i0 - 64) t0 g1 g2 hvp hd (fun H1 locs1 P1 D1 S1 => ?_)
  have B4 := zx_B_set B3 hkk g1 hq P1 D1 S1
  exact hgo a cA f w.toNatClampNeg v' g1 (by rw [he, hwn]; congr 1; omega) (by omega) hv H1 locs1 ls kr tys lc hG B4
theorem zg_store (C : zg_cx p R s mi args meth c A b ex nL own cc Kr d md) {pc i n : Nat} {e1 v1 : zx_L} {T T' : zx_T} {ρ : List Int} {ws : va_W} (hd : (pc, Instr.iastore, 1) ∈ md.1) (hst : zg_st ad0.2 T.1 T.2.1 T.2.2.1 T.2.2.2.2 T.2.2.2.1 = some (i, n, e1, v1, T'))
    (hgo : ∀ (a : Nat) (cA : ClassId) (f : Nat → Int32) (w : Nat) (v' : Int32), ws[i]? = some (a, .inl (cA, n, .inl f)) → zx_ev ρ e1 = some (w : Int) → w < n → zx_ev ρ v1 = some v'.toInt → zg_go p l e R s mi args below meth c Q D A b ex ad0 nL (pc + 1) T' ρ (ws.set i (a, .inl (cA, n, .inl (upd f w v'))))) : zg_go p l e R s mi args below meth c Q D A b ex ad0 nL pc T ρ ws :=
  fun _ _ _ _ _ _ hG B => zg_store0 C.1.1 C.1.2.1 (C.2.2.2.2.1 _ hd).1 hst hgo hG B
end ZG
/-- contracts with a premise and an outcome of their own -/
def zg_Q (D : va_G) (A : Nat → Prop) (b : Nat) (ex : List Nat) (ρ : List Int) (ws : va_W) (KK : List Nat) (os : List zx_Ou) (Z : Option Value → va_W → Prop) : Array Value → State → Outcome → State → Prop := fun _ st oc t =>
  (∃ o ∈ os, ∃ (v : Option Value) (r2 : List Int) (tys' : List (ClassId × FieldType)) (ws' : va_W), oc = .returned v ∧ zx_ok (ρ ++ r2) o.1 ∧ va_K D vwCl tys' t ∧ va_P D vwCl ws' t.heap ∧ va_D A ws' ∧ zx_KP (ws, KK) ws' ∧ zx_F2 (fun c q => zx_RC vwCl b ex (ρ ++ r2) (zx_as ws') tys' c q.2) o.2.1 ws' ∧ zx_rv b ex (ρ ++ r2) (zx_as ws') o.2.2 v ∧ Z v ws') ∧ va_F A st t
def zg_EN (l : Launch) (d : Nat) (en : zw_En) (X : List Value → va_W → Prop) (Z : List Value → va_W → Option Value → va_W → Prop) : Prop :=
  ∀ (y : MethodName) (cc : ByteArray) (maxL : Nat) (ret : Option FieldType) (rm : Nat × Nat), zx_PRt[en.1]? = some (y, cc, maxL, ret) → zx_rmt[en.1]? = some rm →
  ∀ (D : va_G) (A : Nat → Prop) (b : Nat) (ex : List Nat) (ρ : List Int) (tys : List (ClassId × FieldType)) (ws : va_W) (sz : Nat) (av : List Value), zx_ok ρ en.2.1 → zx_F2 (fun c q => zx_RC vwCl b ex ρ (zx_as ws) tys c q.2) en.2.2.1 ws → zx_F2 (zx_R b ex ρ (zx_as ws)) en.2.2.2.1 av → (∀ q, sz ≤ q → A q) → X av ws →
  Met l y (Jvm.Cond.code y cc maxL ret :: zx_Ts) ({ frames := d, cells := rm.1, slots := rm.2, locals := 100 * d }) (zx_Pc D vwCl A ex zx_sts zx_Yt zx_nw zx_aos tys ws sz av) (zg_Q D A b ex ρ ws en.2.2.2.2.2.1 en.2.2.2.2.1 (Z av ws)) rm.1 rm.2 A
theorem zg_EN_mono {l : Launch} {d d' : Nat} {en : zw_En} {X : List Value → va_W → Prop} {Z : List Value → va_W → Option Value → va_W → Prop} (h : zg_EN l d en X Z) (hd : d ≤ d') : zg_EN l d' en X Z :=
  fun y cc maxL ret rm h1 h2 D A b ex ρ tys ws sz av h4 h5 h6 h7 h8 => zx_Met_imp (h y cc maxL ret rm h1 h2 D A b ex ρ tys ws sz av h4 h5 h6 h7 h8) ⟨hd, Nat.le_refl _, Nat.le_refl _, Nat.mul_le_mul_left _ hd⟩ (fun _ _ h => ⟨h, fun _ q => q⟩) (fun _ _ _ _ _ h _ => h)
section ZGL
variable {l : Launch}
theorem zg_loc {d : Nat} {en : zw_En} {X : List Value → va_W → Prop} {Z : List Value → va_W → Option Value → va_W → Prop} {KK : List Nat} (hen : zg_EN l d en X Z) (hlen : ∀ u ∈ en.2.2.2.2.1, u.2.1.length = en.2.2.1.length) {o : Nat} {σ : List zx_L} {G : zx_G} {h : List zx_C} {as : List zx_V} (hbd : zw_bd G σ en.2.1 = true) (hH : zw_H en.2.2.1.length o σ G en.2.2.1 (h.drop o) = true) (hAs : zw_Vs en.2.2.1.length o σ G en.2.2.2.1 as = true) (hkk : zw_kk o en.2.2.1.length en.2.2.2.2.2.1 KK = true)
    {y : MethodName} {cc : ByteArray} {maxL : Nat} {ret : Option FieldType} {rm : Nat × Nat} (hPR : zx_PRt[en.1]? = some (y, cc, maxL, ret)) (hrm : zx_rmt[en.1]? = some rm) {D : va_G} {A : Nat → Prop} {b : Nat} {ex : List Nat} {ρ : List Int} {tys : List (ClassId × FieldType)} {ws : va_W} {sz : Nat} {av : List Value} (hG : zx_ok ρ G) (hh : zx_F2 (fun c q => zx_RC vwCl b ex ρ (zx_as ws) tys c q.2) h ws) (ha : zx_F2 (zx_R b ex ρ (zx_as ws)) as av) (hsz : ∀ q, sz ≤ q → A q) (hX : X av ((ws.drop o).take en.2.2.1.length)) {Z' : Option Value → va_W → Prop} (hZ : ∀ v ws1, Z av ((ws.drop o).take en.2.2.1.length) v ws1 → Z' v (ws.take o ++ (ws1 ++ ws.drop (o + en.2.2.1.length)))) :
    Met l y (Jvm.Cond.code y cc maxL ret :: zx_Ts) ({ frames := d, cells := rm.1, slots := rm.2, locals := 100 * d }) (zx_Pc D vwCl A ex zx_sts zx_Yt zx_nw zx_aos tys ws sz av) (zg_Q D A b ex ρ ws KK (en.2.2.2.2.1.map (zw_r1 en.2.2.2.2.2.1 G h o en.2.2.1.length en.2.1.length σ)) Z') rm.1 rm.2 A := by
  obtain ⟨ρ0, hσ, hG0⟩ := zw_bd_ok hG hbd
  have had : ∀ i, i < en.2.2.1.length → (zx_as ((ws.drop o).take en.2.2.1.length))[i]? = (zx_as ws)[i + o]? := by
    intro i hi
    rw [zx_as, zx_as, List.getElem?_map, List.getElem?_map, List.getElem?_take, if_pos hi, List.getElem?_drop, Nat.add_comm]
  have hdr := (zx_F2_take o hh).2
  have hh0 := zw_H_ok hG hσ had hH hdr
  have ha0 := zw_Vs_ok hG hσ had hAs ha
  have hl0 : ((ws.drop o).take en.2.2.1.length).length = en.2.2.1.length := (zx_F2_len hh0).symm
  have hcut : ws = ws.take o ++ ((ws.drop o).take en.2.2.1.length ++ ws.drop (o + en.2.2.1.length)) := by
    rw [← List.drop_drop, List.take_append_drop, List.take_append_drop]
  have key0 : ∀ (k : Nat) (q : Nat × va_E), ((ws.drop o).take en.2.2.1.length)[k]? = some q → ws[k + o]? = some q ∧ k < en.2.2.1.length := by
    intro k q hk
    have hk' := (List.getElem?_eq_some_iff.mp hk).1
    rw [hl0] at hk'
    rw [List.getElem?_take, if_pos hk', List.getElem?_drop, Nat.add_comm] at hk
    exact ⟨hk, hk'⟩
  have M0 := hen y cc maxL ret rm hPR hrm D (va_A ((ws.drop o).take en.2.2.1.length) sz) b ex ρ0 tys ((ws.drop o).take en.2.2.1.length) sz av hG0 hh0 ha0 (fun q hq => Or.inr hq) hX
  clear hX
  generalize (ws.drop o).take en.2.2.1.length = ws0 at had hh0 ha0 hl0 hcut key0 M0 hZ
  have hAA : va_D A ws → ∀ q, va_A ws0 sz q → A q := by
    rintro p5 q (⟨k, e, hk⟩ | hq)
    · exact p5.2 _ _ (key0 k _ hk).1
    · exact hsz q hq
  refine zx_Met_imp M0 ⟨Nat.le_refl _, Nat.le_refl _, Nat.le_refl _, Nat.le_refl _⟩ ?_ ?_
  · intro a st hp
    obtain ⟨p1, p2, p3, p4, p5, p6, p7, p8⟩ := hp
    refine ⟨⟨p1, p2, fun k q hk => p3 _ q (key0 k q hk).1, p4, ⟨fun i j p q hi hj hpq => ?_, fun k q hk => Or.inl ⟨k, q.2, hk⟩⟩, zx_CX_narrow p6 (hAA p5), p7, p8⟩, hAA p5⟩
    have := p5.1 _ _ p q (key0 i p hi).1 (key0 j q hj).1 hpq
    omega
  · intro a st oc t hp hq hW
    obtain ⟨p1, p2, p3, p4, p5, p6, p7, p8⟩ := hp
    obtain ⟨⟨o1, ho1, v, r2, tys', ws1, hv, g1, g2, g3, g4, ⟨⟨xt, g5⟩, g50⟩, g6, g7, gZ⟩, gF⟩ := hq
    have hw1 : ws1.length = ws0.length := by rw [← zx_F2_len g6, hlen o1 ho1, hl0]
    replace g5 : zx_as ws1 = zx_as ws0 ++ xt := g5
    replace g50 : ∀ i ∈ en.2.2.2.2.2.1, ∀ q, ws0[i]? = some q → ws1[i]? = some q := g50
    have hxt : xt = [] := by
      have := congrArg List.length g5
      rw [List.length_append, zx_as, zx_as, List.length_map, List.length_map] at this
      exact List.eq_nil_of_length_eq_zero (by omega)
    subst hxt
    rw [List.append_nil] at g5
    have has : zx_as (ws.take o ++ (ws1 ++ ws.drop (o + en.2.2.1.length))) = zx_as ws := by
      have h2 := congrArg zx_as hcut
      rw [h2]
      simp only [zx_as, List.map_append]
      rw [show List.map Prod.fst ws1 = List.map Prod.fst ws0 from g5]
    have had1 : ∀ (i a : Nat), (zx_as ws1)[i]? = some a → (zx_as ws)[i + o]? = some a := by
      intro i a hi
      have h2 := (List.getElem?_eq_some_iff.mp hi).1
      rw [zx_as, List.length_map, hw1, hl0] at h2
      rw [← had i h2, ← g5]; exact hi
    have hup : ∀ (c : zx_C) (q : Nat × va_E), zx_RC vwCl b ex ρ (zx_as ws) tys c q.2 → zx_RC vwCl b ex (ρ ++ r2) (zx_as ws) (tys ++ tys') c q.2 := fun c q hc => by
      have := zx_RC_app (r := r2) (q := []) (ty := tys') hc
      rwa [List.append_nil (zx_as ws)] at this
    have htys : ∀ (i : Nat) (q : ClassId × FieldType), tys'[i]? = some q → ∃ k : Nat, (tys ++ tys')[k]? = some q := fun i q hi => ⟨tys.length + i, by rw [List.getElem?_append_right (by omega)]; rw [← hi]; congr 1; omega⟩
    have hr2 : o1.1.length - en.2.1.length = r2.length := by
      have := g1.1
      rw [List.length_append, hG0.1] at this
      omega
    have hs' : zw_sig (ρ ++ r2) (σ ++ zw_fr G.length (o1.1.length - en.2.1.length)) (ρ0 ++ r2) := by
      rw [hr2, ← hG.1]
      exact zw_sig_fr hσ
    have hG' : zx_ok (ρ ++ r2) (G ++ zw_mG (σ ++ zw_fr G.length (o1.1.length - en.2.1.length)) (o1.1.drop en.2.1.length)) := by
      have := zw_ok_fr hG g1 hs'
      rwa [hG0.1] at this
    refine ⟨⟨_, List.mem_map_of_mem ho1, v, r2, tys ++ tys', ws.take o ++ (ws1 ++ ws.drop (o + en.2.2.1.length)), hv, hG', va_K.app (va_K.moved hW.alike p4) g2, ?_, zx_D_as p5 has, ⟨⟨[], by rw [has, List.append_nil]⟩, fun i hi q hq => ?_⟩, ?_, ?_, hZ v ws1 gZ⟩, gF.1, fun q k1 k2 => gF.2 q k1 (fun k3 => k2 (hAA p5 q k3))⟩
    · have kept : ∀ (i : Nat) (q : Nat × va_E), ws[i]? = some q → (i < o ∨ o + en.2.2.1.length ≤ i) → va_at D vwCl q t.heap := by
        intro i q hi hio
        have hlt := (p3 i q hi).lt
        refine (p3 i q hi).kept (gF.2 q.1 hlt ?_)
        rintro (⟨k, e, hk⟩ | hq)
        · have hk' := key0 k _ hk
          have := p5.1 i (k + o) q _ hi hk'.1 rfl
          omega
        · omega
      intro k q hk
      rcases List.mem_append.mp (List.mem_of_getElem? hk) with hm | hm
      · obtain ⟨i, hi⟩ := List.mem_iff_getElem?.mp hm
        rw [List.getElem?_take] at hi
        split at hi
        · exact kept i q hi (Or.inl (by assumption))
        · cases hi
      · rcases List.mem_append.mp hm with hm | hm
        · obtain ⟨i, hi⟩ := List.mem_iff_getElem?.mp hm
          exact g3 i q hi
        · obtain ⟨i, hi⟩ := List.mem_iff_getElem?.mp hm
          rw [List.getElem?_drop] at hi
          exact kept _ q hi (Or.inr (by omega))
    · replace hq : ws[i]? = some q := hq
      replace hi : i ∈ KK := hi
      have hlt := (List.getElem?_eq_some_iff.mp hq).1
      have htl : (ws.take o).length = min o ws.length := List.length_take
      by_cases hio : i < o
      · rw [List.getElem?_append_left (by omega), List.getElem?_take, if_pos hio]
        exact hq
      · rw [List.getElem?_append_right (by omega), htl, Nat.min_eq_left (by omega)]
        have hwl : ws1.length = en.2.2.1.length := by rw [hw1, hl0]
        by_cases hin : i < o + en.2.2.1.length
        · rw [List.getElem?_append_left (by omega)]
          have hiK : i - o ∈ en.2.2.2.2.2.1 := by
            rcases zw_kk_ok hkk hi with h | h | h
            · omega
            · omega
            · exact h
          refine g50 (i - o) hiK q ?_
          have h3 : i - o < ws0.length := by omega
          have h4 := (key0 (i - o) _ (List.getElem?_eq_getElem h3)).1
          rw [show i - o + o = i by omega, hq] at h4
          rw [List.getElem?_eq_getElem h3]
          exact h4.symm
        · rw [List.getElem?_append_right (by omega), List.getElem?_drop, hwl, show o + en.2.2.1.length + (i - o - en.2.2.1.length) = i by omega]
          exact hq
    · rw [has]
      refine zx_F2_app (zx_F2_app (zx_F2_imp hup (zx_F2_take (o + en.2.2.1.length) hh).2) ?_) (zx_F2_imp hup (zx_F2_take o hh).1)
      refine zw_mgk_ok ?_ (fun k a q k1 k2 k3 => ?_)
      rotate_left
      · have h3 : k < ws0.length := by rw [← hw1]; exact (List.getElem?_eq_some_iff.mp k3).1
        have h5 := g50 k k2 _ (List.getElem?_eq_getElem h3)
        rw [k3] at h5
        have h6 := (key0 k _ (List.getElem?_eq_getElem h3)).1
        rw [List.getElem?_drop] at k1
        obtain ⟨q', j1, j2⟩ := zx_F2_get hh k1
        rw [Nat.add_comm, h6] at j1
        have h7 : q' = q := by
          have := j1.symm.trans h5.symm
          exact Option.some.inj this
        rw [← h7]
        exact hup _ _ j2
      exact zw_F2_map (R := fun (c : zx_C) (q : Nat × va_E) => zx_RC vwCl b ex (ρ0 ++ r2) (zx_as ws1) tys' c q.2) (S := fun (c : zx_C) (q : Nat × va_E) => zx_RC vwCl b ex (ρ ++ r2) (zx_as ws) (tys ++ tys') c q.2) (fun c q hc => zw_bC_ok hs' had1 htys hc) g6
    · rw [has]
      revert g7
      show zx_rv b ex (ρ0 ++ r2) (zx_as ws1) o1.2.2 v → zx_rv b ex (ρ ++ r2) (zx_as ws) (o1.2.2.map (zw_bV o (σ ++ zw_fr G.length (o1.1.length - en.2.1.length)))) v
      rcases o1.2.2 with _ | x <;> rcases v with _ | xv
      · exact fun _ => trivial
      · exact fun g7 => g7.elim
      · exact fun g7 => g7.elim
      · exact fun g7 => zw_bV_ok (v := x) hs' had1 g7
end ZGL
section ZGC
variable {p : Program} {l : Launch} {e : Env} {R : Room} {s : State} {m : MethodId} {args : Array Value} {below : List Frame} {meth : Method} {c : Code} {Q : State → Prop} {D : va_G} {A : Nat → Prop} {b : Nat} {ex : List Nat} {ad0 : zx_A0} {nL : Nat} {own : String} {cc : ByteArray} {Kr : List Nat} {d : Nat} {md : zx_MD}
variable {ρ : List Int} {G : zx_G} {h : List zx_C} {lv : List (Nat × zx_V)} {k : Nat × Nat} {sk : List zx_V} {H : Heap} {locs : List Loc} {ls : Array Slot} {kc : List Value} {tys : List (ClassId × FieldType)} {ws : va_W} {lc : List (Nat × Value)} {pc : Nat}
theorem zg_run_W {KK : List Nat} (hKK : ∀ i ∈ ad0.2, i ∈ KK) {rm : Nat × Nat} {os : List zx_Ou} {Z : Option Value → va_W → Prop} {a : Array Value} {st0 rest : List Value} {rk : List zx_V} (hA : ∀ q, s.heap.size ≤ q → A q) (B : zx_B D vwCl A b ex ad0 nL s ρ h lv rk H locs ls rest tys ws lc) (hr : va_Run p l e R s m args below meth c H locs k.1 k.2 rm.1 rm.2 (F0 m pc ls st0) rest (zg_Q D A b ex ρ ws KK os Z a) A)
    (K : ∀ o ∈ os, ∀ (v : Option Value) (r2 : List Int) (ws' : va_W), zx_KP (ws, KK) ws' → zx_rv b ex (ρ ++ r2) (zx_as ws') o.2.2 v → Z v ws' → zg_go p l e R s m args below meth c Q D A b ex ad0 nL (pc + 3) (o.1, o.2.1, lv, o.2.2.toList ++ rk, k.1 + rm.1, k.2 + rm.2) (ρ ++ r2) ws') : W p l e R s m args below meth c H locs k.1 k.2 Q (F0 m pc ls st0) := by
  intro T hT X
  obtain ⟨v, st₀, t, T', L, h0, X', hL, e1, e2, ⟨⟨o, ho, v', r2, tys', ws', hv, q1, q2, q3, q4, ⟨⟨xt, q5⟩, q50⟩, q6, q7, qZ⟩, hz, hk⟩, st⟩ := hr T hT X
  cases hv
  rw [h0] at hz hk
  obtain ⟨b1, b2, b3, ⟨b4, ⟨⟨xt0, b40⟩, b41⟩⟩, b5, b6, b7, b8⟩ := B
  have q5 : zx_as ws' = zx_as ws ++ xt := q5
  have hS : va_S A s.heap T'.heap (locs ++ L) := ⟨Nat.le_trans b4.1 (by rw [e1]; exact hz), fun q h1 h2 => by rw [e1, hk q (Nat.lt_of_lt_of_le h1 b4.1) h2]; exact b4.2.1 q h1 h2, fun q hq => by
      rcases List.mem_append.mp hq with h | h
      · exact b4.2.2 q h
      · exact hL q h⟩
  have hvm : t.vm.Alike s.vm := by rw [← e2]; exact X'.warmed.alike.symm
  have hup : ∀ (x : zx_V) (y : Value), zx_R b ex ρ (zx_as ws) x y → zx_R b ex (ρ ++ r2) (zx_as ws') x y := fun x y hxy => by rw [q5]; exact zx_R_app hxy
  have B' : zx_B D vwCl A b ex ad0 nL s (ρ ++ r2) o.2.1 lv (o.2.2.toList ++ rk) T'.heap (locs ++ L) ls (v.toList ++ rest) tys' ws' lc := by
    refine ⟨va_K.moved hvm q2, by rw [e1]; exact q3, q4, ⟨hS, zg_KP_tr ⟨⟨xt0, b40⟩, b41⟩ hKK ⟨⟨xt, q5⟩, q50⟩⟩, q6, zx_F2_imp (fun _ _ q => ⟨q.1, hup _ _ q.2⟩) b6, b7, ?_⟩
    refine zx_F2_app (zx_F2_imp hup b8) ?_
    revert q7
    rcases o.2.2 with _ | av <;> rcases v with _ | xv
    · exact fun _ => trivial
    · exact fun q7 => q7.elim
    · exact fun q7 => q7.elim
    · exact fun q7 => ⟨q7, trivial⟩
  obtain ⟨t2, a1, c1⟩ := K o ho v r2 ws' ⟨⟨xt, q5⟩, q50⟩ q7 qZ T'.heap (locs ++ L) ls (v.toList ++ rest) tys' lc q1 B' T' rfl X'
  exact ⟨t2, st t2 a1, c1⟩
def zg_cl (KK : List Nat) (M : zx_M) (cf : Nat → Option (Nat × Nat × Nat × Nat)) (ix : Nat) (en : zw_En) (G : zx_G) (h : List zx_C) (k : Nat × Nat) (sk : List zx_V) : Option (List zx_Ou × (List zx_V × (List zx_V × (Nat × Nat)))) := match cf ix with
  | some q => (match zy_get zx_rmt q.2.1 with
    | some rm => if q.1 = 0 ∧ (sk.take q.2.2.1).length = q.2.2.1 ∧ zx_cats (sk.drop q.2.2.1) ≤ 8 ∧ zx_le2 (k.1 + rm.1, k.2 + rm.2) (zx_mR M) = true ∧ zx_recvr 0 q.2.2.2 h (sk.take q.2.2.1).reverse = true ∧ zw_off en.2.2.2.1 (sk.take q.2.2.1).reverse = 0 ∧ en.2.2.1.length = h.length then (match zw_mmE KK true q.2.1 G h (sk.take q.2.2.1).reverse [en] with
      | some os => some (os, (sk.take q.2.2.1).reverse, sk.drop q.2.2.1, k.1 + rm.1, k.2 + rm.2)
      | none => none) else none
    | none => none)
  | none => none
theorem zg_call0 {ix : Nat} {en : zw_En} {X : List Value → va_W → Prop} {Z : List Value → va_W → Option Value → va_W → Prop} {os : List zx_Ou} {as rk : List zx_V} {k' : Nat × Nat} (C : zg_cx p R s m args meth c A b ex nL own cc Kr d md) (hK : ∀ i ∈ ad0.2, i ∈ en.2.2.2.2.2.1) (hen : zg_EN l d en X Z) (hd : decode cc pc = .ok (.invokevirtual ix, 3)) (hcl : zg_cl en.2.2.2.2.2.1 md.2.1 md.2.2.1 ix en G h k sk = some (os, as, rk, k')) (hG : zx_ok ρ G) (B : zx_B D vwCl A b ex ad0 nL s ρ h lv sk H locs ls kc tys ws lc)
    (hX : ∀ av, zx_F2 (zx_R b ex ρ (zx_as ws)) as av → X av ws)
    (K : ∀ o ∈ os, ∀ (av : List Value) (v : Option Value) (r2 : List Int) (ws' : va_W), zx_F2 (zx_R b ex ρ (zx_as ws)) as av → zx_KP (ws, en.2.2.2.2.2.1) ws' → zx_rv b ex (ρ ++ r2) (zx_as ws') o.2.2 v → Z av ws v ws' → zg_go p l e R s m args below meth c Q D A b ex ad0 nL (pc + 3) (o.1, o.2.1, lv, o.2.2.toList ++ rk, k') (ρ ++ r2) ws') : W p l e R s m args below meth c H locs k.1 k.2 Q (F0 m pc ls kc) := by
  obtain ⟨F, hLK, hroom, hml, htbl, hS⟩ := C
  obtain ⟨hx, hb, hown, hts, hnw, hA, hR, hin, hnL, hCX, hao, hCK, hMK⟩ := F
  have hsz : ls.size = nL := B.2.2.2.2.2.2.1.1
  unfold zg_cl at hcl
  simp only [zy_get_eq] at hcl
  split at hcl
  case h_2 => cases hcl
  rename_i q hq
  obtain ⟨L5, L0, -⟩ := hLK.2 ix q hq
  split at hcl
  case h_2 => cases hcl
  rename_i rm hrm
  split at hcl
  case isFalse => cases hcl
  rename_i hc
  obtain ⟨g, c1, c2, c3, c4, c5, c6⟩ := hc
  split at hcl
  case h_2 => cases hcl
  rename_i os' hos
  cases hcl
  rw [zw_mmE] at hos
  split at hos
  case isFalse => cases hos
  rename_i hcc
  simp only [Bool.and_eq_true] at hcc
  obtain ⟨e1, e2, e3, e4, e6, e5⟩ := hcc
  have hj := Nat.eq_of_beq_eq_true e1
  unfold zw_mmE.zw_mm1 at e6
  rw [Bool.and_eq_true] at e6
  cases hos
  rw [c5] at e2 e3 e4 e6 K
  have hne5 : q.1 < 5 := by omega
  obtain ⟨y, yc, maxL, ret, n1, n2, n3, n4, n5, n6, L0⟩ := L0 hne5
  have h8 := B.2.2.2.2.2.2.2
  obtain ⟨htk, hdr⟩ := zx_F2_take q.2.2.1 h8
  have hav := zx_F2_rev htk
  have hcat := zx_cats_ok hdr
  have hW8 : ((kc.drop q.2.2.1).map fun v => v.category).sum ≤ 8 := by rw [hcat]; exact c2
  have hk2 : k.1 + rm.1 ≤ R.cells ∧ k.2 + rm.2 ≤ R.slots := by
    unfold zx_le2 at c3
    rw [Bool.and_eq_true] at c3
    rw [hR.1, hR.2]
    exact ⟨Nat.le_of_ble_eq_true c3.1, Nat.le_of_ble_eq_true c3.2⟩
  have hwl : ws.length = en.2.2.1.length := by rw [c6]; exact (zx_F2_len B.2.2.2.2.1).symm
  have hws : (ws.drop 0).take en.2.2.1.length = ws := by rw [List.drop_zero, ← hwl, List.take_length]
  rw [← hj] at n1 hrm
  have hM := zg_loc (D := D) (Z' := fun v ws' => Z (kc.take q.2.2.1).reverse ws v ws') hen (fun u hu => Nat.eq_of_beq_eq_true (List.all_eq_true.mp e5 u hu)) e3 e4 e2 e6.1 n1 hrm hG B.2.2.2.2.1 hav (sz := H.size) (fun x hx => hA x (Nat.le_trans B.2.2.2.1.1.1 hx)) (by rw [hws]; exact hX _ hav) (fun v ws1 hz => by
    rw [hws] at hz
    have h9 : ws.drop (0 + en.2.2.1.length) = [] := List.drop_eq_nil_of_le (by omega)
    rw [h9, List.append_nil, List.take_zero, List.nil_append]
    exact hz)
  have hrooms : ({ frames := d, cells := rm.1, slots := rm.2, locals := 100 * d } : Room).frames + 1 ≤ R.frames ∧ 8 + (maxL + 11) + ({ frames := d, cells := rm.1, slots := rm.2, locals := 100 * d } : Room).locals ≤ R.locals := ⟨hroom.1, by show 8 + (maxL + 11) + 100 * d ≤ R.locals; omega⟩
  have hgT : GoodIn zx_Ts (Jvm.Cond.code y yc maxL ret :: zx_Ts) := by
    intro w hw
    have hw2 : w ∈ zx_Ts := (List.mem_cons.mp hw).elim (fun g => by rw [g]; exact n3) id
    exact ⟨hw2, good_of_word (List.all_eq_true.mp zx_Ts_good w hw2)⟩
  have hgo : ∀ w ∈ zx_Ts, w ∈ zx_Ts ∧ ((w.onTables && w.keeps) = true ∨ ∃ ty, w = .arrayClass ty) := fun w hw => ⟨hw, good_of_word (List.all_eq_true.mp zx_Ts_good w hw)⟩
  have hcall : CallFix p m c cc nL s args zx_Ts own := ⟨hx, hb, hml, hown, hts⟩
  have hstk : kc = kc.take q.2.2.1 ++ kc.drop q.2.2.1 := (List.take_append_drop _ _).symm
  have hpre : ∀ U : State, U.heap = H → s.WarmedH U.vm → zx_Pc D vwCl A ex zx_sts zx_Yt zx_nw zx_aos tys ws H.size (kc.take q.2.2.1).reverse (kc.take q.2.2.1).reverse.toArray U := fun U hU hW =>
    ⟨rfl, by rw [hU], by rw [hU]; exact B.2.1, va_K.moved hW.alike B.1, B.2.2.1, by rw [hU]; exact zx_CX_move (Y := zx_Yt) hW.alike (fun a h1 h2 => B.2.2.2.1.1.2.1 a h1 h2) hCX, zx_nw_warm zx_nw_kind hW hnw, fun C hC => va_AO.moved hW.alike (hao C hC)⟩
  have hbl : FrameBlind (zx_Pc D vwCl A ex zx_sts zx_Yt zx_nw zx_aos tys ws H.size (kc.take q.2.2.1).reverse) := zx_blind zx_nw_kind
  have hsub : zx_B D vwCl A b ex ad0 nL s ρ h lv (sk.drop q.2.2.1) H locs ls (kc.drop q.2.2.1) tys ws lc := zx_B_sk B hdr
  have hkl : (kc.take q.2.2.1).length = q.2.2.1 := by rw [← zx_F2_len htk]; exact c1
  have hrec : ∀ (v : zx_V) (as : List zx_V), (sk.take q.2.2.1).reverse = v :: as → ∃ (x : Value) (As : List Value), (kc.take q.2.2.1).reverse = x :: As ∧ zx_R b ex ρ (zx_as ws) v x ∧ kc = As.reverse ++ x :: kc.drop q.2.2.1 ∧ As.length = q.2.2.1 - 1 := by
    intro v as hs
    rw [hs] at hav
    cases hr : (kc.take q.2.2.1).reverse with
    | nil => rw [hr] at hav; exact hav.elim
    | cons x As =>
      rw [hr] at hav
      have h9 : kc.take q.2.2.1 = As.reverse ++ [x] := by
        have := congrArg List.reverse hr
        rw [List.reverse_reverse, List.reverse_cons] at this
        exact this
      refine ⟨x, As, rfl, hav.1, ?_, ?_⟩
      · have h10 := hstk
        rw [h9, List.append_assoc] at h10
        exact h10
      · have h11 := congrArg List.length h9
        rw [hkl, List.length_append, List.length_reverse, List.length_singleton] at h11
        omega
  obtain ⟨j1, j2, j3, j4, j50⟩ := L0.1 g
  obtain ⟨ids, as, hs, c4⟩ := zx_recvr0 c4
  obtain ⟨x, As, r1, r2, r3, r4⟩ := hrec _ _ hs
  rcases r2 with ⟨h4, -⟩ | ⟨i0, a, h4, h5, rfl⟩
  · cases h4
  have hrcv : ∃ cell : Cell, H[a]? = some cell ∧ cell.vm.isStatics = false ∧ s.vm.findClass y.cls = some cell.cls := by
    obtain ⟨o1, ss, o2⟩ := zx_objs_ok c4 h4
    obtain ⟨en, g1, fs, rfl, g2⟩ := zx_cell B o1 h5 o2
    rcases j50 with ⟨j51, -⟩ | ⟨T, N, j5⟩
    · obtain ⟨rr, hc1, -⟩ := B.2.1 _ _ g1
      rw [j51] at hc1
      exact absurd (List.getElem?_eq_some_iff.mp hc1).1 (by have := hLK.1; omega)
    · exact va_recv B.1 B.2.1 j5 g1
  have K2 : ∀ o ∈ en.2.2.2.2.1.map (zw_r1 en.2.2.2.2.2.1 G h 0 en.2.2.1.length en.2.1.length (zw_sg1 en.2.1 en.2.2.1 en.2.2.2.1 (h.drop 0) (sk.take q.2.2.1).reverse)), ∀ (v : Option Value) (r2 : List Int) (ws' : va_W), zx_KP (ws, en.2.2.2.2.2.1) ws' → zx_rv b ex (ρ ++ r2) (zx_as ws') o.2.2 v → Z (kc.take q.2.2.1).reverse ws v ws' → zg_go p l e R s m args below meth c Q D A b ex ad0 nL (pc + 3) (o.1, o.2.1, lv, o.2.2.toList ++ sk.drop q.2.2.1, k.1 + rm.1, k.2 + rm.2) (ρ ++ r2) ws' :=
    fun o ho v r2 ws' h1 h2 h3 => K o ho _ v r2 ws' hav h1 h2 h3
  rw [r1] at hM hpre hbl K2
  have hkk : W p l e R s m args below meth c H locs k.1 k.2 Q (F0 m pc ls (As.reverse ++ .ref a :: kc.drop q.2.2.1)) :=
    zg_run_W hK hA hsub (va_runV (As := As) (rest := kc.drop q.2.2.1) hcall hM (cwV (q.2.2.1 - 1) hts (fun w hw => by
      rcases List.mem_append.mp hw with hw | hw
      · simp only [List.mem_cons, List.not_mem_nil, or_false] at hw
        rcases hw with rfl | rfl | rfl | rfl
        · exact hgo _ j1
        · exact hgo _ j2
        · exact hgo _ j3
        · exact hgo _ n4
      · exact hgT w hw) rfl rfl rfl ⟨rfl, n5, n6, j4⟩ hrooms) ⟨hbl, hrcv, hpre⟩ rfl r4 hsz rfl (lv_room hW8) hd hk2) K2
  rw [r3]
  exact hkk
theorem zg_call {ix : Nat} {en : zw_En} {X : List Value → va_W → Prop} {Z : List Value → va_W → Option Value → va_W → Prop} {os : List zx_Ou} {as rk : List zx_V} {k' : Nat × Nat} {T : zx_T} (C : zg_cx p R s m args meth c A b ex nL own cc Kr d md) (hK : ∀ i ∈ ad0.2, i ∈ en.2.2.2.2.2.1) (hen : zg_EN l d en X Z) (hd : (pc, Instr.invokevirtual ix, 3) ∈ md.1) (hcl : zg_cl en.2.2.2.2.2.1 md.2.1 md.2.2.1 ix en T.1 T.2.1 T.2.2.2.2 T.2.2.2.1 = some (os, as, rk, k'))
    (hX : ∀ av, zx_F2 (zx_R b ex ρ (zx_as ws)) as av → X av ws)
    (K : ∀ o ∈ os, ∀ (av : List Value) (v : Option Value) (r2 : List Int) (ws' : va_W), zx_F2 (zx_R b ex ρ (zx_as ws)) as av → zx_KP (ws, en.2.2.2.2.2.1) ws' → zx_rv b ex (ρ ++ r2) (zx_as ws') o.2.2 v → Z av ws v ws' → zg_go p l e R s m args below meth c Q D A b ex ad0 nL (pc + 3) (o.1, o.2.1, T.2.2.1, o.2.2.toList ++ rk, k') (ρ ++ r2) ws') : zg_go p l e R s m args below meth c Q D A b ex ad0 nL pc T ρ ws :=
  fun _ _ _ _ _ _ hG B => zg_call0 C hK hen (C.2.2.2.2.1 _ hd).1 hcl hG B hX K
end ZGC
end
noncomputable section
theorem zg_E_ok {b : Nat} {ex : List Nat} {tys : List (ClassId × FieldType)} {m : Nat} {outs : List zx_Ou} {ρe r : List Int} (hm : ρe.length = m) {o : zx_Ou} (ho : zw_E m o outs = true) {ws : va_W} (g1 : zx_ok (ρe ++ r) o.1) (g7 : zx_F2 (fun c q => zx_RC vwCl b ex (ρe ++ r) (zx_as ws) tys c q.2) o.2.1 ws) : ∃ o0 ∈ outs, ∃ r' : List Int, zx_ok (ρe ++ r') o0.1 ∧ zx_F2 (fun c q => zx_RC vwCl b ex (ρe ++ r') (zx_as ws) tys c q.2) o0.2.1 ws ∧ ∀ v, zx_rv b ex (ρe ++ r) (zx_as ws) o.2.2 v → zx_rv b ex (ρe ++ r') (zx_as ws) o0.2.2 v := by
  obtain ⟨o0, ho0, σ, h⟩ := zw_E_ok ho
  unfold zw_E1 at h
  simp only [Bool.and_eq_true] at h
  obtain ⟨h1, h2, h3, h4, h5, h6⟩ := h
  obtain ⟨ρ0, k1, k2⟩ := zw_bd_ok g1 h1
  have k3 := zw_pre hm h2 k1 (by rw [k2.1]; exact Nat.le_of_ble_eq_true h3)
  rw [k3] at k1 k2
  have hlen := Nat.eq_of_beq_eq_true h4
  have had : ∀ i, i < o.2.1.length → (zx_as ws)[i]? = (zx_as ws)[i + 0]? := fun i _ => rfl
  have c5 := zw_H_ok g1 k1 had h5 g7
  rw [List.take_of_length_le (by rw [← zx_F2_len g7, hlen]; exact Nat.le_refl _)] at c5
  refine ⟨o0, ho0, ρ0.drop m, k2, c5, fun v hv => ?_⟩
  revert h6 hv
  rcases o.2.2 with _ | x <;> rcases o0.2.2 with _ | x0 <;> rcases v with _ | y
  · exact fun _ _ => trivial
  · exact fun _ hv => hv.elim
  · exact fun h6 _ => nomatch h6
  · exact fun h6 _ => nomatch h6
  · exact fun h6 _ => nomatch h6
  · exact fun h6 _ => nomatch h6
  · exact fun _ hv => hv.elim
  · intro h6 hv
    have h7 : zw_V o.2.1.length 0 σ o.1 x0 x = true := by
      have h8 : zw_Vs o.2.1.length 0 σ o.1 [x0] [x] = true := h6
      rw [zw_Vs, Bool.and_eq_true] at h8
      exact h8.1
    exact zw_V_ok g1 k1 had h7 hv
section ZGE
variable {l : Launch}
theorem zg_enter {d : Nat} {en : zw_En} {X : List Value → va_W → Prop} {Z : List Value → va_W → Option Value → va_W → Prop} {Kr : List Nat} {md : zx_MD} (hP : zx_Pt[en.1]? = some (some md)) (hcats : zx_cats en.2.2.2.1 ≤ zx_mV md.2.1)
    (hcont : ∀ (p : Program) (e : Env) (R : Room) (s : State) (mi : MethodId) (args : Array Value) (below : List Frame) (meth : Method) (c : Code) (Q : State → Prop) (D : va_G) (A : Nat → Prop) (b : Nat) (ex : List Nat) (nL : Nat) (own : String) (cc : ByteArray) (ρ : List Int) (tys : List (ClassId × FieldType)) (ws : va_W) (av : List Value), X av ws → zx_ok ρ en.2.1 → zx_F2 (fun c q => zx_RC vwCl b ex ρ (zx_as ws) tys c q.2) en.2.2.1 ws → zx_F2 (zx_R b ex ρ (zx_as ws)) en.2.2.2.1 av → zg_cx p R s mi args meth c A b ex nL own cc Kr d md → (∀ (o : zx_Ou) (r : List Int) (ws' : va_W), zw_E en.2.1.length o en.2.2.2.2.1 = true → (∀ v, zx_rv b ex (ρ ++ r) (zx_as ws') o.2.2 v → Z av ws v ws') → zg_ed p l e R s mi args below meth c Q D A b ex (ws, en.2.2.2.2.2.1) nL cc md.2.2.2 (zx_mR md.2.1) o (ρ ++ r) ws') → zg_go p l e R s mi args below meth c Q D A b ex (ws, en.2.2.2.2.2.1) nL 0 (en.2.1, en.2.2.1, zx_args 0 en.2.2.2.1, [], 0, 0) ρ ws) : zg_EN l (d + 1) en X Z := by
  intro y cc maxL ret rm hPR hrm D A b ex ρ tys ws sz av hG hh ha hA hX
  obtain ⟨k1, k2, k3, k4, k5, k6, k7, k8, k9, x, nx, k10, k11⟩ := zx_PKt en.1 md y cc maxL ret rm hP hPR hrm
  refine Met.ofW (cc := cc) (maxL := maxL) (ret := ret) k1 rfl ?_
  intro p e s m args below meth c s₁ B hml hv
  obtain ⟨rfl, hsz, hP, hK, hD, hCX, hnw, hao⟩ := hv
  have hx := B.exec
  have hb := B.bytes
  have hr := B.returns
  have hts0 := atoms_spec (ws := Jvm.Cond.code y cc maxL ret :: zx_Ts) B.pre
  have hts : ∀ w ∈ zx_Ts, w.before av.toArray s = true := fun w hw => hts0 w (List.mem_cons_of_mem _ hw)
  have hown : s.vm.findClass y.cls = some m.cls := findClass_of_methodNamed B.named
  have hlocks := B.notSynchronized
  have hin : meth.name = y.name := (name_of_methodNamed B.named B.method).1
  have hA' : ∀ q, s.heap.size ≤ q → A q := fun q hq => hA q (by rw [← hsz]; exact hq)
  have F : zx_FX p s m av.toArray meth c ({ frames := d + 1, cells := rm.1, slots := rm.2, locals := 100 * (d + 1) } : Room) cc y.cls zx_Ts zx_nw vwCl A ex maxL zx_sts (zw_YK zx_Yt Kr false) zx_aos zx_dt md.2.1 :=
    ⟨hx, hb, hown, hts, hnw, hA', ⟨by rw [k2], by rw [k2]⟩, fun q => by rw [hin]; exact k5 q, k3, hCX, hao, zx_CKt, k6⟩
  have hl := lv_entry av (n := maxL) (by rw [zx_words ha, ← k3]; exact hcats)
  rw [lg_entry_eq]
  generalize (lg_sl av ++ List.replicate (maxL - (lg_sl av).length) Slot.unset).toArray = ls at hl ⊢
  have Bx : zx_B D vwCl A b ex (ws, en.2.2.2.2.2.1) maxL s ρ en.2.2.1 (zx_args 0 en.2.2.2.1) [] s.heap [] ls [] tys ws (lv_args 0 av) :=
    ⟨hK, hP, hD, ⟨va_S.rf, zx_KP_rf ws en.2.2.2.2.2.1⟩, hh, zx_args_ok 0 ha, hl, trivial⟩
  refine hcont p e ({ frames := d + 1, cells := rm.1, slots := rm.2, locals := 100 * (d + 1) } : Room) s m av.toArray below meth c (MQ below (zg_Q D A b ex ρ ws en.2.2.2.2.2.1 en.2.2.2.2.1 (Z av ws)) av.toArray s rm.1 rm.2 A) D A b ex maxL y.cls cc ρ tys ws av hX hG hh ha ⟨F, k7, ⟨Nat.le_refl _, Nat.le_refl _⟩, hml, k8, fun r q => by rw [k4] at q; cases q⟩ ?_ s.heap [] ls [] tys (lv_args 0 av) hG Bx
  intro o r ws' hoE hoZ H' locs' ls' kc' pc' k' ir tys' g1 g2 g3 g4 g5 g6 g7 g8 g9 g10 g11
  obtain ⟨o0, ho0, r', q1, q2, q3⟩ := zg_E_ok hG.1 hoE g1 g7
  have g8 : k'.1 ≤ rm.1 := by rw [← k2]; exact g8
  have g9 : k'.2 ≤ rm.2 := by rw [← k2]; exact g9
  refine W.widen (k := rm.1) (n := rm.2) g8 g9 ?_
  have fin : ∀ (v : Option Value), zx_rv b ex (ρ ++ r) (zx_as ws') o.2.2 v → ∀ t : State, t.heap = H' → s.WarmedH t.vm → zg_Q D A b ex ρ ws en.2.2.2.2.2.1 en.2.2.2.2.1 (Z av ws) av.toArray s (.returned v) t := by
    intro v hv t ht hW
    exact ⟨⟨o0, ho0, v, r', tys', ws', rfl, q1, va_K.moved hW.alike g2, by rw [ht]; exact g3, g4, g6, q2, q3 v hv, hoZ v hv⟩, g5.F ht⟩
  rcases g11 with ⟨rfl, e1, rfl, e2⟩ | ⟨rfl, e1, w, e2, rfl, e3, e4⟩ | ⟨rfl, q, x1, e2, rfl, e3, e4⟩ | ⟨rfl, w, e2, rfl, e4⟩
  · have hrn : ret = none := by
      cases ret with
      | none => rfl
      | some ty => exact absurd e2 k9.2.1
    subst hrn
    exact W.vret hx hb hr (fin none (by rw [e1]; exact trivial)) g5.2.2 g10
  · cases ret with
    | none =>
      have k9 : md.2.2.2 = 4 := k9
      rw [k9] at e4
      exact (zx_fit4 e4).elim
    | some ty =>
      have hx1 : zx_R b ex (ρ ++ r) (zx_as ws') (.inl e1) (.int w) := ⟨w, rfl, e3⟩
      have hn := (zx_fit_ok (ty := ty) g1 (by rw [k9.1]; exact e4) hx1).1
      exact W.zret hx hb hr hn (fin (some (.int w)) (by rw [e2]; exact hx1)) g5.2.2 g10
  · cases ret with
    | none =>
      have k9 : md.2.2.2 = 4 := k9
      rw [k9] at e4; cases e4
    | some ty =>
      have hty : (∃ n, ty = .object n) ∨ ∃ t, ty = .array t := by
        have h9 := k9.1
        rw [e4] at h9
        cases ty <;> first | exact Or.inl ⟨_, rfl⟩ | exact Or.inr ⟨_, rfl⟩ | cases h9
      have hvx : x1 = .null ∨ ∃ a, x1 = .ref a := by
        rcases e3 with ⟨-, h1⟩ | ⟨i, a, -, -, h1⟩
        · exact Or.inl h1
        · exact Or.inr ⟨a, h1⟩
      exact W.aret hx hb hr hty hvx (fin (some x1) (by rw [e2]; exact e3)) g5.2.2 g10
  · cases ret with
    | none =>
      have k9 : md.2.2.2 = 4 := k9
      rw [k9] at e4; cases e4
    | some ty =>
      have hty : ty = .long := by
        have h9 := k9.1
        rw [e4] at h9
        cases ty <;> first | rfl | cases h9
      subst hty
      exact W.lret hx hb hr (fin (some (.long w)) (by rw [e2]; exact ⟨w, rfl⟩)) g5.2.2 g10
end ZGE
end
