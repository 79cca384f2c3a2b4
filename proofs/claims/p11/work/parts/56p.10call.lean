noncomputable section
/-! zj: a call in the law: a checked contract, and what is told plainly, hold together -/
/-- two contracts of a method over one premise hold together: the end is one moment -/
theorem zj_Met_and {l : Launch} {y : MethodName} {ws : List Jvm.Cond} {rm : Room} {Pc : Array Value → State → Prop} {Q1 Q2 : Array Value → State → Outcome → State → Prop} {mc ms : Nat} {free : Addr → Prop} (h1 : Met l y ws rm Pc Q1 mc ms free) (h2 : Met l y ws rm Pc Q2 mc ms free) : Met l y ws rm Pc (fun a st o t => Q1 a st o t ∧ Q2 a st o t) mc ms free := by
  intro p e ha hc hk s m args below hf hS hP hK
  obtain ⟨n, o, w, r, E, q⟩ := h1 p e ha hc hk s m args below hf hS hP hK
  obtain ⟨n', o', w', r', E', q'⟩ := h2 p e ha hc hk s m args below hf hS hP hK
  obtain ⟨rfl, rfl⟩ := the_end_unique (f := fun k => stepsAlone p.tables e k s) w E w' E'
  exact ⟨n, o, w, r, E, ⟨q.1, q'.1⟩, q.2⟩
/-- how many fields the objects of a class have -/
def zj_nf (ci : Nat) : Nat := ((vwCl[ci]?).map (fun r => r.2.2)).getD 0
/-- objects that stand in both hold the same -/
def zj_eqo (ws ws' : va_W) : Prop := ∀ (i a ci : Nat) (fs fs' : List Value) (k : Nat), ws[i]? = some (a, .inr (ci, fs)) → ws'[i]? = some (a, .inr (ci, fs')) → k < zj_nf ci → fs.getD k .null = fs'.getD k .null
theorem zj_eqo_of {D : va_G} {ws ws' : va_W} {H : Heap} (h : va_P D vwCl ws H) (h' : va_P D vwCl ws' H) : zj_eqo ws ws' := by
  intro i a ci fs fs' k h1 h2 hk
  obtain ⟨r, g1, cell, g2, -, -, g3⟩ := h _ _ h1
  obtain ⟨r', g4, cell', g5, -, -, g6⟩ := h' _ _ h2
  have g1 : vwCl[ci]? = some r := g1
  have g4 : vwCl[ci]? = some r' := g4
  rw [g1] at g4
  cases g4
  have g2 : H[a]? = some cell := g2
  have g5 : H[a]? = some cell' := g5
  rw [g2] at g5
  cases g5
  unfold zj_nf at hk
  rw [g1] at hk
  have hk : k < r.2.2 := hk
  have g7 := g3 k hk
  have g8 := g6 k hk
  rw [g7] at g8
  exact Option.some.inj g8
/-- rows that stand in both hold the same -/
def zj_eqr (ws ws' : va_W) : Prop := ∀ (i a : Nat) (c c' : ClassId) (n n' : Nat) (f f' : Nat → Int32), ws[i]? = some (a, .inl (c, n, .inl f)) → ws'[i]? = some (a, .inl (c', n', .inl f')) → ∀ k, k < n → f k = f' k
theorem zj_eqr_of {D : va_G} {ws ws' : va_W} {H : Heap} (h : va_P D vwCl ws H) (h' : va_P D vwCl ws' H) : zj_eqr ws ws' := by
  intro i a c c' n n' f f' h1 h2 k hk
  have g1 : H[a]? = some (arrV c n (fun j => .int (f j))) := h _ _ h1
  have g2 : H[a]? = some (arrV c' n' (fun j => .int (f' j))) := h' _ _ h2
  rw [g1] at g2
  have g3 : (arrV c n (fun j => Value.int (f j))).slots = (arrV c' n' (fun j => Value.int (f' j))).slots := congrArg Cell.slots (Option.some.inj g2)
  have g4 := arrV_read c (fun j => Value.int (f j)) hk
  have hk' : k < n' := by
    have g5 := congrArg Array.size g3
    rw [arrV_size, arrV_size] at g5
    omega
  have g5 := arrV_read c' (fun j => Value.int (f' j)) hk'
  rw [g3, g5] at g4
  exact (Value.int.inj (Option.some.inj g4)).symm
def zj_eq2 (ws ws' : va_W) : Prop := zj_eqo ws ws' ∧ zj_eqr ws ws'
theorem zj_eq2_of {D : va_G} {ws ws' : va_W} {H : Heap} (h : va_P D vwCl ws H) (h' : va_P D vwCl ws' H) : zj_eq2 ws ws' := ⟨zj_eqo_of h h', zj_eqr_of h h'⟩
theorem zj_Met_WE {l : Launch} {y : MethodName} {cs : List Jvm.Cond} {R : Room} {Pc : Array Value → State → Prop} {mc ms : Nat} {D : va_G} {A : Nat → Prop} {b : Nat} {ex : List Nat} {ρ : List Int} {ws : va_W} {KK : List Nat} {os : List zx_Ou} {Z : Option Value → va_W → Prop} {tys : List (ClassId × FieldType)} {Zw ZW : Option Value → va_W → Prop} (h1 : Met l y cs R Pc (zg_Q D A b ex ρ ws KK os Z) mc ms A) (h2 : Met l y cs R Pc (zj_Q D A tys ws Zw) mc ms A) (h3 : ∀ v ws', Zw v ws' → ZW v ws') : Met l y cs R Pc (zg_Q D A b ex ρ ws KK os (fun v ws' => Z v ws' ∧ ∃ wsW : va_W, zx_as wsW = zx_as ws ∧ ZW v wsW ∧ zj_eq2 ws' wsW)) mc ms A := by
  refine zx_Met_imp (zj_Met_and h1 h2) ⟨Nat.le_refl _, Nat.le_refl _, Nat.le_refl _, Nat.le_refl _⟩ (fun _ _ h => ⟨h, fun _ q => q⟩) ?_
  rintro a st oc t - ⟨⟨⟨o1, ho1, v, r2, tys', ws1, hv, g1, g2, g3, g4, g5, g6, g7, gZ⟩, gF⟩, ⟨⟨v', wsW, hv', w2, w3, w4, w5, wZ⟩, -⟩⟩ -
  have e : v' = v := by
    rw [hv] at hv'
    cases hv'
    rfl
  subst e
  exact ⟨⟨o1, ho1, v', r2, tys', ws1, hv, g1, g2, g3, g4, g5, g6, g7, gZ, wsW, w5, h3 _ _ wZ, zj_eq2_of g3 w3⟩, gF⟩
section ZKW
variable {p : Program} {l : Launch} {e : Env} {R : Room} {s : State} {m : MethodId} {args : Array Value} {below : List Frame} {meth : Method} {c : Code} {Q : State → Prop} {D : va_G} {A : Nat → Prop} {b : Nat} {ex : List Nat} {ad0 : zx_A0} {nL : Nat} {own : String} {cc : ByteArray} {Kr : List Nat} {d : Nat} {md : zx_MD}
variable {ρ : List Int} {G : zx_G} {h : List zx_C} {lv : List (Nat × zx_V)} {k : Nat × Nat} {sk : List zx_V} {H : Heap} {locs : List Loc} {ls : Array Slot} {kc : List Value} {tys : List (ClassId × FieldType)} {ws : va_W} {lc : List (Nat × Value)} {pc : Nat}
theorem zj_callL0 {o ix : Nat} {KK : List Nat} {en : zw_En} {X : List Value → va_W → Prop} {Z : List Value → va_W → Option Value → va_W → Prop} {ZW : List Value → Option Value → va_W → Prop} {os : List zx_Ou} {as rk : List zx_V} {k' : Nat × Nat} (C : zgL_cx p R s m args meth c A ex nL own cc Kr d md) (hK : ∀ i ∈ ad0.2, i ∈ KK) (hen : zg_EN l d en X Z) (hd : decode cc pc = .ok (.invokevirtual ix, 3)) (hcl : zgL_cl o KK md.2.1 md.2.2.1 ix en G h k sk = some (os, as, rk, k')) (hG : zx_ok ρ G) (B : zx_B D vwCl A b ex ad0 nL s ρ h lv sk H locs ls kc tys ws lc)
    (hX : ∀ av, zx_F2 (zx_R b ex ρ (zx_as ws)) as av → X av ((ws.drop o).take en.2.2.1.length))
    (hW : ∀ av, zx_F2 (zx_R b ex ρ (zx_as ws)) as av → ∃ (XX : List Nat → List (ClassId × FieldType) → List Value → va_W → Prop) (Z0 : List Nat → List Value → va_W → Option Value → va_W → Prop), zj_W l d en.1 XX Z0 ∧ XX ex tys av ws ∧ ∀ v ws', Z0 ex av ws v ws' → ZW av v ws')
    (K : ∀ u ∈ os, ∀ (av : List Value) (v : Option Value) (r2 : List Int) (ws' : va_W), zx_F2 (zx_R b ex ρ (zx_as ws)) as av → zx_KP (ws, KK) ws' → zx_rv b ex (ρ ++ r2) (zx_as ws') u.2.2 v → ((∃ ws1, ws' = zgL_be o en.2.2.1.length ws ws1 ∧ Z av ((ws.drop o).take en.2.2.1.length) v ws1) ∧ (∃ wsW : va_W, zx_as wsW = zx_as ws ∧ ZW av v wsW ∧ zj_eq2 ws' wsW)) → zg_go p l e R s m args below meth c Q D A b ex ad0 nL (pc + 3) (u.1, u.2.1, lv, u.2.2.toList ++ rk, k') (ρ ++ r2) ws') : W p l e R s m args below meth c H locs k.1 k.2 Q (F0 m pc ls kc) := by
  obtain ⟨F, hLK, hroom, hml, htbl⟩ := C
  obtain ⟨hx, hb, hown, hts, hnw, hA, hR, hin, hnL, hCX, hao, hCK, hMK⟩ := F
  have hsz : ls.size = nL := B.2.2.2.2.2.2.1.1
  unfold zgL_cl at hcl
  simp only [zy_get_eq] at hcl
  split at hcl
  case h_2 => cases hcl
  rename_i q hq
  obtain ⟨L5, L0, -⟩ := hLK.2 ix q hq
  split at hcl
  case h_2 => cases hcl
  rename_i rm hrm
  split at hcl
  case isFalse => cases hcl
  rename_i hc
  obtain ⟨g, c1, c2, c3, c4, c5⟩ := hc
  split at hcl
  case h_2 => cases hcl
  rename_i os' hos
  cases hcl
  rw [zw_mmE] at hos
  split at hos
  case isFalse => cases hos
  rename_i hcc
  simp only [Bool.and_eq_true] at hcc
  obtain ⟨e1, e2, e3, e4, e6, e5⟩ := hcc
  have hj := Nat.eq_of_beq_eq_true e1
  unfold zw_mmE.zw_mm1 at e6
  rw [Bool.and_eq_true] at e6
  cases hos
  rw [c5] at e2 e3 e4 e6 K
  have hne5 : q.1 < 5 := by omega
  obtain ⟨y, yc, maxL, ret, n1, n2, n3, n4, n5, n6, L0⟩ := L0 hne5
  have h8 := B.2.2.2.2.2.2.2
  obtain ⟨htk, hdr⟩ := zx_F2_take q.2.2.1 h8
  have hav := zx_F2_rev htk
  have hcat := zx_cats_ok hdr
  have hW8 : ((kc.drop q.2.2.1).map fun v => v.category).sum ≤ 8 := by rw [hcat]; exact c2
  have hk2 : k.1 + rm.1 ≤ R.cells ∧ k.2 + rm.2 ≤ R.slots := by
    unfold zx_le2 at c3
    rw [Bool.and_eq_true] at c3
    rw [hR.1, hR.2]
    exact ⟨Nat.le_of_ble_eq_true c3.1, Nat.le_of_ble_eq_true c3.2⟩
  rw [← hj] at n1 hrm
  have hM := zg_loc (o := o) (D := D) (Z' := fun v ws' => ∃ ws1, ws' = zgL_be o en.2.2.1.length ws ws1 ∧ Z (kc.take q.2.2.1).reverse ((ws.drop o).take en.2.2.1.length) v ws1) hen (fun u hu => Nat.eq_of_beq_eq_true (List.all_eq_true.mp e5 u hu)) e3 e4 e2 e6.1 n1 hrm hG B.2.2.2.2.1 hav (sz := H.size) (fun x hx => hA x (Nat.le_trans B.2.2.2.1.1.1 hx)) (hX _ hav) (fun v ws1 hz => ⟨ws1, rfl, hz⟩)
  obtain ⟨XX, Z0, hw1, hw2, hw3⟩ := hW _ hav
  have hMW := hw1 y yc maxL ret rm n1 hrm D A ex tys ws H.size _ (fun x hx => hA x (Nat.le_trans B.2.2.2.1.1.1 hx)) hw2
  replace hM := zj_Met_WE hM hMW (ZW := ZW (kc.take q.2.2.1).reverse) hw3
  have hrooms : ({ frames := d, cells := rm.1, slots := rm.2, locals := 100 * d } : Room).frames + 1 ≤ R.frames ∧ 8 + (maxL + 11) + ({ frames := d, cells := rm.1, slots := rm.2, locals := 100 * d } : Room).locals ≤ R.locals := ⟨hroom.1, by show 8 + (maxL + 11) + 100 * d ≤ R.locals; omega⟩
  have hgT : GoodIn zx_Ts (Jvm.Cond.code y yc maxL ret :: zx_Ts) := by
    intro w hw
    have hw2 : w ∈ zx_Ts := (List.mem_cons.mp hw).elim (fun g => by rw [g]; exact n3) id
    exact ⟨hw2, good_of_word (List.all_eq_true.mp zx_Ts_good w hw2)⟩
  have hgo : ∀ w ∈ zx_Ts, w ∈ zx_Ts ∧ ((w.onTables && w.keeps) = true ∨ ∃ ty, w = .arrayClass ty) := fun w hw => ⟨hw, good_of_word (List.all_eq_true.mp zx_Ts_good w hw)⟩
  have hcall : CallFix p m c cc nL s args zx_Ts own := ⟨hx, hb, hml, hown, hts⟩
  have hstk : kc = kc.take q.2.2.1 ++ kc.drop q.2.2.1 := (List.take_append_drop _ _).symm
  have hpre : ∀ U : State, U.heap = H → s.WarmedH U.vm → zx_Pc D vwCl A ex zx_sts zx_Yt zx_nw zx_aos tys ws H.size (kc.take q.2.2.1).reverse (kc.take q.2.2.1).reverse.toArray U := fun U hU hW =>
    ⟨rfl, by rw [hU], by rw [hU]; exact B.2.1, va_K.moved hW.alike B.1, B.2.2.1, by rw [hU]; exact zx_CX_move (Y := zx_Yt) hW.alike (fun a h1 h2 => B.2.2.2.1.1.2.1 a h1 h2) hCX, zx_nw_warm zx_nw_kind hW hnw, fun C hC => va_AO.moved hW.alike (hao C hC)⟩
  have hbl : FrameBlind (zx_Pc D vwCl A ex zx_sts zx_Yt zx_nw zx_aos tys ws H.size (kc.take q.2.2.1).reverse) := zx_blind zx_nw_kind
  have hsub : zx_B D vwCl A b ex ad0 nL s ρ h lv (sk.drop q.2.2.1) H locs ls (kc.drop q.2.2.1) tys ws lc := zx_B_sk B hdr
  have hkl : (kc.take q.2.2.1).length = q.2.2.1 := by rw [← zx_F2_len htk]; exact c1
  have hrec : ∀ (v : zx_V) (as : List zx_V), (sk.take q.2.2.1).reverse = v :: as → ∃ (x : Value) (As : List Value), (kc.take q.2.2.1).reverse = x :: As ∧ zx_R b ex ρ (zx_as ws) v x ∧ kc = As.reverse ++ x :: kc.drop q.2.2.1 ∧ As.length = q.2.2.1 - 1 := by
    intro v as hs
    rw [hs] at hav
    cases hr : (kc.take q.2.2.1).reverse with
    | nil => rw [hr] at hav; exact hav.elim
    | cons x As =>
      rw [hr] at hav
      have h9 : kc.take q.2.2.1 = As.reverse ++ [x] := by
        have := congrArg List.reverse hr
        rw [List.reverse_reverse, List.reverse_cons] at this
        exact this
      refine ⟨x, As, rfl, hav.1, ?_, ?_⟩
      · have h10 := hstk
        rw [h9, List.append_assoc] at h10
        exact h10
      · have h11 := congrArg List.length h9
        rw [hkl, List.length_append, List.length_reverse, List.length_singleton] at h11
        omega
  obtain ⟨j1, j2, j3, j4, j50⟩ := L0.1 g
  obtain ⟨ids, as, hs, c4⟩ := zx_recvr0 c4
  obtain ⟨x, As, r1, r2, r3, r4⟩ := hrec _ _ hs
  rcases r2 with ⟨h4, -⟩ | ⟨i0, a, h4, h5, rfl⟩
  · cases h4
  have hrcv : ∃ cell : Cell, H[a]? = some cell ∧ cell.vm.isStatics = false ∧ s.vm.findClass y.cls = some cell.cls := by
    obtain ⟨o1, ss, o2⟩ := zx_objs_ok c4 h4
    obtain ⟨en, g1, fs, rfl, g2⟩ := zx_cell B o1 h5 o2
    rcases j50 with ⟨j51, -⟩ | ⟨T, N, j5⟩
    · obtain ⟨rr, hc1, -⟩ := B.2.1 _ _ g1
      rw [j51] at hc1
      exact absurd (List.getElem?_eq_some_iff.mp hc1).1 (by have := hLK.1; omega)
    · exact va_recv B.1 B.2.1 j5 g1
  have K2 := fun u hu v r2 ws' h1 h2 h3 => K u hu _ v r2 ws' hav h1 h2 h3
  rw [r1] at hM hpre hbl K2
  have hkk : W p l e R s m args below meth c H locs k.1 k.2 Q (F0 m pc ls (As.reverse ++ .ref a :: kc.drop q.2.2.1)) :=
    zg_run_W hK hA hsub (va_runV (As := As) (rest := kc.drop q.2.2.1) hcall hM (cwV (q.2.2.1 - 1) hts (fun w hw => by
      rcases List.mem_append.mp hw with hw | hw
      · simp only [List.mem_cons, List.not_mem_nil, or_false] at hw
        rcases hw with rfl | rfl | rfl | rfl
        · exact hgo _ j1
        · exact hgo _ j2
        · exact hgo _ j3
        · exact hgo _ n4
      · exact hgT w hw) rfl rfl rfl ⟨rfl, n5, n6, j4⟩ hrooms) ⟨hbl, hrcv, hpre⟩ rfl r4 hsz rfl (lv_room hW8) hd hk2) K2
  rw [r3]
  exact hkk
theorem zj_callL (C : zgL_cx p R s m args meth c A ex nL own cc Kr d md) {o ix : Nat} {KK : List Nat} (hK : ∀ i ∈ ad0.2, i ∈ KK) {en : zw_En} {X : List Value → va_W → Prop} {Z : List Value → va_W → Option Value → va_W → Prop} {ZW : List Value → Option Value → va_W → Prop} {os : List zx_Ou} {as rk : List zx_V} {k' : Nat × Nat} {T : zx_T} (hen : zg_EN l d en X Z) (hd : (pc, Instr.invokevirtual ix, 3) ∈ md.1) (hcl : zgL_cl o KK md.2.1 md.2.2.1 ix en T.1 T.2.1 T.2.2.2.2 T.2.2.2.1 = some (os, as, rk, k'))
    (hX : ∀ av, zx_F2 (zx_R b ex ρ (zx_as ws)) as av → X av ((ws.drop o).take en.2.2.1.length))
    (hW : ∀ tys av, zx_F2 (fun c q => zx_RC vwCl b ex ρ (zx_as ws) tys c q.2) T.2.1 ws → zx_F2 (zx_R b ex ρ (zx_as ws)) as av → ∃ (XX : List Nat → List (ClassId × FieldType) → List Value → va_W → Prop) (Z0 : List Nat → List Value → va_W → Option Value → va_W → Prop), zj_W l d en.1 XX Z0 ∧ XX ex tys av ws ∧ ∀ v ws', Z0 ex av ws v ws' → ZW av v ws')
    (K : ∀ u ∈ os, ∀ (av : List Value) (v : Option Value) (r2 : List Int) (ws' : va_W), zx_F2 (zx_R b ex ρ (zx_as ws)) as av → zx_KP (ws, KK) ws' → zx_rv b ex (ρ ++ r2) (zx_as ws') u.2.2 v → ((∃ ws1, ws' = zgL_be o en.2.2.1.length ws ws1 ∧ Z av ((ws.drop o).take en.2.2.1.length) v ws1) ∧ (∃ wsW : va_W, zx_as wsW = zx_as ws ∧ ZW av v wsW ∧ zj_eq2 ws' wsW)) → zg_go p l e R s m args below meth c Q D A b ex ad0 nL (pc + 3) (u.1, u.2.1, T.2.2.1, u.2.2.toList ++ rk, k') (ρ ++ r2) ws') : zg_go p l e R s m args below meth c Q D A b ex ad0 nL pc T ρ ws :=
  fun _ _ _ _ _ _ hG B => zj_callL0 C hK hen (C.2.2.2.2 _ hd).1 hcl hG B hX (fun av ha => hW _ av B.2.2.2.2.1 ha) K
/-- what is on top is as another number that is known -/
theorem zj_top (e1 : zx_L) {e0 : zx_L} (he : ∀ w, zx_ev ρ e0 = some w → zx_ev ρ e1 = some w) (hgo : zg_go p l e R s m args below meth c Q D A b ex ad0 nL pc (G, h, lv, .inl e1 :: sk, k) ρ ws) : zg_go p l e R s m args below meth c Q D A b ex ad0 nL pc (G, h, lv, .inl e0 :: sk, k) ρ ws := by
  intro H locs ls kc tys lc hG B
  obtain ⟨b1, b2, b3, b4, b5, b6, b7, b8⟩ := B
  rcases kc with _ | ⟨x, kr⟩
  · exact b8.elim
  · obtain ⟨⟨w, g1, g2⟩, g3⟩ := b8
    exact hgo H locs ls (x :: kr) tys lc hG ⟨b1, b2, b3, b4, b5, b6, b7, ⟨w, g1, he _ g2⟩, g3⟩
/-- the cells are told otherwise -/
theorem zj_cells {h' : List zx_C} (he : ∀ tys, zx_F2 (fun c q => zx_RC vwCl b ex ρ (zx_as ws) tys c q.2) h ws → zx_F2 (fun c q => zx_RC vwCl b ex ρ (zx_as ws) tys c q.2) h' ws) (hgo : zg_go p l e R s m args below meth c Q D A b ex ad0 nL pc (G, h', lv, sk, k) ρ ws) : zg_go p l e R s m args below meth c Q D A b ex ad0 nL pc (G, h, lv, sk, k) ρ ws := by
  intro H locs ls kc tys lc hG B
  obtain ⟨b1, b2, b3, b4, b5, b6, b7, b8⟩ := B
  exact hgo H locs ls kc tys lc hG ⟨b1, b2, b3, b4, he _ b5, b6, b7, b8⟩
end ZKW
end
