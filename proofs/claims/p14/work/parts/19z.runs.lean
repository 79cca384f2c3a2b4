noncomputable section
/-! zv: runs that use contracts where a method has one -/
theorem zv_run_ok (d0 : Nat) {l : Launch} {cl : List vw_C} {Ts nw : List Jvm.Cond} {sts : List (String × String × String × Nat)} {Y : zx_Y} {aos : List String} {dt : List (List Nat)} {PR : zx_PR} {rmt : List (Nat × Nat)} {P : List (Option zx_MD)} {xf : zx_Fn} {fuel : Nat} (hPK : zx_PK cl Ts nw sts aos PR rmt P) (hCK : zx_CK cl Ts dt) (harr : ∀ ty ∈ [FieldType.int, FieldType.byte, FieldType.boolean, FieldType.long], Jvm.Cond.arrayClass ty ∈ Ts) (hgw : Ts.all goodWord = true) (hnk : nw.all zx_nk = true) (hYI : zx_YI Y)
    (hxf : ∀ (d j : Nat), P[j]? = some none → zx_FJ l cl Ts nw sts Y aos PR rmt (d0 + d + 1) xf j) : ∀ d : Nat, zx_FOK l cl Ts nw sts Y aos PR rmt (d0 + d) (zx_run Y dt rmt P xf fuel d) := by
  intro d
  induction d with
  | zero =>
    intro j y cc maxL ret rm _ _ G h as os hz
    cases hz
  | succ d ih =>
    intro j y cc maxL ret rm hPR hrm G h as os hz D A b ex ρ tys ws sz av hG hh ha hA hIv
    have hYO := zx_YO_of hYI hIv
    rw [zx_run_s] at hz
    unfold zx_run1 at hz
    simp only [zy_get_eq, zy_set_eq] at hz
    split at hz
    · rename_i md hP
      split at hz
      · rename_i hcats
        split at hz
        case h_2 => cases hz
        rename_i lo hlo
        obtain ⟨k1, k2, k3, k4, k5, k6, k7, k8, k9, x, nx, k10, k11⟩ := hPK j md y cc maxL ret rm hP hPR hrm
        refine Met.ofW (cc := cc) (maxL := maxL) (ret := ret) k1 rfl ?_
        intro p e s m args below meth c s₁ B hml hv
        obtain ⟨rfl, hsz, hP, hK, hD, hCX, hnw, hao⟩ := hv
        have hx := B.exec
        have hb := B.bytes
        have hr := B.returns
        have hts0 := atoms_spec (ws := Jvm.Cond.code y cc maxL ret :: Ts) B.pre
        have hts : ∀ w ∈ Ts, w.before av.toArray s = true := fun w hw => hts0 w (List.mem_cons_of_mem _ hw)
        have hown : s.vm.findClass y.cls = some m.cls := findClass_of_methodNamed B.named
        have hlocks := B.notSynchronized
        have hin : meth.name = y.name := (name_of_methodNamed B.named B.method).1
        have hA' : ∀ q, s.heap.size ≤ q → A q := fun q hq => hA q (by rw [← hsz]; exact hq)
        have F : zx_FX p s m av.toArray meth c ({ frames := d0 + d + 1, cells := rm.1, slots := rm.2, locals := 100 * (d0 + d + 1) } : Room) cc y.cls Ts nw cl A ex maxL sts Y aos dt md.2.1 :=
          ⟨hx, hb, hown, hts, hnw, hA', ⟨by rw [k2], by rw [k2]⟩, fun q => by rw [hin]; exact k5 q, k3, hCX, hao, hCK, k6⟩
        have hl := lv_entry av (n := maxL) (by rw [zx_words ha, ← k3]; exact hcats)
        rw [lg_entry_eq]
        generalize (lg_sl av ++ List.replicate (maxL - (lg_sl av).length) Slot.unset).toArray = ls at hl ⊢
        have J : zx_J D cl A b ex (ws, Y.2.1) maxL s ρ G h (zx_args 0 as) [] s.heap [] ls [] :=
          ⟨hG, tys, ws, lv_args 0 av, hK, hP, hD, ⟨va_S.rf, zx_KP_rf ws Y.2.1⟩, hh, zx_args_ok 0 ha, hl, trivial⟩
        rw [k10] at hlo
        have gol : W p l e ({ frames := d0 + d + 1, cells := rm.1, slots := rm.2, locals := 100 * (d0 + d + 1) } : Room) s m av.toArray below meth c s.heap [] 0 0 (MQ below (zx_Qc D cl A b ex ρ ws Y.2.1 os) av.toArray s rm.1 rm.2 A) (F0 m x.1 ls []) → W p l e (headSpec (Jvm.Cond.code y cc maxL ret :: Ts) ({ frames := d0 + d + 1, cells := rm.1, slots := rm.2, locals := 100 * (d0 + d + 1) } : Room)).room s m av.toArray below meth c s.heap [] 0 0 (MQ below (zx_Qc D cl A b ex ρ ws Y.2.1 os) av.toArray s rm.1 rm.2 A) (F0 m 0 ls []) := by
          intro g; rw [k11] at g; exact g
        refine gol ?_
        refine zx_ex_ok (xs := fun _ => 0) hYO F harr ih k7 hgw hnk ⟨Nat.le_refl _, Nat.le_refl _⟩ hml k8 fuel x nx ρ G h (zx_args 0 as) (0, 0) [] lo s.heap [] ls [] (fun q => by rw [k4] at q; cases q) (fun y hy => by rw [k10]; exact hy) J hlo ⟨?_, fun q hq => by obtain ⟨o, h1, h2⟩ := zx_inls_mem hz _ hq; cases h2⟩
        intro o ho0 r2 H' locs' ls' kc' pc' k' ir tys' ws' g1 g2 g3 g4 g5 g6 g7 g8 g9 g10 g11
        rw [k2] at g8 g9
        have ho : o ∈ os := by obtain ⟨o', h1, h2⟩ := zx_inls_mem hz _ ho0; cases h2; exact h1
        refine W.widen (k := rm.1) (n := rm.2) g8 g9 ?_
        have fin : ∀ (v : Option Value), zx_rv b ex (ρ ++ r2) (zx_as ws') o.2.2 v → ∀ t : State, t.heap = H' → s.WarmedH t.vm → zx_Qc D cl A b ex ρ ws Y.2.1 os av.toArray s (.returned v) t := by
          intro v hv t ht hW
          exact ⟨⟨o, ho, v, r2, tys', ws', rfl, g1, va_K.moved hW.alike g2, by rw [ht]; exact g3, g4, g6, g7, hv⟩, g5.F ht⟩
        rcases g11 with ⟨rfl, e1, rfl, e2⟩ | ⟨rfl, e1, w, e2, rfl, e3, e4⟩ | ⟨rfl, q, x1, e2, rfl, e3, e4⟩ | ⟨rfl, w, e2, rfl, e4⟩
        · have hrn : ret = none := by
            cases ret with
            | none => rfl
            | some ty => exact absurd e2 k9.2.1
          subst hrn
          exact W.vret hx hb hr (fin none (by rw [e1]; exact trivial)) g5.2.2 g10
        · cases ret with
          | none =>
            have k9 : md.2.2.2 = 4 := k9
            rw [k9] at e4
            exact (zx_fit4 e4).elim
          | some ty =>
            have hx1 : zx_R b ex (ρ ++ r2) (zx_as ws') (.inl e1) (.int w) := ⟨w, rfl, e3⟩
            have hn := (zx_fit_ok (ty := ty) g1 (by rw [k9.1]; exact e4) hx1).1
            exact W.zret hx hb hr hn (fin (some (.int w)) (by rw [e2]; exact hx1)) g5.2.2 g10
        · cases ret with
          | none =>
            have k9 : md.2.2.2 = 4 := k9
            rw [k9] at e4; cases e4
          | some ty =>
            have hty : (∃ n, ty = .object n) ∨ ∃ t, ty = .array t := by
              have h9 := k9.1
              rw [e4] at h9
              cases ty <;> first | exact Or.inl ⟨_, rfl⟩ | exact Or.inr ⟨_, rfl⟩ | cases h9
            have hvx : x1 = .null ∨ ∃ a, x1 = .ref a := by
              rcases e3 with ⟨-, h1⟩ | ⟨i, a, -, -, h1⟩
              · exact Or.inl h1
              · exact Or.inr ⟨a, h1⟩
            exact W.aret hx hb hr hty hvx (fin (some x1) (by rw [e2]; exact e3)) g5.2.2 g10
        · cases ret with
          | none =>
            have k9 : md.2.2.2 = 4 := k9
            rw [k9] at e4; cases e4
          | some ty =>
            have hty : ty = .long := by
              have h9 := k9.1
              rw [e4] at h9
              cases ty <;> first | rfl | cases h9
            subst hty
            exact W.lret hx hb hr (fin (some (.long w)) (by rw [e2]; exact ⟨w, rfl⟩)) g5.2.2 g10
      · cases hz
    · rename_i hP
      exact hxf d j hP y cc maxL ret rm hPR hrm G h as os hz D A b ex ρ tys ws sz av hG hh ha hA hIv
    · cases hz
/-- methods that have contracts are not run -/
def zv_hd (js : List Nat) : Nat → List (Option zx_MD) → List (Option zx_MD)
  | _, [] => []
  | i, x :: r => (if zv_hs js i = true then none else x) :: zv_hd js (i + 1) r
theorem zv_hd_get {js : List Nat} : ∀ {P : List (Option zx_MD)} {i j : Nat} {md : zx_MD}, (zv_hd js i P)[j]? = some (some md) → P[j]? = some (some md)
  | [], i, j, md, h => by simp [zv_hd] at h
  | x :: r, i, 0, md, h => by
    have h : some (if zv_hs js i = true then none else x) = some (some md) := h
    split at h
    · cases h
    · exact h
  | x :: r, i, j + 1, md, h => zv_hd_get (P := r) (i := i + 1) h
theorem zv_PK_hd {cl : List vw_C} {Ts nw : List Jvm.Cond} {sts : List (String × String × String × Nat)} {aos : List String} {PR : zx_PR} {rmt : List (Nat × Nat)} {P : List (Option zx_MD)} {js : List Nat} (h : zx_PK cl Ts nw sts aos PR rmt P) : zx_PK cl Ts nw sts aos PR rmt (zv_hd js 0 P) :=
  fun j md y cc maxL ret rm h1 h2 h3 => h j md y cc maxL ret rm (zv_hd_get h1) h2 h3
/-- all that is to be looked at of one contract: the way from its entry -/
abbrev zv_K (en : zw_En) : List Nat := en.2.2.2.2.2.1
abbrev zv_fl (en : zw_En) : Bool := en.2.2.2.2.2.2
def zv_fn (Y : zx_Y) (dt : List (List Nat)) (rmt : List (Nat × Nat)) (P : List (Option zx_MD)) (js : List Nat) (Es : List zw_En) (en : zw_En) : zx_Fn := zx_run (zw_YK Y (zv_K en) (zv_fl en)) dt rmt (zv_hd js 0 P) (zw_mm (zv_K en) (zv_fl en) Es) 3000 8
def zv_ce (Y : zx_Y) (dt : List (List Nat)) (rmt : List (Nat × Nat)) (P : List (Option zx_MD)) (js : List Nat) (Es : List zw_En) (en : zw_En) (hd : zw_Hd) : Bool := match zy_get P en.1 with
  | some (some md) => zw_en (zw_YK Y (zv_K en) (zv_fl en)) dt rmt md (zv_fn Y dt rmt P js Es en) 3000 hd en.2.1 en.2.2.1 en.2.2.2.1 en.2.2.2.2.1
  | _ => false
/-- the ways from one of its places -/
def zv_ch (Y : zx_Y) (dt : List (List Nat)) (rmt : List (Nat × Nat)) (P : List (Option zx_MD)) (js : List Nat) (Es : List zw_En) (en : zw_En) (hd : zw_Hd) (t : Nat × (zx_T × zx_L)) : Bool := match zy_get P en.1 with
  | some (some md) => zw_ho (zw_YK Y (zv_K en) (zv_fl en)) dt rmt md (zv_fn Y dt rmt P js Es en) 3000 en.2.1.length hd en.2.2.2.2.1 t
  | _ => false
def zv_cs (Y : zx_Y) (dt : List (List Nat)) (rmt : List (Nat × Nat)) (P : List (Option zx_MD)) (js : List Nat) (Es : List zw_En) (en : zw_En) (hd : zw_Hd) : zw_Hd → Bool
  | [] => true
  | t :: r => zv_ch Y dt rmt P js Es en hd t && zv_cs Y dt rmt P js Es en hd r
def zv_chk (Y : zx_Y) (dt : List (List Nat)) (rmt : List (Nat × Nat)) (P : List (Option zx_MD)) (js : List Nat) (Es : List zw_En) (en : zw_En) (hd : zw_Hd) : Bool := zv_ce Y dt rmt P js Es en hd && zv_cs Y dt rmt P js Es en hd hd
section ZVC
variable {l : Launch} {cl : List vw_C} {Ts nw : List Jvm.Cond} {sts : List (String × String × String × Nat)} {Y : zx_Y} {aos : List String} {dt : List (List Nat)} {PR : zx_PR} {rmt : List (Nat × Nat)} {P : List (Option zx_MD)} {js : List Nat} {Es : List zw_En} {d0 : Nat}
theorem zv_cs_ok {en : zw_En} {hd : zw_Hd} : ∀ {r : zw_Hd}, zv_cs Y dt rmt P js Es en hd r = true → ∀ t ∈ r, zv_ch Y dt rmt P js Es en hd t = true
  | [], _, t, h => nomatch h
  | a :: r, hl, t, h => by
    rw [zv_cs, Bool.and_eq_true] at hl
    rcases List.mem_cons.mp h with e | e
    · subst e; exact hl.1
    · exact zv_cs_ok hl.2 t e
theorem zv_chk_of (hPK : zx_PK cl Ts nw sts aos PR rmt P) (hCK : zx_CK cl Ts dt) (harr : ∀ ty ∈ [FieldType.int, FieldType.byte, FieldType.boolean, FieldType.long], Jvm.Cond.arrayClass ty ∈ Ts) (hgw : Ts.all goodWord = true) (hnk : nw.all zx_nk = true) (hE : zw_EOK l cl Ts nw sts Y aos PR rmt d0 Es) {en : zw_En} {hd : zw_Hd} (hYI : zx_YI (zw_YK Y (zv_K en) (zv_fl en))) (h : zv_ce Y dt rmt P js Es en hd = true) (hh : ∀ t ∈ hd, zv_ch Y dt rmt P js Es en hd t = true) : zw_EN l cl Ts nw sts (zw_YK Y (zv_K en) (zv_fl en)) aos PR rmt (d0 + 9) en.1 en.2.1 en.2.2.1 en.2.2.2.1 en.2.2.2.2.1 := by
  unfold zv_ce at h
  unfold zv_ch at hh
  split at h
  · rename_i md hP
    rw [hP] at hh
    rw [zy_get_eq] at hP
    have hf := zv_run_ok (Y := zw_YK Y (zv_K en) (zv_fl en)) (dt := dt) (fuel := 3000) d0 (zv_PK_hd (js := js) hPK) hCK harr hgw hnk hYI (fun d j _ => zw_mm_ok hE (d := d0 + d + 1) (by omega) (zv_K en) (zv_fl en) j) 8
    exact zw_en_ok hYI hPK hCK harr hgw hnk hf hP h (fun t ht => hh t ht)
  · cases h
theorem zv_chk_ok (hPK : zx_PK cl Ts nw sts aos PR rmt P) (hCK : zx_CK cl Ts dt) (harr : ∀ ty ∈ [FieldType.int, FieldType.byte, FieldType.boolean, FieldType.long], Jvm.Cond.arrayClass ty ∈ Ts) (hgw : Ts.all goodWord = true) (hnk : nw.all zx_nk = true) (hE : zw_EOK l cl Ts nw sts Y aos PR rmt d0 Es) {en : zw_En} {hd : zw_Hd} (hYI : zx_YI (zw_YK Y (zv_K en) (zv_fl en))) (h : zv_chk Y dt rmt P js Es en hd = true) : zw_EN l cl Ts nw sts (zw_YK Y (zv_K en) (zv_fl en)) aos PR rmt (d0 + 9) en.1 en.2.1 en.2.2.1 en.2.2.2.1 en.2.2.2.2.1 := by
  unfold zv_chk at h
  rw [Bool.and_eq_true] at h
  exact zv_chk_of hPK hCK harr hgw hnk hE hYI h.1 (fun t ht => zv_cs_ok h.2 t ht)
end ZVC
end
