noncomputable section
/-! zs: the constructors' run -/
/-- the constructors: both tapes, and the row of how many fees each contract has, are all zeros -/
theorem zs_136 : zx_Pt[136]? = some (some zx_m136) := rfl
def zs_P1 : List (Option zx_MD) := zx_Pt.set 136 (some (zq_md [8, 173] zx_m136))
theorem zs_0 : zs_P1[0]? = some (some zx_m0) := rfl
def zs_P : List (Option zx_MD) := zs_P1.set 0 (some (zq_md [8] zx_m0))
theorem zs_PK : zx_PK vwCl zx_Ts zx_nw zx_sts zx_aos zx_PRt zx_rmt zs_P := zq_PK_set (zq_PK_set zx_PKt zs_136 [8, 173]) zs_0 [8]
abbrev zs_Y : zx_Y := zw_YK zx_Yt [] false
def zs_f : zx_Fn := zx_run zs_Y zx_dt zx_rmt (zv_hd [] 0 zs_P) zx_f0 3000 8
theorem zs_f_ok {l : Launch} : zx_FOK l vwCl zx_Ts zx_nw zx_sts zs_Y zx_aos zx_PRt zx_rmt 8 zs_f :=
  zv_run_ok (Y := zs_Y) 0 (zv_PK_hd zs_PK) zx_CKt zx_arrs zx_Ts_good zx_nw_kind (vYI []) (fun _ _ _ => by
    intro y cc maxL ret rm _ _ G h as os hz
    cases hz) 8
def zx_mls : zx_MD := (zx_tblaw, ((zx_fd zx_Fc14, zx_fd zx_Sc14, zx_fd zx_Cc14, zx_fd zx_Ic14, zx_has zx_Lc14, zx_fd [], 7, false, (601024, 7293034), true), (zx_fd zx_Kc14, 1)))
def zs_G0 : zx_G := [((0, 3072), none), ((-2147483648, 2147483647), none), ((-2147483648, 2147483647), none), ((-2147483648, 2147483647), none), ((-2147483648, 2147483647), none), ((-2147483648, 2147483647), none), ((-2147483648, 2147483647), none), ((0, 0), none)]
def zs_T0 : zx_T := (zs_G0, [], [(0, .inr (.inr false))], [], (0, 0))
def zs_run : Option (List zx_Os) := zx_ex zs_Y zx_dt zx_rmt (fun pc => Nat.beq pc 23) zx_mls zs_f 3000 (zx_drop 0 zx_mls.1) zs_T0.1 zs_T0.2.1 zs_T0.2.2.1 zs_T0.2.2.2.2 zs_T0.2.2.2.1
def zs_inv (h : List zx_C) : Bool := (match zy_get h 238 with
  | some (.inr (.inl (t, n, true, [.inr r]))) => (Nat.beq t 0 && Nat.ble 20 n) && (decide (r.1 = 0) && decide (r.2 = 0))
  | _ => false) && ((((zgPr h 240 && zgPr h 241) && (zgPr h 242 && zgPr h 220)) && zgPr h 286) && (match zg_fe (h.drop 218) 98, zg_fe (h.drop 218) 99, zg_fe (h.drop 218) 6, zg_fe (h.drop 218) 100 with
  | some lm, some _, some t, some lt => (zx_isc lm && decide (lm.2 = 0)) && ((zx_isc t && zx_isc lt) && decide (lt.2 < t.2))
  | _, _, _, _ => false))
def zs_z (h : List zx_C) (i tag : Nat) : Bool := match zy_get h i with
  | some (.inr (.inl (t, n, true, [.inr r]))) => (Nat.beq t tag && Nat.ble 340 n) && (decide (r.1 = 0) && decide (r.2 = 0))
  | _ => false
def zs_inv5 (h : List zx_C) : Bool := zs_inv h && (zs_z h 1 0 && zs_z h 219 1)
def zs_rf (o : Option zx_S) (k : Nat) : Bool := match o with
  | some (.inl (.inr (.inl (q, false)))) => decide (q = [80 + 6 * k])
  | _ => false
def zs_r9 (h : List zx_C) : Bool := match zy_get h 9 with
  | some (.inr (.inl (tg, n, sm, l))) => (Nat.ble 3 tg && Nat.ble 9 n) && (match sm with
    | false => (List.range 9).all (fun k => zs_rf l[k]? k)
    | true => (match l with
      | [] => false
      | _ :: fs => (List.range 9).all (fun k => (zx_fs fs).any (fun q => decide (q.1 = ([], (k : Int))) && decide (q.2 = .inr (.inl ([80 + 6 * k], false)))))))
  | _ => false
def zs_rol (h : List zx_C) : Bool := zgPr h 224 && (match zg_fe (h.drop 218) 21 with
  | some e => zx_isc e && decide (e.2 = 0)
  | none => false)
def zs_inv11 (h : List zx_C) : Bool := zs_inv5 h && (zs_r9 h && zs_rol h)
def zs_ok (x : zx_Os) : Bool := match x with
  | .inl _ => false
  | .inr q => Nat.beq q.1 23 && (((fun (T : zx_T) (σ : List zx_L) => zw_T 7 vL_st T σ && decide (σ[7]? = some ([], 0))) (q.2.1, q.2.2.1, q.2.2.2.1, q.2.2.2.2.1, (0, 0)) (zw_sg 7 vL_st (q.2.1, q.2.2.1, q.2.2.2.1, q.2.2.2.2.1, (0, 0)))) && ((Nat.ble q.2.2.2.2.2.1 500000 && Nat.ble q.2.2.2.2.2.2 7000000) && zs_inv11 q.2.2.1))
def zs_chk : Bool := match zs_run with
  | some os => os.all zs_ok
  | none => false
set_option maxRecDepth 1000000 in
theorem zs_chk_ok : zs_chk = true := by decide +kernel
theorem zs_eq : ∃ os, zs_run = some os ∧ os.all zs_ok = true := by
  have h := zs_chk_ok
  unfold zs_chk at h
  split at h
  · rename_i os hos
    exact ⟨os, hos, h⟩
  · cases h
theorem zs_inv_ok {b : Nat} {ex : List Nat} {ρ : List Int} {tys : List (ClassId × FieldType)} {h : List zx_C} {ws : va_W} (hh : zx_F2 (fun c q => zx_RC vwCl b ex ρ (zx_as ws) tys c q.2) h ws) (hi : zs_inv h = true) : zgL_Inv ws := by
  unfold zs_inv at hi
  rw [Bool.and_eq_true, Bool.and_eq_true] at hi
  obtain ⟨h1, h2, h3⟩ := hi
  simp only [Bool.and_eq_true] at h2
  obtain ⟨⟨⟨p1, p2⟩, p3, p4⟩, p5⟩ := h2
  obtain ⟨f240, r240⟩ := zgPr_ok hh p1
  obtain ⟨f241, r241⟩ := zgPr_ok hh p2
  obtain ⟨f242, r242⟩ := zgPr_ok hh p3
  obtain ⟨f220, r220⟩ := zgPr_ok hh p4
  obtain ⟨f286, r286⟩ := zgPr_ok hh p5
  have hN : ∃ f, zg_row ws 238 f ∧ ∀ k, k < 20 → (f k).toInt = 0 := by
    split at h1
    case h_2 => cases h1
    rename_i t n r hg
    rw [zy_get_eq] at hg
    simp only [Bool.and_eq_true, decide_eq_true_iff] at h1
    obtain ⟨⟨c1, c2⟩, c3, c4⟩ := h1
    have c1 := Nat.eq_of_beq_eq_true c1
    have c2 := Nat.le_of_ble_eq_true c2
    subst c1
    obtain ⟨⟨a, q⟩, g1, cB, t0, g2, g3⟩ := zx_F2_get hh hg
    rcases g3 with ⟨-, f, g4, g5⟩ | ⟨g3, -⟩
    · have g4 : q = .inl (cB, n, .inl f) := g4
      subst g4
      obtain ⟨t', fs', k1, k2, -⟩ := g5
      cases k1
      refine ⟨f, ⟨a, cB, n, g1⟩, fun k hk => ?_⟩
      obtain ⟨w, e1, e2, e3⟩ := k2 k (by show k < n; omega)
      have e1 : Value.int (f k) = .int w := e1
      cases e1
      omega
    · have g3 : 3 ≤ 0 := g3
      omega
  obtain ⟨f238, r238, hz⟩ := hN
  refine ⟨zgPF_i (fS := f242) (fF := f240) (fT := f241) (fN := f238) ⟨(zgL_bk_row (by decide)).mpr r242, (zgL_bk_row (by decide)).mpr r240, (zgL_bk_row (by decide)).mpr r241, (zgL_bk_row (by decide)).mpr r238⟩ (fun s k hs1 hs2 hs3 => ?_), ?_⟩
  · have := hz s hs1
    omega
  · split at h3
    case h_2 => cases h3
    rename_i lm lh t lt e1 e2 e3 e4
    simp only [Bool.and_eq_true, decide_eq_true_iff] at h3
    obtain ⟨⟨c1, c2⟩, ⟨c3, c4⟩, c5⟩ := h3
    obtain ⟨lmv, f1, g1⟩ := zgL_fe_ok (zgL_drop 218 hh) e1
    obtain ⟨lhv, f2, g2⟩ := zgL_fe_ok (zgL_drop 218 hh) e2
    obtain ⟨tv, f3, g3⟩ := zgL_fe_ok (zgL_drop 218 hh) e3
    obtain ⟨ltv, f4, g4⟩ := zgL_fe_ok (zgL_drop 218 hh) e4
    have hn : 0 < 69 := by decide
    have d3 := zx_isc_ev c3 g3
    have d4 := zx_isc_ev c4 g4
    exact ⟨f286, f220, lmv, lhv, tv, ltv, (zgL_bk_row (by decide)).mpr r286, (zgL_bk_row (by decide)).mpr r220, (zgL_bk_fld hn).mpr f1, (zgL_bk_fld hn).mpr f2, (zgL_bk_fld hn).mpr f3, (zgL_bk_fld hn).mpr f4, by omega, fun e => by omega⟩
theorem zs_z_ok {b : Nat} {ex : List Nat} {ρ : List Int} {tys : List (ClassId × FieldType)} {h : List zx_C} {ws : va_W} (hh : zx_F2 (fun c q => zx_RC vwCl b ex ρ (zx_as ws) tys c q.2) h ws) {i tag : Nat} (htag : tag < 3) (hi : zs_z h i tag = true) : ∃ f, zg_row ws i f ∧ ∀ k, k < 340 → (f k).toInt = 0 := by
  unfold zs_z at hi
  split at hi
  case h_2 => cases hi
  rename_i t n r hg
  rw [zy_get_eq] at hg
  simp only [Bool.and_eq_true, decide_eq_true_iff] at hi
  obtain ⟨⟨c1, c2⟩, c3, c4⟩ := hi
  have c1 := Nat.eq_of_beq_eq_true c1
  have c2 := Nat.le_of_ble_eq_true c2
  subst c1
  obtain ⟨⟨a, q⟩, g1, cB, t0, g2, g3⟩ := zx_F2_get hh hg
  rcases g3 with ⟨-, f, g4, g5⟩ | ⟨g3, -⟩
  · have g4 : q = .inl (cB, n, .inl f) := g4
    subst g4
    obtain ⟨t', fs', k1, k2, -⟩ := g5
    cases k1
    refine ⟨f, ⟨a, cB, n, g1⟩, fun k hk => ?_⟩
    obtain ⟨w, e1, e2, e3⟩ := k2 k (by show k < n; omega)
    have e1 : Value.int (f k) = .int w := e1
    cases e1
    omega
  · have g3 : 3 ≤ t := g3
    omega
theorem zs_inv5_ok {b : Nat} {ex : List Nat} {ρ : List Int} {tys : List (ClassId × FieldType)} {h : List zx_C} {ws : va_W} (hh : zx_F2 (fun c q => zx_RC vwCl b ex ρ (zx_as ws) tys c q.2) h ws) (hi : zs_inv5 h = true) : zgL_Inv5 ws := by
  unfold zs_inv5 at hi
  rw [Bool.and_eq_true, Bool.and_eq_true] at hi
  obtain ⟨h1, h2, h3⟩ := hi
  obtain ⟨fC, r1, z1⟩ := zs_z_ok hh (by decide) h2
  obtain ⟨fR, r2, z2⟩ := zs_z_ok hh (by decide) h3
  refine ⟨zs_inv_ok hh h1, fC, fR, r1, r2, fun k hk => ?_⟩
  unfold zq_rel
  rw [z1 k hk, z2 k hk]
  rfl
theorem zs_r9_ok {b : Nat} {ex : List Nat} {ρ : List Int} {tys : List (ClassId × FieldType)} {h : List zx_C} {ws : va_W} (hh : zx_F2 (fun c q => zx_RC vwCl b ex ρ (zx_as ws) tys c q.2) h ws) (hi : zs_r9 h = true) : zr_R9 ws := by
  unfold zs_r9 at hi
  split at hi
  case h_2 => cases hi
  rename_i tg n sm l hg
  rw [zy_get_eq] at hg
  rw [Bool.and_eq_true, Bool.and_eq_true] at hi
  obtain ⟨⟨c1, c2⟩, c3⟩ := hi
  have c1 := Nat.le_of_ble_eq_true c1
  have c2 := Nat.le_of_ble_eq_true c2
  obtain ⟨⟨a, q⟩, g1, cB, t0, g2, g3⟩ := zx_F2_get hh hg
  rcases g3 with ⟨g3, -⟩ | ⟨g3, f, g4, g5⟩
  · have g3 : tg < 3 := g3
    omega
  have g4 : q = .inl (cB, n, .inr (.inr (.inr (.inr f)))) := g4
  subst g4
  have key : ∀ (k : Nat), zx_R b ex ρ (zx_as ws) (.inr (.inl ([80 + 6 * k], false))) (va_rf (f k)) → ∃ x, (zx_as ws)[16 + 6 * k]? = some x ∧ f k = some x := by
    intro k hk
    rcases hk with ⟨hk, -⟩ | ⟨i, x, k1, k2, k3⟩
    · cases hk
    have k1 : i = 80 + 6 * k := List.mem_singleton.mp k1
    subst k1
    rw [zx_ad, if_neg (by omega)] at k2
    refine ⟨x, by rw [← k2]; congr 1; omega, ?_⟩
    cases hf : f k with
    | none => rw [hf] at k3; cases k3
    | some y => rw [hf] at k3; cases k3; rfl
  refine ⟨a, cB, n, f, g1, fun k hk => key k ?_⟩
  cases sm with
  | false =>
    have c3 := List.all_eq_true.mp c3 k (List.mem_range.mpr hk)
    unfold zs_rf at c3
    split at c3
    · rename_i q e
      have c3 := of_decide_eq_true c3
      rw [c3] at e
      exact g5.2 k _ e
    · cases c3
  | true =>
    obtain ⟨t, fs, e1, e2, e3⟩ := g5
    have e1 : l = t :: fs := e1
    subst e1
    have c3 := List.all_eq_true.mp c3 k (List.mem_range.mpr hk)
    obtain ⟨q, hq, c4⟩ := List.any_eq_true.mp c3
    rw [Bool.and_eq_true, decide_eq_true_iff, decide_eq_true_iff] at c4
    obtain ⟨w, w1, w2, w3, w4⟩ := e3 q hq
    rw [c4.1] at w1
    rw [c4.2] at w4
    have w5 : (k : Int) = w := Option.some.inj ((zx_ev_c' (ρ := ρ) (c := (k : Int))).symm.trans w1)
    have w6 : w.toNat = k := by omega
    rw [w6] at w4
    exact w4
theorem zs_inv11_ok {b : Nat} {ex : List Nat} {ρ : List Int} {tys : List (ClassId × FieldType)} {h : List zx_C} {ws : va_W} (hh : zx_F2 (fun c q => zx_RC vwCl b ex ρ (zx_as ws) tys c q.2) h ws) (hi : zs_inv11 h = true) : zgL_Inv11 ws := by
  unfold zs_inv11 at hi
  rw [Bool.and_eq_true, Bool.and_eq_true] at hi
  obtain ⟨h1, h2, h3⟩ := hi
  unfold zs_rol at h3
  rw [Bool.and_eq_true] at h3
  obtain ⟨h4, h5⟩ := h3
  obtain ⟨f, hf⟩ := zgPr_ok hh h4
  split at h5
  case h_2 => cases h5
  rename_i e he
  rw [Bool.and_eq_true, decide_eq_true_iff] at h5
  obtain ⟨w, w1, w2⟩ := zgL_fe_ok (zgL_drop 218 hh) he
  have w3 := zx_isc_ev h5.1 w2
  exact ⟨zs_inv5_ok hh h1, zs_r9_ok hh h2, f, w, hf, w1, fun k _ kn => by omega⟩
end
