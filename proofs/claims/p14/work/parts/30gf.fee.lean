noncomputable section
/-! zf: feeOf of the reference -/
def vESo : zw_En := (vSj, vSG, vSh, vSa, vSo, vSK, false)
/-- the place of a row at which such a value is known to stand -/
def zf_fv (f : zx_L) : List (zx_L × zx_V) → Option zx_L
  | [] => none
  | q :: r => match q.2 with
    | .inl v => if (fun (d : zx_L) => zx_isc d && decide (d.2 = 0)) (zx_sub f v) = true then some q.1 else zf_fv f r
    | _ => zf_fv f r
theorem zf_fv_ok {ρ : List Int} {f e : zx_L} {w : Int} (hf : zx_ev ρ f = some w) : ∀ {l : List (zx_L × zx_V)}, zf_fv f l = some e → ∃ v, (e, .inl v) ∈ l ∧ ∀ u, zx_ev ρ v = some u → u = w
  | [], h => nomatch h
  | q :: r, h => by
    have hr : zf_fv f r = some e → ∃ v, (e, .inl v) ∈ q :: r ∧ ∀ u, zx_ev ρ v = some u → u = w := fun h => by
      obtain ⟨v, h1, h2⟩ := zf_fv_ok hf h
      exact ⟨v, List.mem_cons_of_mem _ h1, h2⟩
    rw [zf_fv] at h
    split at h
    · rename_i v hv
      split at h
      · rename_i hc
        cases h
        refine ⟨v, by rw [← hv]; exact List.mem_cons_self, fun u hu => ?_⟩
        have hc : (zx_isc (zx_sub f v) && decide ((zx_sub f v).2 = 0)) = true := hc
        rw [Bool.and_eq_true, decide_eq_true_iff] at hc
        have h1 := zx_isc_ev hc.1 (zx_sub_ev hf hu)
        omega
      · exact hr h
    · exact hr h
def zf_p2 (G : zx_G) (s f t : zx_L) (F T N : List (zx_L × zx_V)) : Bool := match zf_fv f F with
  | some k => (match zx_fl k T, zx_fl s N with
    | some (.inl t'), some (.inl n) => (fun (d : zx_L) => zx_isc d && decide (d.2 = 0)) (zx_sub t t') && (match zv_rng G (zx_sub k (zx_scale 8 s)), zv_rng G (zx_sub (zx_add (zx_scale 8 s) n) k), zv_rng G s with
      | some a, some c, some r => decide (0 ≤ a.1) && (decide (1 ≤ c.1) && (decide (0 ≤ r.1) && decide (r.2 ≤ 19)))
      | _, _, _ => false)
    | _, _ => false)
  | none => false
def zf_row (h : List zx_C) (i : Nat) : List (zx_L × zx_V) := match zy_get h i with
  | some (.inr (.inl (0, _, true, _ :: fs))) => zx_fs fs
  | _ => []
def zf_p1 (G : zx_G) (h : List zx_C) (as : List zx_V) : Bool := match as with
  | [.inr (.inl ([64], false)), .inl s, _, .inl f, .inl t, _] => zf_p2 G s f t (zf_row h 22) (zf_row h 23) (zf_row h 20)
  | _ => false
def vFf : zx_Fn := fun j G h as => if Nat.beq j vSj = true then (if zf_p1 G h as = true then zw_mmE vSK true j G h as [vESo] else none) else zw_mm vSK true vSE j G h as
def vFY : zx_Y := zw_YK zx_Yt vSK true
/-- what is known of places of a row of ints, of its content -/
theorem zf_row_ok {cl : List vw_C} {b : Nat} {ex : List Nat} {ρ : List Int} {tys : List (ClassId × FieldType)} {h : List zx_C} {ws : va_W} (hh : zx_F2 (fun c q => zx_RC cl b ex ρ (zx_as ws) tys c q.2) h ws) {i : Nat} {a : Nat} {c : ClassId} {n : Nat} {f : Nat → Int32} (hw : ws[i]? = some (a, .inl (c, n, .inl f))) {e v : zx_L} (hm : (e, .inl v) ∈ zf_row h i) : ∃ w : Int, zx_ev ρ e = some w ∧ 0 ≤ w ∧ zx_ev ρ v = some (f w.toNat).toInt := by
  unfold zf_row at hm
  split at hm
  · rename_i n0 t fs hc
    rw [zy_get_eq] at hc
    obtain ⟨q, h1, cB, t0, h2, h3⟩ := zx_F2_get hh hc
    rw [hw] at h1
    cases h1
    rcases h3 with ⟨h3, g, h4, h5⟩ | ⟨h3, -⟩
    · cases h4
      obtain ⟨t', fs', h6, h7, h8⟩ := h5
      cases h6
      obtain ⟨w, k1, k2, k3, k4⟩ := h8 _ hm
      obtain ⟨x, k5, k6⟩ := k4
      cases k5
      exact ⟨w, k1, k2, k6⟩
    · exact absurd (show (3 : Nat) ≤ 0 from h3) (by decide)
  · cases hm
theorem zf_pre_ok {cl : List vw_C} {b : Nat} {ex : List Nat} {ρ : List Int} {tys : List (ClassId × FieldType)} {G : zx_G} {h : List zx_C} {ws : va_W} (hG : zx_ok ρ G) (hh : zx_F2 (fun c q => zx_RC cl b ex ρ (zx_as ws) tys c q.2) h ws) (hp : zx_PF ws) {s f t : zx_L} {sv fv tv : Int} (hs : zx_ev ρ s = some sv) (hf : zx_ev ρ f = some fv) (ht : zx_ev ρ t = some tv) (hc : zf_p2 G s f t (zf_row h 22) (zf_row h 23) (zf_row h 20) = true) : ∃ (a : Nat) (c : ClassId) (n : Nat) (fS : Nat → Int32) (d : Int), ws[24]? = some (a, .inl (c, n, .inl fS)) ∧ zx_dp fS (100 * sv.toNat + fv.toNat) (tv - fv).toNat = some d := by
  obtain ⟨a1, a2, a3, a4, c1, c2, c3, c4, n1, n2, n3, n4, fS, fF, fT, fN, h1, h2, h3, h4, h5⟩ := hp
  refine ⟨a1, c1, n1, fS, ?_⟩
  unfold zf_p2 at hc
  split at hc
  case h_2 => cases hc
  rename_i k hk
  split at hc
  case h_2 => cases hc
  rename_i t' n hT hN
  rw [Bool.and_eq_true] at hc
  obtain ⟨ct, hc⟩ := hc
  have ct : (zx_isc (zx_sub t t') && decide ((zx_sub t t').2 = 0)) = true := ct
  rw [Bool.and_eq_true, decide_eq_true_iff] at ct
  split at hc
  case h_2 => cases hc
  rename_i ra rc rr hra hrc hrr
  simp only [Bool.and_eq_true, decide_eq_true_iff] at hc
  obtain ⟨b1, b2, b3, b4⟩ := hc
  obtain ⟨v, m1, m2⟩ := zf_fv_ok hf hk
  obtain ⟨w, m3, m4, m5⟩ := zf_row_ok hh h2 m1
  have e1 := m2 _ m5
  obtain ⟨qT, p1, p2, p3⟩ := zx_fl_ok m3 hT
  obtain ⟨eT, vT⟩ := qT
  cases p2
  obtain ⟨wT, p4, p5, p6⟩ := zf_row_ok hh h3 p1
  have e2 := p3 _ p4
  subst e2
  have e3 := zx_isc_ev ct.1 (zx_sub_ev ht p6)
  obtain ⟨qN, r1, r2, r3⟩ := zx_fl_ok hs hN
  obtain ⟨eN, vN⟩ := qN
  cases r2
  obtain ⟨wN, r4, r5, r6⟩ := zf_row_ok hh h4 r1
  have e4 := r3 _ r4
  subst e4
  have k1 := zv_rng_ok hG hra (zx_sub_ev m3 (zx_scale_ev 8 hs))
  have k2 := zv_rng_ok hG hrc (zx_sub_ev (zx_add_ev (zx_scale_ev 8 hs) r6) m3)
  have k3 := zv_rng_ok hG hrr hs
  obtain ⟨-, -, d, hd⟩ := h5 wN.toNat wT.toNat (by omega) (by omega) (by omega)
  refine ⟨d, h1, ?_⟩
  have e5 : fv = (fF wT.toNat).toInt := by omega
  have e6 : tv = (fT wT.toNat).toInt := by omega
  rw [e5, e6]
  exact hd
theorem vFf_ok {l : Launch} {d : Nat} (hd : 18 ≤ d) (j : Nat) : zx_FJ l vwCl zx_Ts zx_nw zx_sts vFY zx_aos zx_PRt zx_rmt d vFf j := by
  refine zw_FJ_of (fun G h as os hz => ?_)
  intro y cc maxL ret rm hPR hrm D A b ex ρ tys ws sz av hG hh ha hA hIv
  unfold vFf at hz
  split at hz
  case isFalse => exact zw_mm_ok (Y := zx_Yt) vSEok (d := d) (by omega) vSK true j y cc maxL ret rm hPR hrm G h as os hz D A b ex ρ tys ws sz av hG hh ha hA hIv
  rename_i hj
  split at hz
  case isFalse => cases hz
  rename_i hp
  rw [zw_mmE] at hz
  split at hz
  case isFalse => cases hz
  rename_i hc
  simp only [Bool.and_eq_true] at hc
  obtain ⟨c1, c2, c3, c4, c6, c5⟩ := hc
  have hj2 := Nat.eq_of_beq_eq_true hj
  subst hj2
  cases hz
  unfold zw_mmE.zw_mm1 at c6
  rw [Bool.and_eq_true] at c6
  have hAs0 := c2
  refine zx_Met_imp (zw_locX_ok (D := D) (Y := vFY) (K := vSK) (X := vSX) (d := 18) (vSo_ok (l := l)) (fun u hu => Nat.eq_of_beq_eq_true (List.all_eq_true.mp c5 u hu)) c3 c4 c2 c6.1 hPR hrm hG hh ha hA (fun ρ0 hσ => ?_)) ⟨hd, Nat.le_refl _, Nat.le_refl _, Nat.mul_le_mul_left _ hd⟩ (fun _ _ h => ⟨h, fun _ q => q⟩) (fun _ _ _ _ _ h _ => h)
  · unfold zf_p1 at hp
    split at hp
    case h_2 => cases hp
    rename_i s x2 f t x5
    have hz0 : zw_off vSa [.inr (.inl ([64], false)), .inl s, x2, .inl f, .inl t, x5] = 0 := rfl
    have had : ∀ i, i < vSh.length → (zx_as ((ws.drop (zw_off vSa [.inr (.inl ([64], false)), .inl s, x2, .inl f, .inl t, x5])).take vSh.length))[i]? = (zx_as ws)[i + zw_off vSa [.inr (.inl ([64], false)), .inl s, x2, .inl f, .inl t, x5]]? := by
      intro i hi
      rw [zx_as, zx_as, List.getElem?_map, List.getElem?_map, List.getElem?_take, if_pos hi, List.getElem?_drop, Nat.add_comm]
    have ha0 := zw_Vs_ok hG hσ had hAs0 ha
    have val : ∀ (i : Nat) (e : zx_L) (q : Nat), ([.inr (.inl ([64], false)), .inl s, x2, .inl f, .inl t, x5] : List zx_V)[i]? = some (.inl e) → vSa[i]? = some (.inl ([(q, 1)], 0)) → ∃ w : Int, zx_ev ρ e = some w ∧ ρ0[q]? = some w := by
      intro i e q h1 h2
      obtain ⟨y1, g1, w1, g2, g3⟩ := zx_F2_get ha h1
      obtain ⟨y2, g4, w2, g5, g6⟩ := zx_F2_get ha0 h2
      rw [g1] at g4
      cases g4
      subst g2
      cases g5
      obtain ⟨u, g7, g8⟩ := zx_ev1 g6
      have g8 : w1.toInt = 1 * u + 0 := g8
      refine ⟨w1.toInt, g3, ?_⟩
      rw [g7]
      congr 1
      show u = w1.toInt
      omega
    obtain ⟨sv, s1, s2⟩ := val 1 s 32 rfl rfl
    obtain ⟨fv, f1, f2⟩ := val 3 f 34 rfl rfl
    obtain ⟨tv, t1, t2⟩ := val 4 t 35 rfl rfl
    obtain ⟨a, c, n, fS, dd, k1, k2⟩ := zf_pre_ok hG hh hIv s1 f1 t1 hp
    refine ⟨a, c, n, fS, sv, fv, tv, dd, ?_, s2, f2, t2, k2⟩
    have hz1 : zw_off vESo.2.2.2.1 [.inr (.inl ([64], false)), .inl s, x2, .inl f, .inl t, x5] = 0 := rfl
    rw [hz1, List.drop_zero, List.getElem?_take, if_pos (by decide)]
    exact k1
def vFmd : zx_MD := match zy_get zx_Pt vERF.1 with
  | some (some md) => md
  | _ => zx_mlaw
theorem vFmd_ok : zx_Pt[vERF.1]? = some (some vFmd) := rfl
def vFf2 : zx_Fn := zx_run vFY zx_dt zx_rmt (zv_hd vSjs 0 zx_Pt) vFf 3000 8
theorem vFf2_ok {l : Launch} : zx_FOK l vwCl zx_Ts zx_nw zx_sts vFY zx_aos zx_PRt zx_rmt 26 vFf2 :=
  zv_run_ok (Y := vFY) 18 (zv_PK_hd zx_PKt) zx_CKt zx_arrs zx_Ts_good zx_nw_kind (vYIt (by decide +kernel)) (fun d j _ => vFf_ok (d := 18 + d + 1) (by omega) j) 8
def zf_all (hd : zw_Hd) : Bool := hd.all (fun t => zw_ho vFY zx_dt zx_rmt vFmd vFf2 3000 vERF.2.1.length hd vERF.2.2.2.2.1 t)
set_option maxRecDepth 1000000 in
theorem vFc0 : zw_en vFY zx_dt zx_rmt vFmd vFf2 3000 vHRF vERF.2.1 vERF.2.2.1 vERF.2.2.2.1 vERF.2.2.2.2.1 = true := by decide +kernel
set_option maxRecDepth 1000000 in
theorem vFc1 : zf_all vHRF = true := by decide +kernel
/-- feeOf, where the conditions of all fees are sound -/
theorem vRF_ok {l : Launch} : vN l 60 vERF :=
  vN_up (d := 27) (zw_en_ok (Y := vFY) (vYIt (by decide +kernel)) zx_PKt zx_CKt zx_arrs zx_Ts_good zx_nw_kind vFf2_ok vFmd_ok vFc0 (fun t ht => List.all_eq_true.mp vFc1 t ht)) (by decide)
end
