noncomputable section
/-! zf: isSo of the reference: its loop -/
theorem vST_u : vST.1[vSm + 2]? = some ((-2000, 2000), some vSeq) := rfl
theorem vST_n : vST.1[vSm]? = some ((0, 63), none) := rfl
theorem vST_len : vST.1.length = vSm + 3 := rfl
theorem vSeq_ev {ρ : List Int} {sv tv kk : Int} (h1 : ρ[vSis]? = some sv) (h2 : ρ[vSit]? = some tv) (h3 : ρ[vSm + 1]? = some kk) : zx_ev ρ vSeq = some (100 * sv + tv - kk) := by
  have e1 : ρ[32]? = some sv := h1
  have e2 : ρ[35]? = some tv := h2
  have e3 : ρ[38]? = some kk := h3
  simp only [vSeq, zx_ev, zx_evl, e1, e2, e3, Option.map_some]
  congr 1
  omega
theorem vSTE_G : vSTE.1 = vST.1.set (vSm + 2) ((-2000, 0), some vSeq) := rfl
theorem vSTN_G : vSTN.1 = (vST.1.set vSm ((1, 63), none)).set (vSm + 2) ((1, 2000), some vSeq) := rfl
theorem vSTA_G : vSTA.1 = (vST.1.set vSm ((2, 63), none)).set (vSm + 2) ((1, 2000), some vSeq) ++ [((21, 22), none)] := rfl
theorem vSTF_G : vSTF.1 = (vST.1.set vSm ((0, 62), none)).set (vSm + 2) ((1, 2000), some vSeq) ++ [((0, 9), none)] := rfl
theorem vST_c : vST.2.1[vSst]? = some (.inr (.inl (0, 2100, true, .inr (0, 23) :: []))) := rfl
theorem vSTN_h : vSTN.2.1 = vST.2.1.set vSst (.inr (.inl (0, 2100, true, .inr (0, 23) :: .inl (.inl ([(vSm + 1, 1)], 0)) :: .inl (.inl ([], 20)) :: []))) := rfl
theorem vSTA_h : vSTA.2.1 = vST.2.1.set vSst (.inr (.inl (0, 2100, true, .inr (0, 23) :: .inl (.inl ([(vSm + 1, 1)], 0)) :: .inl (.inl ([(vSm + 3, 1)], 0)) :: []))) := rfl
theorem vSTF_h : vSTF.2.1 = vST.2.1.set vSst (.inr (.inl (0, 2100, true, .inr (0, 23) :: .inl (.inl ([(vSm + 1, 1)], 0)) :: .inl (.inl ([(vSm + 3, 1)], 0)) :: []))) := rfl
section ZFL
variable {p : Program} {l : Launch} {e : Env} {R : Room} {s : State} {mi : MethodId} {args : Array Value} {below : List Frame} {meth : Method} {c : Code} {Q : State → Prop} {D : va_G} {A : Nat → Prop} {b : Nat} {ex : List Nat} {nL : Nat} {own : String} {cc : ByteArray} {ρe : List Int} {ad0 : zx_A0}
theorem zf_loop (hYO : zx_YO vSY ad0) (F : zx_FX p s mi args meth c R cc own zx_Ts zx_nw vwCl A ex nL zx_sts vSY zx_aos zx_dt vSmd.2.1) (hLK : zx_LK own vwCl zx_Ts zx_nw zx_PRt vSmd.2.2.1) (hroom : 18 ≤ R.frames ∧ 1800 ≤ R.locals) (hml : c.maxLocals = nL) (htbl : zx_TB cc vSmd.1) (hS : ∀ r : List Int, zx_SX b (fun _ => 0) A s vSmd.2.1 (ρe ++ r)) (hm : ρe.length = vSm) (KE : zw_KE p l e R s mi args below meth c Q D vwCl A b ex ad0 cc vSmd.2.2.2 (zx_mR vSmd.2.1) ρe vSo)
    {a : Nat} {cS : ClassId} {nS : Nat} {fS : Nat → Int32} {sv fv tv dd : Int} (hw : ad0.1[vSst]? = some (a, .inl (cS, nS, .inl fS))) (hs : ρe[vSis]? = some sv) (ht : ρe[vSit]? = some tv) (hs0 : 0 ≤ sv) (hs1 : sv ≤ 19) (hf0 : 0 ≤ fv) (ht1 : tv ≤ 100) (hdp : zx_dp fS (100 * sv.toNat + fv.toNat) (tv - fv).toNat = some dd) :
    ∀ (N mm : Nat) (nn : Int) (r : List Int) (H : Heap) (locs : List Loc) (ls : Array Slot) (kc : List Value), zx_J D vwCl A b ex ad0 nL s (ρe ++ r) vST.1 vST.2.1 vST.2.2.1 vST.2.2.2.1 H locs ls kc → (ρe ++ r)[vSm]? = some nn → zx_dp fS (100 * sv.toNat + fv.toNat) mm = some nn → (ρe ++ r)[vSm + 1]? = some (100 * sv + fv + mm) → (tv - fv).toNat - mm ≤ N → W p l e R s mi args below meth c H locs 0 0 Q (F0 mi 11 ls kc) := by
  have hsr : ∀ r : List Int, (ρe ++ r)[vSis]? = some sv := fun r => by rw [List.getElem?_append_left (List.getElem?_eq_some_iff.mp hs).1]; exact hs
  have htr : ∀ r : List Int, (ρe ++ r)[vSit]? = some tv := fun r => by rw [List.getElem?_append_left (List.getElem?_eq_some_iff.mp ht).1]; exact ht
  intro N
  induction N with
  | zero =>
    intro mm nn r H locs ls kc J hn hd hk hN
    obtain ⟨hG, tys, ws, lc, B⟩ := J
    have hl : (ρe ++ r).length = vSm + 3 := by rw [hG.1]; exact vST_len
    have hu : (ρe ++ r)[vSm + 2]? = some (ρe ++ r)[vSm + 2] := List.getElem?_eq_getElem (by omega)
    have hue := (hG.2 _ _ _ hu vST_u).2.2 _ rfl
    rw [vSeq_ev (hsr r) (htr r) hk] at hue
    have hue := Option.some.inj hue
    refine zf_varE hYO F hLK hroom hml htbl hS hm KE (r := r) ⟨?_, tys, ws, lc, B⟩
    rw [vSTE_G]
    refine zx_ok_set hG vST_u (fun v hv => ?_)
    rw [hu] at hv
    cases hv
    have := hG.2 _ _ _ hu vST_u
    exact ⟨this.1, by show (ρe ++ r)[vSm + 2] ≤ 0; omega⟩
  | succ N ih =>
    intro mm nn r H locs ls kc J hn hd hk hN
    obtain ⟨hG, tys, ws, lc, B⟩ := J
    have hl : (ρe ++ r).length = vSm + 3 := by rw [hG.1]; exact vST_len
    have hu : (ρe ++ r)[vSm + 2]? = some (ρe ++ r)[vSm + 2] := List.getElem?_eq_getElem (by omega)
    have hub := hG.2 _ _ _ hu vST_u
    have hue := hub.2.2 _ rfl
    rw [vSeq_ev (hsr r) (htr r) hk] at hue
    have hue := Option.some.inj hue
    generalize (ρe ++ r)[vSm + 2] = u at hu hub hue
    by_cases hu0 : u ≤ 0
    · refine zf_varE hYO F hLK hroom hml htbl hS hm KE (r := r) ⟨?_, tys, ws, lc, B⟩
      rw [vSTE_G]
      refine zx_ok_set hG vST_u (fun v hv => ?_)
      rw [hu] at hv
      cases hv
      exact ⟨hub.1, hu0⟩
    · have hmm : mm < (tv - fv).toNat := by omega
      obtain ⟨n1, n2, q1, q2, q3⟩ := zx_dp_s hmm hdp
      rw [hd] at q1
      cases q1
      have hnb := hG.2 _ _ _ hn vST_n
      have hws : ws[vSst]? = some (a, .inl (cS, nS, .inl fS)) := B.2.2.2.1.2.2 vSst (by rw [hYO.1]; decide +kernel) _ hw
      have hplace : zx_ev (ρe ++ r) ([(vSm + 1, 1)], 0) = some (((100 * sv.toNat + fv.toNat + mm : Nat)) : Int) := by
        refine zx_ev_iff.mpr ⟨100 * sv + fv + mm, zx_evl_cons.mpr ⟨_, 0, hk, rfl, by simp⟩, ?_⟩
        show ((100 * sv.toNat + fv.toNat + mm : Nat) : Int) = 100 * sv + fv + mm + 0
        omega
      have hplt : 100 * sv.toNat + fv.toNat + mm < 2100 := by omega
      have IH : ∀ (δ : Int), n2 = nn + δ → ∀ (r' : List Int) (H' : Heap) (locs' : List Loc) (ls' : Array Slot) (kc' : List Value), zx_J D vwCl A b ex ad0 nL s (ρe ++ r') vST.1 vST.2.1 vST.2.2.1 vST.2.2.2.1 H' locs' ls' kc' → (ρe ++ r')[vSm]? = some (nn + δ) → (ρe ++ r')[vSm + 1]? = some (100 * sv + fv + mm + 1) → W p l e R s mi args below meth c H' locs' 0 0 Q (F0 mi 11 ls' kc') := by
        intro δ hδ r' H' locs' ls' kc' J' h1 h2
        refine ih (mm + 1) (nn + δ) r' H' locs' ls' kc' J' h1 (by rw [← hδ]; exact q3) ?_ (by omega)
        rw [h2]
        congr 1
        push_cast
        omega
      have set2 : ∀ (lo hi : Int), lo ≤ nn → nn ≤ hi → zx_ok (ρe ++ r) ((vST.1.set vSm ((lo, hi), none)).set (vSm + 2) ((1, 2000), some vSeq)) := by
        intro lo hi h1 h2
        have s1 := zx_ok_set (b := (lo, hi)) hG vST_n (fun v hv => by rw [hn] at hv; cases hv; exact ⟨h1, h2⟩)
        refine zx_ok_set (b := (1, 2000)) s1 (g := ((-2000, 2000), some vSeq)) ?_ (fun v hv => ?_)
        · rw [List.getElem?_set_ne (by omega)]; exact vST_u
        · rw [hu] at hv
          cases hv
          exact ⟨by show 1 ≤ u; omega, hub.2.1⟩
      rcases zx_d1_of q2 with ⟨v1, v2, v3⟩ | ⟨v1, v2, v3, v4⟩ | ⟨v1, v2, v3, v4, v5⟩
      · refine zf_var hYO F hLK hroom hml htbl hS hm KE (T := vSTN) (δ := 0) vScN (r := r) (nn := nn) (kk := 100 * sv + fv + mm) ⟨?_, tys, ws, lc, ?_⟩ hn hk (IH 0 (by omega))
        · rw [vSTN_G]; exact set2 1 63 v2 hnb.2.1
        · rw [vSTN_h]
          exact zf_fact B vST_c hws hplace hplt (zx_ev_iff.mpr ⟨0, rfl, by rw [v1]; rfl⟩)
      · have hfact : zx_ev (ρe ++ r ++ [(fS (100 * sv.toNat + fv.toNat + mm)).toInt]) ([(vSm + 3, 1)], 0) = some (fS (100 * sv.toNat + fv.toNat + mm)).toInt := by
          refine zv_var ?_
          show (ρe ++ r ++ [_])[vSm + 3]? = _
          rw [← hl]; simp
        refine zf_var hYO F hLK hroom hml htbl hS hm KE (T := vSTA) (δ := -1) vScA (r := r ++ [(fS (100 * sv.toNat + fv.toNat + mm)).toInt]) (nn := nn) (kk := 100 * sv + fv + mm) ⟨?_, tys, ws, lc, ?_⟩ ?_ ?_ (IH (-1) (by omega))
        · rw [vSTA_G, ← List.append_assoc]
          exact zx_ok_push (set2 2 63 v3 hnb.2.1) (b := (21, 22)) v1 v2
        · rw [vSTA_h, ← List.append_assoc]
          exact zf_fact (zx_B_up B) vST_c hws (zx_ev_app hplace) hplt hfact
        · rw [← List.append_assoc, List.getElem?_append_left (by omega)]; exact hn
        · rw [← List.append_assoc, List.getElem?_append_left (by omega)]; exact hk
      · have hfact : zx_ev (ρe ++ r ++ [(fS (100 * sv.toNat + fv.toNat + mm)).toInt]) ([(vSm + 3, 1)], 0) = some (fS (100 * sv.toNat + fv.toNat + mm)).toInt := by
          refine zv_var ?_
          show (ρe ++ r ++ [_])[vSm + 3]? = _
          rw [← hl]; simp
        refine zf_var hYO F hLK hroom hml htbl hS hm KE (T := vSTF) (δ := 1) vScF (r := r ++ [(fS (100 * sv.toNat + fv.toNat + mm)).toInt]) (nn := nn) (kk := 100 * sv + fv + mm) ⟨?_, tys, ws, lc, ?_⟩ ?_ ?_ (IH 1 (by omega))
        · rw [vSTF_G, ← List.append_assoc]
          exact zx_ok_push (set2 0 62 hnb.1 v4) (b := (0, 9)) v1 v2
        · rw [vSTF_h, ← List.append_assoc]
          exact zf_fact (zx_B_up B) vST_c hws (zx_ev_app hplace) hplt hfact
        · rw [← List.append_assoc, List.getElem?_append_left (by omega)]; exact hn
        · rw [← List.append_assoc, List.getElem?_append_left (by omega)]; exact hk
end ZFL
/-- isSo, from a state where the steps of the condition are sound -/
theorem vSo_ok {l : Launch} : zw_ENX l vwCl zx_Ts zx_nw zx_sts vSY zx_aos zx_PRt zx_rmt 18 vSj vSG vSh vSa vSo vSX := by
  have hck := vSc0
  unfold zf_chk0 at hck
  rw [Bool.and_eq_true] at hck
  obtain ⟨hc0, hck⟩ := hck
  split at hck
  case h_2 => cases hck
  rename_i lo hlo
  refine zf_enter (d := 17) (f := vSf) (stp := vSstp) (md := vSmd) (n := 3000) (vYI vSK) (fun _ _ _ => trivial) zx_PKt zx_CKt zx_arrs zx_Ts_good zx_nw_kind vSf_ok vSmd_ok (Nat.le_of_ble_eq_true hc0) hlo (fun o ho => zf_ck_l hck ho) ?_
  intro p e s mi args below meth c Q D A b ex nL own cc ρ tys ws hX hG hh F hLK hml htbl hYO hS KE q hq r2 H' locs' ls' kc' J'
  obtain ⟨a, cS, nS, fS, sv, fv, tv, dd, x1, x2, x3, x4, x5⟩ := hX
  have gs := hG.2 _ _ _ x2 (show vSG[vSis]? = some ((0, 19), none) from rfl)
  have gf := hG.2 _ _ _ x3 (show vSG[vSif]? = some ((0, 100), none) from rfl)
  have gt := hG.2 _ _ _ x4 (show vSG[vSit]? = some ((0, 100), none) from rfl)
  have hm : ρ.length = vSm := hG.1
  have h9 := zf_ck_r hck hq
  unfold zf_cq at h9
  simp only [Bool.and_eq_true] at h9
  obtain ⟨c1, c2, c3, c4⟩ := h9
  rw [Nat.eq_of_beq_eq_true c1]
  have hG2 := J'.1
  obtain ⟨r', d1, d2, d3⟩ := zw_T_ok hm c2 J'
  unfold zx_le2 at d3
  rw [Bool.and_eq_true] at d3
  refine W.widen (k := vST.2.2.2.2.1) (n := vST.2.2.2.2.2) (Nat.le_of_ble_eq_true d3.1) (Nat.le_of_ble_eq_true d3.2) ?_
  have e1 : zx_ev (ρ ++ r2) ([], 0) = some 0 := zx_ev_iff.mpr ⟨0, rfl, by simp⟩
  have e2 : zx_ev (ρ ++ r2) ([(vSis, 100), (vSif, 1)], 0) = some (100 * sv + fv + (0 : Nat)) := by
    refine zx_ev_app (zx_ev_iff.mpr ⟨100 * sv + fv, zx_evl_cons.mpr ⟨sv, fv, x2, zx_evl_cons.mpr ⟨fv, 0, x3, rfl, by simp⟩, rfl⟩, ?_⟩)
    show 100 * sv + fv + ((0 : Nat) : Int) = 100 * sv + fv + 0
    omega
  exact zf_loop hYO F hLK ⟨Nat.le_refl _, Nat.le_refl _⟩ hml htbl hS hm KE (ad0 := (ws, vSY.2.1)) x1 x2 x4 gs.1 gs.2.1 gf.1 gt.2.1 x5 _ 0 0 r' H' locs' ls' kc' d2 (zf_is_ok hG2 d1 c3 e1) rfl (zf_is_ok hG2 d1 c4 e2) (Nat.le_refl _)
end
