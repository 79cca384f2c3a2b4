noncomputable section
/-! zl: the law's cases of opera and learn -/
theorem zo_av5 {b : Nat} {ex : List Nat} {ρ : List Int} {ws : va_W} {p : Nat} {e1 e2 e3 e4 : zx_L} {av : List Value} (h : zx_F2 (zx_R b ex ρ (zx_as ws)) [.inr (.inl ([64 + p], false)), .inl e1, .inl e2, .inl e3, .inl e4] av) : ∃ (aO : Nat) (eO : va_E) (x1 x2 x3 x4 : Int32), ws[p]? = some (aO, eO) ∧ av = [.ref aO, .int x1, .int x2, .int x3, .int x4] ∧ (zx_ev ρ e1 = some x1.toInt ∧ zx_ev ρ e2 = some x2.toInt) ∧ zx_ev ρ e3 = some x3.toInt ∧ zx_ev ρ e4 = some x4.toInt := by
  rcases av with _ | ⟨x0, _ | ⟨x1, _ | ⟨x2, _ | ⟨x3, _ | ⟨x4, _ | ⟨x5, r⟩⟩⟩⟩⟩⟩
  · exact h.elim
  · exact h.2.elim
  · exact h.2.2.elim
  · exact h.2.2.2.elim
  · exact h.2.2.2.2.elim
  · obtain ⟨h0, ⟨w1, g1, k1⟩, ⟨w2, g2, k2⟩, ⟨w3, g3, k3⟩, ⟨w4, g4, k4⟩, -⟩ := h
    rcases h0 with ⟨h3, -⟩ | ⟨i, a, h4, h5, h6⟩
    · cases h3
    · have h4 : i = 64 + p := List.mem_singleton.mp h4
      rw [h4, zx_ad, if_neg (by omega), show 64 + p - 64 = p by omega] at h5
      obtain ⟨eO, h7⟩ := zj_adw h5
      exact ⟨a, eO, w1, w2, w3, w4, h7, by rw [h6, g1, g2, g3, g4], ⟨k1, k2⟩, k3, k4⟩
  · exact h.2.2.2.2.2.elim
/-- a field that both heaps tell -/
theorem zo_eqo_fld {ws wsW : va_W} (h : zj_eqo ws wsW) {w0 : va_W} (ha : zx_as wsW = zx_as w0) (hb : zx_as ws = zx_as w0) {i ci q a : Nat} {fs : List Value} {x y : Int32} (hq : q < zj_nf ci) (h1 : ws[i]? = some (a, .inr (ci, fs))) (h3 : fs[q]? = some (.int y)) (h2 : ∃ aO FO, wsW[i]? = some (aO, .inr (ci, FO)) ∧ FO[q]? = some (.int x)) : y = x := by
  obtain ⟨aO, FO, g4, g5⟩ := h2
  have e2 : aO = a := by
    have k1 : (zx_as wsW)[i]? = some aO := by rw [zx_as, List.getElem?_map, g4]; rfl
    have k2 : (zx_as ws)[i]? = some a := by rw [zx_as, List.getElem?_map, h1]; rfl
    rw [ha, ← hb, k2] at k1
    exact (Option.some.inj k1).symm
  subst e2
  have e3 := h i aO ci fs FO q h1 g4 hq
  rw [List.getD_eq_getElem?_getD, List.getD_eq_getElem?_getD, h3, g5] at e3
  exact Value.int.inj e3
/-- the state, how many operas told by the class's -/
theorem zo_flt_ok {b : Nat} {ex : List Nat} {ρ : List Int} {tys : List (ClassId × FieldType)} {h : List zx_C} {ws : va_W} (eu : zx_L) (hh : zx_F2 (fun c q => zx_RC vwCl b ex ρ (zx_as ws) tys c q.2) h ws) (hx : ∀ (a : Nat) (fs : List Value) (w : Int32), ws[218]? = some (a, .inr (11, fs)) → fs[21]? = some (.int w) → zx_ev ρ ([(70, 1)], 0) = some w.toInt) : zx_F2 (fun c q => zx_RC vwCl b ex ρ (zx_as ws) tys c q.2) (zo_flt eu h) ws := by
  unfold zo_flt
  split
  case h_2 => exact hh
  rename_i ss hi
  split
  case h_2 => exact hh
  rename_i e0 hs0
  obtain ⟨⟨a, q⟩, h1, fs, h2, h3⟩ := zx_F2_get hh hi
  have h2 : q = .inr (11, fs) := h2
  subst h2
  obtain ⟨x0, g1, w, g3, -⟩ := zx_F2_get h3 hs0
  subst g3
  have g2 := hx _ _ _ h1 g1
  have h4 : zx_F2 (zx_RS b ex ρ (zx_as ws)) (ss.set 21 (.inl (.inl ([(70, 1)], 0)))) (fs.set 21 (.int w)) := zx_F2_set (a := (.inl (.inl ([(70, 1)], 0)) : zx_S)) (b := Value.int w) ⟨w, rfl, g2⟩ 21 h3
  have h5 : fs.set 21 (.int w) = fs := by
    obtain ⟨hl, hq⟩ := List.getElem?_eq_some_iff.mp g1
    rw [← hq, List.set_getElem_self]
  rw [h5] at h4
  have h6 : ws.set 218 (a, .inr (11, fs)) = ws := by
    obtain ⟨hl, hq⟩ := List.getElem?_eq_some_iff.mp h1
    rw [← hq, List.set_getElem_self]
  have h7 := zx_F2_set (R := fun c q => zx_RC vwCl b ex ρ (zx_as ws) tys c q.2) (a := (.inl (11, ss.set 21 (.inl (.inl ([(70, 1)], 0)))) : zx_C)) (b := (a, Sum.inr (11, fs))) ⟨fs, rfl, h4⟩ 218 hh
  rw [h6] at h7
  exact h7
/-- the state, how many lessons told by the class's -/
theorem zl_flt_ok {b : Nat} {ex : List Nat} {ρ : List Int} {tys : List (ClassId × FieldType)} {h : List zx_C} {ws : va_W} (eu : zx_L) (hh : zx_F2 (fun c q => zx_RC vwCl b ex ρ (zx_as ws) tys c q.2) h ws) (hx : ∀ (a : Nat) (fs : List Value) (w : Int32), ws[218]? = some (a, .inr (11, fs)) → fs[67]? = some (.int w) → zx_ev ρ ([(69, 1)], 0) = some w.toInt) : zx_F2 (fun c q => zx_RC vwCl b ex ρ (zx_as ws) tys c q.2) (zl_flt eu h) ws := by
  unfold zl_flt
  split
  case h_2 => exact hh
  rename_i ss hi
  split
  case h_2 => exact hh
  rename_i e0 hs0
  obtain ⟨⟨a, q⟩, h1, fs, h2, h3⟩ := zx_F2_get hh hi
  have h2 : q = .inr (11, fs) := h2
  subst h2
  obtain ⟨x0, g1, w, g3, -⟩ := zx_F2_get h3 hs0
  subst g3
  have g2 := hx _ _ _ h1 g1
  have h4 : zx_F2 (zx_RS b ex ρ (zx_as ws)) (ss.set 67 (.inl (.inl ([(69, 1)], 0)))) (fs.set 67 (.int w)) := zx_F2_set (a := (.inl (.inl ([(69, 1)], 0)) : zx_S)) (b := Value.int w) ⟨w, rfl, g2⟩ 67 h3
  have h5 : fs.set 67 (.int w) = fs := by
    obtain ⟨hl, hq⟩ := List.getElem?_eq_some_iff.mp g1
    rw [← hq, List.set_getElem_self]
  rw [h5] at h4
  have h6 : ws.set 218 (a, .inr (11, fs)) = ws := by
    obtain ⟨hl, hq⟩ := List.getElem?_eq_some_iff.mp h1
    rw [← hq, List.set_getElem_self]
  have h7 := zx_F2_set (R := fun c q => zx_RC vwCl b ex ρ (zx_as ws) tys c q.2) (a := (.inl (11, ss.set 67 (.inl (.inl ([(69, 1)], 0)))) : zx_C)) (b := (a, Sum.inr (11, fs))) ⟨fs, rfl, h4⟩ 218 hh
  rw [h6] at h7
  exact h7
theorem vL_nt2_ok {eu : zx_L} {uh : List zx_C} {t : zg_Nd} (h : t ∈ vL_nt2 eu uh) : ∃ e, zg_fe (uh.drop 3) 0 = some e ∧ (zj_ql uh 3 2 12 = true ∧ (List.range 9).all (fun k => zj_ql uh (16 + 6 * k) 6 10 && zj_qs uh (16 + 6 * k) 6 3 zj_kI) = true) ∧ t = (361, vL_t2, [(98, (0, 0)), (99, (0, 0)), (100, (0, 0)), (6, (0, 0)), (2, (0, 0)), (21, (0, 0))], [(([(70, 1)], 0), (e, (0, 0)))]) := by
  unfold vL_nt2 at h
  split at h
  case h_2 => cases h
  rename_i e he
  split at h
  case isFalse => cases h
  rename_i hq
  rw [Bool.and_eq_true] at hq
  exact ⟨e, he, hq, List.mem_singleton.mp h⟩
theorem vL_nt3_ok {eu : zx_L} {uh : List zx_C} {t : zg_Nd} (h : t ∈ vL_nt3 eu uh) : (zj_qa uh 224 0 9 = true ∧ zj_ql uh 218 11 101 = true ∧ zj_qs uh 218 11 21 zj_kI = true) ∧ t = vL_n23 := by
  unfold vL_nt3 at h
  split at h
  case isFalse => cases h
  rename_i hq
  rw [Bool.and_eq_true, Bool.and_eq_true] at hq
  exact ⟨hq, List.mem_singleton.mp h⟩
theorem vL_nl2_ok {eu : zx_L} {uh : List zx_C} {t : zg_Nd} (h : t ∈ vL_nl2 eu uh) : ∃ e, zg_fe (uh.drop 178) 9 = some e ∧ zj_ql uh 178 5 19 = true ∧ t = (594, vL_l2, [(98, (0, 0)), (99, (0, 0)), (100, (0, 0)), (6, (0, 0)), (21, (0, 0)), (22, (0, 0)), (67, (0, 0))], [(([(71, 1)], 0), (eu, (0, 0))), (([(69, 1)], 0), (e, (0, 0)))]) := by
  unfold vL_nl2 at h
  split at h
  case h_2 => cases h
  rename_i e he
  split at h
  case isFalse => cases h
  rename_i hq
  exact ⟨e, he, hq, List.mem_singleton.mp h⟩
/-- what the class's opera does, what the reference's does -/
def zl_zC (ws1 : va_W) (N T : Nat) (fC : Nat → Int32) (av : List Value) (v : Option Value) (wsW : va_W) : Prop := ∃ (a : Nat) (hx sx cx nx : Int32), av = [.ref a, .int hx, .int sx, .int cx, .int nx] ∧ (zo_oC (zo_acc N hx.toInt sx.toInt nx.toInt (fun k => (fC k).toInt) T) N v wsW ∧ (∀ k, k < 9 → k ≠ N → wsW[16 + 6 * k]? = ws1[16 + 6 * k]?) ∧ (zo_acc N hx.toInt sx.toInt nx.toInt (fun k => (fC k).toInt) T → ∃ (a : Nat) (FO : List Value), wsW[16 + 6 * N]? = some (a, .inr (6, FO)) ∧ FO[3]? = some (.int (nI (T / 4 - 1)))))
def zl_zM (f : Nat → Int32) (N T : Nat) (fR : Nat → Int32) (av : List Value) (v : Option Value) (wsW : va_W) : Prop := ∃ (a : Nat) (hx sx cx nx : Int32), av = [.ref a, .int hx, .int sx, .int cx, .int nx] ∧ (zo_oM (zo_acc N hx.toInt sx.toInt nx.toInt (fun k => (fR k).toInt) T) N v wsW ∧ (zo_acc N hx.toInt sx.toInt nx.toInt (fun k => (fR k).toInt) T → ∃ (a : Nat) (c : ClassId), wsW[224]? = some (a, .inl (c, 9, .inl (upd f N (nI (T / 4 - 1)))))) ∧ (¬ zo_acc N hx.toInt sx.toInt nx.toInt (fun k => (fR k).toInt) T → ∃ (a : Nat) (c : ClassId), wsW[224]? = some (a, .inl (c, 9, .inl f))))
/-- what is so behind both: one count, one row of roles -/
def zl_bh (ws2 wsW wsW2 : va_W) : Prop := (∃ x : Int32, (∃ aH FH, wsW[3]? = some (aH, .inr (2, FH)) ∧ FH[0]? = some (.int x)) ∧ ∃ aM fs, wsW2[218]? = some (aM, .inr (11, fs)) ∧ fs[21]? = some (.int x)) ∧ ∃ (g : Nat → Int32) (n4 : Int32), (∃ (a : Nat) (c : ClassId), wsW2[224]? = some (a, .inl (c, 9, .inl g))) ∧ (∃ aM fs, wsW2[218]? = some (aM, .inr (11, fs)) ∧ fs[21]? = some (.int n4)) ∧ ∀ k : Nat, k < 9 → (k : Int) < n4.toInt → zr_of ws2 (16 + 6 * k) (g k).toInt
theorem zl_pairO {b : Nat} {ex : List Nat} {ρe r1 r2 : List Int} {ws1 wsA ws2 wsW wsW2 : va_W} {p1 p2 : Nat} {e1 e2 : zx_L} {av av2 : List Value} {v v2 : Option Value} {N T : Nat} {f fC fR : Nat → Int32} (hl : 5 < ρe.length) (hrel : ∀ k : Nat, k < 340 → zq_rel (fC k) (fR k)) (hfC : ∀ k : Nat, k < 340 → 0 ≤ (fC k).toInt ∧ (fC k).toInt ≤ 255) (hT : T ≤ 340) (hN : N ≤ 9) (ofs : ∀ k : Nat, k < 9 → ∀ w : Int32, (∃ (a : Nat) (FO : List Value), wsW[16 + 6 * k]? = some (a, .inr (6, FO)) ∧ FO[3]? = some (.int w)) → zr_of ws2 (16 + 6 * k) w.toInt) (of1 : ∀ k : Nat, k < 9 → k < N → ∃ (a : Nat) (FO : List Value), ws1[16 + 6 * k]? = some (a, .inr (6, FO)) ∧ FO[3]? = some (.int (f k))) (ha : zx_F2 (zx_R b ex (ρe ++ r1) (zx_as ws1)) [.inr (.inl ([64 + p1], false)), .inl ([(2, 1)], 0), .inl ([(3, 1)], 0), .inl e1, .inl ([(5, 1)], 0)] av) (ha2 : zx_F2 (zx_R b ex (ρe ++ r2) (zx_as wsA)) [.inr (.inl ([64 + p2], false)), .inl ([(2, 1)], 0), .inl ([(3, 1)], 0), .inl e2, .inl ([(5, 1)], 0)] av2) (hz : zl_zC ws1 N T fC av v wsW) (hz2 : zl_zM f N T fR av2 v2 wsW2) : zl_bh ws2 wsW wsW2 := by
  obtain ⟨aO, eO, hx, sx, cx, nx, hO, hav, ⟨ex1, ex2⟩, -, ex4⟩ := zo_av5 ha
  obtain ⟨a', hx', sx', cx', nx', hav', hoC⟩ := hz
  rw [hav] at hav'
  cases hav'
  obtain ⟨aM, eM, h2, s2, c2, n2, hM, hav2, ⟨ey1, ey2⟩, -, ey4⟩ := zo_av5 ha2
  obtain ⟨a'', h2', s2', c2', n2', hav3, hoM⟩ := hz2
  rw [hav2] at hav3
  cases hav3
  have e1 : hx = h2 := Int32.toInt_inj.mp (zq_ev_l (by omega) ex1 ey1)
  have e2 : sx = s2 := Int32.toInt_inj.mp (zq_ev_l (by omega) ex2 ey2)
  have e4 : nx = n2 := Int32.toInt_inj.mp (zq_ev_l (by omega) ex4 ey4)
  subst e1
  subst e2
  subst e4
  rw [propext (zo_same hrel hfC hT)] at hoC
  refine ⟨(zo_one hoC.1 hoM.1).2, ?_⟩
  have of2 : ∀ k : Nat, k < 9 → k < N → zr_of ws2 (16 + 6 * k) (f k).toInt := by
    intro k hk hkN
    obtain ⟨a1, F1, o1, o2⟩ := of1 k hk hkN
    exact ofs k hk (f k) ⟨a1, F1, (hoC.2.1 k hk (by omega)).trans o1, o2⟩
  by_cases hacc : zo_acc N hx.toInt sx.toInt nx.toInt (fun k => (fR k).toInt) T
  · have hN9 := hacc.1
    refine ⟨_, _, hoM.2.1 hacc, (hoM.1.1 hacc).2, fun k hk hkn => ?_⟩
    rw [nI_toInt (by omega)] at hkn
    by_cases hkN : k = N
    · subst hkN
      rw [zg_upd_eq]
      exact ofs _ hk _ (hoC.2.2 hacc)
    · rw [zg_upd_ne hkN]
      exact of2 k hk (by omega)
  · refine ⟨_, _, hoM.2.2 hacc, (hoM.1.2 hacc).2, fun k hk hkn => ?_⟩
    rw [nI_toInt (by omega)] at hkn
    exact of2 k hk (by omega)
theorem zl_pairL {b : Nat} {ex : List Nat} {ρe r1 r2 : List Int} {ws1 wsA wsW wsW2 : va_W} {p1 p2 : Nat} {av av2 : List Value} {v v2 : Option Value} {NS NO LL : Int} {f : Nat → Int32} (hl : 5 < ρe.length) (ha : zx_F2 (zx_R b ex (ρe ++ r1) (zx_as ws1)) [.inr (.inl ([64 + p1], false)), .inl ([(2, 1)], 0), .inl ([(3, 1)], 0), .inl ([(4, 1)], 0), .inl ([(5, 1)], 0)] av) (ha2 : zx_F2 (zx_R b ex (ρe ++ r2) (zx_as wsA)) [.inr (.inl ([64 + p2], false)), .inl ([(2, 1)], 0), .inl ([(3, 1)], 0), .inl ([(4, 1)], 0), .inl ([(5, 1)], 0)] av2) (hz : ∃ (a : Nat) (sx o r hx : Int32), av = [.ref a, .int sx, .int o, .int r, .int hx] ∧ zl_oC (zl_ok NS NO LL f sx.toInt o.toInt r.toInt hx.toInt) LL.toNat v wsW) (hz2 : ∃ (a : Nat) (sx o r hx : Int32), av2 = [.ref a, .int sx, .int o, .int r, .int hx] ∧ zl_oM (zl_ok NS NO LL f sx.toInt o.toInt r.toInt hx.toInt) LL.toNat v2 wsW2) : v = v2 ∧ ∃ x : Int32, (∃ aL FL, wsW[178]? = some (aL, .inr (5, FL)) ∧ FL[9]? = some (.int x)) ∧ ∃ aM fs, wsW2[218]? = some (aM, .inr (11, fs)) ∧ fs[67]? = some (.int x) := by
  obtain ⟨aO, eO, sx, o, rr, hx, hO, hav, ⟨ex1, ex2⟩, ex3, ex4⟩ := zo_av5 ha
  obtain ⟨a', sx', o', rr', hx', hav', hoC⟩ := hz
  rw [hav] at hav'
  cases hav'
  obtain ⟨aM, eM, s2, o2, r2', h2, hM, hav2, ⟨ey1, ey2⟩, ey3, ey4⟩ := zo_av5 ha2
  obtain ⟨a'', s2', o2', r2'', h2', hav3, hoM⟩ := hz2
  rw [hav2] at hav3
  cases hav3
  have e1 : sx = s2 := Int32.toInt_inj.mp (zq_ev_l (by omega) ex1 ey1)
  have e2 : o = o2 := Int32.toInt_inj.mp (zq_ev_l (by omega) ex2 ey2)
  have e3 : rr = r2' := Int32.toInt_inj.mp (zq_ev_l (by omega) ex3 ey3)
  have e4 : hx = h2 := Int32.toInt_inj.mp (zq_ev_l (by omega) ex4 ey4)
  subst e1
  subst e2
  subst e3
  subst e4
  exact zl_one hoC hoM
section ZOL
variable {p : Program} {l : Launch} {e : Env} {R : Room} {s : State} {mi : MethodId} {args : Array Value} {below : List Frame} {meth : Method} {c : Code} {Q : State → Prop} {D : va_G} {A : Nat → Prop} {b : Nat} {ex : List Nat} {ad0 : zx_A0} {nL : Nat} {own : String} {cc : ByteArray} {d : Nat} {xs : Nat → Int32} {L : Nat}
set_option linter.constructorNameAsVariable false in
set_option maxHeartbeats 8000000 in
set_option maxRecDepth 1000000 in
theorem zl_opera (C : zgL_cx p R s mi args meth c A ex nL own cc vLK 386 zx_mlw) (had : ad0.2 = []) (hf : zx_FOK l vwCl zx_Ts zx_nw zx_sts (zw_YK zx_Yt vLK false) zx_aos zx_PRt zx_rmt 386 vLf) {i0 : Nat} (hS : ∀ r, zx_SX b xs A s zx_mlw.2.1 (zgL_re L xs i0 ++ r)) (KE : ∀ (u : zx_Ou) (r : List Int) (ws' : va_W), zgL_is1 u = true → zg_ed p l e R s mi args below meth c Q D A b ex ad0 nL cc zx_mlw.2.2.2 (zx_mR zx_mlw.2.1) u (zgL_re L xs i0 ++ r) ws') (back : ∀ (r : List Int) (ws : va_W), zgL_Inv11 ws → zx_ev (zgL_re L xs i0 ++ r) ([(67, 1)], 0) = some ((i0 : Int) + 6) → zg_go p l e R s mi args below meth c Q D A b ex ad0 nL 23 vL_23 (zgL_re L xs i0 ++ r) ws) (r : List Int) (ws : va_W) (hI : zgL_Inv11 ws) : zg_go p l e R s mi args below meth c Q D A b ex ad0 nL 291 vL_cs (zgL_re L xs i0 ++ r) ws := by
  have hK : ∀ K : List Nat, ∀ i ∈ ad0.2, i ∈ K := fun K i hi => by rw [had] at hi; cases hi
  have h7 : ∀ r, zx_ev (zgL_re L xs i0 ++ r) ([(7, 1)], 0) = some (i0 : Int) := fun r => by
    refine zx_ev_iff.mpr ⟨1 * (i0 : Int) + 0, zx_evl_cons.mpr ⟨(i0 : Int), 0, rfl, rfl, rfl⟩, ?_⟩
    show (i0 : Int) = 1 * (i0 : Int) + 0 + 0
    omega
  refine zg_with (fun tys hG hh => ?_)
  refine zgL_run3 (m := 8) C (hK _) hf rfl hS hh vL_k291 KE (fun t ht r1 ws1 kp1 hfs1 _ => ?_)
  rw [List.mem_singleton] at ht
  subst ht
  have hI1 : zgL_Inv11 ws1 := zgL_Inv11_kp (d := 0) hI kp1 hfs1 (by decide) (by decide) (by decide) (by decide) (by decide)
  obtain ⟨fC, fR, rC, rR, hrel⟩ := hI1.1.2
  obtain ⟨f, n0, rf, rn, hof⟩ := hI1.2.2
  refine zg_with (fun tys1 hG1 hh1 => ?_)
  obtain ⟨tC, qC, eC⟩ := zgL_fe_ok (zgL_drop 0 hh1) vL_t1_c
  obtain ⟨tR, qR, eR⟩ := zgL_fe_ok (zgL_drop 218 hh1) vL_t1_r
  have et : tR = tC := Option.some.inj (eR.symm.trans eC)
  subst et
  obtain ⟨sC, pC, dC⟩ := zgL_fe_ok (zgL_drop 3 hh1) vL_t1_s
  obtain ⟨sR, pR, dR⟩ := zgL_fe_ok (zgL_drop 218 hh1) vL_t1_z
  have es : sR = sC := Option.some.inj (dR.symm.trans dC)
  subst es
  have en : n0 = sR := zg_fld_u rn pR
  subst en
  have bt : 0 ≤ tR ∧ tR ≤ 340 := zg_xb_ok hG1 vL_t1_bt eC
  have bs : 0 ≤ n0 ∧ n0 ≤ 9 := zg_xb_ok hG1 vL_t1_bs dC
  have hfC : ∀ k : Nat, k < 340 → 0 ≤ (fC k).toInt ∧ (fC k).toInt ≤ 255 := fun k hk => zg_row_rg hh1 vL_t1_t rC hk
  have hck9 : (List.range 9).all (fun k => zo_cko vL_t1.2.1 (80 + 6 * k)) = true := List.all_eq_true.mpr (fun k hk => ((Bool.and_eq_true _ _).mp (List.all_eq_true.mp vL_t1_c9 k hk)).1)
  refine zj_call5 (o := 0) (o2 := 218) (KK := [1, 219, 9, 224, 220, 238, 240, 241, 242, 286]) (ZW := zl_zC ws1 n0.toNat tR.toNat fC) C hf (hK _) (hK _) rfl hS (zg_EN_mono (zg_of vnC4 rfl) (by decide)) (zq_mem vL_m324) vL_a324 vL_t1_l KE (fun _ _ => trivial) (fun tysW av hhW ha => ?_) (fun _ _ _ _ _ _ h _ => h) (fun _ _ _ _ _ _ _ _ _ _ _ _ _ _ _ h => h) (fun eu uh av w ws2 r2 hhU ha kp2 _ hWW haw2 hfs2 he t2 ht2 r3 ws3 kp3 hfs3 hos3 => ?_)
  · rw [vL_s324] at ha
    obtain ⟨aO, eO, hx, sx, cx, nx, hO, rfl, -, e3, -⟩ := zo_av5 (p := 0) ha
    have bc : 0 ≤ cx.toInt ∧ cx.toInt ≤ 1 := zg_xb_ok hG1 vL_t1_bf e3
    have hcx : cx = 0 ∨ cx = 1 := by
      rcases (by omega : cx.toInt = 0 ∨ cx.toInt = 1) with h | h
      · exact Or.inl (Int32.toInt_inj.mp h)
      · exact Or.inr (Int32.toInt_inj.mp h)
    obtain ⟨XX, Z0, g1, g2, g3⟩ := zl_useOC (l := l) (hx := hx) (sx := sx) (nx := nx) hhW vL_t1_ck hck9 hI1.2.1 rC hfC qC pC bt bs hO hcx
    exact ⟨XX, Z0, zm_W_mono g1 (by decide), g2, fun v ws' hz => ⟨aO, hx, sx, cx, nx, rfl, g3 v ws' hz⟩⟩
  rw [vL_s324] at ha
  obtain ⟨wsW, haW, hzC, hsmC⟩ := hWW
  obtain ⟨tysU, hhU⟩ := hhU
  obtain ⟨eL, heL, ⟨hq0, hq9⟩, ht2⟩ := vL_nt2_ok ht2
  subst ht2
  obtain ⟨wL, hwL1, hwL2⟩ := zgL_fe_ok (zgL_drop 3 hhU) heL
  obtain ⟨aC2, fC2, hC2, -⟩ := zj_o hhU hq0
  obtain ⟨yL, hyL1, hyL2⟩ := zl_fi hC2 hwL1
  -- how many roles the class's operas have now
  have ofs : ∀ k : Nat, k < 9 → ∀ w : Int32, (∃ (a : Nat) (FO : List Value), wsW[16 + 6 * k]? = some (a, .inr (6, FO)) ∧ FO[3]? = some (.int w)) → zr_of ws2 (16 + 6 * k) w.toInt := by
    intro k hk w ho
    have q1 := List.all_eq_true.mp hq9 k (List.mem_range.mpr hk)
    rw [Bool.and_eq_true] at q1
    obtain ⟨a2, F2, o1, -⟩ := zj_o hhU q1.1
    obtain ⟨y2, o2⟩ := zj_sI hhU q1.2 o1
    have e2 : y2 = w := zo_eqo_fld hsmC.1 haW haw2 (by decide) o1 o2 ho
    subst e2
    exact zl_fld o1 o2
  have of1 : ∀ k : Nat, k < 9 → k < n0.toNat → ∃ (a : Nat) (FO : List Value), ws1[16 + 6 * k]? = some (a, .inr (6, FO)) ∧ FO[3]? = some (.int (f k)) := by
    intro k hk hkn
    have q1 := List.all_eq_true.mp vL_t1_c9 k (List.mem_range.mpr hk)
    rw [Bool.and_eq_true] at q1
    obtain ⟨a1, F1, o1, -⟩ := zj_o hh1 q1.2
    obtain ⟨x1, o2, o3⟩ := zl_fi o1 (hof k hk (by omega))
    have e1 : x1 = f k := Int32.toInt_inj.mp o3
    rw [e1] at o2
    exact ⟨a1, F1, o1, o2⟩
  have hfs3 : zg_fs (ws2.drop 218) (ws3.drop 218) [(98, (0, 0)), (99, (0, 0)), (100, (0, 0)), (6, (0, 0)), (2, (0, 0)), (21, (0, 0))] := hfs3
  have hI2 : zgL_Inv ws2 := zq_Inv_kp (d := 0) hI1.1.1 kp2 (by decide) hfs2 (by decide) (by decide) (by decide) (by decide)
  have hI3 : zgL_Inv5 ws3 := ⟨zgL_Inv_kp (d := 0) hI2 kp3 hfs3 (by decide) (by decide) (by decide) (by decide), zq_Rel_kp (zq_Rel_kp hI1.1.2 kp2 (by decide) (by decide)) kp3 (by decide) (by decide)⟩
  have hR3 : zr_R9 ws3 := zr_R9_kp (zr_R9_kp hI1.2.1 kp2 (by decide)) kp3 (by decide)
  have rf3 := zg_row_kp kp3 (by decide) (zg_row_kp kp2 (by decide) rf)
  have rR3 := zg_row_kp kp3 (by decide) (zg_row_kp kp2 (by decide) rR)
  have qR3 := zg_fs_0 hfs3 (by decide) (zg_fs_0 hfs2 (by decide) qR)
  have pR3 := zg_fs_0 hfs3 (by decide) (zg_fs_0 hfs2 (by decide) pR)
  obtain ⟨y, l1, l2, l3⟩ := hos3 (([(70, 1)], 0), (eL, (0, 0))) List.mem_cons_self _ hwL2
  have l2 : wL + 0 ≤ y := l2
  have l3 : y ≤ wL + 0 := l3
  have ey : y = yL.toInt := by omega
  subst ey
  have hl : vGopr.2.2.1.length = 69 := rfl
  have hl8 : 5 < (zgL_re L xs i0).length := by show 5 < 8; decide
  refine zj_call5 (o := 218) (o2 := 218) (KK := [1, 219, 9, 16, 22, 28, 34, 40, 46, 52, 58, 64, 238, 240, 241, 242, 286]) (ZW := zl_zM f n0.toNat tR.toNat fR) C hf (hK _) (hK _) rfl hS (zg_EN_mono vGopr_ok (by decide)) (zq_mem vL_m361) vL_a361 vL_t2_l KE (fun _ _ => trivial) (fun tysW av2 hhW ha2 => ?_) (fun _ _ _ _ _ _ h _ => h) (fun eu2 uh2 av2 w2 ws4 r4 wsW2 tys4 ha2 kp4 he2 hz2 haW2 haw4 hsm4 hh4 => ?_) (fun eu2 uh2 av2 w2 ws4 r4 hh4 ha2 kp4 hz4 hWW2 haw4 hfs4 he4 t4 ht4 r5 ws5 kp5 hfs5 hos5 => ?_)
  · rw [vL_s361] at ha2
    obtain ⟨aM, eM, h2, s2, c2, n2, hM, rfl, -, -, -⟩ := zo_av5 (p := 218) ha2
    obtain ⟨XX, Z0, g1, g2, g3⟩ := zl_useOM (l := l) (hx := h2) (sx := s2) (cx := c2) (nx := n2) hhW vL_t2_ck rR3 rf3 qR3 pR3 bt bs hM
    exact ⟨XX, Z0, zm_W_mono g1 (by decide), g2, fun v ws' hz => ⟨aM, h2, s2, c2, n2, rfl, g3 v ws' hz⟩⟩
  · rw [vL_s361] at ha2
    obtain ⟨⟨xF, gC, gM⟩, -⟩ := zl_pairO (p1 := 0) (p2 := 218) hl8 hrel hfC (by omega) (by omega) ofs of1 ha ha2 hzC hz2
    have e1 : yL = xF := zo_eqo_fld hsmC.1 haW haw2 (by decide) hC2 hyL1 gC
    refine zo_flt_ok eu2 hh4 (fun a fs w5 g1 g5 => ?_)
    have e2 : w5 = xF := zo_eqo_fld hsm4.1 haW2 haw4 (by decide) g1 g5 gM
    rw [e2, ← e1, ← List.append_assoc]
    exact zx_ev_app l1
  · rw [hl] at hz4
    obtain ⟨⟨q1, q2, q3⟩, ht4⟩ := vL_nt3_ok ht4
    subst ht4
    rw [vL_s361] at ha2
    obtain ⟨tys4, hh4⟩ := hh4
    obtain ⟨wsW2, haW2, hz2, hsm4⟩ := hWW2
    obtain ⟨-, g, n4, ⟨aG, cG, rG⟩, ⟨aN, FN, sN, fN⟩, ofG⟩ := zl_pairO (p1 := 0) (p2 := 218) hl8 hrel hfC (by omega) (by omega) ofs of1 ha ha2 hzC hz2
    obtain ⟨a4, c4, f4, r4'⟩ := zl_r hh4 q1
    have ea := zl_adr haW2 haw4 rG r4'
    subst ea
    have ef : ∀ k, k < 9 → f4 k = g k := hsm4.2 _ _ _ _ _ _ _ _ r4' rG
    obtain ⟨aM4, F4, o4, -⟩ := zj_o hh4 q2
    obtain ⟨y4, o5⟩ := zj_sI hh4 q3 o4
    have e4 : y4 = n4 := zo_eqo_fld hsm4.1 haW2 haw4 (by decide) o4 o5 ⟨_, _, sN, fN⟩
    subst e4
    have hRol : zr_Rol ws4 := ⟨f4, y4.toInt, ⟨_, _, _, r4'⟩, zl_fld o4 o5, fun k hk hkn => by
      rw [ef k hk]
      exact zr_of_kp kp4 (zr_memM k hk) (zr_of_kp kp3 (zr_memL k hk) (ofG k hk hkn))⟩
    obtain ⟨y, g1, g2, g3⟩ := hos5 (([(67, 1)], 0), (([(7, 1)], 0), (6, 6))) List.mem_cons_self _ (h7 _)
    have g2 : (i0 : Int) + 6 ≤ y := g2
    have g3 : y ≤ (i0 : Int) + 6 := g3
    have ey : y = (i0 : Int) + 6 := by omega
    rw [ey] at g1
    have hI4 : zgL_Inv5 ws4 := ⟨⟨zgL_PF_bk kp4 (by decide) hI3.1.1, zgR1e_op hI3.1.2 (fun f hr => zgL_row_bk kp4 (by decide) (by decide) hr) (zgL_fs_bk (by decide) hfs4) (by decide) (by decide) (by decide) hz4⟩, zq_Rel_kp hI3.2 kp4 (by decide) (by decide)⟩
    have hI6 : zgL_Inv11 ws4 := ⟨hI4, zr_R9_kp hR3 kp4 (by decide), hRol⟩
    exact back r5 ws5 (zgL_Inv11_kp (d := 1) hI6 kp5 hfs5 (by decide) (by decide) (by decide) (by decide) (by decide)) g1
end ZOL
end
