noncomputable section
/-! zj: the law's case of contract -/
theorem zj_av2 {b : Nat} {ex : List Nat} {ρ : List Int} {ws : va_W} {p : Nat} {e : zx_L} {av : List Value} (h : zx_F2 (zx_R b ex ρ (zx_as ws)) [.inr (.inl ([64 + p], false)), .inl e] av) : ∃ (aO : Nat) (eO : va_E) (x : Int32), ws[p]? = some (aO, eO) ∧ av = [.ref aO, .int x] ∧ zx_ev ρ e = some x.toInt := by
  rcases av with _ | ⟨x0, _ | ⟨x1, _ | ⟨x2, r⟩⟩⟩
  · exact h.elim
  · exact h.2.elim
  · obtain ⟨h0, ⟨w, h1, h2⟩, -⟩ := h
    rcases h0 with ⟨h3, -⟩ | ⟨i, a, h4, h5, h6⟩
    · cases h3
    · have h4 : i = 64 + p := List.mem_singleton.mp h4
      rw [h4, zx_ad, if_neg (by omega), show 64 + p - 64 = p by omega] at h5
      obtain ⟨eO, h7⟩ := zj_adw h5
      exact ⟨a, eO, w, h7, by rw [h6, h1], h2⟩
  · exact h.2.2.elim
theorem zj_some {b : Nat} {ex : List Nat} {ρ : List Int} {ad : List Nat} {tys : List (ClassId × FieldType)} {h : List zx_C} {ws : va_W} (hh : zx_F2 (fun c q => zx_RC vwCl b ex ρ ad tys c q.2) h ws) {q : Nat} (he : (zg_fe h q).isSome = true) : ∃ w, zg_fld ws q w := by
  obtain ⟨e, he⟩ := Option.isSome_iff_exists.mp he
  obtain ⟨w, h1, -⟩ := zgL_fe_ok hh he
  exact ⟨w, h1⟩
theorem zj_tape {fC fR : Nat → Int32} (hrel : ∀ k : Nat, k < 340 → zq_rel (fC k) (fR k)) (hf : ∀ k : Nat, k < 340 → 0 ≤ (fC k).toInt ∧ (fC k).toInt ≤ 255) : (∀ k : Nat, 0 ≤ (fR k &&& 255).toInt ∧ (fR k &&& 255).toInt ≤ 255) ∧ ∀ k : Nat, k < 340 → (fC k).toInt = (fR k &&& 255).toInt := by
  refine ⟨fun k => ?_, fun k hk => ?_⟩
  · rw [zx_and255]
    omega
  · have h1 := hrel k hk
    have h2 := hf k hk
    unfold zq_rel at h1
    rw [zx_and255, h1]
    unfold Int.bmod
    simp only []
    split <;> omega
theorem vL_nt2_ok {eu : zx_L} {uh : List zx_C} {t : zg_Nd} (h : t ∈ vL_nt2 eu uh) : ∃ e, zg_fe uh 12 = some e ∧ zj_ql uh 0 10 14 = true ∧ t = (521, vL_t2, [(98, (0, 0)), (99, (0, 0)), (100, (0, 0)), (6, (0, 0)), (2, (0, 0)), (22, (0, 0)), (44, (0, 0))], [(([(69, 1)], 0), (e, (0, 0)))]) := by
  unfold vL_nt2 at h
  split at h
  case h_2 => cases h
  rename_i e he
  split at h
  case isFalse => cases h
  rename_i hq
  exact ⟨e, he, hq, List.mem_singleton.mp h⟩
/-- both tell one fault -/
theorem zj_oneF {fC fM : Nat → Int32} {t S : Nat} (hf : ∀ k : Nat, k < t → (fC k).toInt = (fM k).toInt) {xs lf lf' : Int32} {v v' : Option Value} {wsC wsM : va_W} (hl : lf = lf') (h1 : zj_oC fC t S xs lf v wsC) (h2 : zj_oM fM t S xs lf' v' wsM) : ∃ x : Int32, (∃ aO FO, wsC[0]? = some (aO, .inr (10, FO)) ∧ FO[12]? = some (.int x)) ∧ ∃ aM FM, wsM[218]? = some (aM, .inr (11, FM)) ∧ FM[44]? = some (.int x) := by
  by_cases hv : 0 ≤ xs.toInt ∧ xs.toInt < (S : Int)
  · obtain ⟨a, k, g1, g2, g5⟩ := h1.1 hv
    obtain ⟨a', k', g3, g4, g6⟩ := h2.1 hv
    have e := (zj_both hf g2 g4).2
    subst e
    exact ⟨_, g5, g6⟩
  · subst hl
    exact ⟨_, (h1.2 hv).2, (h2.2 hv).2⟩
/-- a field that both heaps tell -/
theorem zj_eqo_fld {ws wsW : va_W} (h : zj_eqo ws wsW) {w0 : va_W} (ha : zx_as wsW = zx_as w0) (hb : zx_as ws = zx_as w0) {i ci q a : Nat} {fs : List Value} {x y : Int32} (hq : q < zj_nf ci) (h1 : ws[i]? = some (a, .inr (ci, fs))) (h3 : fs[q]? = some (.int y)) (h2 : ∃ aO FO, wsW[i]? = some (aO, .inr (ci, FO)) ∧ FO[q]? = some (.int x)) : y = x := by
  obtain ⟨aO, FO, g4, g5⟩ := h2
  have e2 : aO = a := by
    have k1 : (zx_as wsW)[i]? = some aO := by rw [zx_as, List.getElem?_map, g4]; rfl
    have k2 : (zx_as ws)[i]? = some a := by rw [zx_as, List.getElem?_map, h1]; rfl
    rw [ha, ← hb, k2] at k1
    exact (Option.some.inj k1).symm
  subst e2
  have e3 := h i aO ci fs FO q h1 g4 hq
  rw [List.getD_eq_getElem?_getD, List.getD_eq_getElem?_getD, h3, g5] at e3
  exact Value.int.inj e3
/-- the state, the fault told by the class's -/
theorem zj_flt_ok {b : Nat} {ex : List Nat} {ρ : List Int} {tys : List (ClassId × FieldType)} {h : List zx_C} {ws : va_W} (eu : zx_L) (hh : zx_F2 (fun c q => zx_RC vwCl b ex ρ (zx_as ws) tys c q.2) h ws) (hx : ∀ (a : Nat) (fs : List Value) (w : Int32), ws[218]? = some (a, .inr (11, fs)) → fs[44]? = some (.int w) → zx_ev ρ ([(69, 1)], 0) = some w.toInt) : zx_F2 (fun c q => zx_RC vwCl b ex ρ (zx_as ws) tys c q.2) (zj_flt eu h) ws := by
  unfold zj_flt
  split
  case h_2 => exact hh
  rename_i ss hi
  split
  case h_2 => exact hh
  rename_i e0 hs0
  obtain ⟨⟨a, q⟩, h1, fs, h2, h3⟩ := zx_F2_get hh hi
  have h2 : q = .inr (11, fs) := h2
  subst h2
  obtain ⟨x0, g1, w, g3, -⟩ := zx_F2_get h3 hs0
  subst g3
  have g2 := hx _ _ _ h1 g1
  have h4 : zx_F2 (zx_RS b ex ρ (zx_as ws)) (ss.set 44 (.inl (.inl ([(69, 1)], 0)))) (fs.set 44 (.int w)) := zx_F2_set (a := (.inl (.inl ([(69, 1)], 0)) : zx_S)) (b := Value.int w) ⟨w, rfl, g2⟩ 44 h3
  have h5 : fs.set 44 (.int w) = fs := by
    obtain ⟨hl, hq⟩ := List.getElem?_eq_some_iff.mp g1
    rw [← hq, List.set_getElem_self]
  rw [h5] at h4
  have h6 : ws.set 218 (a, .inr (11, fs)) = ws := by
    obtain ⟨hl, hq⟩ := List.getElem?_eq_some_iff.mp h1
    rw [← hq, List.set_getElem_self]
  have h7 := zx_F2_set (R := fun c q => zx_RC vwCl b ex ρ (zx_as ws) tys c q.2) (a := (.inl (11, ss.set 44 (.inl (.inl ([(69, 1)], 0)))) : zx_C)) (b := (a, Sum.inr (11, fs))) ⟨fs, rfl, h4⟩ 218 hh
  rw [h6] at h7
  exact h7
section ZJL
variable {p : Program} {l : Launch} {e : Env} {R : Room} {s : State} {mi : MethodId} {args : Array Value} {below : List Frame} {meth : Method} {c : Code} {Q : State → Prop} {D : va_G} {A : Nat → Prop} {b : Nat} {ex : List Nat} {ad0 : zx_A0} {nL : Nat} {own : String} {cc : ByteArray} {d : Nat} {xs : Nat → Int32} {L : Nat}
set_option linter.constructorNameAsVariable false in
set_option maxHeartbeats 4000000 in
set_option maxRecDepth 1000000 in
theorem zj_contract (C : zgL_cx p R s mi args meth c A ex nL own cc vLK 386 zx_mlw) (had : ad0.2 = []) (hf : zx_FOK l vwCl zx_Ts zx_nw zx_sts (zw_YK zx_Yt vLK false) zx_aos zx_PRt zx_rmt 386 vLf) {i0 : Nat} (hS : ∀ r, zx_SX b xs A s zx_mlw.2.1 (zgL_re L xs i0 ++ r)) (KE : ∀ (u : zx_Ou) (r : List Int) (ws' : va_W), zgL_is1 u = true → zg_ed p l e R s mi args below meth c Q D A b ex ad0 nL cc zx_mlw.2.2.2 (zx_mR zx_mlw.2.1) u (zgL_re L xs i0 ++ r) ws') (back : ∀ (r : List Int) (ws : va_W), zgL_Inv5 ws → zx_ev (zgL_re L xs i0 ++ r) ([(67, 1)], 0) = some ((i0 : Int) + 6) → zg_go p l e R s mi args below meth c Q D A b ex ad0 nL 23 vL_23 (zgL_re L xs i0 ++ r) ws) (r : List Int) (ws : va_W) (hI : zgL_Inv5 ws) : zg_go p l e R s mi args below meth c Q D A b ex ad0 nL 503 vL_cs (zgL_re L xs i0 ++ r) ws := by
  have hK : ∀ K : List Nat, ∀ i ∈ ad0.2, i ∈ K := fun K i hi => by rw [had] at hi; cases hi
  have h7 : ∀ r, zx_ev (zgL_re L xs i0 ++ r) ([(7, 1)], 0) = some (i0 : Int) := fun r => by
    refine zx_ev_iff.mpr ⟨1 * (i0 : Int) + 0, zx_evl_cons.mpr ⟨(i0 : Int), 0, rfl, rfl, rfl⟩, ?_⟩
    show (i0 : Int) = 1 * (i0 : Int) + 0 + 0
    omega
  have hex := zj_exo_of C
  refine zg_with (fun tys hG hh => ?_)
  refine zgL_run3 (m := 8) C (hK _) hf rfl hS hh vL_k503 KE (fun t ht r1 ws1 kp1 hfs1 _ => ?_)
  rw [List.mem_singleton] at ht
  subst ht
  have hI1 : zgL_Inv5 ws1 := zgL_Inv5_kp (d := 0) hI kp1 hfs1 (by decide) (by decide) (by decide) (by decide)
  obtain ⟨fC, fR, rC, rR, hrel⟩ := hI1.2
  refine zg_with (fun tys1 hG1 hh1 => ?_)
  obtain ⟨tC, qC, eC⟩ := zgL_fe_ok (zgL_drop 0 hh1) vL_t1_c
  obtain ⟨tR, qR, eR⟩ := zgL_fe_ok (zgL_drop 218 hh1) vL_t1_r
  have et : tR = tC := Option.some.inj (eR.symm.trans eC)
  subst et
  obtain ⟨sC, pC, dC⟩ := zgL_fe_ok (zgL_drop 3 hh1) vL_t1_s
  obtain ⟨sR, pR, dR⟩ := zgL_fe_ok (zgL_drop 218 hh1) vL_t1_z
  have es : sR = sC := Option.some.inj (dR.symm.trans dC)
  subst es
  obtain ⟨lC, yC, zC⟩ := zgL_fe_ok (zgL_drop 0 hh1) vL_t1_f
  obtain ⟨lR, yR, zR⟩ := zgL_fe_ok (zgL_drop 218 hh1) vL_t1_g
  have el : lR = lC := Option.some.inj (zR.symm.trans zC)
  subst el
  have bt : 0 ≤ tR ∧ tR ≤ 340 := zg_xb_ok hG1 vL_t1_bt eC
  have bs : 0 ≤ sR ∧ sR ≤ 20 := zg_xb_ok hG1 vL_t1_bs dC
  have hfC : ∀ k : Nat, k < 340 → 0 ≤ (fC k).toInt ∧ (fC k).toInt ≤ 255 := fun k hk => zg_row_rg hh1 vL_t1_t rC hk
  obtain ⟨hfM, hsame⟩ := zj_tape hrel hfC
  refine zj_call5 (o := 0) (o2 := 218) (KK := vLK) (ZW := fun av v wsW => ∃ (a : Nat) (x lfx : Int32), av = [.ref a, .int x] ∧ lfx.toInt = lR ∧ zj_oC fC tR.toNat sR.toNat x lfx v wsW) C hf (hK _) (hK _) rfl hS (zg_EN_mono (zg_of (vnC58 jf_ok) rfl) (by decide)) (zq_mem vL_m510) vL_a510 vL_t1_l KE (fun _ _ => trivial) (fun tysW av hhW ha => ?_) (fun _ _ _ _ _ _ h _ => h) (fun _ _ _ _ _ _ _ _ _ _ _ _ _ _ _ h => h) (fun eu uh av w ws2 r2 hhU ha kp2 _ hWW haw2 hfs2 he t2 ht2 r3 ws3 kp3 hfs3 hos3 => ?_)
  · rw [vL_s510] at ha
    obtain ⟨aO, eO, x, hO, rfl, -⟩ := zj_av2 (p := 0) ha
    obtain ⟨XX, Z0, g1, g2, g3⟩ := zj_useC (l := l) (xs := x) hhW vL_t1_ck hex rfl rC hfC qC pC bt bs hO yC
    refine ⟨XX, Z0, zj_W_mono g1 (by decide), g2, fun v ws' hz => ?_⟩
    obtain ⟨lfx, k1, k2⟩ := g3 v ws' hz
    exact ⟨aO, x, lfx, rfl, k1, k2⟩
  rw [vL_s510] at ha
  obtain ⟨aO, eO, x, hO, hav, ex2⟩ := zj_av2 (p := 0) ha
  obtain ⟨wsW, haW, ⟨a', x', lfx, hav', hlfx, hoC⟩, hsmC⟩ := hWW
  rw [hav] at hav'
  cases hav'
  obtain ⟨tysU, hhU⟩ := hhU
  obtain ⟨eL, heL, hq0, ht2⟩ := vL_nt2_ok ht2
  subst ht2
  obtain ⟨wL, hwL1, hwL2⟩ := zgL_fe_ok hhU heL
  obtain ⟨aC2, fC2, hC2, -⟩ := zj_o hhU hq0
  obtain ⟨yL, hyL1, hyL2⟩ : ∃ yL : Int32, fC2[12]? = some (.int yL) ∧ yL.toInt = wL := by
    obtain ⟨a2, ci2, fs2, y2, g1, g2, g3⟩ := hwL1
    rw [hC2] at g1
    cases g1
    exact ⟨y2, g2, g3⟩
  have hfs3 : zg_fs (ws2.drop 218) (ws3.drop 218) [(98, (0, 0)), (99, (0, 0)), (100, (0, 0)), (6, (0, 0)), (2, (0, 0)), (22, (0, 0)), (44, (0, 0))] := hfs3
  have hI2 : zgL_Inv ws2 := zq_Inv_kp (d := 0) hI1.1 kp2 (by decide) hfs2 (by decide) (by decide) (by decide) (by decide)
  have hI3 : zgL_Inv5 ws3 := ⟨zgL_Inv_kp (d := 0) hI2 kp3 hfs3 (by decide) (by decide) (by decide) (by decide), zq_Rel_kp (zq_Rel_kp hI1.2 kp2 (by decide) (by decide)) kp3 (by decide) (by decide)⟩
  have rR3 := zg_row_kp kp3 (by decide) (zg_row_kp kp2 (by decide) rR)
  have qR3 := zg_fs_0 hfs3 (by decide) (zg_fs_0 hfs2 (by decide) qR)
  have pR3 := zg_fs_0 hfs3 (by decide) (zg_fs_0 hfs2 (by decide) pR)
  have yR3 := zg_fs_0 hfs3 (by decide) (zg_fs_0 hfs2 (by decide) yR)
  obtain ⟨y, k1, k2, k3⟩ := hos3 (([(69, 1)], 0), (eL, (0, 0))) List.mem_cons_self _ hwL2
  have k2 : wL + 0 ≤ y := k2
  have k3 : y ≤ wL + 0 := k3
  have ey : y = wL := by omega
  subst ey
  have hl : vGctr.2.2.1.length = 69 := rfl
  refine zj_call5 (o := 218) (o2 := 218) (KK := [1, 219, 220, 286]) (ZW := fun av v wsW => ∃ (a : Nat) (x lfx : Int32), av = [.ref a, .int x] ∧ lfx.toInt = lR ∧ zj_oM (fun k => fR k &&& 255) tR.toNat sR.toNat x lfx v wsW) C hf (hK _) (hK _) rfl hS (zg_EN_mono vGctr_ok (by decide)) (zq_mem vL_m521) vL_a521 vL_t2_l KE (fun _ _ => by rw [hl]; exact hI3.1.1) (fun tysW av2 hhW ha2 => ?_) (fun _ _ _ _ _ _ h _ => h) (fun eu2 uh2 av2 w2 ws4 r4 wsW2 tys4 ha2 kp4 he2 hz2 haW2 haw4 hsm4 hh4 => ?_) (fun eu2 _ av2 w2 ws4 r4 _ ha2 kp4 hz4 _ haw4 hfs4 he4 t4 ht4 r5 ws5 kp5 hfs5 hos5 => ?_)
  · rw [vL_s521] at ha2
    obtain ⟨aM, eM, x2, hM, rfl, -⟩ := zj_av2 (p := 218) ha2
    obtain ⟨XX, Z0, g1, g2, g3⟩ := zj_useM (l := l) (xs := x2) hhW vL_t2_ck rR3 (fun _ => rfl) hfM qR3 pR3 bt bs hM yR3
    refine ⟨XX, Z0, zj_W_mono g1 (by decide), g2, fun v ws' hz => ?_⟩
    obtain ⟨lfx2, j1, j2⟩ := g3 v ws' hz
    exact ⟨aM, x2, lfx2, rfl, j1, j2⟩
  · rw [vL_s521] at ha2
    obtain ⟨aM, eM, x2, hM, hav2, ey2⟩ := zj_av2 (p := 218) ha2
    obtain ⟨a'', x'', lfx2, hav3, hlfx2, hoM⟩ := hz2
    rw [hav2] at hav3
    cases hav3
    have exx : x.toInt = x2.toInt := zq_ev_l (ρe := zgL_re L xs i0) (by show 2 < 8; decide) ex2 ey2
    have exx : x = x2 := Int32.toInt_inj.mp exx
    subst exx
    obtain ⟨xF, gC, gM⟩ := zj_oneF (fun k hk => hsame k (by omega)) (Int32.toInt_inj.mp (hlfx.trans hlfx2.symm)) hoC hoM
    have e1 : yL = xF := zj_eqo_fld hsmC haW haw2 (by decide) hC2 hyL1 gC
    refine zj_flt_ok eu2 hh4 (fun a fs w5 g1 g5 => ?_)
    have e2 : w5 = xF := zj_eqo_fld hsm4 haW2 haw4 (by decide) g1 g5 gM
    rw [e2, ← e1, hyL2, ← List.append_assoc]
    exact zx_ev_app k1
  · rw [hl] at hz4
    have ht4 := List.mem_singleton.mp ht4
    subst ht4
    obtain ⟨y, g1, g2, g3⟩ := hos5 (([(67, 1)], 0), (([(7, 1)], 0), (6, 6))) List.mem_cons_self _ (h7 _)
    have g2 : (i0 : Int) + 6 ≤ y := g2
    have g3 : y ≤ (i0 : Int) + 6 := g3
    have ey : y = (i0 : Int) + 6 := by omega
    rw [ey] at g1
    have hI4 : zgL_Inv5 ws4 := ⟨⟨hz4, zgR1e_kp (d := 1) hI3.1.2 (fun i hi f hr => by
        simp only [List.mem_cons, List.not_mem_nil, or_false] at hi
        rcases hi with rfl | rfl
        · exact zgL_row_bk kp4 (by decide) (by decide) hr
        · exact zgL_row_bk kp4 (by decide) (by decide) hr) (zgL_fs_bk (by decide) hfs4) (by decide) (by decide) (by decide) (by decide)⟩, zq_Rel_kp hI3.2 kp4 (by decide) (by decide)⟩
    exact back r5 ws5 (zgL_Inv5_kp (d := 1) hI4 kp5 hfs5 (by decide) (by decide) (by decide) (by decide)) g1
end ZJL
end
