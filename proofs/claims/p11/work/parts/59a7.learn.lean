noncomputable section
/-! zl: the law's case of learn -/
section ZOL
variable {p : Program} {l : Launch} {e : Env} {R : Room} {s : State} {mi : MethodId} {args : Array Value} {below : List Frame} {meth : Method} {c : Code} {Q : State → Prop} {D : va_G} {A : Nat → Prop} {b : Nat} {ex : List Nat} {ad0 : zx_A0} {nL : Nat} {own : String} {cc : ByteArray} {d : Nat} {xs : Nat → Int32} {L : Nat}
set_option linter.constructorNameAsVariable false in
set_option maxHeartbeats 8000000 in
set_option maxRecDepth 1000000 in
theorem zl_learn (C : zgL_cx p R s mi args meth c A ex nL own cc vLK 386 zx_mlw) (had : ad0.2 = []) (hf : zx_FOK l vwCl zx_Ts zx_nw zx_sts (zw_YK zx_Yt vLK false) zx_aos zx_PRt zx_rmt 386 vLf) {i0 : Nat} (hS : ∀ r, zx_SX b xs A s zx_mlw.2.1 (zgL_re L xs i0 ++ r)) (KE : ∀ (u : zx_Ou) (r : List Int) (ws' : va_W), zgL_is1 u = true → zg_ed p l e R s mi args below meth c Q D A b ex ad0 nL cc zx_mlw.2.2.2 (zx_mR zx_mlw.2.1) u (zgL_re L xs i0 ++ r) ws') (back : ∀ (r : List Int) (ws : va_W), zgL_Inv11 ws → zx_ev (zgL_re L xs i0 ++ r) ([(67, 1)], 0) = some ((i0 : Int) + 6) → zg_go p l e R s mi args below meth c Q D A b ex ad0 nL 23 vL_23 (zgL_re L xs i0 ++ r) ws) (r : List Int) (ws : va_W) (hI : zgL_Inv11 ws) : zg_go p l e R s mi args below meth c Q D A b ex ad0 nL 541 vL_cs (zgL_re L xs i0 ++ r) ws := by
  have hK : ∀ K : List Nat, ∀ i ∈ ad0.2, i ∈ K := fun K i hi => by rw [had] at hi; cases hi
  have h7 : ∀ r, zx_ev (zgL_re L xs i0 ++ r) ([(7, 1)], 0) = some (i0 : Int) := fun r => by
    refine zx_ev_iff.mpr ⟨1 * (i0 : Int) + 0, zx_evl_cons.mpr ⟨(i0 : Int), 0, rfl, rfl, rfl⟩, ?_⟩
    show (i0 : Int) = 1 * (i0 : Int) + 0 + 0
    omega
  refine zg_with (fun tys hG hh => ?_)
  refine zgL_run3 (m := 8) C (hK _) hf rfl hS hh vL_k541 KE (fun t ht r1 ws1 kp1 hfs1 _ => ?_)
  rw [List.mem_singleton] at ht
  subst ht
  have hI1 : zgL_Inv11 ws1 := zgL_Inv11_kp (d := 0) hI kp1 hfs1 (by decide) (by decide) (by decide) (by decide) (by decide)
  obtain ⟨f, n0, rf, rn, hof⟩ := hI1.2.2
  refine zg_with (fun tys1 hG1 hh1 => ?_)
  obtain ⟨sC, pC, dC⟩ := zgL_fe_ok (zgL_drop 3 hh1) vL_l1_s
  obtain ⟨NO, pR, dR⟩ := zgL_fe_ok (zgL_drop 218 hh1) vL_l1_z
  have es : NO = sC := Option.some.inj (dR.symm.trans dC)
  subst es
  obtain ⟨iC, p1C, d1C⟩ := zgL_fe_ok (zgL_drop 3 hh1) vL_l1_i
  obtain ⟨NS, p1R, d1R⟩ := zgL_fe_ok (zgL_drop 218 hh1) vL_l1_j
  have es : NS = iC := Option.some.inj (d1R.symm.trans d1C)
  subst es
  obtain ⟨lC, p2C, d2C⟩ := zgL_fe_ok (zgL_drop 178 hh1) vL_l1_n
  obtain ⟨LL, p2R, d2R⟩ := zgL_fe_ok (zgL_drop 218 hh1) vL_l1_o
  have es : LL = lC := Option.some.inj (d2R.symm.trans d2C)
  subst es
  have en : n0 = NO := zg_fld_u rn pR
  subst en
  have bo : 0 ≤ n0 ∧ n0 ≤ 9 := zg_xb_ok hG1 vL_l1_bs dC
  have bi : 0 ≤ NS ∧ NS ≤ 20 := zg_xb_ok hG1 vL_l1_bi d1C
  have bn : 0 ≤ LL ∧ LL ≤ 200 := zg_xb_ok hG1 vL_l1_bn d2C
  have hf8 : ∀ k : Nat, k < 9 → 0 ≤ (f k).toInt := fun k hk => (zg_row_rg hh1 vL_l1_f rf hk).1
  refine zj_call5 (o := 0) (o2 := 218) (KK := vLK) (ZW := fun av v wsW => ∃ (a : Nat) (sx o r hx : Int32), av = [.ref a, .int sx, .int o, .int r, .int hx] ∧ zl_oC (zl_ok NS n0 LL f sx.toInt o.toInt r.toInt hx.toInt) LL.toNat v wsW) C hf (hK _) (hK _) rfl hS (zg_EN_mono (zg_of vnC60 rfl) (by decide)) (zq_mem vL_m566) vL_a566 vL_l1_l KE (fun _ _ => trivial) (fun tysW av hhW ha => ?_) (fun _ _ _ _ _ _ h _ => h) (fun _ _ _ _ _ _ _ _ _ _ _ _ _ _ _ h => h) (fun eu uh av w ws2 r2 hhU ha kp2 _ hWW haw2 hfs2 he t2 ht2 r3 ws3 kp3 hfs3 hos3 => ?_)
  · rw [vL_s566] at ha
    obtain ⟨aO, eO, sx, o, rr, hx, hO, rfl, -, -, -⟩ := zo_av5 (p := 0) ha
    obtain ⟨XX, Z0, g1, g2, g3⟩ := zl_useC (l := l) (sx := sx) (o := o) (r := rr) (hx := hx) hhW vL_l1_ck hI1.2.1 hof pC p1C p2C bo.2 bn hO
    exact ⟨XX, Z0, zm_W_mono g1 (by decide), g2, fun v ws' hz => ⟨aO, sx, o, rr, hx, rfl, g3 v ws' hz⟩⟩
  rw [vL_s566] at ha
  obtain ⟨wsW, haW, hzC, hsmC⟩ := hWW
  obtain ⟨tysU, hhU⟩ := hhU
  obtain ⟨eL, heL, hq0, ht2⟩ := vL_nl2_ok ht2
  subst ht2
  obtain ⟨wL, hwL1, hwL2⟩ := zgL_fe_ok (zgL_drop 178 hhU) heL
  obtain ⟨aC2, fC2, hC2, -⟩ := zj_o hhU hq0
  obtain ⟨yL, hyL1, hyL2⟩ := zl_fi hC2 hwL1
  have hfs3 : zg_fs (ws2.drop 218) (ws3.drop 218) [(98, (0, 0)), (99, (0, 0)), (100, (0, 0)), (6, (0, 0)), (21, (0, 0)), (22, (0, 0)), (67, (0, 0))] := hfs3
  have hI2 : zgL_Inv11 ws2 := zgL_Inv11_kp (d := 0) hI1 kp2 hfs2 (by decide) (by decide) (by decide) (by decide) (by decide)
  have hI3 : zgL_Inv11 ws3 := zgL_Inv11_kp (d := 0) hI2 kp3 hfs3 (by decide) (by decide) (by decide) (by decide) (by decide)
  have rf3 := zg_row_kp kp3 (by decide) (zg_row_kp kp2 (by decide) rf)
  have pR3 := zg_fs_0 hfs3 (by decide) (zg_fs_0 hfs2 (by decide) pR)
  have p1R3 := zg_fs_0 hfs3 (by decide) (zg_fs_0 hfs2 (by decide) p1R)
  have p2R3 := zg_fs_0 hfs3 (by decide) (zg_fs_0 hfs2 (by decide) p2R)
  obtain ⟨y, k1, k2, k3⟩ := hos3 (([(71, 1)], 0), (eu, (0, 0))) List.mem_cons_self _ he
  have k2 : w.toInt + 0 ≤ y := k2
  have k3 : y ≤ w.toInt + 0 := k3
  have ey : y = w.toInt := by omega
  subst ey
  obtain ⟨y, l1, l2, l3⟩ := hos3 (([(69, 1)], 0), (eL, (0, 0))) (List.mem_cons_of_mem _ List.mem_cons_self) _ hwL2
  have l2 : wL + 0 ≤ y := l2
  have l3 : y ≤ wL + 0 := l3
  have ey : y = yL.toInt := by omega
  subst ey
  have hl8 : 5 < (zgL_re L xs i0).length := by show 5 < 8; decide
  refine zj_call5 (o := 218) (o2 := 218) (KK := vLK) (ZW := fun av v wsW => ∃ (a : Nat) (sx o r hx : Int32), av = [.ref a, .int sx, .int o, .int r, .int hx] ∧ zl_oM (zl_ok NS n0 LL f sx.toInt o.toInt r.toInt hx.toInt) LL.toNat v wsW) C hf (hK _) (hK _) rfl hS (zg_EN_mono (zg_of vnR8 rfl) (by decide)) (zq_mem vL_m594) vL_a594 vL_l2_l KE (fun _ _ => trivial) (fun tysW av2 hhW ha2 => ?_) (fun eu2 av2 w2 r4 wsW2 ha2 he2 hz2 => ?_) (fun eu2 uh2 av2 w2 ws4 r4 wsW2 tys4 ha2 kp4 he2 hz2 haW2 haw4 hsm4 hh4 => ?_) (fun eu2 _ av2 w2 ws4 r4 _ ha2 kp4 _ _ haw4 hfs4 he4 t4 ht4 r5 ws5 kp5 hfs5 hos5 => ?_)
  · rw [vL_s594] at ha2
    obtain ⟨aM, eM, s2, o2, r2', h2, hM, rfl, -, -, -⟩ := zo_av5 (p := 218) ha2
    obtain ⟨XX, Z0, g1, g2, g3⟩ := zl_useM (l := l) (sx := s2) (o := o2) (r := r2') (hx := h2) hhW vL_l2_ck rf3 hf8 pR3 p1R3 p2R3 bo bi.1 bn hM
    exact ⟨XX, Z0, zm_W_mono g1 (by decide), g2, fun v ws' hz => ⟨aM, s2, o2, r2', h2, rfl, g3 v ws' hz⟩⟩
  · rw [vL_s594] at ha2
    have e1 := (zl_pairL (p1 := 0) (p2 := 218) hl8 ha ha2 hzC hz2).1
    have e2 : w = w2 := Value.int.inj (Option.some.inj e1)
    rw [← e2, ← List.append_assoc]
    exact zx_ev_app k1
  · rw [vL_s594] at ha2
    obtain ⟨-, xF, gC, gM⟩ := zl_pairL (p1 := 0) (p2 := 218) hl8 ha ha2 hzC hz2
    have e1 : yL = xF := zo_eqo_fld hsmC.1 haW haw2 (by decide) hC2 hyL1 gC
    refine zl_flt_ok eu2 hh4 (fun a fs w5 g1 g5 => ?_)
    have e2 : w5 = xF := zo_eqo_fld hsm4.1 haW2 haw4 (by decide) g1 g5 gM
    rw [e2, ← e1, ← List.append_assoc]
    exact zx_ev_app l1
  · have ht4 := List.mem_singleton.mp ht4
    subst ht4
    obtain ⟨y, g1, g2, g3⟩ := hos5 (([(67, 1)], 0), (([(7, 1)], 0), (6, 6))) List.mem_cons_self _ (h7 _)
    have g2 : (i0 : Int) + 6 ≤ y := g2
    have g3 : y ≤ (i0 : Int) + 6 := g3
    have ey : y = (i0 : Int) + 6 := by omega
    rw [ey] at g1
    have hI4 : zgL_Inv11 ws4 := zgL_Inv11_kp (d := 1) hI3 kp4 hfs4 (by decide) (by decide) (by decide) (by decide) (by decide)
    exact back r5 ws5 (zgL_Inv11_kp (d := 1) hI4 kp5 hfs5 (by decide) (by decide) (by decide) (by decide) (by decide)) g1
end ZOL
end
