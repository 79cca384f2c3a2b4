noncomputable section
/-! zq: feed -/
def zqZf (g : Int32 → Int32 → Int32) (q : Nat) (av : List Value) (ws : va_W) (_ : Option Value) (ws' : va_W) : Prop := ∀ (f : Nat → Int32) (t : Int), zg_row ws 1 f → zg_fld ws q t → (340 < t + 20 ∧ zg_row ws' 1 f) ∨ (t + 20 ≤ 340 ∧ ∃ (x1 x2 x3 x4 x5 : Int32) (m : Nat), (av[1]? = some (.int x1) ∧ av[2]? = some (.int x2) ∧ av[3]? = some (.int x3) ∧ av[4]? = some (.int x4) ∧ av[5]? = some (.int x5)) ∧ t = m ∧ zg_row ws' 1 (zq_up g (zq_up g (zq_up g (zq_up g (zq_up g f m x1) (m + 4) x2) (m + 8) x3) (m + 12) x4) (m + 16) x5))
theorem vYfeedC_K : ∀ i ∈ vYfeedC.2.2.2.2.2.1, i ∈ vYKc := by decide +kernel
theorem vYfeedC_K1 : ∀ i ∈ vYfeedC.2.2.2.2.2.1, i ∈ vYputC.2.2.2.2.2.1 := by decide +kernel
theorem vYfeedC_a1 : vYfeedC.2.2.2.1[1]? = some (.inl ([(24, 1)], 0)) := by decide +kernel
theorem vYfeedC_a2 : vYfeedC.2.2.2.1[2]? = some (.inl ([(25, 1)], 0)) := by decide +kernel
theorem vYfeedC_a3 : vYfeedC.2.2.2.1[3]? = some (.inl ([(26, 1)], 0)) := by decide +kernel
theorem vYfeedC_a4 : vYfeedC.2.2.2.1[4]? = some (.inl ([(27, 1)], 0)) := by decide +kernel
theorem vYfeedC_a5 : vYfeedC.2.2.2.1[5]? = some (.inl ([(28, 1)], 0)) := by decide +kernel
set_option maxRecDepth 1000000 in
theorem vYfeedC_c0 : zg_rk vYKc (vYf vYKc) vYm_feedC vYfeedC.2.1.length vYfeedC.2.2.2.2.1 (some ([(10, (0, 0))], fun o => zg_fb o.1 o.2.1 10 321 400), false) [(17, vYfeedC_17, [(10, (0, 0))], [])] 0 vYs_feedC = true := by decide +kernel
set_option maxRecDepth 1000000 in
theorem vYfeedC_b : zg_fb vYfeedC_17.1 vYfeedC_17.2.1 10 0 320 = true := by decide +kernel
set_option maxRecDepth 1000000 in
theorem vYfeedC_k17 : zg_ca2n vYKc (vYf vYKc) vYm_feedC vYfeedC.2.1.length vYfeedC.2.2.2.2.1 (none, false) [] (none, false) [(22, vYfeedC_22, [(10, (0, 0))], [])] 17 90 vYputC vYfeedC_17 = true := by decide +kernel
set_option maxRecDepth 1000000 in
theorem vYfeedC_s17 : (zg_cas vYm_feedC 90 vYputC vYfeedC_17)[1]? = some (.inl ([(24, 1)], 0)) := by decide +kernel
set_option maxRecDepth 1000000 in
theorem vYfeedC_k22 : zg_ca2n vYKc (vYf vYKc) vYm_feedC vYfeedC.2.1.length vYfeedC.2.2.2.2.1 (none, false) [] (none, false) [(27, vYfeedC_27, [(10, (0, 0))], [])] 22 90 vYputC vYfeedC_22 = true := by decide +kernel
set_option maxRecDepth 1000000 in
theorem vYfeedC_s22 : (zg_cas vYm_feedC 90 vYputC vYfeedC_22)[1]? = some (.inl ([(25, 1)], 0)) := by decide +kernel
set_option maxRecDepth 1000000 in
theorem vYfeedC_k27 : zg_ca2n vYKc (vYf vYKc) vYm_feedC vYfeedC.2.1.length vYfeedC.2.2.2.2.1 (none, false) [] (none, false) [(33, vYfeedC_33, [(10, (0, 0))], [])] 27 90 vYputC vYfeedC_27 = true := by decide +kernel
set_option maxRecDepth 1000000 in
theorem vYfeedC_s27 : (zg_cas vYm_feedC 90 vYputC vYfeedC_27)[1]? = some (.inl ([(26, 1)], 0)) := by decide +kernel
set_option maxRecDepth 1000000 in
theorem vYfeedC_k33 : zg_ca2n vYKc (vYf vYKc) vYm_feedC vYfeedC.2.1.length vYfeedC.2.2.2.2.1 (none, false) [] (none, false) [(39, vYfeedC_39, [(10, (0, 0))], [])] 33 90 vYputC vYfeedC_33 = true := by decide +kernel
set_option maxRecDepth 1000000 in
theorem vYfeedC_s33 : (zg_cas vYm_feedC 90 vYputC vYfeedC_33)[1]? = some (.inl ([(27, 1)], 0)) := by decide +kernel
set_option maxRecDepth 1000000 in
theorem vYfeedC_k39 : zg_ca2n vYKc (vYf vYKc) vYm_feedC vYfeedC.2.1.length vYfeedC.2.2.2.2.1 (none, false) [] (some ([(10, (0, 0))], fun _ => true), false) [] 39 90 vYputC vYfeedC_39 = true := by decide +kernel
set_option maxRecDepth 1000000 in
theorem vYfeedC_s39 : (zg_cas vYm_feedC 90 vYputC vYfeedC_39)[1]? = some (.inl ([(28, 1)], 0)) := by decide +kernel
set_option maxRecDepth 100000 in
theorem vYfeedC_ok {l : Launch} : zg_EN l 10 vYfeedC (fun _ _ => True) (zqZf zq_b 10) := by
  refine zg_enter (d := 9) (Kr := vYKc) (md := vYm_feedC) vYm_feedC_ok (by decide +kernel) ?_
  intro p e R s mi args below meth c Q D A b ex nL own cc ρe tys ws0 av hX hG hh ha C KE
  have hm : ρe.length = vYfeedC.2.1.length := hG.1
  obtain ⟨x1, a1, b1⟩ := zg_arg ha vYfeedC_a1
  obtain ⟨x2, a2, b2⟩ := zg_arg ha vYfeedC_a2
  obtain ⟨x3, a3, b3⟩ := zg_arg ha vYfeedC_a3
  obtain ⟨x4, a4, b4⟩ := zg_arg ha vYfeedC_a4
  obtain ⟨x5, a5, b5⟩ := zg_arg ha vYfeedC_a5
  obtain ⟨f0, r0⟩ := zg_row_of hh (i := 1) rfl (by decide)
  obtain ⟨t0, q0, -⟩ := zg_fb_ok (q := 10) (lo := -5000) (hi := 5000) hG hh (by decide +kernel)
  refine zg_run0 (Zv := zqZf zq_b 10 av ws0) C vYfeedC_K (vYf_ok vYKc 1) hm vYfeedC_c0 KE (fun o r' ws' tys v kp hGo hho h3 _ => ?_) (fun t ht r1 ws1 kp1 hfs1 _ => ?_)
  · rcases h3 with ⟨h3, -⟩ | ⟨l, h3, h4, h5⟩
    · cases h3
    cases h3
    intro f t k1 k2
    have e5 := zg_row_u k1 r0
    have e6 := zg_fld_u k2 q0
    subst e5
    subst e6
    obtain ⟨w, w1, w2, w3⟩ := zg_fb_ok hGo hho h5
    have w4 := zg_fld_u w1 (zg_fs_0 h4 (by decide) k2)
    exact Or.inl ⟨by omega, zg_row_kp kp (by decide) k1⟩
  rw [List.mem_singleton] at ht
  subst ht
  have y1 := zg_row_kp kp1 (by decide) r0
  have z1 := zg_fs_0 hfs1 (by decide) q0
  refine zg_with (fun tys1 hG1 hh1 => ?_)
  obtain ⟨w, w1, w2, w3⟩ := zg_fb_ok hG1 hh1 vYfeedC_b
  have w4 := zg_fld_u w1 z1
  subst w4
  refine zg_call2n (Zv := zqZf zq_b 10 av ws0) (as := zg_cas vYm_feedC 90 vYputC vYfeedC_17) C vYfeedC_K (vYf_ok vYKc 1) hm vYputC_ok vYfeedC_K1 (List.mem_of_getElem? (i := 10) rfl) vYfeedC_k17 rfl KE (fun _ _ => trivial) (fun av2 ws4 _ kp4 hZ => ⟨fun o r5 ws5 tys5 v kp5 _ _ h3 _ => ?_, fun t ht => nomatch ht⟩) (fun av1 v1 wc1 ha1 kc1 hZ1 hv1 => ⟨fun o r5 ws5 tys5 v kp5 _ _ h3 _ => ?_, fun t ht r2 ws2 kp2 hfs2 _ => ?_⟩)
  · rcases h3 with ⟨h3, -⟩ | ⟨l, h3, -⟩ <;> cases h3
  · rcases h3 with ⟨h3, -⟩ | ⟨l, h3, -⟩ <;> cases h3
  rw [List.mem_singleton] at ht
  subst ht
  obtain ⟨c1, m1, p1, t1, u1, s1⟩ := hZ1 _ _ y1 z1
  obtain ⟨d1, n1, o1⟩ := zg_arg ha1 vYfeedC_s17
  have e1 : c1 = x1 := Int32.toInt_inj.mp (Option.some.inj (by
    have h1 := Value.int.inj (Option.some.inj (p1.symm.trans n1))
    rw [h1, ← o1]
    exact zx_ev_app b1))
  subst e1
  have y2 := zg_row_kp kp2 (by decide) u1
  have z2 := zg_fs_0 hfs2 (by decide) s1
  refine zg_call2n (Zv := zqZf zq_b 10 av ws0) (as := zg_cas vYm_feedC 90 vYputC vYfeedC_22) C vYfeedC_K (vYf_ok vYKc 1) hm vYputC_ok vYfeedC_K1 (List.mem_of_getElem? (i := 13) rfl) vYfeedC_k22 rfl KE (fun _ _ => trivial) (fun av2 ws4 _ kp4 hZ => ⟨fun o r5 ws5 tys5 v kp5 _ _ h3 _ => ?_, fun t ht => nomatch ht⟩) (fun av2 v2 wc2 ha2 kc2 hZ2 hv2 => ⟨fun o r5 ws5 tys5 v kp5 _ _ h3 _ => ?_, fun t ht r3 ws3 kp3 hfs3 _ => ?_⟩)
  · rcases h3 with ⟨h3, -⟩ | ⟨l, h3, -⟩ <;> cases h3
  · rcases h3 with ⟨h3, -⟩ | ⟨l, h3, -⟩ <;> cases h3
  rw [List.mem_singleton] at ht
  subst ht
  obtain ⟨c2, m2, p2, t2, u2, s2⟩ := hZ2 _ _ y2 z2
  obtain ⟨d2, n2, o2⟩ := zg_arg ha2 vYfeedC_s22
  have e2 : c2 = x2 := Int32.toInt_inj.mp (Option.some.inj (by
    have h1 := Value.int.inj (Option.some.inj (p2.symm.trans n2))
    rw [h1, ← o2]
    exact zx_ev_app b2))
  subst e2
  have y3 := zg_row_kp kp3 (by decide) u2
  have z3 := zg_fs_0 hfs3 (by decide) s2
  refine zg_call2n (Zv := zqZf zq_b 10 av ws0) (as := zg_cas vYm_feedC 90 vYputC vYfeedC_27) C vYfeedC_K (vYf_ok vYKc 1) hm vYputC_ok vYfeedC_K1 (List.mem_of_getElem? (i := 16) rfl) vYfeedC_k27 rfl KE (fun _ _ => trivial) (fun av2 ws4 _ kp4 hZ => ⟨fun o r5 ws5 tys5 v kp5 _ _ h3 _ => ?_, fun t ht => nomatch ht⟩) (fun av3 v3 wc3 ha3 kc3 hZ3 hv3 => ⟨fun o r5 ws5 tys5 v kp5 _ _ h3 _ => ?_, fun t ht r4 ws4 kp4 hfs4 _ => ?_⟩)
  · rcases h3 with ⟨h3, -⟩ | ⟨l, h3, -⟩ <;> cases h3
  · rcases h3 with ⟨h3, -⟩ | ⟨l, h3, -⟩ <;> cases h3
  rw [List.mem_singleton] at ht
  subst ht
  obtain ⟨c3, m3, p3, t3, u3, s3⟩ := hZ3 _ _ y3 z3
  obtain ⟨d3, n3, o3⟩ := zg_arg ha3 vYfeedC_s27
  have e3 : c3 = x3 := Int32.toInt_inj.mp (Option.some.inj (by
    have h1 := Value.int.inj (Option.some.inj (p3.symm.trans n3))
    rw [h1, ← o3]
    exact zx_ev_app b3))
  subst e3
  have y4 := zg_row_kp kp4 (by decide) u3
  have z4 := zg_fs_0 hfs4 (by decide) s3
  refine zg_call2n (Zv := zqZf zq_b 10 av ws0) (as := zg_cas vYm_feedC 90 vYputC vYfeedC_33) C vYfeedC_K (vYf_ok vYKc 1) hm vYputC_ok vYfeedC_K1 (List.mem_of_getElem? (i := 19) rfl) vYfeedC_k33 rfl KE (fun _ _ => trivial) (fun av2 ws4 _ kp4 hZ => ⟨fun o r5 ws5 tys5 v kp5 _ _ h3 _ => ?_, fun t ht => nomatch ht⟩) (fun av4 v4 wc4 ha4 kc4 hZ4 hv4 => ⟨fun o r5 ws5 tys5 v kp5 _ _ h3 _ => ?_, fun t ht r5 ws5 kp5 hfs5 _ => ?_⟩)
  · rcases h3 with ⟨h3, -⟩ | ⟨l, h3, -⟩ <;> cases h3
  · rcases h3 with ⟨h3, -⟩ | ⟨l, h3, -⟩ <;> cases h3
  rw [List.mem_singleton] at ht
  subst ht
  obtain ⟨c4, m4, p4, t4, u4, s4⟩ := hZ4 _ _ y4 z4
  obtain ⟨d4, n4, o4⟩ := zg_arg ha4 vYfeedC_s33
  have e4 : c4 = x4 := Int32.toInt_inj.mp (Option.some.inj (by
    have h1 := Value.int.inj (Option.some.inj (p4.symm.trans n4))
    rw [h1, ← o4]
    exact zx_ev_app b4))
  subst e4
  have y5 := zg_row_kp kp5 (by decide) u4
  have z5 := zg_fs_0 hfs5 (by decide) s4
  refine zg_call2n (Zv := zqZf zq_b 10 av ws0) (as := zg_cas vYm_feedC 90 vYputC vYfeedC_39) C vYfeedC_K (vYf_ok vYKc 1) hm vYputC_ok vYfeedC_K1 (List.mem_of_getElem? (i := 22) rfl) vYfeedC_k39 rfl KE (fun _ _ => trivial) (fun av2 ws4 _ kp4 hZ => ⟨fun o r5 ws5 tys5 v kp5 _ _ h3 _ => ?_, fun t ht => nomatch ht⟩) (fun av5 v5 wc5 ha5 kc5 hZ5 hv5 => ⟨fun o r5 ws5 tys5 v kp5 _ _ h3 _ => ?_, fun t ht => nomatch ht⟩)
  · rcases h3 with ⟨h3, -⟩ | ⟨l, h3, -⟩ <;> cases h3
  · rcases h3 with ⟨h3, -⟩ | ⟨l, h3, h4, -⟩
    · cases h3
    cases h3
    obtain ⟨c5, m5, p5, t5, u5, s5⟩ := hZ5 _ _ y5 z5
    obtain ⟨d5, n5, o5⟩ := zg_arg ha5 vYfeedC_s39
    have e5 : c5 = x5 := Int32.toInt_inj.mp (Option.some.inj (by
      have h1 := Value.int.inj (Option.some.inj (p5.symm.trans n5))
      rw [h1, ← o5]
      exact zx_ev_app b5))
    subst e5
    intro f t k1 k2
    have e7 := zg_row_u k1 r0
    have e8 := zg_fld_u k2 q0
    subst e7
    subst e8
    refine Or.inr ⟨by omega, _, _, _, _, _, m1, ⟨a1, a2, a3, a4, a5⟩, t1, ?_⟩
    have w2 : m2 = m1 + 4 := by omega
    have w3 : m3 = m1 + 8 := by omega
    have w4 : m4 = m1 + 12 := by omega
    have w5 : m5 = m1 + 16 := by omega
    subst w2
    subst w3
    subst w4
    subst w5
    exact zg_row_kp kp5 (by decide) u5
theorem vYfeedR_K : ∀ i ∈ vYfeedR.2.2.2.2.2.1, i ∈ vYKr := by decide +kernel
theorem vYfeedR_K1 : ∀ i ∈ vYfeedR.2.2.2.2.2.1, i ∈ vYputR.2.2.2.2.2.1 := by decide +kernel
theorem vYfeedR_a1 : vYfeedR.2.2.2.1[1]? = some (.inl ([(32, 1)], 0)) := by decide +kernel
theorem vYfeedR_a2 : vYfeedR.2.2.2.1[2]? = some (.inl ([(33, 1)], 0)) := by decide +kernel
theorem vYfeedR_a3 : vYfeedR.2.2.2.1[3]? = some (.inl ([(34, 1)], 0)) := by decide +kernel
theorem vYfeedR_a4 : vYfeedR.2.2.2.1[4]? = some (.inl ([(35, 1)], 0)) := by decide +kernel
theorem vYfeedR_a5 : vYfeedR.2.2.2.1[5]? = some (.inl ([(36, 1)], 0)) := by decide +kernel
set_option maxRecDepth 1000000 in
theorem vYfeedR_c0 : zg_rk vYKr (vYf vYKr) vYm_feedR vYfeedR.2.1.length vYfeedR.2.2.2.2.1 (some ([(2, (0, 0))], fun o => zg_fb o.1 o.2.1 2 321 400), false) [(22, vYfeedR_22, [(2, (0, 0))], [])] 0 vYs_feedR = true := by decide +kernel
set_option maxRecDepth 1000000 in
theorem vYfeedR_b : zg_fb vYfeedR_22.1 vYfeedR_22.2.1 2 0 320 = true := by decide +kernel
set_option maxRecDepth 1000000 in
theorem vYfeedR_k22 : zg_ca2n vYKr (vYf vYKr) vYm_feedR vYfeedR.2.1.length vYfeedR.2.2.2.2.1 (none, false) [] (none, false) [(27, vYfeedR_27, [(2, (0, 0))], [])] 22 232 vYputR vYfeedR_22 = true := by decide +kernel
set_option maxRecDepth 1000000 in
theorem vYfeedR_s22 : (zg_cas vYm_feedR 232 vYputR vYfeedR_22)[1]? = some (.inl ([(32, 1)], 0)) := by decide +kernel
set_option maxRecDepth 1000000 in
theorem vYfeedR_k27 : zg_ca2n vYKr (vYf vYKr) vYm_feedR vYfeedR.2.1.length vYfeedR.2.2.2.2.1 (none, false) [] (none, false) [(32, vYfeedR_32, [(2, (0, 0))], [])] 27 232 vYputR vYfeedR_27 = true := by decide +kernel
set_option maxRecDepth 1000000 in
theorem vYfeedR_s27 : (zg_cas vYm_feedR 232 vYputR vYfeedR_27)[1]? = some (.inl ([(33, 1)], 0)) := by decide +kernel
set_option maxRecDepth 1000000 in
theorem vYfeedR_k32 : zg_ca2n vYKr (vYf vYKr) vYm_feedR vYfeedR.2.1.length vYfeedR.2.2.2.2.1 (none, false) [] (none, false) [(38, vYfeedR_38, [(2, (0, 0))], [])] 32 232 vYputR vYfeedR_32 = true := by decide +kernel
set_option maxRecDepth 1000000 in
theorem vYfeedR_s32 : (zg_cas vYm_feedR 232 vYputR vYfeedR_32)[1]? = some (.inl ([(34, 1)], 0)) := by decide +kernel
set_option maxRecDepth 1000000 in
theorem vYfeedR_k38 : zg_ca2n vYKr (vYf vYKr) vYm_feedR vYfeedR.2.1.length vYfeedR.2.2.2.2.1 (none, false) [] (none, false) [(44, vYfeedR_44, [(2, (0, 0))], [])] 38 232 vYputR vYfeedR_38 = true := by decide +kernel
set_option maxRecDepth 1000000 in
theorem vYfeedR_s38 : (zg_cas vYm_feedR 232 vYputR vYfeedR_38)[1]? = some (.inl ([(35, 1)], 0)) := by decide +kernel
set_option maxRecDepth 1000000 in
theorem vYfeedR_k44 : zg_ca2n vYKr (vYf vYKr) vYm_feedR vYfeedR.2.1.length vYfeedR.2.2.2.2.1 (none, false) [] (some ([(2, (0, 0))], fun _ => true), false) [] 44 232 vYputR vYfeedR_44 = true := by decide +kernel
set_option maxRecDepth 1000000 in
theorem vYfeedR_s44 : (zg_cas vYm_feedR 232 vYputR vYfeedR_44)[1]? = some (.inl ([(36, 1)], 0)) := by decide +kernel
set_option maxRecDepth 100000 in
theorem vYfeedR_ok {l : Launch} : zg_EN l 10 vYfeedR (fun _ _ => True) (zqZf zq_r 2) := by
  refine zg_enter (d := 9) (Kr := vYKr) (md := vYm_feedR) vYm_feedR_ok (by decide +kernel) ?_
  intro p e R s mi args below meth c Q D A b ex nL own cc ρe tys ws0 av hX hG hh ha C KE
  have hm : ρe.length = vYfeedR.2.1.length := hG.1
  obtain ⟨x1, a1, b1⟩ := zg_arg ha vYfeedR_a1
  obtain ⟨x2, a2, b2⟩ := zg_arg ha vYfeedR_a2
  obtain ⟨x3, a3, b3⟩ := zg_arg ha vYfeedR_a3
  obtain ⟨x4, a4, b4⟩ := zg_arg ha vYfeedR_a4
  obtain ⟨x5, a5, b5⟩ := zg_arg ha vYfeedR_a5
  obtain ⟨f0, r0⟩ := zg_row_of hh (i := 1) rfl (by decide)
  obtain ⟨t0, q0, -⟩ := zg_fb_ok (q := 2) (lo := -5000) (hi := 5000) hG hh (by decide +kernel)
  refine zg_run0 (Zv := zqZf zq_r 2 av ws0) C vYfeedR_K (vYf_ok vYKr 1) hm vYfeedR_c0 KE (fun o r' ws' tys v kp hGo hho h3 _ => ?_) (fun t ht r1 ws1 kp1 hfs1 _ => ?_)
  · rcases h3 with ⟨h3, -⟩ | ⟨l, h3, h4, h5⟩
    · cases h3
    cases h3
    intro f t k1 k2
    have e5 := zg_row_u k1 r0
    have e6 := zg_fld_u k2 q0
    subst e5
    subst e6
    obtain ⟨w, w1, w2, w3⟩ := zg_fb_ok hGo hho h5
    have w4 := zg_fld_u w1 (zg_fs_0 h4 (by decide) k2)
    exact Or.inl ⟨by omega, zg_row_kp kp (by decide) k1⟩
  rw [List.mem_singleton] at ht
  subst ht
  have y1 := zg_row_kp kp1 (by decide) r0
  have z1 := zg_fs_0 hfs1 (by decide) q0
  refine zg_with (fun tys1 hG1 hh1 => ?_)
  obtain ⟨w, w1, w2, w3⟩ := zg_fb_ok hG1 hh1 vYfeedR_b
  have w4 := zg_fld_u w1 z1
  subst w4
  refine zg_call2n (Zv := zqZf zq_r 2 av ws0) (as := zg_cas vYm_feedR 232 vYputR vYfeedR_22) C vYfeedR_K (vYf_ok vYKr 1) hm vYputR_ok vYfeedR_K1 (List.mem_of_getElem? (i := 13) rfl) vYfeedR_k22 rfl KE (fun _ _ => trivial) (fun av2 ws4 _ kp4 hZ => ⟨fun o r5 ws5 tys5 v kp5 _ _ h3 _ => ?_, fun t ht => nomatch ht⟩) (fun av1 v1 wc1 ha1 kc1 hZ1 hv1 => ⟨fun o r5 ws5 tys5 v kp5 _ _ h3 _ => ?_, fun t ht r2 ws2 kp2 hfs2 _ => ?_⟩)
  · rcases h3 with ⟨h3, -⟩ | ⟨l, h3, -⟩ <;> cases h3
  · rcases h3 with ⟨h3, -⟩ | ⟨l, h3, -⟩ <;> cases h3
  rw [List.mem_singleton] at ht
  subst ht
  obtain ⟨c1, m1, p1, t1, u1, s1⟩ := hZ1 _ _ y1 z1
  obtain ⟨d1, n1, o1⟩ := zg_arg ha1 vYfeedR_s22
  have e1 : c1 = x1 := Int32.toInt_inj.mp (Option.some.inj (by
    have h1 := Value.int.inj (Option.some.inj (p1.symm.trans n1))
    rw [h1, ← o1]
    exact zx_ev_app b1))
  subst e1
  have y2 := zg_row_kp kp2 (by decide) u1
  have z2 := zg_fs_0 hfs2 (by decide) s1
  refine zg_call2n (Zv := zqZf zq_r 2 av ws0) (as := zg_cas vYm_feedR 232 vYputR vYfeedR_27) C vYfeedR_K (vYf_ok vYKr 1) hm vYputR_ok vYfeedR_K1 (List.mem_of_getElem? (i := 16) rfl) vYfeedR_k27 rfl KE (fun _ _ => trivial) (fun av2 ws4 _ kp4 hZ => ⟨fun o r5 ws5 tys5 v kp5 _ _ h3 _ => ?_, fun t ht => nomatch ht⟩) (fun av2 v2 wc2 ha2 kc2 hZ2 hv2 => ⟨fun o r5 ws5 tys5 v kp5 _ _ h3 _ => ?_, fun t ht r3 ws3 kp3 hfs3 _ => ?_⟩)
  · rcases h3 with ⟨h3, -⟩ | ⟨l, h3, -⟩ <;> cases h3
  · rcases h3 with ⟨h3, -⟩ | ⟨l, h3, -⟩ <;> cases h3
  rw [List.mem_singleton] at ht
  subst ht
  obtain ⟨c2, m2, p2, t2, u2, s2⟩ := hZ2 _ _ y2 z2
  obtain ⟨d2, n2, o2⟩ := zg_arg ha2 vYfeedR_s27
  have e2 : c2 = x2 := Int32.toInt_inj.mp (Option.some.inj (by
    have h1 := Value.int.inj (Option.some.inj (p2.symm.trans n2))
    rw [h1, ← o2]
    exact zx_ev_app b2))
  subst e2
  have y3 := zg_row_kp kp3 (by decide) u2
  have z3 := zg_fs_0 hfs3 (by decide) s2
  refine zg_call2n (Zv := zqZf zq_r 2 av ws0) (as := zg_cas vYm_feedR 232 vYputR vYfeedR_32) C vYfeedR_K (vYf_ok vYKr 1) hm vYputR_ok vYfeedR_K1 (List.mem_of_getElem? (i := 19) rfl) vYfeedR_k32 rfl KE (fun _ _ => trivial) (fun av2 ws4 _ kp4 hZ => ⟨fun o r5 ws5 tys5 v kp5 _ _ h3 _ => ?_, fun t ht => nomatch ht⟩) (fun av3 v3 wc3 ha3 kc3 hZ3 hv3 => ⟨fun o r5 ws5 tys5 v kp5 _ _ h3 _ => ?_, fun t ht r4 ws4 kp4 hfs4 _ => ?_⟩)
  · rcases h3 with ⟨h3, -⟩ | ⟨l, h3, -⟩ <;> cases h3
  · rcases h3 with ⟨h3, -⟩ | ⟨l, h3, -⟩ <;> cases h3
  rw [List.mem_singleton] at ht
  subst ht
  obtain ⟨c3, m3, p3, t3, u3, s3⟩ := hZ3 _ _ y3 z3
  obtain ⟨d3, n3, o3⟩ := zg_arg ha3 vYfeedR_s32
  have e3 : c3 = x3 := Int32.toInt_inj.mp (Option.some.inj (by
    have h1 := Value.int.inj (Option.some.inj (p3.symm.trans n3))
    rw [h1, ← o3]
    exact zx_ev_app b3))
  subst e3
  have y4 := zg_row_kp kp4 (by decide) u3
  have z4 := zg_fs_0 hfs4 (by decide) s3
  refine zg_call2n (Zv := zqZf zq_r 2 av ws0) (as := zg_cas vYm_feedR 232 vYputR vYfeedR_38) C vYfeedR_K (vYf_ok vYKr 1) hm vYputR_ok vYfeedR_K1 (List.mem_of_getElem? (i := 22) rfl) vYfeedR_k38 rfl KE (fun _ _ => trivial) (fun av2 ws4 _ kp4 hZ => ⟨fun o r5 ws5 tys5 v kp5 _ _ h3 _ => ?_, fun t ht => nomatch ht⟩) (fun av4 v4 wc4 ha4 kc4 hZ4 hv4 => ⟨fun o r5 ws5 tys5 v kp5 _ _ h3 _ => ?_, fun t ht r5 ws5 kp5 hfs5 _ => ?_⟩)
  · rcases h3 with ⟨h3, -⟩ | ⟨l, h3, -⟩ <;> cases h3
  · rcases h3 with ⟨h3, -⟩ | ⟨l, h3, -⟩ <;> cases h3
  rw [List.mem_singleton] at ht
  subst ht
  obtain ⟨c4, m4, p4, t4, u4, s4⟩ := hZ4 _ _ y4 z4
  obtain ⟨d4, n4, o4⟩ := zg_arg ha4 vYfeedR_s38
  have e4 : c4 = x4 := Int32.toInt_inj.mp (Option.some.inj (by
    have h1 := Value.int.inj (Option.some.inj (p4.symm.trans n4))
    rw [h1, ← o4]
    exact zx_ev_app b4))
  subst e4
  have y5 := zg_row_kp kp5 (by decide) u4
  have z5 := zg_fs_0 hfs5 (by decide) s4
  refine zg_call2n (Zv := zqZf zq_r 2 av ws0) (as := zg_cas vYm_feedR 232 vYputR vYfeedR_44) C vYfeedR_K (vYf_ok vYKr 1) hm vYputR_ok vYfeedR_K1 (List.mem_of_getElem? (i := 25) rfl) vYfeedR_k44 rfl KE (fun _ _ => trivial) (fun av2 ws4 _ kp4 hZ => ⟨fun o r5 ws5 tys5 v kp5 _ _ h3 _ => ?_, fun t ht => nomatch ht⟩) (fun av5 v5 wc5 ha5 kc5 hZ5 hv5 => ⟨fun o r5 ws5 tys5 v kp5 _ _ h3 _ => ?_, fun t ht => nomatch ht⟩)
  · rcases h3 with ⟨h3, -⟩ | ⟨l, h3, -⟩ <;> cases h3
  · rcases h3 with ⟨h3, -⟩ | ⟨l, h3, h4, -⟩
    · cases h3
    cases h3
    obtain ⟨c5, m5, p5, t5, u5, s5⟩ := hZ5 _ _ y5 z5
    obtain ⟨d5, n5, o5⟩ := zg_arg ha5 vYfeedR_s44
    have e5 : c5 = x5 := Int32.toInt_inj.mp (Option.some.inj (by
      have h1 := Value.int.inj (Option.some.inj (p5.symm.trans n5))
      rw [h1, ← o5]
      exact zx_ev_app b5))
    subst e5
    intro f t k1 k2
    have e7 := zg_row_u k1 r0
    have e8 := zg_fld_u k2 q0
    subst e7
    subst e8
    refine Or.inr ⟨by omega, _, _, _, _, _, m1, ⟨a1, a2, a3, a4, a5⟩, t1, ?_⟩
    have w2 : m2 = m1 + 4 := by omega
    have w3 : m3 = m1 + 8 := by omega
    have w4 : m4 = m1 + 12 := by omega
    have w5 : m5 = m1 + 16 := by omega
    subst w2
    subst w3
    subst w4
    subst w5
    exact zg_row_kp kp5 (by decide) u5
end
