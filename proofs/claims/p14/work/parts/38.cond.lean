noncomputable section
/-! zg: cond of the reference -/
def zgZc (F : Nat) (g : Nat → Int32) (av : List Value) (ws : va_W) (v : Option Value) (ws' : va_W) : Prop := (v ≠ some (.int 0) → (∃ (sm : Nat) (fS : Nat → Int32) (d : Int), zg_fld ws' 37 sm ∧ F ≤ sm ∧ zg_row ws' 24 fS ∧ zx_dp fS (2000 + F) (sm - F) = some d) ∧ ∀ x, zg_fld ws 4 x → zgA 4 x ws') ∧ zgW F g ws'
theorem vGcond_K1 : ∀ i ∈ vGcond.2.2.2.2.2.1, i ∈ vGone.2.2.2.2.2.1 := by decide +kernel
theorem vGcond_K2 : ∀ i ∈ vGcond.2.2.2.2.2.1, i ∈ vGiso.2.2.2.2.2.1 := by decide +kernel
theorem vGcond_K3 : ∀ i ∈ vGcond.2.2.2.2.2.1, i ∈ vGwd1.2.2.2.2.2.1 := by decide +kernel
theorem vGcond_K4 : ∀ i ∈ vGcond.2.2.2.2.2.1, i ∈ vGwd2.2.2.2.2.2.1 := by decide +kernel
theorem vGcond_K5 : ∀ i ∈ vGcond.2.2.2.2.2.1, i ∈ vGwd3.2.2.2.2.2.1 := by decide +kernel
theorem vGcond_K : ∀ i ∈ vGcond.2.2.2.2.2.1, i ∈ vGK := by decide +kernel
set_option maxRecDepth 1000000 in
theorem vGcond_c0 : zg_rk vGK vGf vGm_cond vGcond.2.1.length vGcond.2.2.2.2.1 (none, false) [(6, vGcond_6, [(37, (0, 0)), (39, (0, 0)), (4, (0, 0))], [(([(35, 1)], 0), ([], 0), (0, 0))])] 0 vGs_cond = true := by decide +kernel
set_option maxRecDepth 1000000 in
theorem vGcond_f6 : zg_fe vGcond_6.2.1 38 = some ([(35, 1)], 0) := by decide +kernel
set_option maxRecDepth 1000000 in
theorem vGcond_k6 : zg_ca2n vGK vGf vGm_cond vGcond.2.1.length vGcond.2.2.2.2.1 (none, true) [] (none, false) [(14, vGcond_14, [(37, (0, 0)), (38, (0, 0)), (39, (0, 0)), (4, (0, 0))], [])] 6 392 vGone vGcond_6 = true := by decide +kernel
def vGcond_nd : List zg_Nd := [(24, vGcond_24, [(37, (0, 0)), (38, (0, 0)), (39, (0, 0)), (4, (0, 0))], []), (80, vGcond_80, [(37, (0, 0)), (38, (0, 0)), (39, (0, 0)), (4, (0, 0))], []), (109, vGcond_109, [(37, (0, 0)), (38, (0, 0)), (39, (0, 0)), (4, (0, 0))], [])]
set_option maxRecDepth 1000000 in
theorem vGcond_c14 : zg_rk vGK vGf vGm_cond vGcond.2.1.length vGcond.2.2.2.2.1 (none, false) vGcond_nd 14 vGcond_14 = true := by decide +kernel
def vGcond_nd2 : List zg_Nd := [(80, vGcond_80, [(37, (0, 0)), (38, (0, 0)), (39, (0, 0)), (4, (0, 0))], []), (109, vGcond_109, [(37, (0, 0)), (38, (0, 0)), (39, (0, 0)), (4, (0, 0))], [])]
set_option maxRecDepth 1000000 in
theorem vGcond_k24 : zg_ca2n vGK vGf vGm_cond vGcond.2.1.length vGcond.2.2.2.2.1 (none, false) vGcond_nd2 (none, false) [(32, vGcond_32, [(37, (0, 0)), (38, (0, 0)), (39, (0, 0)), (4, (0, 0))], [])] 24 395 vGiso vGcond_24 = true := by decide +kernel
set_option maxRecDepth 1000000 in
theorem vGcond_k80 : zg_ca2n vGK vGf vGm_cond vGcond.2.1.length vGcond.2.2.2.2.1 (none, false) [(94, vGcond_94, [(37, (0, 0)), (38, (0, 0)), (39, (0, 0)), (4, (0, 0))], [])] (none, true) [] 80 395 vGiso vGcond_80 = true := by decide +kernel
set_option maxRecDepth 1000000 in
theorem vGcond_k32 : zg_ctn vGm_cond vGcond.2.1.length 398 vGwd1 vGcond_32 vGcond_35l = true := by decide +kernel
set_option maxRecDepth 1000000 in
theorem vGcond_c35 : zg_rk vGK vGf vGm_cond vGcond.2.1.length vGcond.2.2.2.2.1 (none, false) [(47, vGcond_47, [(37, (0, 0)), (38, (-1, -1)), (39, (0, 0)), (4, (0, 0))], [])] 35 vGcond_35 = true := by decide +kernel
theorem vGcond_t35 : zg_tg vGcond_35l 38 1 = some vGcond_35 := rfl
set_option maxRecDepth 1000000 in
theorem vGcond_k47 : zg_ca2n vGK vGf vGm_cond vGcond.2.1.length vGcond.2.2.2.2.1 (none, false) [] (none, false) [(14, vGcond_14, [(37, (0, 0)), (38, (0, 0)), (39, (0, 0)), (4, (0, 340))], [])] 47 398 vGwd3 vGcond_47 = true := by decide +kernel
set_option maxRecDepth 1000000 in
theorem vGcond_k94 : zg_ca2n vGK vGf vGm_cond vGcond.2.1.length vGcond.2.2.2.2.1 (none, false) [] (some ([(37, (0, 0)), (38, (0, 0)), (39, (0, 0)), (4, (0, 0))], fun _ => true), false) [] 94 398 vGwd1 vGcond_94 = true := by decide +kernel
set_option maxRecDepth 1000000 in
theorem vGcond_k109 : zg_ca2n vGK vGf vGm_cond vGcond.2.1.length vGcond.2.2.2.2.1 (none, false) [] (none, false) [(131, vGcond_131, [(37, (0, 0)), (38, (0, 0)), (39, (0, 0)), (4, (0, 0))], [])] 109 398 vGwd2 vGcond_109 = true := by decide +kernel
set_option maxRecDepth 1000000 in
theorem vGcond_s : zg_sk vGcond.2.2.2.2.2.1 vGcond_131 27 64 = true := by decide +kernel
set_option maxRecDepth 1000000 in
theorem vGcond_x : zg_xf vGcond_131.1 vGcond_131.2.1 (zg_sE vGcond.2.2.2.2.2.1 vGcond_131) 38 0 = true := by decide +kernel
set_option maxRecDepth 1000000 in
theorem vGcond_v : zg_xb vGcond_131.1 (zg_sV vGcond.2.2.2.2.2.1 vGcond_131) 21 22 = true := by decide +kernel
set_option maxRecDepth 1000000 in
theorem vGcond_r : zg_rk vGK vGf vGm_cond vGcond.2.1.length vGcond.2.2.2.2.1 (none, false) [(6, vGcond_6, [(37, (0, 0)), (38, (1, 1)), (39, (0, 0)), (4, (0, 340))], [])] 132 (zg_sT vGcond.2.2.2.2.2.1 vGcond_131) = true := by decide +kernel
set_option maxRecDepth 1000000 in
theorem vGcond_b : zg_fb vGcond_14.1 vGcond_14.2.1 39 0 40 = true := by decide +kernel
theorem zgA_up {q : Nat} {y d : Int} {ws ws' : va_W} (h : zgA q y ws) (hf : ∀ x, zg_fld ws q x → zgA q (x + d) ws') : zgA q (y + d) ws' := by
  obtain ⟨x, h1, h2⟩ := h
  obtain ⟨z, h3, h4⟩ := hf x h1
  exact ⟨z, h3, by omega⟩
theorem zgA_eq {q : Nat} {y : Int} {ws ws' : va_W} (h : zgA q y ws) (hf : ∀ x, zg_fld ws q x → zg_fld ws' q x) : zgA q y ws' := by
  obtain ⟨x, h1, h2⟩ := h
  exact ⟨x, hf x h1, h2⟩
theorem zgA_tr {q : Nat} {y : Int} {ws ws' : va_W} (h : zgA q y ws) (hf : ∀ x, zg_fld ws q x → zgA q x ws') : zgA q y ws' := by
  obtain ⟨x, h1, h2⟩ := h
  obtain ⟨z, h3, h4⟩ := hf x h1
  exact ⟨z, h3, by omega⟩
theorem zgJ_eq {F : Nat} {g : Nat → Int32} {e : Int} {ws ws' : va_W} (h : zgJ F g e ws) (kp : zx_KP (ws, vGK) ws') (h1 : ∀ x, zg_fld ws 37 x → zg_fld ws' 37 x) (h2 : ∀ x, zg_fld ws 38 x → zg_fld ws' 38 x) : zgJ F g e ws' := by
  obtain ⟨fS, fP, sm, pm, k1, k2, k3, k4, k5⟩ := h
  exact ⟨fS, fP, sm, pm, zg_row_kp kp (by decide +kernel) k1, zg_row_kp kp (by decide +kernel) k2, h1 _ k3, h2 _ k4, k5⟩
theorem zgJ_end {F : Nat} {g : Nat → Int32} {e : Int} {ws : va_W} (h : zgJ F g e ws) : ∃ (sm : Nat) (fS : Nat → Int32) (d : Int), zg_fld ws 37 sm ∧ F ≤ sm ∧ zg_row ws 24 fS ∧ zx_dp fS (2000 + F) (sm - F) = some d := by
  obtain ⟨fS, fP, sm, pm, k1, k2, k3, k4, A, m, n, h1, h2, h3, h4, h5, h6⟩ := h
  subst h1
  exact ⟨m, fS, _, k3, h3, k1, h5⟩
theorem vGiso_vK : ∀ i ∈ vGK, i ∈ vGiso.2.2.2.2.2.1 := by decide +kernel
def zgXc (F : Nat) (g : Nat → Int32) (ws : va_W) : Prop := ∃ fS : Nat → Int32, zg_row ws 24 fS ∧ (∀ i, i < 2000 + F → fS i = g i) ∧ zg_fld ws 37 F
theorem vGiso_kk : ∀ i ∈ [24, 27], i ∈ vGiso.2.2.2.2.2.1 := by decide +kernel
theorem vGwd_kk : ∀ i ∈ [27], i ∈ vGwd1.2.2.2.2.2.1 := by decide +kernel
theorem vGwd_kk3 : ∀ i ∈ [27], i ∈ vGwd3.2.2.2.2.2.1 := by decide +kernel
theorem vGwd_kk2 : ∀ i ∈ [27], i ∈ vGwd2.2.2.2.2.2.1 := by decide +kernel
set_option maxRecDepth 100000 in
theorem vGcond_ok {l : Launch} (F : Nat) (g : Nat → Int32) : zg_EN l 33 vGcond (fun _ ws => zgXc F g ws) (zgZc F g) := by
  refine zg_enter (d := 32) (Kr := vGK) (md := vGm_cond) vGm_cond_ok (by decide +kernel) ?_
  intro p e R s mi args below meth c Q D A b ex nL own cc ρe tys ws0 av hX hG hh ha C KE
  have hm : ρe.length = vGcond.2.1.length := hG.1
  obtain ⟨fS0, x1, x2, x3⟩ := hX
  obtain ⟨p0, xp, -⟩ := zg_fb_ok (q := 4) (lo := -5000) (hi := 5000) hG hh (by decide +kernel)
  have n94 : ∀ (r : List Int) (ws : va_W), zgJ F g 1 ws → zgA 4 p0 ws → zg_go p l e R s mi args below meth c Q D A b ex (ws0, vGcond.2.2.2.2.2.1) nL 94 vGcond_94 (ρe ++ r) ws := by
    intro r ws y1 y2
    refine zg_call2n (Zv := zgZc F g av ws0) C vGcond_K (vGf_ok 24 (by decide)) hm (zg_EN_mono (vGwd1_ok F g) (by decide)) vGcond_K3 (List.mem_of_getElem? (i := 49) rfl) vGcond_k94 rfl KE (fun _ _ => y1) (fun av2 ws2 _ _ _ => ⟨fun o r2 ws3 tys3 v kp3 _ _ h3 _ => ?_, fun t ht => nomatch ht⟩) (fun av2 v2 ws2 ha2 kp2 hZ hv2 => ⟨fun o r2 ws3 tys3 v kp3 _ _ h3 _ => ?_, fun t ht => nomatch ht⟩)
    · rcases h3 with ⟨h3, -⟩ | ⟨l, h3, -⟩
      · cases h3
      · cases h3
    · rcases h3 with ⟨h3, -⟩ | ⟨l, h3, h4, -⟩
      · cases h3
      cases h3
      obtain ⟨j1, j2, j3⟩ := hZ
      have j4 := zgJ_kp j1 kp3 h4 (by decide) (by decide)
      have j5 := zgA_0 (zgA_eq y2 (j3 4 (by decide))) h4 (hi := 0) (by decide)
      refine ⟨fun _ => ⟨zgJ_end j4, fun x hx => ?_⟩, zgJ_W j4⟩
      rw [zg_fld_u hx xp]
      exact j5
  have n80 : ∀ (r : List Int) (ws : va_W), zgJ F g 1 ws → zgA 4 p0 ws → zg_go p l e R s mi args below meth c Q D A b ex (ws0, vGcond.2.2.2.2.2.1) nL 80 vGcond_80 (ρe ++ r) ws := by
    intro r ws y1 y2
    refine zg_call2n (Zv := zgZc F g av ws0) C vGcond_K (vGf_ok 24 (by decide)) hm (zg_EN_mono vGiso_ok (by decide)) vGcond_K2 (List.mem_of_getElem? (i := 41) rfl) vGcond_k80 rfl KE (fun _ _ => trivial) (fun av2 ws2 _ kp2 hZ => ⟨fun o r2 ws3 tys3 v kp3 _ _ h3 _ => ?_, fun t ht r3 ws3 kp3 hfs3 _ => ?_⟩) (fun av2 v2 ws2 ha2 kp2 hZ hv2 => ⟨fun o r2 ws3 tys3 v kp3 _ _ h3 _ => ?_, fun t ht => nomatch ht⟩)
    · rcases h3 with ⟨h3, -⟩ | ⟨l, h3, -⟩
      · cases h3
      · cases h3
    · rw [List.mem_singleton] at ht
      subst ht
      have j1 := zgJ_eq y1 ⟨kp2.1, fun i hi => kp2.2 i (vGiso_vK i hi)⟩ (hZ.2 37 (by decide)) (hZ.2 38 (by decide))
      have j2 := zgA_eq y2 (hZ.2 4 (by decide))
      exact n94 r3 ws3 (zgJ_kp j1 kp3 hfs3 (by decide) (by decide)) (zgA_0 j2 hfs3 (hi := 0) (by decide))
    · rcases h3 with ⟨-, h3⟩ | ⟨l, h3, -⟩
      · have j1 := zgJ_eq y1 ⟨kp2.1, fun i hi => kp2.2 i (vGiso_vK i hi)⟩ (hZ.2 37 (by decide)) (hZ.2 38 (by decide))
        exact ⟨fun h0 => absurd h3 h0, zgW_kp (zgJ_W j1) kp3⟩
      · cases h3
  have loop : ∀ (N : Nat) (r : List Int) (ws : va_W) (y : Int), zgJ F g 0 ws → zgA 39 y ws → zgA 4 p0 ws → (41 - y).toNat ≤ N → zg_go p l e R s mi args below meth c Q D A b ex (ws0, vGcond.2.2.2.2.2.1) nL 6 vGcond_6 (ρe ++ r) ws := by
    intro N
    induction N using Nat.strongRecOn with
    | ind N ih =>
    intro r ws y y1 y2 y3 hN
    have n109 : ∀ (r : List Int) (ws : va_W), zgJ F g 1 ws → zgA 39 (y + 1) ws → zgA 4 p0 ws → y + 1 ≤ 40 → zg_go p l e R s mi args below meth c Q D A b ex (ws0, vGcond.2.2.2.2.2.1) nL 109 vGcond_109 (ρe ++ r) ws := by
      intro r ws y1 y2 y3 y4
      refine zg_call2n (Zv := zgZc F g av ws0) C vGcond_K (vGf_ok 24 (by decide)) hm (zg_EN_mono (vGwd2_ok F g) (by decide)) vGcond_K4 (List.mem_of_getElem? (i := 58) rfl) vGcond_k109 rfl KE (fun _ _ => y1) (fun av2 ws2 _ _ _ => ⟨fun o r2 ws3 tys3 v kp3 _ _ h3 _ => ?_, fun t ht => nomatch ht⟩) (fun av2 v2 ws2 ha2 kp2 hZ hv2 => ⟨fun o r2 ws3 tys3 v kp3 _ _ h3 _ => ?_, fun t ht r3 ws3 kp3 hfs3 _ => ?_⟩)
      · rcases h3 with ⟨h3, -⟩ | ⟨l, h3, -⟩
        · cases h3
        · cases h3
      · rcases h3 with ⟨h3, -⟩ | ⟨l, h3, -⟩
        · cases h3
        · cases h3
      · rw [List.mem_singleton] at ht
        subst ht
        obtain ⟨j1, j2, j3⟩ := hZ
        have j4 := zgJ_kp j1 kp3 hfs3 (by decide) (by decide)
        have j5 := zgA_0 (zgA_eq y2 (j3 39 (by decide))) hfs3 (hi := 0) (by decide)
        have j6 := zgA_0 (zgA_eq y3 (j3 4 (by decide))) hfs3 (hi := 0) (by decide)
        obtain ⟨fS, fP, sm, pm, k1, k2, k3, k4, k5⟩ := j4
        refine zg_with (fun tys1 hG1 hh1 => ?_)
        refine zg_store2 C (i := 27) (n := 64) (List.mem_of_getElem? (i := 68) rfl) vGcond_s (by decide) (fun f w v' ws4 g1 g2 g3 g4 g5 g6 g7 => ?_)
        have e1 := zg_row_u g1 k2
        subst e1
        have hw := zg_xf_ok hG1 hh1 vGcond_x k4 g2
        have hv := zg_xb_ok hG1 vGcond_v g4
        refine zg_run2 (Zv := zgZc F g av ws0) C vGcond_K (vGf_ok 24 (by decide)) hm vGcond_r KE (fun o r5 ws5 tys5 v kp5 _ _ h5 _ => ?_) (fun t ht r5 ws5 kp5 hfs5 _ => ?_)
        · rcases h5 with ⟨h5, -⟩ | ⟨l, h5, -⟩
          · cases h5
          · cases h5
        · rw [List.mem_singleton] at ht
          subst ht
          have hI := zg_I_push (n := w) (v := v') (e' := 0) k5 (by omega) (Or.inl ⟨by omega, rfl⟩)
          exact ih (41 - (y + 1)).toNat (by omega) r5 ws5 (y + 1) ⟨fS, _, sm, pm + 1, zg_row_kp kp5 (by decide +kernel) (g6 24 _ (by decide) k1), zg_row_kp kp5 (by decide +kernel) g5, zg_fs_0 hfs5 (by decide) (g7 _ _ k3), zg_fs_eq hfs5 (by decide) (g7 _ _ k4), hI⟩ (zgA_0 (zgA_eq j5 (g7 39)) hfs5 (hi := 0) (by decide)) (zgA_0 (zgA_eq j6 (g7 4)) hfs5 (hi := 340) (by decide)) (Nat.le_refl _)
    have n14 : ∀ (M : Nat) (r : List Int) (ws : va_W) (fS fP : Nat → Int32) (sm pm : Int), zg_row ws 24 fS → zg_row ws 27 fP → zg_fld ws 37 sm → zg_fld ws 38 pm → zg_I F g 1 sm pm fS fP → zgA 39 (y + 1) ws → zgA 4 p0 ws → pm.toNat ≤ M → zg_go p l e R s mi args below meth c Q D A b ex (ws0, vGcond.2.2.2.2.2.1) nL 14 vGcond_14 (ρe ++ r) ws := by
      intro M
      induction M using Nat.strongRecOn with
      | ind M ih2 =>
      intro r ws fS fP sm pm y1 y2 y3 y4 y5 y6 y7 hM
      refine zg_with (fun tys1 hG1 hh1 => ?_)
      have hy : y + 1 ≤ 40 := by
        obtain ⟨u, u1, u2, u3⟩ := zg_fb_ok hG1 hh1 vGcond_b
        obtain ⟨z, z1, z2⟩ := y6
        have e := zg_fld_u u1 z1
        omega
      refine zg_run2 (Zv := zgZc F g av ws0) C vGcond_K (vGf_ok 24 (by decide)) hm vGcond_c14 KE (fun o r2 ws3 tys3 v kp3 _ _ h3 _ => ?_) (fun t ht r1 ws1 kp1 hfs1 _ => ?_)
      · rcases h3 with ⟨h3, -⟩ | ⟨l, h3, -⟩
        · cases h3
        · cases h3
      have z1 := zg_row_kp kp1 (by decide +kernel) y1
      have z2 := zg_row_kp kp1 (by decide +kernel) y2
      have hJ1 : zgJ F g 1 ws := ⟨fS, fP, sm, pm, y1, y2, y3, y4, y5⟩
      unfold vGcond_nd at ht
      simp only [List.mem_cons, List.not_mem_nil, or_false] at ht
      rcases ht with ht | ht | ht
      · subst ht
        have z3 := zg_fs_0 hfs1 (by decide) y3
        have z4 := zg_fs_0 hfs1 (by decide) y4
        have z6 := zgA_0 y6 hfs1 (hi := 0) (by decide)
        have z7 := zgA_0 y7 hfs1 (hi := 0) (by decide)
        refine zg_call2n (Zv := zgZc F g av ws0) C vGcond_K (vGf_ok 24 (by decide)) hm (zg_EN_mono vGiso_ok (by decide)) vGcond_K2 (List.mem_of_getElem? (i := 13) rfl) vGcond_k24 rfl KE (fun _ _ => trivial) (fun av2 ws2 _ kp2 hZ => ⟨fun o r2 ws3 tys3 v kp3 _ _ h3 _ => ?_, fun t ht r3 ws3 kp3 hfs3 _ => ?_⟩) (fun av2 v2 ws2 ha2 kp2 hZ hv2 => ⟨fun o r2 ws3 tys3 v kp3 _ _ h3 _ => ?_, fun t ht r3 ws3 kp3 hfs3 _ => ?_⟩)
        · rcases h3 with ⟨h3, -⟩ | ⟨l, h3, -⟩
          · cases h3
          · cases h3
        · have a1 := zg_row_kp kp2 (vGiso_kk 24 (by decide)) z1
          have a2 := zg_row_kp kp2 (vGiso_kk 27 (by decide)) z2
          have a3 := hZ.2 37 (by decide) _ z3
          have a4 := hZ.2 38 (by decide) _ z4
          have hJ : zgJ F g 1 ws2 := ⟨fS, fP, sm, pm, a1, a2, a3, a4, y5⟩
          have a6 := zgA_eq z6 (hZ.2 39 (by decide))
          have a7 := zgA_eq z7 (hZ.2 4 (by decide))
          unfold vGcond_nd2 at ht
          simp only [List.mem_cons, List.not_mem_nil, or_false] at ht
          rcases ht with ht | ht
          · subst ht
            exact n80 r3 ws3 (zgJ_kp hJ kp3 hfs3 (by decide) (by decide)) (zgA_0 a7 hfs3 (hi := 0) (by decide))
          · subst ht
            exact n109 r3 ws3 (zgJ_kp hJ kp3 hfs3 (by decide) (by decide)) (zgA_0 a6 hfs3 (hi := 0) (by decide)) (zgA_0 a7 hfs3 (hi := 0) (by decide)) hy
        · rcases h3 with ⟨h3, -⟩ | ⟨l, h3, -⟩
          · cases h3
          · cases h3
        · rw [List.mem_singleton] at ht
          subst ht
          obtain ⟨k, hk1, hk2⟩ := hZ.1 hv2 fP pm z2 z4
          have a1 := zg_row_kp kp3 (by decide +kernel) (zg_row_kp kp2 (vGiso_kk 24 (by decide)) z1)
          have a2 := zg_row_kp kp3 (by decide +kernel) (zg_row_kp kp2 (vGiso_kk 27 (by decide)) z2)
          have a3 := zg_fs_0 hfs3 (by decide) (hZ.2 37 (by decide) _ z3)
          have a4 := zg_fs_0 hfs3 (by decide) (hZ.2 38 (by decide) _ z4)
          have hJ : zgJ F g 1 ws3 := ⟨fS, fP, sm, pm, a1, a2, a3, a4, y5⟩
          have a6 := zgA_0 (zgA_eq z6 (hZ.2 39 (by decide))) hfs3 (hi := 0) (by decide)
          have a7 := zgA_0 (zgA_eq z7 (hZ.2 4 (by decide))) hfs3 (hi := 0) (by decide)
          refine zg_callTn (T' := vGcond_35l) C hm (zg_EN_mono (vGwd1_ok F g) (by decide)) vGcond_K3 (List.mem_of_getElem? (i := 17) rfl) vGcond_k32 rfl (fun _ _ => hJ) (fun av4 v4 ws4 r4 _ kp4 hZ4 => ?_)
          obtain ⟨⟨fS4, fP4, sm4, pm4, b1, b2, b3, b4, b5⟩, j2, j3⟩ := hZ4
          have e4 := zg_row_u b2 (zg_row_kp kp4 (vGwd_kk 27 (by decide)) a2)
          subst e4
          obtain ⟨pm5, c1, c2, c3, c4⟩ := j2 _ pm a2 a4
          have e5 := zg_fld_u b4 c1
          subst e5
          have c5 := c3 k hk1 hk2
          have c6 := zgA_eq a6 (j3 39 (by decide))
          have c7 := zgA_eq a7 (j3 4 (by decide))
          rcases c4 rfl with c8 | ⟨n, c8, c9⟩
          · omega
          have hI := zg_I_open b5 c8 c9
          refine zg_tight vGcond_t35 b4 (by omega) ?_
          refine zg_run2 (Zv := zgZc F g av ws0) C vGcond_K (vGf_ok 24 (by decide)) hm vGcond_c35 KE (fun o r2 ws3 tys3 v kp3 _ _ h3 _ => ?_) (fun t ht r5 ws5 kp5 hfs5 _ => ?_)
          · rcases h3 with ⟨h3, -⟩ | ⟨l, h3, -⟩
            · cases h3
            · cases h3
          rw [List.mem_singleton] at ht
          subst ht
          have d1 := zg_row_kp kp5 (by decide +kernel) b1
          have d2 := zg_row_kp kp5 (by decide +kernel) b2
          have d3 := zg_fs_0 hfs5 (by decide) b3
          have d4 := zg_fs_eq hfs5 (δ := -1) (by decide) b4
          have d6 := zgA_0 c6 hfs5 (hi := 0) (by decide)
          have d7 := zgA_0 c7 hfs5 (hi := 0) (by decide)
          have hJ5 : zgJ F g 1 ws5 := ⟨fS4, _, sm4, pm4 - 1, d1, d2, d3, d4, hI⟩
          refine zg_call2n (Zv := zgZc F g av ws0) C vGcond_K (vGf_ok 24 (by decide)) hm (zg_EN_mono (vGwd3_ok F g) (by decide)) vGcond_K5 (List.mem_of_getElem? (i := 26) rfl) vGcond_k47 rfl KE (fun _ _ => hJ5) (fun av2 ws2 _ _ _ => ⟨fun o r2 ws3 tys3 v kp3 _ _ h3 _ => ?_, fun t ht => nomatch ht⟩) (fun av6 v6 ws6 ha6 kp6 hZ6 hv6 => ⟨fun o r2 ws3 tys3 v kp3 _ _ h3 _ => ?_, fun t ht r7 ws7 kp7 hfs7 _ => ?_⟩)
          · rcases h3 with ⟨h3, -⟩ | ⟨l, h3, -⟩
            · cases h3
            · cases h3
          · rcases h3 with ⟨h3, -⟩ | ⟨l, h3, -⟩
            · cases h3
            · cases h3
          · rw [List.mem_singleton] at ht
            subst ht
            obtain ⟨⟨fS6, fP6, sm6, pm6, m1, m2, m3, m4, m5⟩, l2, l3⟩ := hZ6
            obtain ⟨pm7, l4, l5, -, -⟩ := l2 _ (pm4 + -1) d2 d4
            have e6 := zg_fld_u m4 l4
            subst e6
            exact ih2 pm6.toNat (by omega) r7 ws7 fS6 fP6 sm6 pm6 (zg_row_kp kp7 (by decide +kernel) m1) (zg_row_kp kp7 (by decide +kernel) m2) (zg_fs_0 hfs7 (by decide) m3) (zg_fs_0 hfs7 (by decide) m4) m5 (zgA_0 (zgA_eq d6 (l3 39 (by decide))) hfs7 (hi := 0) (by decide)) (zgA_0 (zgA_eq d7 (l3 4 (by decide))) hfs7 (hi := 340) (by decide)) (Nat.le_refl _)
      · subst ht
        exact n80 r1 ws1 (zgJ_kp hJ1 kp1 hfs1 (by decide) (by decide)) (zgA_0 y7 hfs1 (hi := 0) (by decide))
      · subst ht
        exact n109 r1 ws1 (zgJ_kp hJ1 kp1 hfs1 (by decide) (by decide)) (zgA_0 y6 hfs1 (hi := 0) (by decide)) (zgA_0 y7 hfs1 (hi := 0) (by decide)) hy
    refine zg_call2n (Zv := zgZc F g av ws0) C vGcond_K (vGf_ok 24 (by decide)) hm (zg_EN_mono (vGone_ok F g) (by decide)) vGcond_K1 (List.mem_of_getElem? (i := 4) rfl) vGcond_k6 rfl KE (fun _ _ => y1) (fun av2 ws2 _ kp2 hZ => ⟨fun o r2 ws3 tys3 v kp3 _ _ h3 _ => ?_, fun t ht => nomatch ht⟩) (fun av2 v2 ws2 ha2 kp2 hZ hv2 => ⟨fun o r2 ws3 tys3 v kp3 _ _ h3 _ => ?_, fun t ht r3 ws3 kp3 hfs3 _ => ?_⟩)
    · rcases h3 with ⟨-, h3⟩ | ⟨l, h3, -⟩
      · exact ⟨fun h0 => absurd h3 h0, zgW_kp hZ.2 kp3⟩
      · cases h3
    · rcases h3 with ⟨h3, -⟩ | ⟨l, h3, -⟩
      · cases h3
      · cases h3
    · rw [List.mem_singleton] at ht
      subst ht
      obtain ⟨j1, j2, j3⟩ := hZ.1 hv2
      obtain ⟨fS, fP, sm, pm, k1, k2, k3, k4, k5⟩ := j1
      exact n14 pm.toNat r3 ws3 fS fP sm pm (zg_row_kp kp3 (by decide +kernel) k1) (zg_row_kp kp3 (by decide +kernel) k2) (zg_fs_0 hfs3 (by decide) k3) (zg_fs_0 hfs3 (by decide) k4) k5 (zgA_0 (zgA_up y2 j2) hfs3 (hi := 0) (by decide)) (zgA_0 (zgA_tr y3 j3) hfs3 (hi := 0) (by decide)) (Nat.le_refl _)
  refine zg_run0 (Zv := zgZc F g av ws0) C vGcond_K (vGf_ok 24 (by decide)) hm vGcond_c0 KE (fun o r' ws' tys v _ _ _ h3 _ => ?_) (fun t ht r' ws1 kp hfs hos => ?_)
  · rcases h3 with ⟨h3, -⟩ | ⟨l, h3, -⟩
    · cases h3
    · cases h3
  rw [List.mem_singleton] at ht
  subst ht
  refine zg_with (fun tys1 hG1 hh1 => ?_)
  obtain ⟨w, w1, w2, w3⟩ := hos _ (List.mem_singleton.mpr rfl) 0 (zx_ev_iff.mpr ⟨0, rfl, by simp⟩)
  have w2 : (0 : Int) + 0 ≤ w := w2
  have w3 : w ≤ (0 : Int) + 0 := w3
  obtain ⟨u, u1, u2⟩ := zg_fe_ok hh1 vGcond_f6
  have hu : u = 0 := by
    rw [u2] at w1
    have e := Option.some.inj w1
    omega
  rw [hu] at u1
  obtain ⟨fP, hP⟩ := zg_row_of hh1 (i := 27) rfl (by decide)
  obtain ⟨on0, xo, o1, -⟩ := zg_fb_ok (q := 39) (lo := 0) (hi := 5000) hG1 hh1 (by decide +kernel)
  exact loop 41 r' ws1 0 ⟨fS0, fP, F, 0, zg_row_kp kp (by decide +kernel) x1, hP, zg_fs_0 hfs (by decide) x3, u1, ⟨0, F, 0, rfl, rfl, Nat.le_refl _, rfl, by rw [Nat.sub_self]; rfl, x2⟩⟩ ⟨on0, xo, o1⟩ (zgA_0 ⟨p0, xp, Int.le_refl _⟩ hfs (hi := 0) (by decide)) (by decide)
end
