noncomputable section
/-! zg: one of the reference -/
def zgW (F : Nat) (g : Nat → Int32) (ws : va_W) : Prop := ∃ fS : Nat → Int32, zg_row ws 24 fS ∧ ∀ i, i < 2000 + F → fS i = g i
theorem zgI_W {F : Nat} {g : Nat → Int32} {e sm pm : Int} {fS fP : Nat → Int32} (h : zg_I F g e sm pm fS fP) : ∀ i, i < 2000 + F → fS i = g i := by
  obtain ⟨A, m, n, -, -, -, -, -, h6⟩ := h
  exact h6
theorem zgJ_W {F : Nat} {g : Nat → Int32} {e : Int} {ws : va_W} (h : zgJ F g e ws) : zgW F g ws := by
  obtain ⟨fS, fP, sm, pm, h1, h2, h3, h4, h5⟩ := h
  exact ⟨fS, h1, zgI_W h5⟩
theorem zgW_kp {F : Nat} {g : Nat → Int32} {ws ws' : va_W} (h : zgW F g ws) (kp : zx_KP (ws, vGK) ws') : zgW F g ws' := by
  obtain ⟨fS, h1, h2⟩ := h
  exact ⟨fS, zg_row_kp kp (by decide +kernel) h1, h2⟩
theorem zgJ_kp {F : Nat} {g : Nat → Int32} {e : Int} {ws ws' : va_W} {l : List (Nat × (Int × Int))} (h : zgJ F g e ws) (kp : zx_KP (ws, vGK) ws') (hf : zg_fs ws ws' l) (h1 : (37, ((0 : Int), (0 : Int))) ∈ l) (h2 : (38, ((0 : Int), (0 : Int))) ∈ l) : zgJ F g e ws' := by
  obtain ⟨fS, fP, sm, pm, k1, k2, k3, k4, k5⟩ := h
  exact ⟨fS, fP, sm, pm, zg_row_kp kp (by decide +kernel) k1, zg_row_kp kp (by decide +kernel) k2, zg_fs_0 hf h1 k3, zg_fs_0 hf h2 k4, k5⟩
/-- a field that is so much at least -/
def zgA (q : Nat) (x : Int) (ws : va_W) : Prop := ∃ y, zg_fld ws q y ∧ x ≤ y
theorem zgA_fs {ws ws' : va_W} {l : List (Nat × (Int × Int))} {q : Nat} {x d hi : Int} (h : zgA q x ws) (hf : zg_fs ws ws' l) (hq : (q, (d, hi)) ∈ l) : zgA q (x + d) ws' := by
  obtain ⟨y, h1, h2⟩ := h
  obtain ⟨y', h3, h4, -⟩ := hf _ hq y h1
  have h4 : y + d ≤ y' := h4
  exact ⟨y', h3, by omega⟩
theorem zgA_0 {ws ws' : va_W} {l : List (Nat × (Int × Int))} {q : Nat} {x hi : Int} (h : zgA q x ws) (hf : zg_fs ws ws' l) (hq : (q, ((0 : Int), hi)) ∈ l) : zgA q x ws' := by
  have h1 := zgA_fs h hf hq
  rw [Int.add_zero] at h1
  exact h1
def zgZ1 (F : Nat) (g : Nat → Int32) (av : List Value) (ws : va_W) (v : Option Value) (ws' : va_W) : Prop := (v ≠ some (.int 0) → zgJ F g 1 ws' ∧ (∀ x, zg_fld ws 39 x → zgA 39 (x + 1) ws') ∧ ∀ x, zg_fld ws 4 x → zgA 4 x ws') ∧ zgW F g ws'
theorem vGone_K : ∀ i ∈ vGone.2.2.2.2.2.1, i ∈ vGK := by decide +kernel
theorem vGone_K2 : ∀ i ∈ vGone.2.2.2.2.2.1, i ∈ vGwrite.2.2.2.2.2.1 := by decide +kernel
theorem vGone_K3 : ∀ i ∈ vGone.2.2.2.2.2.1, i ∈ vGwd3.2.2.2.2.2.1 := by decide +kernel
set_option maxRecDepth 1000000 in
theorem vGone_d1_N : zg_rk vGK vGf vGm_one vGone.2.1.length vGone.2.2.2.2.1 (none, true) [(97, vGone_97_20, [(37, (0, 0)), (38, (0, 0)), (39, (1, 1)), (4, (0, 340))], [])] 60 vGone_60_1_N = true := by decide +kernel
set_option maxRecDepth 1000000 in
theorem vGone_d0_N : zg_rk vGK vGf vGm_one vGone.2.1.length vGone.2.2.2.2.1 (none, true) [(97, vGone_97_23, [(37, (0, 0)), (38, (0, 0)), (39, (1, 1)), (4, (0, 340))], [])] 60 vGone_60_0_N = true := by decide +kernel
set_option maxRecDepth 1000000 in
theorem vGone_d9_A : zg_rk vGK vGf vGm_one vGone.2.1.length vGone.2.2.2.2.1 (none, true) [(121, vGone_121, [(37, (0, 0)), (38, (0, 0)), (39, (1, 1)), (4, (0, 340))], [])] 60 vGone_60_9_A = true := by decide +kernel
set_option maxRecDepth 1000000 in
theorem vGone_d9_M : zg_rk vGK vGf vGm_one vGone.2.1.length vGone.2.2.2.2.1 (none, true) [(190, vGone_190, [(37, (0, 0)), (38, (0, 0)), (39, (1, 1)), (4, (0, 340))], [])] 60 vGone_60_9_M = true := by decide +kernel
set_option maxRecDepth 1000000 in
theorem vGone_s20 : zg_sk vGone.2.2.2.2.2.1 vGone_97_20 27 64 = true := by decide +kernel
set_option maxRecDepth 1000000 in
theorem vGone_x20 : zg_xf vGone_97_20.1 vGone_97_20.2.1 (zg_sE vGone.2.2.2.2.2.1 vGone_97_20) 38 0 = true := by decide +kernel
set_option maxRecDepth 1000000 in
theorem vGone_v20 : zg_xb vGone_97_20.1 (zg_sV vGone.2.2.2.2.2.1 vGone_97_20) 20 20 = true := by decide +kernel
set_option maxRecDepth 1000000 in
theorem vGone_r20 : zg_rk vGK vGf vGm_one vGone.2.1.length vGone.2.2.2.2.1 (none, false) [(0, vGone_0, [(37, (0, 0)), (38, (1, 1)), (39, (0, 0)), (4, (0, 0))], [])] 98 (zg_sT vGone.2.2.2.2.2.1 vGone_97_20) = true := by decide +kernel
set_option maxRecDepth 1000000 in
theorem vGone_b20 : zg_fb vGone_97_20.1 vGone_97_20.2.1 39 0 40 = true := by decide +kernel
set_option maxRecDepth 1000000 in
theorem vGone_s23 : zg_sk vGone.2.2.2.2.2.1 vGone_97_23 27 64 = true := by decide +kernel
set_option maxRecDepth 1000000 in
theorem vGone_x23 : zg_xf vGone_97_23.1 vGone_97_23.2.1 (zg_sE vGone.2.2.2.2.2.1 vGone_97_23) 38 0 = true := by decide +kernel
set_option maxRecDepth 1000000 in
theorem vGone_v23 : zg_xb vGone_97_23.1 (zg_sV vGone.2.2.2.2.2.1 vGone_97_23) 23 23 = true := by decide +kernel
set_option maxRecDepth 1000000 in
theorem vGone_r23 : zg_rk vGK vGf vGm_one vGone.2.1.length vGone.2.2.2.2.1 (none, false) [(0, vGone_0, [(37, (0, 0)), (38, (1, 1)), (39, (0, 0)), (4, (0, 0))], [])] 98 (zg_sT vGone.2.2.2.2.2.1 vGone_97_23) = true := by decide +kernel
set_option maxRecDepth 1000000 in
theorem vGone_b23 : zg_fb vGone_97_23.1 vGone_97_23.2.1 39 0 40 = true := by decide +kernel
set_option maxRecDepth 1000000 in
theorem vGone_a121 : (zg_cas vGm_one 388 vGwrite vGone_121)[1]? = some (.inl ([(42, 1)], 0)) := by decide +kernel
set_option maxRecDepth 1000000 in
theorem vGone_w121 : zg_xb vGone_121.1 ([(42, 1)], 0) 0 6 = true := by decide +kernel
set_option maxRecDepth 1000000 in
theorem vGone_p121 : zg_fb vGone_121.1 vGone_121.2.1 38 0 62 = true := by decide +kernel
set_option maxRecDepth 1000000 in
theorem vGone_k121 : zg_ca2n vGK vGf vGm_one vGone.2.1.length vGone.2.2.2.2.1 (none, false) [] (none, false) [(199, vGone_199, [(37, (0, 0)), (38, (0, 0)), (39, (0, 0)), (4, (0, 0))], [])] 121 388 vGwrite vGone_121 = true := by decide +kernel
set_option maxRecDepth 1000000 in
theorem vGone_a190 : (zg_cas vGm_one 388 vGwrite vGone_190)[1]? = some (.inl ([(41, 1)], 0)) := by decide +kernel
set_option maxRecDepth 1000000 in
theorem vGone_w190 : zg_xb vGone_190.1 ([(41, 1)], 0) 7 9 = true := by decide +kernel
set_option maxRecDepth 1000000 in
theorem vGone_p190 : zg_fb vGone_190.1 vGone_190.2.1 38 0 62 = true := by decide +kernel
set_option maxRecDepth 1000000 in
theorem vGone_k190 : zg_ca2n vGK vGf vGm_one vGone.2.1.length vGone.2.2.2.2.1 (none, false) [] (none, false) [(199, vGone_199, [(37, (0, 0)), (38, (0, 0)), (39, (0, 0)), (4, (0, 340))], [])] 190 388 vGwrite vGone_190 = true := by decide +kernel
set_option maxRecDepth 1000000 in
theorem vGone_k199 : zg_ca2n vGK vGf vGm_one vGone.2.1.length vGone.2.2.2.2.1 (none, false) [] (some ([(37, (0, 0)), (38, (0, 0)), (39, (0, 0)), (4, (0, 0))], fun _ => true), false) [] 199 398 vGwd3 vGone_199 = true := by decide +kernel
set_option maxRecDepth 100000 in
theorem vGone_ok {l : Launch} (F : Nat) (g : Nat → Int32) : zg_EN l 31 vGone (fun _ ws => zgJ F g 0 ws) (zgZ1 F g) := by
  refine zg_enter (d := 30) (Kr := vGK) (md := vGm_one) vGm_one_ok (by decide +kernel) ?_
  intro p e R s mi args below meth c Q D A b ex nL own cc ρe tys ws0 av hX hG hh ha C KE
  have hm : ρe.length = vGone.2.1.length := hG.1
  obtain ⟨fS0, fP0, sm0, pm0, x1, x2, x3, x4, x5⟩ := hX
  obtain ⟨on0, xo, -⟩ := zg_fb_ok (q := 39) (lo := -5000) (hi := 5000) hG hh (by decide +kernel)
  obtain ⟨p0, xp, -⟩ := zg_fb_ok (q := 4) (lo := -5000) (hi := 5000) hG hh (by decide +kernel)
  have n199 : ∀ (r : List Int) (ws : va_W), zgJ F g 1 ws → zgA 39 (on0 + 1) ws → zgA 4 p0 ws → zg_go p l e R s mi args below meth c Q D A b ex (ws0, vGone.2.2.2.2.2.1) nL 199 vGone_199 (ρe ++ r) ws := by
    intro r ws w1 w2 w3
    refine zg_call2n (Zv := zgZ1 F g av ws0) C vGone_K (vGf_ok 22 (by decide)) hm (zg_EN_mono (vGwd3_ok F g) (by decide)) vGone_K3 (List.mem_of_getElem? (i := 106) rfl) vGone_k199 rfl KE (fun _ _ => w1) (fun av2 ws2 _ _ _ => ⟨fun o r2 ws3 tys3 v kp3 _ _ h3 _ => ?_, fun t ht => nomatch ht⟩) (fun av2 v2 ws2 ha2 kp2 hZ hv2 => ⟨fun o r2 ws3 tys3 v kp3 _ _ h3 _ => ?_, fun t ht => nomatch ht⟩)
    · rcases h3 with ⟨h3, -⟩ | ⟨l, h3, -⟩
      · cases h3
      · cases h3
    · rcases h3 with ⟨h3, -⟩ | ⟨l, h3, h4, -⟩
      · cases h3
      cases h3
      obtain ⟨j1, j2, j3⟩ := hZ
      have j4 := zgJ_kp j1 kp3 h4 (by decide) (by decide)
      obtain ⟨y1, y2, y3⟩ := w2
      obtain ⟨y4, y5, y6⟩ := w3
      refine ⟨fun _ => ⟨j4, fun x hx => ?_, fun x hx => ?_⟩, zgJ_W j4⟩
      · rw [zg_fld_u hx xo]
        exact ⟨y1, zg_fs_0 h4 (by decide) (j3 39 (by decide) _ y2), y3⟩
      · rw [zg_fld_u hx xp]
        exact ⟨y4, zg_fs_0 h4 (by decide) (j3 4 (by decide) _ y5), y6⟩
  have loop : ∀ (N : Nat) (T : zx_T), zg_rk vGK vGf vGm_one vGone.2.1.length vGone.2.2.2.2.1 (none, true) vGone_nd 0 T = true → ∀ (r : List Int) (ws : va_W) (fS fP : Nat → Int32) (sm pm on : Int), zg_row ws 24 fS → zg_row ws 27 fP → zg_fld ws 37 sm → zg_fld ws 38 pm → zg_fld ws 39 on → on0 ≤ on → zgA 4 p0 ws → zg_I F g 0 sm pm fS fP → (40 - on).toNat ≤ N → zg_go p l e R s mi args below meth c Q D A b ex (ws0, vGone.2.2.2.2.2.1) nL 0 T (ρe ++ r) ws := by
    intro N
    induction N using Nat.strongRecOn with
    | ind N ih =>
    intro T hck r ws fS fP sm pm on y1 y2 y3 y4 y5 y6 y7 y8 hN
    refine zg_run2 (Zv := zgZ1 F g av ws0) C vGone_K (vGf_ok 22 (by decide)) hm hck KE (fun o r2 ws3 tys3 v kp3 hG3 hh3 h3 hv => ?_) (fun t ht r0 ws00 kp0 hfs0 hos0 => ?_)
    · rcases h3 with ⟨-, h3⟩ | ⟨l, h3, -⟩
      · exact ⟨fun h0 => absurd h3 h0, fS, zg_row_kp kp3 (by decide +kernel) y1, zgI_W y8⟩
      · cases h3
    unfold vGone_nd at ht
    simp only [List.mem_cons, List.not_mem_nil, or_false] at ht
    rcases ht with ht | ht | ht | ht
    · subst ht
      have y1 := zg_row_kp kp0 (by decide +kernel) y1
      have y2 := zg_row_kp kp0 (by decide +kernel) y2
      have y3 := zg_fs_0 hfs0 (by decide) y3
      have y4 := zg_fs_0 hfs0 (by decide) y4
      have y5 := zg_fs_0 hfs0 (by decide) y5
      have y7 := zgA_0 y7 hfs0 (hi := 0) (by decide)
      refine zg_run2 (Zv := zgZ1 F g av ws0) C vGone_K (vGf_ok 22 (by decide)) hm vGone_g1_N KE (fun o r2 ws3 tys3 v kp3 hG3 hh3 h3 hv => ?_) (fun t ht r9 ws9 kp0 hfs0 hos9 => ?_)
      · rcases h3 with ⟨-, h3⟩ | ⟨l, h3, -⟩
        · exact ⟨fun h0 => absurd h3 h0, fS, zg_row_kp kp3 (by decide +kernel) y1, zgI_W y8⟩
        · cases h3
      rw [List.mem_singleton] at ht
      subst ht
      have y1 := zg_row_kp kp0 (by decide +kernel) y1
      have y2 := zg_row_kp kp0 (by decide +kernel) y2
      have y3 := zg_fs_0 hfs0 (by decide) y3
      have y4 := zg_fs_0 hfs0 (by decide) y4
      have y5 := zg_fs_0 hfs0 (by decide) y5
      have y7 := zgA_0 y7 hfs0 (hi := 0) (by decide)
      refine zg_run2 (Zv := zgZ1 F g av ws0) C vGone_K (vGf_ok 22 (by decide)) hm vGone_d1_N KE (fun o r2 ws3 tys3 v kp3 hG3 hh3 h3 hv => ?_) (fun t ht r' ws1 kp1 hfs hos => ?_)
      · rcases h3 with ⟨-, h3⟩ | ⟨l, h3, -⟩
        · exact ⟨fun h0 => absurd h3 h0, fS, zg_row_kp kp3 (by decide +kernel) y1, zgI_W y8⟩
        · cases h3
      rw [List.mem_singleton] at ht
      · subst ht
        refine zg_with (fun tys1 hG1 hh1 => ?_)
        have z1 := zg_row_kp kp1 (by decide +kernel) y1
        have z2 := zg_row_kp kp1 (by decide +kernel) y2
        have z3 := zg_fs_0 hfs (by decide) y3
        have z4 := zg_fs_0 hfs (by decide) y4
        have z5 := zg_fs_eq hfs (δ := 1) (by decide) y5
        have z6 := zgA_0 y7 hfs (hi := 340) (by decide)
        obtain ⟨u, u1, u2, u3⟩ := zg_fb_ok hG1 hh1 vGone_b20
        have u4 := zg_fld_u u1 z5
        refine zg_store2 C (i := 27) (n := 64) (List.mem_of_getElem? (i := 50) rfl) vGone_s20 (by decide) (fun f w v' ws2 g1 g2 g3 g4 g5 g6 g7 => ?_)
        have e1 := zg_row_u g1 z2
        subst e1
        have hw := zg_xf_ok hG1 hh1 vGone_x20 z4 g2
        have hv := zg_xb_ok hG1 vGone_v20 g4
        refine zg_run2 (Zv := zgZ1 F g av ws0) C vGone_K (vGf_ok 22 (by decide)) hm vGone_r20 KE (fun o r2 ws3 tys3 v kp3 _ _ h3 _ => ?_) (fun t ht r3 ws3 kp3 hfs3 _ => ?_)
        · rcases h3 with ⟨h3, -⟩ | ⟨l, h3, -⟩
          · cases h3
          · cases h3
        · rw [List.mem_singleton] at ht
          subst ht
          have hI := zg_I_push (n := w) (v := v') (e' := 0) y8 (by omega) (Or.inr ⟨by omega, rfl⟩)
          exact ih (40 - (on + 1)).toNat (by omega) vGone_0 vGone_c1 r3 ws3 fS _ sm (pm + 1) (on + 1) (zg_row_kp kp3 (by decide +kernel) (g6 24 _ (by decide) z1)) (zg_row_kp kp3 (by decide +kernel) g5) (zg_fs_0 hfs3 (by decide) (g7 _ _ z3)) (zg_fs_eq hfs3 (by decide) (g7 _ _ z4)) (zg_fs_0 hfs3 (by decide) (g7 _ _ z5)) (by omega) (zgA_0 (by obtain ⟨y, m1, m2⟩ := z6; exact ⟨y, g7 _ _ m1, m2⟩) hfs3 (hi := 0) (by decide)) hI (Nat.le_refl _)
    · subst ht
      have y1 := zg_row_kp kp0 (by decide +kernel) y1
      have y2 := zg_row_kp kp0 (by decide +kernel) y2
      have y3 := zg_fs_0 hfs0 (by decide) y3
      have y4 := zg_fs_0 hfs0 (by decide) y4
      have y5 := zg_fs_0 hfs0 (by decide) y5
      have y7 := zgA_0 y7 hfs0 (hi := 0) (by decide)
      refine zg_run2 (Zv := zgZ1 F g av ws0) C vGone_K (vGf_ok 22 (by decide)) hm vGone_g0_N KE (fun o r2 ws3 tys3 v kp3 hG3 hh3 h3 hv => ?_) (fun t ht r9 ws9 kp0 hfs0 hos9 => ?_)
      · rcases h3 with ⟨-, h3⟩ | ⟨l, h3, -⟩
        · exact ⟨fun h0 => absurd h3 h0, fS, zg_row_kp kp3 (by decide +kernel) y1, zgI_W y8⟩
        · cases h3
      rw [List.mem_singleton] at ht
      subst ht
      have y1 := zg_row_kp kp0 (by decide +kernel) y1
      have y2 := zg_row_kp kp0 (by decide +kernel) y2
      have y3 := zg_fs_0 hfs0 (by decide) y3
      have y4 := zg_fs_0 hfs0 (by decide) y4
      have y5 := zg_fs_0 hfs0 (by decide) y5
      have y7 := zgA_0 y7 hfs0 (hi := 0) (by decide)
      refine zg_run2 (Zv := zgZ1 F g av ws0) C vGone_K (vGf_ok 22 (by decide)) hm vGone_d0_N KE (fun o r2 ws3 tys3 v kp3 hG3 hh3 h3 hv => ?_) (fun t ht r' ws1 kp1 hfs hos => ?_)
      · rcases h3 with ⟨-, h3⟩ | ⟨l, h3, -⟩
        · exact ⟨fun h0 => absurd h3 h0, fS, zg_row_kp kp3 (by decide +kernel) y1, zgI_W y8⟩
        · cases h3
      rw [List.mem_singleton] at ht
      · subst ht
        refine zg_with (fun tys1 hG1 hh1 => ?_)
        have z1 := zg_row_kp kp1 (by decide +kernel) y1
        have z2 := zg_row_kp kp1 (by decide +kernel) y2
        have z3 := zg_fs_0 hfs (by decide) y3
        have z4 := zg_fs_0 hfs (by decide) y4
        have z5 := zg_fs_eq hfs (δ := 1) (by decide) y5
        have z6 := zgA_0 y7 hfs (hi := 340) (by decide)
        obtain ⟨u, u1, u2, u3⟩ := zg_fb_ok hG1 hh1 vGone_b23
        have u4 := zg_fld_u u1 z5
        refine zg_store2 C (i := 27) (n := 64) (List.mem_of_getElem? (i := 50) rfl) vGone_s23 (by decide) (fun f w v' ws2 g1 g2 g3 g4 g5 g6 g7 => ?_)
        have e1 := zg_row_u g1 z2
        subst e1
        have hw := zg_xf_ok hG1 hh1 vGone_x23 z4 g2
        have hv := zg_xb_ok hG1 vGone_v23 g4
        refine zg_run2 (Zv := zgZ1 F g av ws0) C vGone_K (vGf_ok 22 (by decide)) hm vGone_r23 KE (fun o r2 ws3 tys3 v kp3 _ _ h3 _ => ?_) (fun t ht r3 ws3 kp3 hfs3 _ => ?_)
        · rcases h3 with ⟨h3, -⟩ | ⟨l, h3, -⟩
          · cases h3
          · cases h3
        · rw [List.mem_singleton] at ht
          subst ht
          have hI := zg_I_push (n := w) (v := v') (e' := 0) y8 (by omega) (Or.inr ⟨by omega, rfl⟩)
          exact ih (40 - (on + 1)).toNat (by omega) vGone_0 vGone_c1 r3 ws3 fS _ sm (pm + 1) (on + 1) (zg_row_kp kp3 (by decide +kernel) (g6 24 _ (by decide) z1)) (zg_row_kp kp3 (by decide +kernel) g5) (zg_fs_0 hfs3 (by decide) (g7 _ _ z3)) (zg_fs_eq hfs3 (by decide) (g7 _ _ z4)) (zg_fs_0 hfs3 (by decide) (g7 _ _ z5)) (by omega) (zgA_0 (by obtain ⟨y, m1, m2⟩ := z6; exact ⟨y, g7 _ _ m1, m2⟩) hfs3 (hi := 0) (by decide)) hI (Nat.le_refl _)
    · subst ht
      have y1 := zg_row_kp kp0 (by decide +kernel) y1
      have y2 := zg_row_kp kp0 (by decide +kernel) y2
      have y3 := zg_fs_0 hfs0 (by decide) y3
      have y4 := zg_fs_0 hfs0 (by decide) y4
      have y5 := zg_fs_0 hfs0 (by decide) y5
      have y7 := zgA_0 y7 hfs0 (hi := 0) (by decide)
      refine zg_run2 (Zv := zgZ1 F g av ws0) C vGone_K (vGf_ok 22 (by decide)) hm vGone_g9_A KE (fun o r2 ws3 tys3 v kp3 hG3 hh3 h3 hv => ?_) (fun t ht r9 ws9 kp0 hfs0 hos9 => ?_)
      · rcases h3 with ⟨-, h3⟩ | ⟨l, h3, -⟩
        · exact ⟨fun h0 => absurd h3 h0, fS, zg_row_kp kp3 (by decide +kernel) y1, zgI_W y8⟩
        · cases h3
      rw [List.mem_singleton] at ht
      subst ht
      have y1 := zg_row_kp kp0 (by decide +kernel) y1
      have y2 := zg_row_kp kp0 (by decide +kernel) y2
      have y3 := zg_fs_0 hfs0 (by decide) y3
      have y4 := zg_fs_0 hfs0 (by decide) y4
      have y5 := zg_fs_0 hfs0 (by decide) y5
      have y7 := zgA_0 y7 hfs0 (hi := 0) (by decide)
      refine zg_run2 (Zv := zgZ1 F g av ws0) C vGone_K (vGf_ok 22 (by decide)) hm vGone_d9_A KE (fun o r2 ws3 tys3 v kp3 hG3 hh3 h3 hv => ?_) (fun t ht r' ws1 kp1 hfs hos => ?_)
      · rcases h3 with ⟨-, h3⟩ | ⟨l, h3, -⟩
        · exact ⟨fun h0 => absurd h3 h0, fS, zg_row_kp kp3 (by decide +kernel) y1, zgI_W y8⟩
        · cases h3
      rw [List.mem_singleton] at ht
      · subst ht
        refine zg_with (fun tys1 hG1 hh1 => ?_)
        have z1 := zg_row_kp kp1 (by decide +kernel) y1
        have z2 := zg_row_kp kp1 (by decide +kernel) y2
        have z3 := zg_fs_0 hfs (by decide) y3
        have z4 := zg_fs_0 hfs (by decide) y4
        have z5 := zg_fs_eq hfs (δ := 1) (by decide) y5
        obtain ⟨pp, q1, q2⟩ := zgA_0 y7 hfs (hi := 340) (by decide)
        obtain ⟨u, u1, u2, u3⟩ := zg_fb_ok hG1 hh1 vGone_p121
        have u4 := zg_fld_u u1 z4
        refine zg_call2n (Zv := zgZ1 F g av ws0) C vGone_K (vGf_ok 22 (by decide)) hm (zg_EN_mono vGwrite_ok (by decide)) vGone_K2 (List.mem_of_getElem? (i := 65) rfl) vGone_k121 (rfl : zg_cas vGm_one 388 vGwrite vGone_121 = zg_cas vGm_one 388 vGwrite vGone_121) KE (fun _ _ => trivial) (fun av2 ws2 _ _ _ => ⟨fun o r2 ws3 tys3 v kp3 _ _ h3 _ => ?_, fun t ht => nomatch ht⟩) (fun av2 v2 ws2 ha2 kp2 hZ hv2 => ⟨fun o r2 ws3 tys3 v kp3 _ _ h3 _ => ?_, fun t ht r3 ws3 kp3 hfs3 _ => ?_⟩)
        · rcases h3 with ⟨h3, -⟩ | ⟨l, h3, -⟩
          · cases h3
          · cases h3
        · rcases h3 with ⟨h3, -⟩ | ⟨l, h3, -⟩
          · cases h3
          · cases h3
        · rw [List.mem_singleton] at ht
          subst ht
          obtain ⟨x, m, a1, a2, a3, a4, a5, a6, a7⟩ := hZ hv2 fS sm pm (on + 1) pp z1 z3 z4 z5 q1
          obtain ⟨x', b1, b2⟩ := zg_arg ha2 vGone_a121
          rw [a1] at b1
          cases b1
          have hx := zg_xb_ok hG1 vGone_w121 b2
          have hI := zg_I_word (v := x) y8 a2 ⟨by omega, by omega⟩ (by omega)
          refine n199 r3 ws3 ⟨_, fP, sm + 1, pm, zg_row_kp kp3 (by decide +kernel) a3, zg_row_kp kp3 (by decide +kernel) (zg_row_kp kp2 (by decide +kernel) z2), zg_fs_0 hfs3 (by decide) a4, zg_fs_0 hfs3 (by decide) a5, hI⟩ ⟨on + 1, zg_fs_0 hfs3 (by decide) a6, by omega⟩ (zgA_0 ⟨pp, a7, q2⟩ hfs3 (hi := 0) (by decide))
    · subst ht
      have y1 := zg_row_kp kp0 (by decide +kernel) y1
      have y2 := zg_row_kp kp0 (by decide +kernel) y2
      have y3 := zg_fs_0 hfs0 (by decide) y3
      have y4 := zg_fs_0 hfs0 (by decide) y4
      have y5 := zg_fs_0 hfs0 (by decide) y5
      have y7 := zgA_0 y7 hfs0 (hi := 0) (by decide)
      refine zg_run2 (Zv := zgZ1 F g av ws0) C vGone_K (vGf_ok 22 (by decide)) hm vGone_g9_M KE (fun o r2 ws3 tys3 v kp3 hG3 hh3 h3 hv => ?_) (fun t ht r9 ws9 kp0 hfs0 hos9 => ?_)
      · rcases h3 with ⟨-, h3⟩ | ⟨l, h3, -⟩
        · exact ⟨fun h0 => absurd h3 h0, fS, zg_row_kp kp3 (by decide +kernel) y1, zgI_W y8⟩
        · cases h3
      rw [List.mem_singleton] at ht
      subst ht
      have y1 := zg_row_kp kp0 (by decide +kernel) y1
      have y2 := zg_row_kp kp0 (by decide +kernel) y2
      have y3 := zg_fs_0 hfs0 (by decide) y3
      have y4 := zg_fs_0 hfs0 (by decide) y4
      have y5 := zg_fs_0 hfs0 (by decide) y5
      have y7 := zgA_0 y7 hfs0 (hi := 0) (by decide)
      refine zg_run2 (Zv := zgZ1 F g av ws0) C vGone_K (vGf_ok 22 (by decide)) hm vGone_d9_M KE (fun o r2 ws3 tys3 v kp3 hG3 hh3 h3 hv => ?_) (fun t ht r' ws1 kp1 hfs hos => ?_)
      · rcases h3 with ⟨-, h3⟩ | ⟨l, h3, -⟩
        · exact ⟨fun h0 => absurd h3 h0, fS, zg_row_kp kp3 (by decide +kernel) y1, zgI_W y8⟩
        · cases h3
      rw [List.mem_singleton] at ht
      · subst ht
        refine zg_with (fun tys1 hG1 hh1 => ?_)
        have z1 := zg_row_kp kp1 (by decide +kernel) y1
        have z2 := zg_row_kp kp1 (by decide +kernel) y2
        have z3 := zg_fs_0 hfs (by decide) y3
        have z4 := zg_fs_0 hfs (by decide) y4
        have z5 := zg_fs_eq hfs (δ := 1) (by decide) y5
        obtain ⟨pp, q1, q2⟩ := zgA_0 y7 hfs (hi := 340) (by decide)
        obtain ⟨u, u1, u2, u3⟩ := zg_fb_ok hG1 hh1 vGone_p190
        have u4 := zg_fld_u u1 z4
        refine zg_call2n (Zv := zgZ1 F g av ws0) C vGone_K (vGf_ok 22 (by decide)) hm (zg_EN_mono vGwrite_ok (by decide)) vGone_K2 (List.mem_of_getElem? (i := 101) rfl) vGone_k190 (rfl : zg_cas vGm_one 388 vGwrite vGone_190 = zg_cas vGm_one 388 vGwrite vGone_190) KE (fun _ _ => trivial) (fun av2 ws2 _ _ _ => ⟨fun o r2 ws3 tys3 v kp3 _ _ h3 _ => ?_, fun t ht => nomatch ht⟩) (fun av2 v2 ws2 ha2 kp2 hZ hv2 => ⟨fun o r2 ws3 tys3 v kp3 _ _ h3 _ => ?_, fun t ht r3 ws3 kp3 hfs3 _ => ?_⟩)
        · rcases h3 with ⟨h3, -⟩ | ⟨l, h3, -⟩
          · cases h3
          · cases h3
        · rcases h3 with ⟨h3, -⟩ | ⟨l, h3, -⟩
          · cases h3
          · cases h3
        · rw [List.mem_singleton] at ht
          subst ht
          obtain ⟨x, m, a1, a2, a3, a4, a5, a6, a7⟩ := hZ hv2 fS sm pm (on + 1) pp z1 z3 z4 z5 q1
          obtain ⟨x', b1, b2⟩ := zg_arg ha2 vGone_a190
          rw [a1] at b1
          cases b1
          have hx := zg_xb_ok hG1 vGone_w190 b2
          have hI := zg_I_word (v := x) y8 a2 ⟨by omega, by omega⟩ (by omega)
          refine n199 r3 ws3 ⟨_, fP, sm + 1, pm, zg_row_kp kp3 (by decide +kernel) a3, zg_row_kp kp3 (by decide +kernel) (zg_row_kp kp2 (by decide +kernel) z2), zg_fs_0 hfs3 (by decide) a4, zg_fs_0 hfs3 (by decide) a5, hI⟩ ⟨on + 1, zg_fs_0 hfs3 (by decide) a6, by omega⟩ (zgA_0 ⟨pp, a7, q2⟩ hfs3 (hi := 340) (by decide))
  have h := loop _ vGs_one vGone_c0 [] ws0 fS0 fP0 sm0 pm0 on0 x1 x2 x3 x4 xo (Int.le_refl _) ⟨p0, xp, Int.le_refl _⟩ x5 (Nat.le_refl _)
  rw [List.append_nil] at h
  exact h
end
