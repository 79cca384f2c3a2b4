noncomputable section
/-! zq: opera of the reference: taken, or refused -/
def vGop5 : zw_En := (vGopr.1, vGopr.2.1.set 6 ((0, 8), none), vGopr.2.2.1, vGopr.2.2.2.1, vGopr.2.2.2.2.1, 1 :: vGopr.2.2.2.2.2.1, false)
def vGm_op5 : zx_MD := zq_md vYk_or vGm_opr
theorem vGm_op5_ok : zq_P[142]? = some (some vGm_op5) := rfl
def zq_e2 (en : zw_En) (u a : Nat) (h : List zx_C) (x : zx_Os) : Bool := match x with
  | .inl o => zw_E en.2.1.length o (en.2.2.2.2.1.take 1) && ([(6, ((0 : Int), (0 : Int)))].all (zg_dr o.1 h o.2.1) && zq_ref u a 1 o.1 o.2.1)
  | .inr q => zg_q1 en.2.1.length h q (202, vGopr_202, [(6, (0, 0))], []) && zq_acc u a 1 q.2.1 q.2.2.1
def zq_c2 (K : List Nat) (en : zw_En) (u a : Nat) (md : zx_MD) : Bool := match zx_ex (zw_YK zx_Yt K false) zx_dt zx_rmt (fun pc => Nat.beq pc 202) md (zq_f K) 3000 (zx_drop 0 md.1) en.2.1 en.2.2.1 (zx_args 0 en.2.2.2.1) (0, 0) [] with
  | some os => os.all (zq_e2 en u a en.2.2.1)
  | none => false
theorem vGop5_K : ∀ i ∈ vGop5.2.2.2.2.2.1, i ∈ vYKr := by decide +kernel
theorem vGop5_q : zq_q1 vGop5 1 32 2 = true := by decide +kernel
set_option maxRecDepth 1000000 in
theorem vGop5_c : zq_c2 vYKr vGop5 1 32 vGm_op5 = true := by decide +kernel
set_option maxRecDepth 1000000 in
theorem vGop5_s : zg_sk (zq_sel true vGop5).2.2.2.2.2.1 vGopr_202 2 9 = true := by decide +kernel
set_option maxRecDepth 1000000 in
theorem vGop5_r202 : zg_rk vYKr (zq_f vYKr) vGm_op5 vGop5.2.1.length (zq_sel true vGop5).2.2.2.2.1 (none, false) [(246, vGopr_246, [(6, (0, 0))], [(([(38, 1)], 0), (([], 0), (0, 0)))])] 203 (zg_sT (zq_sel true vGop5).2.2.2.2.2.1 vGopr_202) = true := by decide +kernel
set_option maxRecDepth 1000000 in
theorem vGop5_c246 : zg_rk vYKr (zq_f vYKr) vGm_op5 vGop5.2.1.length (zq_sel true vGop5).2.2.2.2.1 (none, false) vGopr_nd2 246 vGopr_246 = true := by decide +kernel
set_option maxRecDepth 1000000 in
theorem vGop5_c280 : zg_rk vYKr (zq_f vYKr) vGm_op5 vGop5.2.1.length (zq_sel true vGop5).2.2.2.2.1 (some ([(6, (1, 1))], fun _ => true), false) [(280, vGopr_280, [(6, (0, 0))], [(([(38, 1)], 0), (([(38, 1)], 0), (1, 1)))])] 280 vGopr_280 = true := by decide +kernel
set_option maxRecDepth 100000 in
theorem vGop5_ok {l : Launch} (acc : Bool) : zg_EN l 27 (zq_sel acc vGop5) (zqXo 2 acc) zgZo2 := by
  refine zq_enter zq_PK (d := 26) (en := zq_sel acc vGop5) (Kr := vYKr) (md := vGm_op5) vGm_op5_ok (show zx_cats vGop5.2.2.2.1 ≤ zx_mV vGm_op5.2.1 by decide +kernel) ?_
  intro p e R s mi args below meth c Q D A b ex nL own cc ρe tys ws0 av hX hG hh ha C KE
  have hm : ρe.length = vGop5.2.1.length := hG.1
  obtain ⟨f, tt, h, sv, n, x1', x2', x3, x4, x5, x6⟩ := zq_X_ev vGop5_q hh ha hX
  obtain ⟨fH0, x1⟩ := zg_row_of hh (i := 2) rfl (by decide)
  obtain ⟨t0, x2, -⟩ := zg_fb_ok (q := 6) (lo := -5000) (hi := 5000) hG hh (by cases acc <;> decide +kernel)
  have hc := vGop5_c
  unfold zq_c2 at hc
  split at hc
  case h_2 => cases hc
  rename_i os hos
  refine zg_run (T := (vGop5.2.1, vGop5.2.2.1, zx_args 0 vGop5.2.2.2.1, [], 0, 0)) C vGop5_K (zq_f_ok vYKr 18) hos (fun o ho r2 ws' kp => ?_) (fun q' hq' r2 ws' kp => ?_)
  · have h1 : zq_e2 vGop5 1 32 vGop5.2.2.1 (.inl o) = true := List.all_eq_true.mp hc _ ho
    have h1 : (zw_E vGop5.2.1.length o (vGop5.2.2.2.2.1.take 1) && ([(6, ((0 : Int), (0 : Int)))].all (zg_dr o.1 vGop5.2.2.1 o.2.1) && zq_ref 1 32 1 o.1 o.2.1)) = true := h1
    rw [Bool.and_eq_true, Bool.and_eq_true] at h1
    obtain ⟨h2, h3, h4⟩ := h1
    have y1 := zg_row_kp kp (by decide) x1'
    intro H' locs' ls' kc' pc' k' ir tys' g1 g2 g3 g4 g5 g6 g7
    have hn := zq_ref_ok g1 g7 y1 h4 (zx_ev_app x2') (zx_ev_app x3) (zx_ev_app x4) (zx_ev_app x5)
    cases acc with
    | true => exact absurd (x6.mpr rfl) hn
    | false =>
      have hfs := zg_dr_ok g1 hh g7 h3
      refine KE o r2 ws' h2 (fun _ _ => ?_) H' locs' ls' kc' pc' k' ir tys' g1 g2 g3 g4 g5 g6 g7
      intro fH t k1 k2
      exact Or.inl ⟨zg_row_kp kp (by decide) k1, zg_fs_0 hfs (by decide) k2⟩
  have h1 : zq_e2 vGop5 1 32 vGop5.2.2.1 (.inr q') = true := List.all_eq_true.mp hc _ hq'
  have h1 : (zg_q1 vGop5.2.1.length vGop5.2.2.1 q' (202, vGopr_202, [(6, (0, 0))], []) && zq_acc 1 32 1 q'.2.1 q'.2.2.1) = true := h1
  rw [Bool.and_eq_true] at h1
  obtain ⟨h2, h3⟩ := h1
  have y1 := zg_row_kp kp (by decide) x1'
  refine zg_with (fun tys1 hG1 hh1 => ?_)
  have h4 := x6.mp (zq_acc_ok hG1 hh1 y1 h3 (zx_ev_app x2') (zx_ev_app x3) (zx_ev_app x4) (zx_ev_app x5))
  subst h4
  have n280 : ∀ (N : Nat) (r : List Int) (ws : va_W) (k : Int), (∃ f, zg_row ws 2 f) → zg_fld ws 6 t0 → zx_ev (ρe ++ r) ([(38, 1)], 0) = some k → (9 - k).toNat ≤ N → zg_go p l e R s mi args below meth c Q D A b ex (ws0, (zq_sel true vGop5).2.2.2.2.2.1) nL 280 vGopr_280 (ρe ++ r) ws := by
    intro N
    induction N with
    | zero =>
      intro r ws k y0 y1 y2 hN
      refine zg_with (fun tys1 hG1 hh1 => ?_)
      have hb := zg_xb_ok hG1 vGopr_b280 y2
      omega
    | succ N ih =>
    intro r ws k y0 y1 y2 hN
    refine zg_run2 (Zv := zgZo2 av ws0) C vGop5_K (zq_f_ok vYKr 18) hm vGop5_c280 KE (fun o r3 ws3 tys3 v kp3 _ _ h3 _ => ?_) (fun t ht r3 ws3 kp3 hfs3 hos3 => ?_)
    · rcases h3 with ⟨h3, -⟩ | ⟨l, h3, h4, -⟩
      · cases h3
      cases h3
      intro fH t k1 k2
      have e2 := zg_fld_u k2 x2
      subst e2
      exact Or.inr ⟨y0.imp fun _ h => zg_row_kp kp3 (by decide +kernel) h, zg_fs_eq h4 (by decide) y1⟩
    rw [List.mem_singleton] at ht
    subst ht
    obtain ⟨k', k1, k2, k3⟩ := hos3 _ List.mem_cons_self _ y2
    have k2 : k + 1 ≤ k' := k2
    exact ih r3 ws3 k' (y0.imp fun _ h => zg_row_kp kp3 (by decide +kernel) h) (zg_fs_0 hfs3 (by decide) y1) k1 (by omega)
  have n246 : ∀ (N : Nat) (r : List Int) (ws : va_W) (k : Int), (∃ f, zg_row ws 2 f) → zg_fld ws 6 t0 → zx_ev (ρe ++ r) ([(38, 1)], 0) = some k → (5 - k).toNat ≤ N → zg_go p l e R s mi args below meth c Q D A b ex (ws0, (zq_sel true vGop5).2.2.2.2.2.1) nL 246 vGopr_246 (ρe ++ r) ws := by
    intro N
    induction N with
    | zero =>
      intro r ws k y0 y1 y2 hN
      refine zg_with (fun tys1 hG1 hh1 => ?_)
      have hb := zg_xb_ok hG1 vGopr_b246 y2
      omega
    | succ N ih =>
    intro r ws k y0 y1 y2 hN
    refine zg_run2 (Zv := zgZo2 av ws0) C vGop5_K (zq_f_ok vYKr 18) hm vGop5_c246 KE (fun o r3 ws3 tys3 v kp3 _ _ h3 _ => ?_) (fun t ht r3 ws3 kp3 hfs3 hos3 => ?_)
    · rcases h3 with ⟨h3, -⟩ | ⟨l, h3, -⟩
      · cases h3
      · cases h3
    unfold vGopr_nd2 at ht
    simp only [List.mem_cons, List.not_mem_nil, or_false] at ht
    rcases ht with ht | ht
    · subst ht
      obtain ⟨k', k1, k2, k3⟩ := hos3 _ List.mem_cons_self _ y2
      have k2 : k + 1 ≤ k' := k2
      exact ih r3 ws3 k' (y0.imp fun _ h => zg_row_kp kp3 (by decide +kernel) h) (zg_fs_0 hfs3 (by decide) y1) k1 (by omega)
    · subst ht
      refine zg_with (fun tys4 hG4 hh4 => ?_)
      obtain ⟨d, q1, q2⟩ := zg_xe hG4 (x := 38) (by decide +kernel)
      exact n280 _ r3 ws3 d (y0.imp fun _ h => zg_row_kp kp3 (by decide +kernel) h) (zg_fs_0 hfs3 (by decide) y1) q1 (Nat.le_refl _)
  unfold zg_q1 at h2
  simp only [Bool.and_eq_true] at h2
  obtain ⟨c1, c2, c3, -⟩ := h2
  have c1 : q'.1 = 202 := Nat.eq_of_beq_eq_true c1
  have hfs := zg_dr_ok hG1 hh hh1 c3
  rw [c1]
  have z1 := zg_fs_0 hfs (by decide) x2
  refine zg_T hm c2 (fun r3 _ => ?_)
  refine zg_store2 C (i := 2) (n := 9) (List.mem_of_getElem? (i := 103) rfl) vGop5_s (by decide) (fun f w v' ws5 g1 g2 g3 g4 g5 g6 g7 => ?_)
  refine zg_run2 (Zv := zgZo2 av ws0) C vGop5_K (zq_f_ok vYKr 18) hm vGop5_r202 KE (fun o r6 ws6 tys6 v kp6 _ _ h3 _ => ?_) (fun t ht r6 ws6 kp6 hfs6 hos6 => ?_)
  · rcases h3 with ⟨h3, -⟩ | ⟨l, h3, -⟩ <;> cases h3
  rw [List.mem_singleton] at ht
  subst ht
  obtain ⟨k6, j1, j2, j3⟩ := hos6 _ List.mem_cons_self 0 zx_ev_c'
  exact n246 _ r6 ws6 k6 ⟨_, zg_row_kp kp6 (by decide +kernel) g5⟩ (zg_fs_0 hfs6 (by decide) (g7 _ _ z1)) j1 (Nat.le_refl _)
end
