noncomputable section
/-! zg: opera of the reference -/
def zgZo2 (av : List Value) (ws : va_W) (v : Option Value) (ws' : va_W) : Prop := ∀ (fH : Nat → Int32) (t : Int), zg_row ws 2 fH → zg_fld ws 6 t → (zg_row ws' 2 fH ∧ zg_fld ws' 6 t) ∨ ((∃ f, zg_row ws' 2 f) ∧ zg_fld ws' 6 (t + 1))
theorem vGopr_K : ∀ i ∈ vGopr.2.2.2.2.2.1, i ∈ vGK := by decide +kernel
set_option maxRecDepth 1000000 in
theorem vGopr_c0 : zg_rk vGK vGf vGm_opr vGopr.2.1.length vGopr.2.2.2.2.1 (some ([(6, (0, 0))], fun _ => true), false) [(76, vGopr_76, [(6, (0, 0))], [(([(38, 1)], 0), (([], 0), (0, 0)))])] 0 vGs_opr = true := by decide +kernel
def vGopr_nd : List zg_Nd := [(76, vGopr_76, [(6, (0, 0))], [(([(38, 1)], 0), (([(38, 1)], 0), (1, 1)))]), (202, vGopr_202, [(6, (0, 0))], [])]
set_option maxRecDepth 1000000 in
theorem vGopr_c76 : zg_rk vGK vGf vGm_opr vGopr.2.1.length vGopr.2.2.2.2.1 (some ([(6, (0, 0))], fun _ => true), false) vGopr_nd 76 vGopr_76 = true := by decide +kernel
set_option maxRecDepth 1000000 in
theorem vGopr_b76 : zg_xb vGopr_76.1 ([(38, 1)], 0) 0 36 = true := by decide +kernel
set_option maxRecDepth 1000000 in
theorem vGopr_s : zg_sk vGopr.2.2.2.2.2.1 vGopr_202 2 9 = true := by decide +kernel
set_option maxRecDepth 1000000 in
theorem vGopr_r202 : zg_rk vGK vGf vGm_opr vGopr.2.1.length vGopr.2.2.2.2.1 (none, false) [(246, vGopr_246, [(6, (0, 0))], [(([(38, 1)], 0), (([], 0), (0, 0)))])] 203 (zg_sT vGopr.2.2.2.2.2.1 vGopr_202) = true := by decide +kernel
def vGopr_nd2 : List zg_Nd := [(246, vGopr_246, [(6, (0, 0))], [(([(38, 1)], 0), (([(38, 1)], 0), (1, 1)))]), (280, vGopr_280, [(6, (0, 0))], [])]
set_option maxRecDepth 1000000 in
theorem vGopr_c246 : zg_rk vGK vGf vGm_opr vGopr.2.1.length vGopr.2.2.2.2.1 (none, false) vGopr_nd2 246 vGopr_246 = true := by decide +kernel
set_option maxRecDepth 1000000 in
theorem vGopr_b246 : zg_xb vGopr_246.1 ([(38, 1)], 0) 0 4 = true := by decide +kernel
set_option maxRecDepth 1000000 in
theorem vGopr_c280 : zg_rk vGK vGf vGm_opr vGopr.2.1.length vGopr.2.2.2.2.1 (some ([(6, (1, 1))], fun _ => true), false) [(280, vGopr_280, [(6, (0, 0))], [(([(38, 1)], 0), (([(38, 1)], 0), (1, 1)))])] 280 vGopr_280 = true := by decide +kernel
set_option maxRecDepth 1000000 in
theorem vGopr_b280 : zg_xb vGopr_280.1 ([(38, 1)], 0) 0 8 = true := by decide +kernel
set_option maxRecDepth 100000 in
theorem vGopr_ok {l : Launch} : zg_EN l 27 vGopr (fun _ _ => True) zgZo2 := by
  refine zg_enter (d := 26) (Kr := vGK) (md := vGm_opr) vGm_opr_ok (by decide +kernel) ?_
  intro p e R s mi args below meth c Q D A b ex nL own cc ρe tys ws0 av hX hG hh ha C KE
  have hm : ρe.length = vGopr.2.1.length := hG.1
  obtain ⟨fH0, x1⟩ := zg_row_of hh (i := 2) rfl (by decide)
  obtain ⟨t0, x2, -⟩ := zg_fb_ok (q := 6) (lo := -5000) (hi := 5000) hG hh (by decide +kernel)
  have n280 : ∀ (N : Nat) (r : List Int) (ws : va_W) (k : Int), (∃ f, zg_row ws 2 f) → zg_fld ws 6 t0 → zx_ev (ρe ++ r) ([(38, 1)], 0) = some k → (9 - k).toNat ≤ N → zg_go p l e R s mi args below meth c Q D A b ex (ws0, vGopr.2.2.2.2.2.1) nL 280 vGopr_280 (ρe ++ r) ws := by
    intro N
    induction N with
    | zero =>
      intro r ws k y0 y1 y2 hN
      refine zg_with (fun tys1 hG1 hh1 => ?_)
      have hb := zg_xb_ok hG1 vGopr_b280 y2
      omega
    | succ N ih =>
    intro r ws k y0 y1 y2 hN
    refine zg_run2 (Zv := zgZo2 av ws0) C vGopr_K (vGf_ok 18 (by decide)) hm vGopr_c280 KE (fun o r3 ws3 tys3 v kp3 _ _ h3 _ => ?_) (fun t ht r3 ws3 kp3 hfs3 hos3 => ?_)
    · rcases h3 with ⟨h3, -⟩ | ⟨l, h3, h4, -⟩
      · cases h3
      cases h3
      intro fH t k1 k2
      have e2 := zg_fld_u k2 x2
      subst e2
      exact Or.inr ⟨y0.imp fun _ h => zg_row_kp kp3 (by decide +kernel) h, zg_fs_eq h4 (by decide) y1⟩
    rw [List.mem_singleton] at ht
    subst ht
    obtain ⟨k', k1, k2, k3⟩ := hos3 _ List.mem_cons_self _ y2
    have k2 : k + 1 ≤ k' := k2
    exact ih r3 ws3 k' (y0.imp fun _ h => zg_row_kp kp3 (by decide +kernel) h) (zg_fs_0 hfs3 (by decide) y1) k1 (by omega)
  have n246 : ∀ (N : Nat) (r : List Int) (ws : va_W) (k : Int), (∃ f, zg_row ws 2 f) → zg_fld ws 6 t0 → zx_ev (ρe ++ r) ([(38, 1)], 0) = some k → (5 - k).toNat ≤ N → zg_go p l e R s mi args below meth c Q D A b ex (ws0, vGopr.2.2.2.2.2.1) nL 246 vGopr_246 (ρe ++ r) ws := by
    intro N
    induction N with
    | zero =>
      intro r ws k y0 y1 y2 hN
      refine zg_with (fun tys1 hG1 hh1 => ?_)
      have hb := zg_xb_ok hG1 vGopr_b246 y2
      omega
    | succ N ih =>
    intro r ws k y0 y1 y2 hN
    refine zg_run2 (Zv := zgZo2 av ws0) C vGopr_K (vGf_ok 18 (by decide)) hm vGopr_c246 KE (fun o r3 ws3 tys3 v kp3 _ _ h3 _ => ?_) (fun t ht r3 ws3 kp3 hfs3 hos3 => ?_)
    · rcases h3 with ⟨h3, -⟩ | ⟨l, h3, -⟩
      · cases h3
      · cases h3
    unfold vGopr_nd2 at ht
    simp only [List.mem_cons, List.not_mem_nil, or_false] at ht
    rcases ht with ht | ht
    · subst ht
      obtain ⟨k', k1, k2, k3⟩ := hos3 _ List.mem_cons_self _ y2
      have k2 : k + 1 ≤ k' := k2
      exact ih r3 ws3 k' (y0.imp fun _ h => zg_row_kp kp3 (by decide +kernel) h) (zg_fs_0 hfs3 (by decide) y1) k1 (by omega)
    · subst ht
      refine zg_with (fun tys4 hG4 hh4 => ?_)
      obtain ⟨d, q1, q2⟩ := zg_xe hG4 (x := 38) (by decide +kernel)
      exact n280 _ r3 ws3 d (y0.imp fun _ h => zg_row_kp kp3 (by decide +kernel) h) (zg_fs_0 hfs3 (by decide) y1) q1 (Nat.le_refl _)
  have n76 : ∀ (N : Nat) (r : List Int) (ws : va_W) (k : Int), zg_row ws 2 fH0 → zg_fld ws 6 t0 → zx_ev (ρe ++ r) ([(38, 1)], 0) = some k → (37 - k).toNat ≤ N → zg_go p l e R s mi args below meth c Q D A b ex (ws0, vGopr.2.2.2.2.2.1) nL 76 vGopr_76 (ρe ++ r) ws := by
    intro N
    induction N with
    | zero =>
      intro r ws k y0 y1 y2 hN
      refine zg_with (fun tys1 hG1 hh1 => ?_)
      have hb := zg_xb_ok hG1 vGopr_b76 y2
      omega
    | succ N ih =>
    intro r ws k y0 y1 y2 hN
    refine zg_run2 (Zv := zgZo2 av ws0) C vGopr_K (vGf_ok 18 (by decide)) hm vGopr_c76 KE (fun o r3 ws3 tys3 v kp3 _ _ h3 _ => ?_) (fun t ht r3 ws3 kp3 hfs3 hos3 => ?_)
    · rcases h3 with ⟨h3, -⟩ | ⟨l, h3, h4, -⟩
      · cases h3
      cases h3
      intro fH t k1 k2
      have e1 := zg_row_u k1 x1
      have e2 := zg_fld_u k2 x2
      subst e1
      subst e2
      exact Or.inl ⟨zg_row_kp kp3 (by decide +kernel) y0, zg_fs_0 h4 (by decide) y1⟩
    unfold vGopr_nd at ht
    simp only [List.mem_cons, List.not_mem_nil, or_false] at ht
    rcases ht with ht | ht
    · subst ht
      obtain ⟨k', k1, k2, k3⟩ := hos3 _ List.mem_cons_self _ y2
      have k2 : k + 1 ≤ k' := k2
      exact ih r3 ws3 k' (zg_row_kp kp3 (by decide +kernel) y0) (zg_fs_0 hfs3 (by decide) y1) k1 (by omega)
    · subst ht
      refine zg_store2 C (i := 2) (n := 9) (List.mem_of_getElem? (i := 103) rfl) vGopr_s (by decide) (fun f w v' ws5 g1 g2 g3 g4 g5 g6 g7 => ?_)
      refine zg_run2 (Zv := zgZo2 av ws0) C vGopr_K (vGf_ok 18 (by decide)) hm vGopr_r202 KE (fun o r6 ws6 tys6 v kp6 _ _ h3 _ => ?_) (fun t ht r6 ws6 kp6 hfs6 hos6 => ?_)
      · rcases h3 with ⟨h3, -⟩ | ⟨l, h3, -⟩
        · cases h3
        · cases h3
      rw [List.mem_singleton] at ht
      subst ht
      obtain ⟨k6, j1, j2, j3⟩ := hos6 _ List.mem_cons_self 0 zx_ev_c'
      exact n246 _ r6 ws6 k6 ⟨_, zg_row_kp kp6 (by decide +kernel) g5⟩ (zg_fs_0 hfs6 (by decide) (g7 _ _ (zg_fs_0 hfs3 (by decide) y1))) j1 (Nat.le_refl _)
  refine zg_run0 (Zv := zgZo2 av ws0) C vGopr_K (vGf_ok 18 (by decide)) hm vGopr_c0 KE (fun o r3 ws3 tys3 v kp3 _ _ h3 _ => ?_) (fun t ht r3 ws3 kp3 hfs3 hos3 => ?_)
  · rcases h3 with ⟨h3, -⟩ | ⟨l, h3, h4, -⟩
    · cases h3
    cases h3
    intro fH t k1 k2
    exact Or.inl ⟨zg_row_kp kp3 (by decide +kernel) k1, zg_fs_0 h4 (by decide) k2⟩
  rw [List.mem_singleton] at ht
  subst ht
  obtain ⟨k6, j1, j2, j3⟩ := hos3 _ List.mem_cons_self 0 zx_ev_c'
  exact n76 _ r3 ws3 k6 (zg_row_kp kp3 (by decide +kernel) x1) (zg_fs_0 hfs3 (by decide) x2) j1 (Nat.le_refl _)
/-! contracts of the checker -/
/-- without its flag -/
def zg_nf (en : zw_En) : zw_En := (en.1, en.2.1, en.2.2.1, en.2.2.2.1, en.2.2.2.2.1, en.2.2.2.2.2.1, false)
theorem zg_ofP {l : Launch} {d : Nat} {en : zw_En} (h : vN l d en) : zg_EN l d (zg_nf en) (fun _ ws => zx_PF ws) (fun _ _ _ _ => True) := by
  intro y cc maxL ret rm h1 h2 D A b ex ρ tys ws sz av h4 h5 h6 h7 hp
  have h8 : (zw_YK zx_Yt (zv_K en) (zv_fl en)).2.2 ws := by
    show (if zv_fl en = true then zx_PF else fun _ => True) ws
    split
    · exact hp
    · exact trivial
  exact zx_Met_imp (h y cc maxL ret rm h1 h2 D A b ex ρ tys ws sz av h4 h5 h6 h7 h8) ⟨Nat.le_refl _, Nat.le_refl _, Nat.le_refl _, Nat.le_refl _⟩ (fun _ _ h => ⟨h, fun _ q => q⟩) (fun _ _ _ _ _ h _ => by
    obtain ⟨⟨o, ho, v, r2, tys', ws', e1, e2, e3, e4, e5, e6, e7, e8⟩, e9⟩ := h
    exact ⟨⟨o, ho, v, r2, tys', ws', e1, e2, e3, e4, e5, e6, e7, e8, trivial⟩, e9⟩)
/-- what all outs say -/
theorem zg_ofO {l : Launch} {d : Nat} {en : zw_En} {P : zx_Ou → Bool} {Z : va_W → Prop} (h : vN l d en) (hfl : zv_fl en = false) (hP : en.2.2.2.2.1.all P = true) (hZ : ∀ (b : Nat) (ex : List Nat) (ρ : List Int) (tys : List (ClassId × FieldType)) (ws : va_W) (o : zx_Ou), P o = true → zx_ok ρ o.1 → zx_F2 (fun c q => zx_RC vwCl b ex ρ (zx_as ws) tys c q.2) o.2.1 ws → Z ws) : zg_EN l d en (fun _ _ => True) (fun _ _ _ ws' => Z ws') := by
  intro y cc maxL ret rm h1 h2 D A b ex ρ tys ws sz av h4 h5 h6 h7 _
  have h8 : (zw_YK zx_Yt (zv_K en) (zv_fl en)).2.2 ws := by
    rw [hfl]
    exact trivial
  exact zx_Met_imp (h y cc maxL ret rm h1 h2 D A b ex ρ tys ws sz av h4 h5 h6 h7 h8) ⟨Nat.le_refl _, Nat.le_refl _, Nat.le_refl _, Nat.le_refl _⟩ (fun _ _ h => ⟨h, fun _ q => q⟩) (fun _ _ _ _ _ h _ => by
    obtain ⟨⟨o, ho, v, r2, tys', ws', e1, e2, e3, e4, e5, e6, e7, e8⟩, e9⟩ := h
    exact ⟨⟨o, ho, v, r2, tys', ws', e1, e2, e3, e4, e5, e6, e7, e8, hZ _ _ _ _ _ o (List.all_eq_true.mp hP o ho) e2 e7⟩, e9⟩)
end
