noncomputable section
/-! zg: writeDown of the reference -/
def zgJ (F : Nat) (g : Nat → Int32) (e : Int) (ws : va_W) : Prop := ∃ (fS fP : Nat → Int32) (sm pm : Int), zg_row ws 24 fS ∧ zg_row ws 27 fP ∧ zg_fld ws 37 sm ∧ zg_fld ws 38 pm ∧ zg_I F g e sm pm fS fP
def zgZd (F : Nat) (g : Nat → Int32) (top : Bool) (av : List Value) (ws : va_W) (v : Option Value) (ws' : va_W) : Prop := zgJ F g 1 ws' ∧ (∀ (fP : Nat → Int32) (pm : Int), zg_row ws 27 fP → zg_fld ws 38 pm → ∃ pm' : Int, zg_fld ws' 38 pm' ∧ pm' ≤ pm ∧ (∀ k : Nat, (k : Int) < pm → (fP k).toInt = 23 → (k : Int) < pm') ∧ (top = true → pm' ≤ 0 ∨ ∃ n : Nat, pm' = n + 1 ∧ (fP n).toInt = 23)) ∧ ∀ q ∈ [39, 4], ∀ w, zg_fld ws q w → zg_fld ws' q w
def zg_t23 (G : zx_G) (h : List zx_C) : List (zx_L × zx_V) → Bool
  | [] => false
  | q :: r => (match q.2, zg_fe h 38 with
    | .inl v, some f => zg_xb G v 23 23 && zg_xb G (zx_sub f q.1) 1 1
    | _, _ => false) || zg_t23 G h r
theorem zg_t23_ok {G : zx_G} {h : List zx_C} : ∀ {l : List (zx_L × zx_V)}, zg_t23 G h l = true → ∃ (e v f : zx_L), (e, .inl v) ∈ l ∧ zg_fe h 38 = some f ∧ zg_xb G v 23 23 = true ∧ zg_xb G (zx_sub f e) 1 1 = true
  | [], hc => nomatch hc
  | q :: r, hc => by
    rw [zg_t23, Bool.or_eq_true] at hc
    rcases hc with hc | hc
    · split at hc
      · rename_i v f hv hf
        rw [Bool.and_eq_true] at hc
        refine ⟨q.1, v, f, ?_, hf, hc.1, hc.2⟩
        rw [← hv]
        exact List.mem_cons_self
      · cases hc
    · obtain ⟨e, v, f, h1, h2⟩ := zg_t23_ok hc
      exact ⟨e, v, f, List.mem_cons_of_mem _ h1, h2⟩
def zgEt (top : Bool) (o : zx_Ou) : Bool := !top || (zg_fb o.1 o.2.1 38 (-1000) 0 || zg_t23 o.1 o.2.1 (zg_rw o.2.1 27))
theorem zgEt_ok {b : Nat} {ex : List Nat} {ρ : List Int} {tys : List (ClassId × FieldType)} {o : zx_Ou} {ws : va_W} {top : Bool} (hG : zx_ok ρ o.1) (hh : zx_F2 (fun c q => zx_RC vwCl b ex ρ (zx_as ws) tys c q.2) o.2.1 ws) (ho : zgEt top o = true) (ht : top = true) {fP : Nat → Int32} {pm : Int} (hP : zg_row ws 27 fP) (hpm : zg_fld ws 38 pm) : pm ≤ 0 ∨ ∃ n : Nat, pm = n + 1 ∧ (fP n).toInt = 23 := by
  unfold zgEt at ho
  rw [ht, Bool.not_true, Bool.false_or, Bool.or_eq_true] at ho
  rcases ho with ho | ho
  · obtain ⟨w, h1, h2, h3⟩ := zg_fb_ok hG hh ho
    rw [zg_fld_u hpm h1]
    exact Or.inl h3
  · obtain ⟨e, v1, f, h1, h2, h3, h4⟩ := zg_t23_ok ho
    obtain ⟨w, h5, h6⟩ := zg_rw_ok hh hP h1
    obtain ⟨y, h7, h8⟩ := zg_fe_ok hh h2
    have h9 := zg_fld_u hpm h7
    subst h9
    have h10 := zg_xb_ok hG h3 h6
    have h11 := zg_xb_ok hG h4 (zx_sub_ev h8 h5)
    exact Or.inr ⟨w, by omega, by omega⟩
theorem vGwd1_K : ∀ i ∈ vGwd1.2.2.2.2.2.1, i ∈ vGK := by decide +kernel
theorem vGwd1_K2 : ∀ i ∈ vGwd1.2.2.2.2.2.1, i ∈ vGwrite.2.2.2.2.2.1 := by decide +kernel
set_option maxRecDepth 1000000 in
theorem vGwd1_c0 : zg_rk vGK vGf vGm_wd1 vGwd1.2.1.length vGwd1.2.2.2.2.1 (some ([(37, (0, 0)), (38, (0, 0)), (39, (0, 0)), (4, (0, 0))], zgEt true), false) [(63, vGwd1_63, [(37, (0, 0)), (38, (-1, -1)), (39, (0, 0)), (4, (0, 0))], [])] 0 vGs_wd1 = true := by decide +kernel
set_option maxRecDepth 1000000 in
theorem vGwd1_c1 : zg_rk vGK vGf vGm_wd1 vGwd1.2.1.length vGwd1.2.2.2.2.1 (some ([(37, (0, 0)), (38, (0, 0)), (39, (0, 0)), (4, (0, 0))], zgEt true), false) [(63, vGwd1_63, [(37, (0, 0)), (38, (-1, -1)), (39, (0, 0)), (4, (0, 0))], [])] 0 vGwd1_0 = true := by decide +kernel
theorem vGwd1_f : zg_rw vGwd1_63.2.1 27 = [(([(34, 1)], 0), .inl ([(35, 1)], 0))] := rfl
set_option maxRecDepth 1000000 in
theorem vGwd1_p : zg_fe vGwd1_63.2.1 38 = some ([(34, 1)], 0) := by decide +kernel
set_option maxRecDepth 1000000 in
theorem vGwd1_b : zg_xb vGwd1_63.1 ([(35, 1)], 0) 0 22 = true := by decide +kernel
set_option maxRecDepth 1000000 in
theorem vGwd1_q : zg_xb vGwd1_63.1 ([(34, 1)], 0) 0 63 = true := by decide +kernel
set_option maxRecDepth 1000000 in
theorem vGwd1_as : zg_cas vGm_wd1 388 vGwrite vGwd1_63 = [.inr (.inl ([64], false)), .inl ([(35, 1)], 0), .inl ([], 0), .inl ([], 0)] := by decide +kernel
set_option maxRecDepth 1000000 in
theorem vGwd1_cc : zg_ca vGK vGf vGm_wd1 vGwd1.2.1.length vGwd1.2.2.2.2.1 (none, false) [] (none, false) [(0, vGwd1_0, [(37, (0, 0)), (38, (0, 0)), (39, (0, 0)), (4, (0, 0))], [])] 63 388 vGwrite vGwd1_63 = true := by decide +kernel
theorem vGwd1_ok {l : Launch} (F : Nat) (g : Nat → Int32) : zg_EN l 29 vGwd1 (fun _ ws => zgJ F g 1 ws) (zgZd F g true) := by
  refine zg_enter (d := 28) (Kr := vGK) (md := vGm_wd1) vGm_wd1_ok (by decide +kernel) ?_
  intro p e R s mi args below meth c Q D A b ex nL own cc ρe tys ws0 av hX hG hh ha C KE
  have hm : ρe.length = vGwd1.2.1.length := hG.1
  obtain ⟨fS0, fP, sm0, pm0, x1, x2, x3, x4, x5⟩ := hX
  have loop : ∀ (N : Nat) (T : zx_T), zg_rk vGK vGf vGm_wd1 vGwd1.2.1.length vGwd1.2.2.2.2.1 (some ([(37, (0, 0)), (38, (0, 0)), (39, (0, 0)), (4, (0, 0))], zgEt true), false) [(63, vGwd1_63, [(37, (0, 0)), (38, (-1, -1)), (39, (0, 0)), (4, (0, 0))], [])] 0 T = true → ∀ (r : List Int) (ws : va_W) (fS : Nat → Int32) (sm pm : Int), zg_row ws 24 fS → zg_row ws 27 fP → zg_fld ws 37 sm → zg_fld ws 38 pm → zg_I F g 1 sm pm fS fP → pm ≤ pm0 → (∀ k : Nat, (k : Int) < pm0 → (fP k).toInt = 23 → (k : Int) < pm) → (∀ q ∈ [39, 4], ∀ w, zg_fld ws0 q w → zg_fld ws q w) → pm.toNat ≤ N → zg_go p l e R s mi args below meth c Q D A b ex (ws0, vGwd1.2.2.2.2.2.1) nL 0 T (ρe ++ r) ws := by
    intro N
    induction N with
    | zero =>
      intro T hck r ws fS sm pm y1 y2 y3 y4 y5 y6 y7 y8 hN
      refine zg_run2 (Zv := zgZd F g true av ws0) C vGwd1_K (vGf_ok 20 (by decide)) hm hck KE (fun o r2 ws3 tys3 v kp3 hG3 hh3 h3 hv => ?_) (fun t ht r' ws1 kp1 hfs hos => ?_)
      · rcases h3 with ⟨h3, -⟩ | ⟨l, h3, h4, h5⟩
        · cases h3
        cases h3
        have z2 := zg_row_kp kp3 (by decide +kernel) y2
        have z4 := zg_fs_0 h4 (by decide) y4
        refine ⟨⟨fS, fP, sm, pm, zg_row_kp kp3 (by decide +kernel) y1, z2, zg_fs_0 h4 (by decide) y3, z4, y5⟩, fun fP' pm' k1 k2 => ?_, fun q hq w hw => ?_⟩
        · have e1 := zg_row_u k1 x2
          have e2 := zg_fld_u k2 x4
          subst e1
          subst e2
          exact ⟨pm, z4, y6, y7, fun ht => zgEt_ok hG3 hh3 h5 ht z2 z4⟩
        · refine zg_fs_0 h4 ?_ (y8 q hq w hw)
          simp only [List.mem_cons, List.not_mem_nil, or_false] at hq
          rcases hq with rfl | rfl <;> decide
      · rw [List.mem_singleton] at ht
        subst ht
        refine zg_with (fun tys1 hG1 hh1 => ?_)
        obtain ⟨u, u1, u2⟩ := zg_fe_ok hh1 vGwd1_p
        have h1 := zg_fld_u u1 (zg_fs_eq hfs (δ := -1) (by decide) y4)
        have h2 := zg_xb_ok hG1 vGwd1_q u2
        omega
    | succ N ih =>
      intro T hck r ws fS sm pm y1 y2 y3 y4 y5 y6 y7 y8 hN
      refine zg_run2 (Zv := zgZd F g true av ws0) C vGwd1_K (vGf_ok 20 (by decide)) hm hck KE (fun o r2 ws3 tys3 v kp3 hG3 hh3 h3 hv => ?_) (fun t ht r' ws1 kp1 hfs hos => ?_)
      · rcases h3 with ⟨h3, -⟩ | ⟨l, h3, h4, h5⟩
        · cases h3
        cases h3
        have z2 := zg_row_kp kp3 (by decide +kernel) y2
        have z4 := zg_fs_0 h4 (by decide) y4
        refine ⟨⟨fS, fP, sm, pm, zg_row_kp kp3 (by decide +kernel) y1, z2, zg_fs_0 h4 (by decide) y3, z4, y5⟩, fun fP' pm' k1 k2 => ?_, fun q hq w hw => ?_⟩
        · have e1 := zg_row_u k1 x2
          have e2 := zg_fld_u k2 x4
          subst e1
          subst e2
          exact ⟨pm, z4, y6, y7, fun ht => zgEt_ok hG3 hh3 h5 ht z2 z4⟩
        · refine zg_fs_0 h4 ?_ (y8 q hq w hw)
          simp only [List.mem_cons, List.not_mem_nil, or_false] at hq
          rcases hq with rfl | rfl <;> decide
      · rw [List.mem_singleton] at ht
        subst ht
        refine zg_with (fun tys1 hG1 hh1 => ?_)
        obtain ⟨u, u1, u2⟩ := zg_fe_ok hh1 vGwd1_p
        have z4 := zg_fs_eq hfs (δ := -1) (by decide) y4
        have h1 := zg_fld_u u1 z4
        have h2 := zg_xb_ok hG1 vGwd1_q u2
        have z1 := zg_row_kp kp1 (by decide +kernel) y1
        have z2 := zg_row_kp kp1 (by decide +kernel) y2
        have z3 := zg_fs_0 hfs (by decide) y3
        obtain ⟨w, w1, w2⟩ := zg_rw_ok hh1 z2 (e := ([(34, 1)], 0)) (v := ([(35, 1)], 0)) (by rw [vGwd1_f]; exact List.mem_cons_self)
        have hw : (w : Int) = u := by
          rw [u2] at w1
          exact (Option.some.inj w1).symm
        have hb := zg_xb_ok hG1 vGwd1_b w2
        refine zg_call2 (Zv := zgZd F g true av ws0) C vGwd1_K (vGf_ok 20 (by decide)) hm (zg_EN_mono vGwrite_ok (by decide)) vGwd1_K2 (List.mem_of_getElem? (i := 36) rfl) vGwd1_cc vGwd1_as KE (fun _ _ => trivial) (fun av2 ws2 _ _ _ => ⟨fun o r2 ws3 tys3 v kp3 _ _ h3 _ => ?_, fun t ht => nomatch ht⟩) (fun av2 v2 ws2 ha2 kp2 hZ hv2 => ⟨fun o r2 ws3 tys3 v kp3 _ _ h3 _ => ?_, fun t ht r3 ws3 kp3 hfs3 _ => ?_⟩)
        · rcases h3 with ⟨h3, -⟩ | ⟨l, h3, -⟩
          · cases h3
          · cases h3
        · rcases h3 with ⟨h3, -⟩ | ⟨l, h3, -⟩
          · cases h3
          · cases h3
        · rw [List.mem_singleton] at ht
          subst ht
          obtain ⟨on, n1, -⟩ := zg_fb_ok (q := 39) (lo := -5000) (hi := 5000) hG1 hh1 (by decide +kernel)
          obtain ⟨pp, n2, -⟩ := zg_fb_ok (q := 4) (lo := -5000) (hi := 5000) hG1 hh1 (by decide +kernel)
          obtain ⟨x, m, a1, a2, a3, a4, a5, a6, a7⟩ := hZ hv2 fS sm (pm + -1) on pp z1 z3 z4 n1 n2
          obtain ⟨x', b1, b2⟩ := zg_arg ha2 (i := 1) rfl
          rw [a1] at b1
          cases b1
          have hx : x = fP w := Int32.toInt_inj.mp (by rw [w2] at b2; exact (Option.some.inj b2).symm)
          have hpm : pm = w + 1 := by omega
          have h23 : x.toInt ≠ 23 := by rw [hx]; omega
          have hI := zg_I_pop (m := m) (n := w) (v := x) y5 a2 hpm hx h23
          refine ih vGwd1_0 vGwd1_c1 r3 ws3 _ (sm + 1) (pm - 1) (zg_row_kp kp3 (by decide +kernel) a3) (zg_row_kp kp3 (by decide +kernel) (zg_row_kp kp2 (by decide +kernel) z2)) (zg_fs_0 hfs3 (by decide) a4) (zg_fs_0 hfs3 (by decide) a5) hI (by omega) (fun k k1 k2 => ?_) (fun q hq u hu => ?_) (by omega)
          · have k3 := y7 k k1 k2
            by_cases hk : k = w
            · rw [hk, ← hx] at k2
              exact absurd k2 h23
            · omega
          · have hu2 := y8 q hq u hu
            simp only [List.mem_cons, List.not_mem_nil, or_false] at hq
            rcases hq with rfl | rfl
            · have e3 := zg_fld_u n1 (zg_fs_0 hfs (by decide) hu2)
              rw [← e3]
              exact zg_fs_0 hfs3 (by decide) a6
            · have e3 := zg_fld_u n2 (zg_fs_0 hfs (by decide) hu2)
              rw [← e3]
              exact zg_fs_0 hfs3 (by decide) a7
  have h := loop pm0.toNat vGs_wd1 vGwd1_c0 [] ws0 fS0 sm0 pm0 x1 x2 x3 x4 x5 (Int.le_refl _) (fun k k1 _ => k1) (fun q _ w hw => hw) (Nat.le_refl _)
  rw [List.append_nil] at h
  exact h
theorem vGwd2_K : ∀ i ∈ vGwd2.2.2.2.2.2.1, i ∈ vGK := by decide +kernel
theorem vGwd2_K2 : ∀ i ∈ vGwd2.2.2.2.2.2.1, i ∈ vGwrite.2.2.2.2.2.1 := by decide +kernel
set_option maxRecDepth 1000000 in
theorem vGwd2_c0 : zg_rk vGK vGf vGm_wd2 vGwd2.2.1.length vGwd2.2.2.2.2.1 (some ([(37, (0, 0)), (38, (0, 0)), (39, (0, 0)), (4, (0, 0))], zgEt false), false) [(63, vGwd2_63, [(37, (0, 0)), (38, (-1, -1)), (39, (0, 0)), (4, (0, 0))], [])] 0 vGs_wd2 = true := by decide +kernel
set_option maxRecDepth 1000000 in
theorem vGwd2_c1 : zg_rk vGK vGf vGm_wd2 vGwd2.2.1.length vGwd2.2.2.2.2.1 (some ([(37, (0, 0)), (38, (0, 0)), (39, (0, 0)), (4, (0, 0))], zgEt false), false) [(63, vGwd2_63, [(37, (0, 0)), (38, (-1, -1)), (39, (0, 0)), (4, (0, 0))], [])] 0 vGwd2_0 = true := by decide +kernel
theorem vGwd2_f : zg_rw vGwd2_63.2.1 27 = [(([(35, 1)], 0), .inl ([(36, 1)], 0))] := rfl
set_option maxRecDepth 1000000 in
theorem vGwd2_p : zg_fe vGwd2_63.2.1 38 = some ([(35, 1)], 0) := by decide +kernel
set_option maxRecDepth 1000000 in
theorem vGwd2_b : zg_xb vGwd2_63.1 ([(36, 1)], 0) 0 22 = true := by decide +kernel
set_option maxRecDepth 1000000 in
theorem vGwd2_q : zg_xb vGwd2_63.1 ([(35, 1)], 0) 0 63 = true := by decide +kernel
set_option maxRecDepth 1000000 in
theorem vGwd2_as : zg_cas vGm_wd2 388 vGwrite vGwd2_63 = [.inr (.inl ([64], false)), .inl ([(36, 1)], 0), .inl ([], 0), .inl ([], 0)] := by decide +kernel
set_option maxRecDepth 1000000 in
theorem vGwd2_cc : zg_ca vGK vGf vGm_wd2 vGwd2.2.1.length vGwd2.2.2.2.2.1 (none, false) [] (none, false) [(0, vGwd2_0, [(37, (0, 0)), (38, (0, 0)), (39, (0, 0)), (4, (0, 0))], [])] 63 388 vGwrite vGwd2_63 = true := by decide +kernel
theorem vGwd2_ok {l : Launch} (F : Nat) (g : Nat → Int32) : zg_EN l 29 vGwd2 (fun _ ws => zgJ F g 1 ws) (zgZd F g false) := by
  refine zg_enter (d := 28) (Kr := vGK) (md := vGm_wd2) vGm_wd2_ok (by decide +kernel) ?_
  intro p e R s mi args below meth c Q D A b ex nL own cc ρe tys ws0 av hX hG hh ha C KE
  have hm : ρe.length = vGwd2.2.1.length := hG.1
  obtain ⟨fS0, fP, sm0, pm0, x1, x2, x3, x4, x5⟩ := hX
  have loop : ∀ (N : Nat) (T : zx_T), zg_rk vGK vGf vGm_wd2 vGwd2.2.1.length vGwd2.2.2.2.2.1 (some ([(37, (0, 0)), (38, (0, 0)), (39, (0, 0)), (4, (0, 0))], zgEt false), false) [(63, vGwd2_63, [(37, (0, 0)), (38, (-1, -1)), (39, (0, 0)), (4, (0, 0))], [])] 0 T = true → ∀ (r : List Int) (ws : va_W) (fS : Nat → Int32) (sm pm : Int), zg_row ws 24 fS → zg_row ws 27 fP → zg_fld ws 37 sm → zg_fld ws 38 pm → zg_I F g 1 sm pm fS fP → pm ≤ pm0 → (∀ k : Nat, (k : Int) < pm0 → (fP k).toInt = 23 → (k : Int) < pm) → (∀ q ∈ [39, 4], ∀ w, zg_fld ws0 q w → zg_fld ws q w) → pm.toNat ≤ N → zg_go p l e R s mi args below meth c Q D A b ex (ws0, vGwd2.2.2.2.2.2.1) nL 0 T (ρe ++ r) ws := by
    intro N
    induction N with
    | zero =>
      intro T hck r ws fS sm pm y1 y2 y3 y4 y5 y6 y7 y8 hN
      refine zg_run2 (Zv := zgZd F g false av ws0) C vGwd2_K (vGf_ok 20 (by decide)) hm hck KE (fun o r2 ws3 tys3 v kp3 hG3 hh3 h3 hv => ?_) (fun t ht r' ws1 kp1 hfs hos => ?_)
      · rcases h3 with ⟨h3, -⟩ | ⟨l, h3, h4, h5⟩
        · cases h3
        cases h3
        have z2 := zg_row_kp kp3 (by decide +kernel) y2
        have z4 := zg_fs_0 h4 (by decide) y4
        refine ⟨⟨fS, fP, sm, pm, zg_row_kp kp3 (by decide +kernel) y1, z2, zg_fs_0 h4 (by decide) y3, z4, y5⟩, fun fP' pm' k1 k2 => ?_, fun q hq w hw => ?_⟩
        · have e1 := zg_row_u k1 x2
          have e2 := zg_fld_u k2 x4
          subst e1
          subst e2
          exact ⟨pm, z4, y6, y7, fun ht => zgEt_ok hG3 hh3 h5 ht z2 z4⟩
        · refine zg_fs_0 h4 ?_ (y8 q hq w hw)
          simp only [List.mem_cons, List.not_mem_nil, or_false] at hq
          rcases hq with rfl | rfl <;> decide
      · rw [List.mem_singleton] at ht
        subst ht
        refine zg_with (fun tys1 hG1 hh1 => ?_)
        obtain ⟨u, u1, u2⟩ := zg_fe_ok hh1 vGwd2_p
        have h1 := zg_fld_u u1 (zg_fs_eq hfs (δ := -1) (by decide) y4)
        have h2 := zg_xb_ok hG1 vGwd2_q u2
        omega
    | succ N ih =>
      intro T hck r ws fS sm pm y1 y2 y3 y4 y5 y6 y7 y8 hN
      refine zg_run2 (Zv := zgZd F g false av ws0) C vGwd2_K (vGf_ok 20 (by decide)) hm hck KE (fun o r2 ws3 tys3 v kp3 hG3 hh3 h3 hv => ?_) (fun t ht r' ws1 kp1 hfs hos => ?_)
      · rcases h3 with ⟨h3, -⟩ | ⟨l, h3, h4, h5⟩
        · cases h3
        cases h3
        have z2 := zg_row_kp kp3 (by decide +kernel) y2
        have z4 := zg_fs_0 h4 (by decide) y4
        refine ⟨⟨fS, fP, sm, pm, zg_row_kp kp3 (by decide +kernel) y1, z2, zg_fs_0 h4 (by decide) y3, z4, y5⟩, fun fP' pm' k1 k2 => ?_, fun q hq w hw => ?_⟩
        · have e1 := zg_row_u k1 x2
          have e2 := zg_fld_u k2 x4
          subst e1
          subst e2
          exact ⟨pm, z4, y6, y7, fun ht => zgEt_ok hG3 hh3 h5 ht z2 z4⟩
        · refine zg_fs_0 h4 ?_ (y8 q hq w hw)
          simp only [List.mem_cons, List.not_mem_nil, or_false] at hq
          rcases hq with rfl | rfl <;> decide
      · rw [List.mem_singleton] at ht
        subst ht
        refine zg_with (fun tys1 hG1 hh1 => ?_)
        obtain ⟨u, u1, u2⟩ := zg_fe_ok hh1 vGwd2_p
        have z4 := zg_fs_eq hfs (δ := -1) (by decide) y4
        have h1 := zg_fld_u u1 z4
        have h2 := zg_xb_ok hG1 vGwd2_q u2
        have z1 := zg_row_kp kp1 (by decide +kernel) y1
        have z2 := zg_row_kp kp1 (by decide +kernel) y2
        have z3 := zg_fs_0 hfs (by decide) y3
        obtain ⟨w, w1, w2⟩ := zg_rw_ok hh1 z2 (e := ([(35, 1)], 0)) (v := ([(36, 1)], 0)) (by rw [vGwd2_f]; exact List.mem_cons_self)
        have hw : (w : Int) = u := by
          rw [u2] at w1
          exact (Option.some.inj w1).symm
        have hb := zg_xb_ok hG1 vGwd2_b w2
        refine zg_call2 (Zv := zgZd F g false av ws0) C vGwd2_K (vGf_ok 20 (by decide)) hm (zg_EN_mono vGwrite_ok (by decide)) vGwd2_K2 (List.mem_of_getElem? (i := 36) rfl) vGwd2_cc vGwd2_as KE (fun _ _ => trivial) (fun av2 ws2 _ _ _ => ⟨fun o r2 ws3 tys3 v kp3 _ _ h3 _ => ?_, fun t ht => nomatch ht⟩) (fun av2 v2 ws2 ha2 kp2 hZ hv2 => ⟨fun o r2 ws3 tys3 v kp3 _ _ h3 _ => ?_, fun t ht r3 ws3 kp3 hfs3 _ => ?_⟩)
        · rcases h3 with ⟨h3, -⟩ | ⟨l, h3, -⟩
          · cases h3
          · cases h3
        · rcases h3 with ⟨h3, -⟩ | ⟨l, h3, -⟩
          · cases h3
          · cases h3
        · rw [List.mem_singleton] at ht
          subst ht
          obtain ⟨on, n1, -⟩ := zg_fb_ok (q := 39) (lo := -5000) (hi := 5000) hG1 hh1 (by decide +kernel)
          obtain ⟨pp, n2, -⟩ := zg_fb_ok (q := 4) (lo := -5000) (hi := 5000) hG1 hh1 (by decide +kernel)
          obtain ⟨x, m, a1, a2, a3, a4, a5, a6, a7⟩ := hZ hv2 fS sm (pm + -1) on pp z1 z3 z4 n1 n2
          obtain ⟨x', b1, b2⟩ := zg_arg ha2 (i := 1) rfl
          rw [a1] at b1
          cases b1
          have hx : x = fP w := Int32.toInt_inj.mp (by rw [w2] at b2; exact (Option.some.inj b2).symm)
          have hpm : pm = w + 1 := by omega
          have h23 : x.toInt ≠ 23 := by rw [hx]; omega
          have hI := zg_I_pop (m := m) (n := w) (v := x) y5 a2 hpm hx h23
          refine ih vGwd2_0 vGwd2_c1 r3 ws3 _ (sm + 1) (pm - 1) (zg_row_kp kp3 (by decide +kernel) a3) (zg_row_kp kp3 (by decide +kernel) (zg_row_kp kp2 (by decide +kernel) z2)) (zg_fs_0 hfs3 (by decide) a4) (zg_fs_0 hfs3 (by decide) a5) hI (by omega) (fun k k1 k2 => ?_) (fun q hq u hu => ?_) (by omega)
          · have k3 := y7 k k1 k2
            by_cases hk : k = w
            · rw [hk, ← hx] at k2
              exact absurd k2 h23
            · omega
          · have hu2 := y8 q hq u hu
            simp only [List.mem_cons, List.not_mem_nil, or_false] at hq
            rcases hq with rfl | rfl
            · have e3 := zg_fld_u n1 (zg_fs_0 hfs (by decide) hu2)
              rw [← e3]
              exact zg_fs_0 hfs3 (by decide) a6
            · have e3 := zg_fld_u n2 (zg_fs_0 hfs (by decide) hu2)
              rw [← e3]
              exact zg_fs_0 hfs3 (by decide) a7
  have h := loop pm0.toNat vGs_wd2 vGwd2_c0 [] ws0 fS0 sm0 pm0 x1 x2 x3 x4 x5 (Int.le_refl _) (fun k k1 _ => k1) (fun q _ w hw => hw) (Nat.le_refl _)
  rw [List.append_nil] at h
  exact h
theorem vGwd3_K : ∀ i ∈ vGwd3.2.2.2.2.2.1, i ∈ vGK := by decide +kernel
theorem vGwd3_K2 : ∀ i ∈ vGwd3.2.2.2.2.2.1, i ∈ vGwrite.2.2.2.2.2.1 := by decide +kernel
set_option maxRecDepth 1000000 in
theorem vGwd3_c0 : zg_rk vGK vGf vGm_wd3 vGwd3.2.1.length vGwd3.2.2.2.2.1 (some ([(37, (0, 0)), (38, (0, 0)), (39, (0, 0)), (4, (0, 0))], zgEt false), false) [(63, vGwd3_63, [(37, (0, 0)), (38, (-1, -1)), (39, (0, 0)), (4, (0, 0))], [])] 0 vGs_wd3 = true := by decide +kernel
set_option maxRecDepth 1000000 in
theorem vGwd3_c1 : zg_rk vGK vGf vGm_wd3 vGwd3.2.1.length vGwd3.2.2.2.2.1 (some ([(37, (0, 0)), (38, (0, 0)), (39, (0, 0)), (4, (0, 0))], zgEt false), false) [(63, vGwd3_63, [(37, (0, 0)), (38, (-1, -1)), (39, (0, 0)), (4, (0, 0))], [])] 0 vGwd3_0 = true := by decide +kernel
theorem vGwd3_f : zg_rw vGwd3_63.2.1 27 = [(([(34, 1)], 0), .inl ([(35, 1)], 0))] := rfl
set_option maxRecDepth 1000000 in
theorem vGwd3_p : zg_fe vGwd3_63.2.1 38 = some ([(34, 1)], 0) := by decide +kernel
set_option maxRecDepth 1000000 in
theorem vGwd3_b : zg_xb vGwd3_63.1 ([(35, 1)], 0) 0 22 = true := by decide +kernel
set_option maxRecDepth 1000000 in
theorem vGwd3_q : zg_xb vGwd3_63.1 ([(34, 1)], 0) 0 63 = true := by decide +kernel
set_option maxRecDepth 1000000 in
theorem vGwd3_as : zg_cas vGm_wd3 388 vGwrite vGwd3_63 = [.inr (.inl ([64], false)), .inl ([(35, 1)], 0), .inl ([], 0), .inl ([], 0)] := by decide +kernel
set_option maxRecDepth 1000000 in
theorem vGwd3_cc : zg_ca vGK vGf vGm_wd3 vGwd3.2.1.length vGwd3.2.2.2.2.1 (none, false) [] (none, false) [(0, vGwd3_0, [(37, (0, 0)), (38, (0, 0)), (39, (0, 0)), (4, (0, 0))], [])] 63 388 vGwrite vGwd3_63 = true := by decide +kernel
theorem vGwd3_ok {l : Launch} (F : Nat) (g : Nat → Int32) : zg_EN l 29 vGwd3 (fun _ ws => zgJ F g 1 ws) (zgZd F g false) := by
  refine zg_enter (d := 28) (Kr := vGK) (md := vGm_wd3) vGm_wd3_ok (by decide +kernel) ?_
  intro p e R s mi args below meth c Q D A b ex nL own cc ρe tys ws0 av hX hG hh ha C KE
  have hm : ρe.length = vGwd3.2.1.length := hG.1
  obtain ⟨fS0, fP, sm0, pm0, x1, x2, x3, x4, x5⟩ := hX
  have loop : ∀ (N : Nat) (T : zx_T), zg_rk vGK vGf vGm_wd3 vGwd3.2.1.length vGwd3.2.2.2.2.1 (some ([(37, (0, 0)), (38, (0, 0)), (39, (0, 0)), (4, (0, 0))], zgEt false), false) [(63, vGwd3_63, [(37, (0, 0)), (38, (-1, -1)), (39, (0, 0)), (4, (0, 0))], [])] 0 T = true → ∀ (r : List Int) (ws : va_W) (fS : Nat → Int32) (sm pm : Int), zg_row ws 24 fS → zg_row ws 27 fP → zg_fld ws 37 sm → zg_fld ws 38 pm → zg_I F g 1 sm pm fS fP → pm ≤ pm0 → (∀ k : Nat, (k : Int) < pm0 → (fP k).toInt = 23 → (k : Int) < pm) → (∀ q ∈ [39, 4], ∀ w, zg_fld ws0 q w → zg_fld ws q w) → pm.toNat ≤ N → zg_go p l e R s mi args below meth c Q D A b ex (ws0, vGwd3.2.2.2.2.2.1) nL 0 T (ρe ++ r) ws := by
    intro N
    induction N with
    | zero =>
      intro T hck r ws fS sm pm y1 y2 y3 y4 y5 y6 y7 y8 hN
      refine zg_run2 (Zv := zgZd F g false av ws0) C vGwd3_K (vGf_ok 20 (by decide)) hm hck KE (fun o r2 ws3 tys3 v kp3 hG3 hh3 h3 hv => ?_) (fun t ht r' ws1 kp1 hfs hos => ?_)
      · rcases h3 with ⟨h3, -⟩ | ⟨l, h3, h4, h5⟩
        · cases h3
        cases h3
        have z2 := zg_row_kp kp3 (by decide +kernel) y2
        have z4 := zg_fs_0 h4 (by decide) y4
        refine ⟨⟨fS, fP, sm, pm, zg_row_kp kp3 (by decide +kernel) y1, z2, zg_fs_0 h4 (by decide) y3, z4, y5⟩, fun fP' pm' k1 k2 => ?_, fun q hq w hw => ?_⟩
        · have e1 := zg_row_u k1 x2
          have e2 := zg_fld_u k2 x4
          subst e1
          subst e2
          exact ⟨pm, z4, y6, y7, fun ht => zgEt_ok hG3 hh3 h5 ht z2 z4⟩
        · refine zg_fs_0 h4 ?_ (y8 q hq w hw)
          simp only [List.mem_cons, List.not_mem_nil, or_false] at hq
          rcases hq with rfl | rfl <;> decide
      · rw [List.mem_singleton] at ht
        subst ht
        refine zg_with (fun tys1 hG1 hh1 => ?_)
        obtain ⟨u, u1, u2⟩ := zg_fe_ok hh1 vGwd3_p
        have h1 := zg_fld_u u1 (zg_fs_eq hfs (δ := -1) (by decide) y4)
        have h2 := zg_xb_ok hG1 vGwd3_q u2
        omega
    | succ N ih =>
      intro T hck r ws fS sm pm y1 y2 y3 y4 y5 y6 y7 y8 hN
      refine zg_run2 (Zv := zgZd F g false av ws0) C vGwd3_K (vGf_ok 20 (by decide)) hm hck KE (fun o r2 ws3 tys3 v kp3 hG3 hh3 h3 hv => ?_) (fun t ht r' ws1 kp1 hfs hos => ?_)
      · rcases h3 with ⟨h3, -⟩ | ⟨l, h3, h4, h5⟩
        · cases h3
        cases h3
        have z2 := zg_row_kp kp3 (by decide +kernel) y2
        have z4 := zg_fs_0 h4 (by decide) y4
        refine ⟨⟨fS, fP, sm, pm, zg_row_kp kp3 (by decide +kernel) y1, z2, zg_fs_0 h4 (by decide) y3, z4, y5⟩, fun fP' pm' k1 k2 => ?_, fun q hq w hw => ?_⟩
        · have e1 := zg_row_u k1 x2
          have e2 := zg_fld_u k2 x4
          subst e1
          subst e2
          exact ⟨pm, z4, y6, y7, fun ht => zgEt_ok hG3 hh3 h5 ht z2 z4⟩
        · refine zg_fs_0 h4 ?_ (y8 q hq w hw)
          simp only [List.mem_cons, List.not_mem_nil, or_false] at hq
          rcases hq with rfl | rfl <;> decide
      · rw [List.mem_singleton] at ht
        subst ht
        refine zg_with (fun tys1 hG1 hh1 => ?_)
        obtain ⟨u, u1, u2⟩ := zg_fe_ok hh1 vGwd3_p
        have z4 := zg_fs_eq hfs (δ := -1) (by decide) y4
        have h1 := zg_fld_u u1 z4
        have h2 := zg_xb_ok hG1 vGwd3_q u2
        have z1 := zg_row_kp kp1 (by decide +kernel) y1
        have z2 := zg_row_kp kp1 (by decide +kernel) y2
        have z3 := zg_fs_0 hfs (by decide) y3
        obtain ⟨w, w1, w2⟩ := zg_rw_ok hh1 z2 (e := ([(34, 1)], 0)) (v := ([(35, 1)], 0)) (by rw [vGwd3_f]; exact List.mem_cons_self)
        have hw : (w : Int) = u := by
          rw [u2] at w1
          exact (Option.some.inj w1).symm
        have hb := zg_xb_ok hG1 vGwd3_b w2
        refine zg_call2 (Zv := zgZd F g false av ws0) C vGwd3_K (vGf_ok 20 (by decide)) hm (zg_EN_mono vGwrite_ok (by decide)) vGwd3_K2 (List.mem_of_getElem? (i := 36) rfl) vGwd3_cc vGwd3_as KE (fun _ _ => trivial) (fun av2 ws2 _ _ _ => ⟨fun o r2 ws3 tys3 v kp3 _ _ h3 _ => ?_, fun t ht => nomatch ht⟩) (fun av2 v2 ws2 ha2 kp2 hZ hv2 => ⟨fun o r2 ws3 tys3 v kp3 _ _ h3 _ => ?_, fun t ht r3 ws3 kp3 hfs3 _ => ?_⟩)
        · rcases h3 with ⟨h3, -⟩ | ⟨l, h3, -⟩
          · cases h3
          · cases h3
        · rcases h3 with ⟨h3, -⟩ | ⟨l, h3, -⟩
          · cases h3
          · cases h3
        · rw [List.mem_singleton] at ht
          subst ht
          obtain ⟨on, n1, -⟩ := zg_fb_ok (q := 39) (lo := -5000) (hi := 5000) hG1 hh1 (by decide +kernel)
          obtain ⟨pp, n2, -⟩ := zg_fb_ok (q := 4) (lo := -5000) (hi := 5000) hG1 hh1 (by decide +kernel)
          obtain ⟨x, m, a1, a2, a3, a4, a5, a6, a7⟩ := hZ hv2 fS sm (pm + -1) on pp z1 z3 z4 n1 n2
          obtain ⟨x', b1, b2⟩ := zg_arg ha2 (i := 1) rfl
          rw [a1] at b1
          cases b1
          have hx : x = fP w := Int32.toInt_inj.mp (by rw [w2] at b2; exact (Option.some.inj b2).symm)
          have hpm : pm = w + 1 := by omega
          have h23 : x.toInt ≠ 23 := by rw [hx]; omega
          have hI := zg_I_pop (m := m) (n := w) (v := x) y5 a2 hpm hx h23
          refine ih vGwd3_0 vGwd3_c1 r3 ws3 _ (sm + 1) (pm - 1) (zg_row_kp kp3 (by decide +kernel) a3) (zg_row_kp kp3 (by decide +kernel) (zg_row_kp kp2 (by decide +kernel) z2)) (zg_fs_0 hfs3 (by decide) a4) (zg_fs_0 hfs3 (by decide) a5) hI (by omega) (fun k k1 k2 => ?_) (fun q hq u hu => ?_) (by omega)
          · have k3 := y7 k k1 k2
            by_cases hk : k = w
            · rw [hk, ← hx] at k2
              exact absurd k2 h23
            · omega
          · have hu2 := y8 q hq u hu
            simp only [List.mem_cons, List.not_mem_nil, or_false] at hq
            rcases hq with rfl | rfl
            · have e3 := zg_fld_u n1 (zg_fs_0 hfs (by decide) hu2)
              rw [← e3]
              exact zg_fs_0 hfs3 (by decide) a6
            · have e3 := zg_fld_u n2 (zg_fs_0 hfs (by decide) hu2)
              rw [← e3]
              exact zg_fs_0 hfs3 (by decide) a7
  have h := loop pm0.toNat vGs_wd3 vGwd3_c0 [] ws0 fS0 sm0 pm0 x1 x2 x3 x4 x5 (Int.le_refl _) (fun k k1 _ => k1) (fun q _ w hw => hw) (Nat.le_refl _)
  rw [List.append_nil] at h
  exact h
end
