noncomputable section
/-! zg: write, plain, isOpen of the reference -/
theorem zg_fs_eq {ws ws' : va_W} {l : List (Nat × (Int × Int))} (h : zg_fs ws ws' l) {q : Nat} {δ w : Int} (hq : (q, (δ, δ)) ∈ l) (hw : zg_fld ws q w) : zg_fld ws' q (w + δ) := by
  obtain ⟨w', h1, h2, h3⟩ := h _ hq w hw
  have h2 : w + δ ≤ w' := h2
  have h3 : w' ≤ w + δ := h3
  have h4 : w' = w + δ := by omega
  rw [h4] at h1
  exact h1
theorem zg_fs_0 {ws ws' : va_W} {l : List (Nat × (Int × Int))} (h : zg_fs ws ws' l) {q : Nat} {w : Int} (hq : (q, ((0 : Int), (0 : Int))) ∈ l) (hw : zg_fld ws q w) : zg_fld ws' q w := by
  have h1 := zg_fs_eq h hq hw
  rw [Int.add_zero] at h1
  exact h1
/-- a number that is an argument -/
theorem zg_arg {b : Nat} {ex : List Nat} {ρ : List Int} {ad : List Nat} {as : List zx_V} {av : List Value} (ha : zx_F2 (zx_R b ex ρ ad) as av) {i : Nat} {e : zx_L} (hi : as[i]? = some (.inl e)) : ∃ x : Int32, av[i]? = some (.int x) ∧ zx_ev ρ e = some x.toInt := by
  obtain ⟨y, h1, w, h2, h3⟩ := zx_F2_get ha hi
  subst h2
  exact ⟨w, h1, h3⟩
def zgZw (av : List Value) (ws : va_W) (v : Option Value) (ws' : va_W) : Prop := v ≠ some (.int 0) → ∀ (fS : Nat → Int32) (sm pm on p : Int), zg_row ws 24 fS → zg_fld ws 37 sm → zg_fld ws 38 pm → zg_fld ws 39 on → zg_fld ws 4 p → ∃ (x : Int32) (m : Nat), av[1]? = some (.int x) ∧ sm = m ∧ zg_row ws' 24 (upd fS (2000 + m) x) ∧ zg_fld ws' 37 (sm + 1) ∧ zg_fld ws' 38 pm ∧ zg_fld ws' 39 on ∧ zg_fld ws' 4 p
theorem vGwrite_K : ∀ i ∈ vGwrite.2.2.2.2.2.1, i ∈ vGK := by decide +kernel
set_option maxRecDepth 1000000 in
theorem vGwrite_c0 : zg_rk vGK vGf vGm_write vGwrite.2.1.length vGwrite.2.2.2.2.1 (none, false) [(13, vGwrite_13, [(37, (0, 0)), (38, (0, 0)), (39, (0, 0)), (4, (0, 0))], [])] 0 vGs_write = true := by decide +kernel
set_option maxRecDepth 1000000 in
theorem vGwrite_s : zg_sk vGwrite.2.2.2.2.2.1 vGwrite_13 24 2100 = true := by decide +kernel
set_option maxRecDepth 1000000 in
theorem vGwrite_x : zg_xf vGwrite_13.1 vGwrite_13.2.1 (zg_sE vGwrite.2.2.2.2.2.1 vGwrite_13) 37 2000 = true := by decide +kernel
set_option maxRecDepth 1000000 in
theorem vGwrite_v : zg_sV vGwrite.2.2.2.2.2.1 vGwrite_13 = ([(32, 1)], 0) := by decide +kernel
set_option maxRecDepth 1000000 in
theorem vGwrite_a : vGwrite.2.2.2.1[1]? = some (.inl ([(32, 1)], 0)) := by decide +kernel
set_option maxRecDepth 1000000 in
theorem vGwrite_c1 : zg_rk vGK vGf vGm_write vGwrite.2.1.length vGwrite.2.2.2.2.1 (some ([(37, (1, 1)), (38, (0, 0)), (39, (0, 0)), (4, (0, 0))], fun _ => true), false) [] 14 (zg_sT vGwrite.2.2.2.2.2.1 vGwrite_13) = true := by decide +kernel
set_option maxRecDepth 1000000 in
theorem vGwrite_b : zg_fb vGwrite_13.1 vGwrite_13.2.1 37 0 99 = true := by decide +kernel
theorem vGwrite_ok {l : Launch} : zg_EN l 27 vGwrite (fun _ _ => True) zgZw := by
  refine zg_enter (d := 26) (Kr := vGK) (md := vGm_write) vGm_write_ok (by decide +kernel) ?_
  intro p e R s mi args below meth c Q D A b ex nL own cc ρe tys ws0 av hX hG hh ha C KE
  have hm : ρe.length = vGwrite.2.1.length := hG.1
  refine zg_run0 (Zv := zgZw av ws0) C vGwrite_K (vGf_ok 18 (by decide)) hm vGwrite_c0 KE (fun o r' ws' tys v _ _ _ h3 _ => ?_) (fun t ht r' ws1 kp hfs _ => ?_)
  · rcases h3 with ⟨h3, -⟩ | ⟨l, h3, -⟩
    · cases h3
    · cases h3
  rw [List.mem_singleton] at ht
  subst ht
  refine zg_with (fun tys1 hG1 hh1 => ?_)
  refine zg_store2 C (i := 24) (n := 2100) (List.mem_of_getElem? (i := 7) rfl) vGwrite_s (by decide) (fun f w v' ws2 g1 g2 g3 g4 g5 g6 g7 => ?_)
  refine zg_run2 C vGwrite_K (vGf_ok 18 (by decide)) hm vGwrite_c1 KE (fun o r2 ws3 tys3 v kp3 _ _ h3 _ => ?_) (fun t ht => nomatch ht)
  rcases h3 with ⟨h3, -⟩ | ⟨l, h3, h4, -⟩
  · cases h3
  cases h3
  intro _ fS sm pm on pp k1 k2 k3 k4 k5
  have e1 := zg_row_u g1 (zg_row_kp kp (by decide +kernel) k1)
  subst e1
  have j2 := zg_fs_0 hfs (by decide +kernel) k2
  have j3 := zg_fs_0 hfs (by decide +kernel) k3
  have j4 := zg_fs_0 hfs (by decide +kernel) k4
  have j5 := zg_fs_0 hfs (by decide +kernel) k5
  have hw := zg_xf_ok hG1 hh1 vGwrite_x j2 g2
  obtain ⟨x, a1, a2⟩ := zg_arg ha vGwrite_a
  rw [vGwrite_v, zx_ev_app a2] at g4
  have hx : x = v' := Int32.toInt_inj.mp (Option.some.inj g4)
  subst hx
  have hsm : 0 ≤ sm := by
    obtain ⟨y, y1, y2, -⟩ := zg_fb_ok hG1 hh1 vGwrite_b
    rw [zg_fld_u j2 y1]
    exact y2
  have hw2 : w = 2000 + sm.toNat := by omega
  rw [hw2] at g5
  exact ⟨x, sm.toNat, a1, by omega, zg_row_kp kp3 (by decide +kernel) g5, zg_fs_eq h4 (by decide +kernel) (g7 _ _ j2), zg_fs_0 h4 (by decide +kernel) (g7 _ _ j3), zg_fs_0 h4 (by decide +kernel) (g7 _ _ j4), zg_fs_0 h4 (by decide +kernel) (g7 _ _ j5)⟩
/-- plain: the fees of one are none -/
def zgZp (av : List Value) (ws : va_W) (v : Option Value) (ws' : va_W) : Prop := ∀ fN : Nat → Int32, zg_row ws 20 fN → ∃ x : Int32, av[1]? = some (.int x) ∧ 0 ≤ x.toInt ∧ zg_row ws' 20 (upd fN x.toInt.toNat 0) ∧ ∀ q ∈ [37, 38, 39, 4], ∀ w, zg_fld ws q w → zg_fld ws' q w
theorem vGplain_K : ∀ i ∈ vGplain.2.2.2.2.2.1, i ∈ vGK := by decide +kernel
set_option maxRecDepth 1000000 in
theorem vGplain_c0 : zg_rk vGK vGf vGm_plain vGplain.2.1.length vGplain.2.2.2.2.1 (none, false) [(58, vGplain_58, [(37, (0, 0)), (38, (0, 0)), (39, (0, 0)), (4, (0, 0))], [])] 0 vGs_plain = true := by decide +kernel
set_option maxRecDepth 1000000 in
theorem vGplain_s : zg_sk vGplain.2.2.2.2.2.1 vGplain_58 20 21 = true := by decide +kernel
set_option maxRecDepth 1000000 in
theorem vGplain_e : zg_sE vGplain.2.2.2.2.2.1 vGplain_58 = ([(32, 1)], 0) := by decide +kernel
set_option maxRecDepth 1000000 in
theorem vGplain_v : zg_sV vGplain.2.2.2.2.2.1 vGplain_58 = ([], 0) := by decide +kernel
set_option maxRecDepth 1000000 in
theorem vGplain_a : vGplain.2.2.2.1[1]? = some (.inl ([(32, 1)], 0)) := by decide +kernel
set_option maxRecDepth 1000000 in
theorem vGplain_c1 : zg_rk vGK vGf vGm_plain vGplain.2.1.length vGplain.2.2.2.2.1 (some ([(37, (0, 0)), (38, (0, 0)), (39, (0, 0)), (4, (0, 0))], fun _ => true), false) [] 59 (zg_sT vGplain.2.2.2.2.2.1 vGplain_58) = true := by decide +kernel
theorem vGplain_ok {l : Launch} : zg_EN l 27 vGplain (fun _ _ => True) zgZp := by
  refine zg_enter (d := 26) (Kr := vGK) (md := vGm_plain) vGm_plain_ok (by decide +kernel) ?_
  intro p e R s mi args below meth c Q D A b ex nL own cc ρe tys ws0 av hX hG hh ha C KE
  have hm : ρe.length = vGplain.2.1.length := hG.1
  refine zg_run0 (Zv := zgZp av ws0) C vGplain_K (vGf_ok 18 (by decide)) hm vGplain_c0 KE (fun o r' ws' tys v _ _ _ h3 _ => ?_) (fun t ht r' ws1 kp hfs _ => ?_)
  · rcases h3 with ⟨h3, -⟩ | ⟨l, h3, -⟩
    · cases h3
    · cases h3
  rw [List.mem_singleton] at ht
  subst ht
  refine zg_store2 C (i := 20) (n := 21) (List.mem_of_getElem? (i := 43) rfl) vGplain_s (by decide) (fun f w v' ws2 g1 g2 g3 g4 g5 g6 g7 => ?_)
  refine zg_run2 C vGplain_K (vGf_ok 18 (by decide)) hm vGplain_c1 KE (fun o r2 ws3 tys3 v kp3 _ _ h3 _ => ?_) (fun t ht => nomatch ht)
  rcases h3 with ⟨h3, -⟩ | ⟨l, h3, h4, -⟩
  · cases h3
  cases h3
  intro fN k1
  have e1 := zg_row_u g1 (zg_row_kp kp (by decide +kernel) k1)
  subst e1
  obtain ⟨x, a1, a2⟩ := zg_arg ha vGplain_a
  rw [vGplain_e, zx_ev_app a2] at g2
  have hx : x.toInt = (w : Int) := Option.some.inj g2
  rw [vGplain_v] at g4
  have hv : v' = 0 := by
    have h9 : v'.toInt = (0 : Int32).toInt := (Option.some.inj g4).symm
    exact Int32.toInt_inj.mp h9
  subst hv
  have hw : w = x.toInt.toNat := by omega
  rw [hw] at g5
  refine ⟨x, a1, by omega, zg_row_kp kp3 (by decide +kernel) g5, fun q hq u hu => ?_⟩
  have hq2 : (q, ((0 : Int), (0 : Int))) ∈ ([(37, (0, 0)), (38, (0, 0)), (39, (0, 0)), (4, (0, 0))] : List (Nat × (Int × Int))) := by
    simp only [List.mem_cons, List.not_mem_nil, or_false] at hq
    rcases hq with rfl | rfl | rfl | rfl <;> decide
  exact zg_fs_0 h4 hq2 (g7 _ _ (zg_fs_0 hfs hq2 hu))
/-- isOpen: there is an open bracket that waits -/
def zgZo (av : List Value) (ws : va_W) (v : Option Value) (ws' : va_W) : Prop := (v ≠ some (.int 0) → ∀ (fP : Nat → Int32) (pm : Int), zg_row ws 27 fP → zg_fld ws 38 pm → ∃ k : Nat, (k : Int) < pm ∧ (fP k).toInt = 23) ∧ ∀ q ∈ [37, 38, 39, 4], ∀ w, zg_fld ws q w → zg_fld ws' q w
def zg_o23 (G : zx_G) (h : List zx_C) : List (zx_L × zx_V) → Bool
  | [] => false
  | q :: r => (match q.2, zg_fe h 38 with
    | .inl v, some f => zg_xb G v 23 23 && zg_xb G (zx_sub f q.1) 1 1000
    | _, _ => false) || zg_o23 G h r
theorem zg_o23_ok {G : zx_G} {h : List zx_C} : ∀ {l : List (zx_L × zx_V)}, zg_o23 G h l = true → ∃ (e v f : zx_L), (e, .inl v) ∈ l ∧ zg_fe h 38 = some f ∧ zg_xb G v 23 23 = true ∧ zg_xb G (zx_sub f e) 1 1000 = true
  | [], hc => nomatch hc
  | q :: r, hc => by
    rw [zg_o23, Bool.or_eq_true] at hc
    rcases hc with hc | hc
    · split at hc
      · rename_i v f hv hf
        rw [Bool.and_eq_true] at hc
        refine ⟨q.1, v, f, ?_, hf, hc.1, hc.2⟩
        rw [← hv]
        exact List.mem_cons_self
      · cases hc
    · obtain ⟨e, v, f, h1, h2⟩ := zg_o23_ok hc
      exact ⟨e, v, f, List.mem_cons_of_mem _ h1, h2⟩
/-- known places of a row, their content -/
def zg_rw (h : List zx_C) (i : Nat) : List (zx_L × zx_V) := match zy_get h i with
  | some (.inr (.inl (0, _, true, _ :: fs))) => zx_fs fs
  | _ => []
theorem zg_rw_ok {b : Nat} {ex : List Nat} {ρ : List Int} {tys : List (ClassId × FieldType)} {h : List zx_C} {ws : va_W} (hh : zx_F2 (fun c q => zx_RC vwCl b ex ρ (zx_as ws) tys c q.2) h ws) {i : Nat} {f : Nat → Int32} (hf : zg_row ws i f) {e v : zx_L} (hm : (e, .inl v) ∈ zg_rw h i) : ∃ w : Nat, zx_ev ρ e = some (w : Int) ∧ zx_ev ρ v = some (f w).toInt := by
  unfold zg_rw at hm
  split at hm
  · rename_i n0 t fs hc
    rw [zy_get_eq] at hc
    obtain ⟨⟨qa, qe⟩, h1, cB, t0, h2, h3⟩ := zx_F2_get hh hc
    rcases h3 with ⟨h3, g, h4, h5⟩ | ⟨h3, -⟩
    · have h4 : qe = .inl (cB, n0, .inl g) := h4
      subst h4
      have e9 := zg_row_eq hf h1
      subst e9
      obtain ⟨t', fs', h6, h7, h8⟩ := h5
      cases h6
      obtain ⟨w, k1, k2, k3, k4⟩ := h8 _ hm
      obtain ⟨x, k5, k6⟩ := k4
      cases k5
      have k2 : 0 ≤ w := k2
      refine ⟨w.toNat, ?_, k6⟩
      rw [k1]
      congr 1
      omega
    · have h3 : 3 ≤ 0 := h3
      omega
  · cases hm
def zgEo (o : zx_Ou) : Bool := zg_rz o.2.2 || zg_o23 o.1 o.2.1 (zg_rw o.2.1 27)
theorem vGiso_K : ∀ i ∈ vGiso.2.2.2.2.2.1, i ∈ vGK := by decide +kernel
set_option maxRecDepth 1000000 in
theorem vGiso_c0 : zg_rk vGK vGf vGm_iso vGiso.2.1.length vGiso.2.2.2.2.1 (none, false) [(2, vGiso_2, [(37, (0, 0)), (38, (0, 0)), (39, (0, 0)), (4, (0, 0))], [(([(32, 1)], 0), ([], 0), (0, 0))])] 0 vGs_iso = true := by decide +kernel
set_option maxRecDepth 1000000 in
theorem vGiso_c1 : zg_rk vGK vGf vGm_iso vGiso.2.1.length vGiso.2.2.2.2.1 (some ([(37, (0, 0)), (38, (0, 0)), (39, (0, 0)), (4, (0, 0))], zgEo), false) [(2, vGiso_2, [(37, (0, 0)), (38, (0, 0)), (39, (0, 0)), (4, (0, 0))], [(([(32, 1)], 0), ([(32, 1)], 0), (1, 1))])] 2 vGiso_2 = true := by decide +kernel
set_option maxRecDepth 1000000 in
theorem vGiso_b : zg_xb vGiso_2.1 ([(32, 1)], 0) 0 65 = true := by decide +kernel
theorem zgEo_ok {b : Nat} {ex : List Nat} {ρ : List Int} {tys : List (ClassId × FieldType)} {o : zx_Ou} {ws : va_W} {v : Option Value} (hG : zx_ok ρ o.1) (hh : zx_F2 (fun c q => zx_RC vwCl b ex ρ (zx_as ws) tys c q.2) o.2.1 ws) (ho : zgEo o = true) (hv : zx_rv b ex ρ (zx_as ws) o.2.2 v) (h0 : v ≠ some (.int 0)) {fP : Nat → Int32} {pm : Int} (hP : zg_row ws 27 fP) (hpm : zg_fld ws 38 pm) : ∃ k : Nat, (k : Int) < pm ∧ (fP k).toInt = 23 := by
  unfold zgEo at ho
  rw [Bool.or_eq_true] at ho
  rcases ho with ho | ho
  · exact absurd (zg_rz_ok ho hv) h0
  · obtain ⟨e, v1, f, h1, h2, h3, h4⟩ := zg_o23_ok ho
    obtain ⟨w, h5, h6⟩ := zg_rw_ok hh hP h1
    obtain ⟨y, h7, h8⟩ := zg_fe_ok hh h2
    have h9 := zg_fld_u hpm h7
    subst h9
    have h10 := zg_xb_ok hG h3 h6
    have h11 := zg_xb_ok hG h4 (zx_sub_ev h8 h5)
    exact ⟨w, by omega, by omega⟩
theorem vGiso_ok {l : Launch} : zg_EN l 27 vGiso (fun _ _ => True) zgZo := by
  refine zg_enter (d := 26) (Kr := vGK) (md := vGm_iso) vGm_iso_ok (by decide +kernel) ?_
  intro p e R s mi args below meth c Q D A b ex nL own cc ρe tys ws0 av hX hG hh ha C KE
  have hm : ρe.length = vGiso.2.1.length := hG.1
  have hF : ∀ q ∈ [37, 38, 39, 4], (q, ((0 : Int), (0 : Int))) ∈ ([(37, (0, 0)), (38, (0, 0)), (39, (0, 0)), (4, (0, 0))] : List (Nat × (Int × Int))) := by decide
  have loop : ∀ (N : Nat) (r : List Int) (ws : va_W) (k : Int), zx_KP (ws0, vGK) ws → (∀ q ∈ [37, 38, 39, 4], ∀ w, zg_fld ws0 q w → zg_fld ws q w) → zx_ev (ρe ++ r) ([(32, 1)], 0) = some k → (66 - k).toNat ≤ N → zg_go p l e R s mi args below meth c Q D A b ex (ws0, vGiso.2.2.2.2.2.1) nL 2 vGiso_2 (ρe ++ r) ws := by
    intro N
    induction N with
    | zero =>
      intro r ws k kp hf hk hN
      refine zg_with (fun tys1 hG1 hh1 => ?_)
      have h1 := zg_xb_ok hG1 vGiso_b hk
      omega
    | succ N ih =>
      intro r ws k kp hf hk hN
      refine zg_run2 (Zv := zgZo av ws0) C vGiso_K (vGf_ok 18 (by decide)) hm vGiso_c1 KE (fun o r2 ws3 tys3 v kp3 hG3 hh3 h3 hv => ?_) (fun t ht r' ws1 kp1 hfs hos => ?_)
      · rcases h3 with ⟨h3, -⟩ | ⟨l, h3, h4, h5⟩
        · cases h3
        cases h3
        refine ⟨fun h0 fP pm k1 k2 => ?_, fun q hq w hw => zg_fs_0 h4 (hF q hq) (hf q hq w hw)⟩
        have kp4 := zg_KP_tr (K := vGK) kp (fun _ h => h) kp3
        exact zgEo_ok hG3 hh3 h5 hv h0 (zg_row_kp kp4 (by decide +kernel) k1) (zg_fs_0 h4 (by decide) (hf 38 (by decide) _ k2))
      · rw [List.mem_singleton] at ht
        subst ht
        obtain ⟨k', h1, h2, h3⟩ := hos _ (List.mem_singleton.mpr rfl) k hk
        have h2 : k + 1 ≤ k' := h2
        have h3 : k' ≤ k + 1 := h3
        exact ih r' ws1 k' (zg_KP_tr (K := vGK) kp (fun _ h => h) kp1) (fun q hq w hw => zg_fs_0 hfs (hF q hq) (hf q hq w hw)) h1 (by omega)
  refine zg_run0 (Zv := zgZo av ws0) C vGiso_K (vGf_ok 18 (by decide)) hm vGiso_c0 KE (fun o r' ws' tys v _ _ _ h3 _ => ?_) (fun t ht r' ws1 kp hfs hos => ?_)
  · rcases h3 with ⟨h3, -⟩ | ⟨l, h3, -⟩
    · cases h3
    · cases h3
  rw [List.mem_singleton] at ht
  subst ht
  obtain ⟨k', h1, h2, h3⟩ := hos _ (List.mem_singleton.mpr rfl) 0 (zx_ev_iff.mpr ⟨0, rfl, by simp⟩)
  exact loop _ r' ws1 k' kp (fun q hq w hw => zg_fs_0 hfs (hF q hq) hw) h1 (Nat.le_refl _)
end
