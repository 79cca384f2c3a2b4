noncomputable section
/-! zg: putNight, keep of the reference -/
def zgZn (av : List Value) (ws : va_W) (v : Option Value) (ws' : va_W) : Prop := ∀ (fC : Nat → Int32) (c : Int), zg_row ws 47 fC → zg_fld ws 70 c → ∃ (x : Int32) (fC' : Nat → Int32), av[1]? = some (.int x) ∧ zg_row ws' 47 fC' ∧ ∀ i : Nat, (i : Int) < 8 * (c + x.toInt) → fC' i = fC i
theorem zg_ev_88 {ρ : List Int} {x y : Nat} {a d : Int} (ha : zx_ev ρ ([(x, 1)], 0) = some a) (hd : zx_ev ρ ([(y, 1)], 0) = some d) : zx_ev ρ ([(x, 8), (y, 8)], 0) = some (8 * a + 8 * d) := by
  obtain ⟨a0, h1, h2⟩ := zx_ev_iff.mp ha
  obtain ⟨b0, h3, h4⟩ := zx_ev_iff.mp hd
  obtain ⟨a1, a2, a3, a4, a5⟩ := zx_evl_cons.mp h1
  obtain ⟨b1, b2, b3, b4, b5⟩ := zx_evl_cons.mp h3
  have a4 : (0 : Int) = a2 := Option.some.inj a4
  have b4 : (0 : Int) = b2 := Option.some.inj b4
  have a5 : a0 = 1 * a1 + a2 := a5
  have b5 : b0 = 1 * b1 + b2 := b5
  have h2 : a = a0 + 0 := h2
  have h4 : d = b0 + 0 := h4
  refine zx_ev_iff.mpr ⟨8 * a1 + (8 * b1 + 0), zx_evl_cons.mpr ⟨a1, 8 * b1 + 0, a3, zx_evl_cons.mpr ⟨b1, 0, b3, rfl, rfl⟩, rfl⟩, ?_⟩
  show 8 * a + 8 * d = 8 * a1 + (8 * b1 + 0) + 0
  omega
theorem zg_ev_11 {ρ : List Int} {x y : Nat} {a d : Int} (ha : zx_ev ρ ([(x, 1)], 0) = some a) (hd : zx_ev ρ ([(y, 1)], 0) = some d) : zx_ev ρ ([(x, 1), (y, 1)], 0) = some (a + d) := by
  obtain ⟨a0, h1, h2⟩ := zx_ev_iff.mp ha
  obtain ⟨b0, h3, h4⟩ := zx_ev_iff.mp hd
  obtain ⟨a1, a2, a3, a4, a5⟩ := zx_evl_cons.mp h1
  obtain ⟨b1, b2, b3, b4, b5⟩ := zx_evl_cons.mp h3
  have a4 : (0 : Int) = a2 := Option.some.inj a4
  have b4 : (0 : Int) = b2 := Option.some.inj b4
  have a5 : a0 = 1 * a1 + a2 := a5
  have b5 : b0 = 1 * b1 + b2 := b5
  have h2 : a = a0 + 0 := h2
  have h4 : d = b0 + 0 := h4
  refine zx_ev_iff.mpr ⟨1 * a1 + (1 * b1 + 0), zx_evl_cons.mpr ⟨a1, 1 * b1 + 0, a3, zx_evl_cons.mpr ⟨b1, 0, b3, rfl, rfl⟩, rfl⟩, ?_⟩
  show a + d = 1 * a1 + (1 * b1 + 0) + 0
  omega
theorem zg_ev_881 {ρ : List Int} {x y z : Nat} {a d k : Int} (ha : zx_ev ρ ([(x, 1)], 0) = some a) (hd : zx_ev ρ ([(y, 1)], 0) = some d) (hk : zx_ev ρ ([(z, 1)], 0) = some k) : zx_ev ρ ([(x, 8), (y, 8), (z, 1)], 0) = some (8 * a + 8 * d + k) := by
  obtain ⟨a0, h1, h2⟩ := zx_ev_iff.mp ha
  obtain ⟨b0, h3, h4⟩ := zx_ev_iff.mp hd
  obtain ⟨c0, h5, h6⟩ := zx_ev_iff.mp hk
  obtain ⟨a1, a2, a3, a4, a5⟩ := zx_evl_cons.mp h1
  obtain ⟨b1, b2, b3, b4, b5⟩ := zx_evl_cons.mp h3
  obtain ⟨c1, c2, c3, c4, c5⟩ := zx_evl_cons.mp h5
  have a4 : (0 : Int) = a2 := Option.some.inj a4
  have b4 : (0 : Int) = b2 := Option.some.inj b4
  have c4 : (0 : Int) = c2 := Option.some.inj c4
  have a5 : a0 = 1 * a1 + a2 := a5
  have b5 : b0 = 1 * b1 + b2 := b5
  have c5 : c0 = 1 * c1 + c2 := c5
  have h2 : a = a0 + 0 := h2
  have h4 : d = b0 + 0 := h4
  have h6 : k = c0 + 0 := h6
  refine zx_ev_iff.mpr ⟨8 * a1 + (8 * b1 + (1 * c1 + 0)), zx_evl_cons.mpr ⟨a1, _, a3, zx_evl_cons.mpr ⟨b1, _, b3, zx_evl_cons.mpr ⟨c1, 0, c3, rfl, rfl⟩, rfl⟩, rfl⟩, ?_⟩
  show 8 * a + 8 * d + k = 8 * a1 + (8 * b1 + (1 * c1 + 0)) + 0
  omega
theorem zg_ev_new {ρ : List Int} {n : Nat} {v : Int} (h : ρ.length = n) : zx_ev (ρ ++ [v]) ([(n, 1)], 0) = some v := by
  subst h
  refine zx_ev_iff.mpr ⟨1 * v + 0, zx_evl_cons.mpr ⟨v, 0, ?_, rfl, rfl⟩, ?_⟩
  · show (ρ ++ [v])[ρ.length]? = some v
    rw [List.getElem?_append_right (Nat.le_refl _), Nat.sub_self]
    rfl
  · show v = 1 * v + 0 + 0
    omega
/-- an unknown has a value -/
theorem zg_xe {ρ : List Int} {G : zx_G} (hG : zx_ok ρ G) {x : Nat} (hx : Nat.blt x G.length = true) : ∃ v, zx_ev ρ ([(x, 1)], 0) = some v ∧ ρ[x]? = some v := by
  have h1 : x < ρ.length := by
    rw [hG.1]
    exact Nat.blt_eq.mp hx
  refine ⟨ρ[x], zx_ev_iff.mpr ⟨1 * ρ[x] + 0, zx_evl_cons.mpr ⟨ρ[x], 0, List.getElem?_eq_getElem h1, rfl, rfl⟩, ?_⟩, List.getElem?_eq_getElem h1⟩
  show ρ[x] = 1 * ρ[x] + 0 + 0
  omega
theorem vGpn_K : ∀ i ∈ vGpn.2.2.2.2.2.1, i ∈ vKK := by decide +kernel
set_option maxRecDepth 1000000 in
theorem vGpn_c0 : zg_rk vKK vKf vGm_pn vGpn.2.1.length vGpn.2.2.2.2.1 (none, false) [(35, vGpn_35, [(70, (0, 0))], [])] 0 vGs_pn = true := by decide +kernel
def vGpn_nd : List zg_Nd := [(35, vGpn_35, [(70, (0, 0))], [(([(39, 1)], 0), (([(39, 1)], 0), (-1, -1)))]), (74, vGpn_74, [(70, (0, 0))], [])]
set_option maxRecDepth 1000000 in
theorem vGpn_c35 : zg_rk vKK vKf vGm_pn vGpn.2.1.length vGpn.2.2.2.2.1 (none, false) vGpn_nd 35 vGpn_35 = true := by decide +kernel
set_option maxRecDepth 1000000 in
theorem vGpn_b35 : zg_xb vGpn_35.1 ([(39, 1)], 0) (-1) 59 = true := by decide +kernel
set_option maxRecDepth 1000000 in
theorem vGpn_c74 : zg_rk vKK vKf vGm_pn vGpn.2.1.length vGpn.2.2.2.2.1 (some ([(70, (0, 0))], fun _ => true), false) [(131, vGpn_131, [(70, (0, 0))], [(([(39, 1)], 0), (([(39, 1)], 0), (0, 0)))])] 74 vGpn_74 = true := by decide +kernel
set_option maxRecDepth 1000000 in
theorem vGpn_b74 : zg_xb vGpn_74.1 ([(39, 1)], 0) 0 8 = true := by decide +kernel
set_option maxRecDepth 1000000 in
theorem vGpn_s : zg_sk vGpn.2.2.2.2.2.1 vGpn_131 47 528 = true := by decide +kernel
set_option maxRecDepth 1000000 in
theorem vGpn_e : zg_sE vGpn.2.2.2.2.2.1 vGpn_131 = ([(41, 1)], 0) := by decide +kernel
set_option maxRecDepth 1000000 in
theorem vGpn_x : zg_xb vGpn_131.1 (zx_sub ([(41, 1)], 0) ([(23, 8), (32, 8)], 0)) 0 7 = true := by decide +kernel
theorem vGpn_p : zg_fe vGpn_131.2.1 70 = some ([(23, 1)], 0) := rfl
theorem vGpn_a : vGpn.2.2.2.1[1]? = some (.inl ([(32, 1)], 0)) := rfl
set_option maxRecDepth 1000000 in
theorem vGpn_r : zg_rk vKK vKf vGm_pn vGpn.2.1.length vGpn.2.2.2.2.1 (none, false) [(74, vGpn_74, [(70, (0, 0))], [(([(39, 1)], 0), (([(39, 1)], 0), (1, 1)))])] 132 (zg_sT vGpn.2.2.2.2.2.1 vGpn_131) = true := by decide +kernel
set_option maxRecDepth 100000 in
theorem vGpn_ok {l : Launch} : zg_EN l 36 vGpn (fun _ _ => True) zgZn := by
  refine zg_enter (d := 35) (Kr := vKK) (md := vGm_pn) vGm_pn_ok (by decide +kernel) ?_
  intro p e R s mi args below meth c Q D A b ex nL own cc ρe tys ws0 av hX hG hh ha C KE
  have hm : ρe.length = vGpn.2.1.length := hG.1
  obtain ⟨fC, x1⟩ := zg_row_of hh (i := 47) rfl (by decide)
  obtain ⟨c0, x2, -⟩ := zg_fb_ok (q := 70) (lo := -5000) (hi := 5000) hG hh (by decide +kernel)
  obtain ⟨xv, a1, a2⟩ := zg_arg ha vGpn_a
  have n74 : ∀ (N : Nat) (r : List Int) (ws : va_W) (f : Nat → Int32) (rr : Int), zg_row ws 47 f → zg_fld ws 70 c0 → (∀ i : Nat, (i : Int) < 8 * (c0 + xv.toInt) → f i = fC i) → zx_ev (ρe ++ r) ([(39, 1)], 0) = some rr → (9 - rr).toNat ≤ N → zg_go p l e R s mi args below meth c Q D A b ex (ws0, vGpn.2.2.2.2.2.1) nL 74 vGpn_74 (ρe ++ r) ws := by
    intro N
    induction N with
    | zero =>
      intro r ws f rr y1 y2 y3 y4 hN
      refine zg_with (fun tys1 hG1 hh1 => ?_)
      have hb := zg_xb_ok hG1 vGpn_b74 y4
      omega
    | succ N ih =>
    intro r ws f rr y1 y2 y3 y4 hN
    refine zg_run2 (Zv := zgZn av ws0) C vGpn_K (vKf_ok 27 (by decide)) hm vGpn_c74 KE (fun o r3 ws3 tys3 v kp3 _ _ h3 _ => ?_) (fun t ht r3 ws3 kp3 hfs3 hos3 => ?_)
    · intro fC' c' k1 k2
      have e1 := zg_row_u k1 x1
      have e2 := zg_fld_u k2 x2
      subst e1
      subst e2
      exact ⟨xv, f, a1, zg_row_kp kp3 (by decide +kernel) y1, y3⟩
    rw [List.mem_singleton] at ht
    subst ht
    obtain ⟨k', k1, k2, k3⟩ := hos3 _ List.mem_cons_self _ y4
    have k2 : rr + 0 ≤ k' := k2
    have k3 : k' ≤ rr + 0 := k3
    have z1 := zg_row_kp kp3 (by decide +kernel) y1
    have z2 := zg_fs_0 hfs3 (by decide) y2
    refine zg_with (fun tys4 hG4 hh4 => ?_)
    refine zg_store2 C (i := 47) (n := 528) (List.mem_of_getElem? (i := 73) rfl) vGpn_s (by decide) (fun g w v' ws5 g1 g2 g3 g4 g5 g6 g7 => ?_)
    have e1 := zg_row_u g1 z1
    subst e1
    rw [vGpn_e] at g2
    obtain ⟨u, u1, u2⟩ := zg_fe_ok hh4 vGpn_p
    have u3 := zg_fld_u u1 z2
    subst u3
    have hx := zg_xb_ok hG4 vGpn_x (zx_sub_ev g2 (zg_ev_88 u2 (zx_ev_app a2)))
    refine zg_run2 (Zv := zgZn av ws0) C vGpn_K (vKf_ok 27 (by decide)) hm vGpn_r KE (fun o r6 ws6 tys6 v kp6 _ _ h3 _ => ?_) (fun t ht r6 ws6 kp6 hfs6 hos6 => ?_)
    · rcases h3 with ⟨h3, -⟩ | ⟨l, h3, -⟩
      · cases h3
      · cases h3
    rw [List.mem_singleton] at ht
    subst ht
    obtain ⟨k6, j1, j2, j3⟩ := hos6 _ List.mem_cons_self _ k1
    have j2 : k' + 1 ≤ k6 := j2
    have j3 : k6 ≤ k' + 1 := j3
    refine ih r6 ws6 _ k6 (zg_row_kp kp6 (by decide +kernel) g5) (zg_fs_0 hfs6 (by decide) (g7 _ _ z2)) (fun i hi => ?_) j1 (by omega)
    rw [zg_upd_ne (by omega)]
    exact y3 i hi
  have n35 : ∀ (N : Nat) (r : List Int) (ws : va_W) (d : Int), zg_row ws 47 fC → zg_fld ws 70 c0 → zx_ev (ρe ++ r) ([(39, 1)], 0) = some d → (d + 2).toNat ≤ N → zg_go p l e R s mi args below meth c Q D A b ex (ws0, vGpn.2.2.2.2.2.1) nL 35 vGpn_35 (ρe ++ r) ws := by
    intro N
    induction N with
    | zero =>
      intro r ws d y1 y2 y4 hN
      refine zg_with (fun tys1 hG1 hh1 => ?_)
      have hb := zg_xb_ok hG1 vGpn_b35 y4
      omega
    | succ N ih =>
    intro r ws d y1 y2 y4 hN
    refine zg_run2 (Zv := zgZn av ws0) C vGpn_K (vKf_ok 27 (by decide)) hm vGpn_c35 KE (fun o r3 ws3 tys3 v kp3 _ _ h3 _ => ?_) (fun t ht r3 ws3 kp3 hfs3 hos3 => ?_)
    · rcases h3 with ⟨h3, -⟩ | ⟨l, h3, -⟩
      · cases h3
      · cases h3
    have z1 := zg_row_kp kp3 (i := 47) (by decide +kernel) y1
    unfold vGpn_nd at ht
    simp only [List.mem_cons, List.not_mem_nil, or_false] at ht
    rcases ht with ht | ht
    · subst ht
      obtain ⟨k', k1, k2, k3⟩ := hos3 _ List.mem_cons_self _ y4
      have k2 : d + (-1) ≤ k' := k2
      have k3 : k' ≤ d + (-1) := k3
      exact ih r3 ws3 k' z1 (zg_fs_0 hfs3 (by decide) y2) k1 (by omega)
    · subst ht
      refine zg_with (fun tys4 hG4 hh4 => ?_)
      obtain ⟨rr, q1, q2⟩ := zg_xe hG4 (x := 39) (by decide +kernel)
      exact n74 _ r3 ws3 fC rr z1 (zg_fs_0 hfs3 (by decide) y2) (fun _ _ => rfl) q1 (Nat.le_refl _)
  refine zg_run0 (Zv := zgZn av ws0) C vGpn_K (vKf_ok 27 (by decide)) hm vGpn_c0 KE (fun o r3 ws3 tys3 v kp3 _ _ h3 _ => ?_) (fun t ht r3 ws3 kp3 hfs3 hos3 => ?_)
  · rcases h3 with ⟨h3, -⟩ | ⟨l, h3, -⟩
    · cases h3
    · cases h3
  rw [List.mem_singleton] at ht
  subst ht
  refine zg_with (fun tys4 hG4 hh4 => ?_)
  obtain ⟨d, q1, q2⟩ := zg_xe hG4 (x := 39) (by decide +kernel)
  exact n35 _ r3 ws3 d (zg_row_kp kp3 (by decide +kernel) x1) (zg_fs_0 hfs3 (by decide) x2) q1 (Nat.le_refl _)
/-! keep -/
/-- so many of a row's places are one's -/
def zg_cnt (f : Nat → Int32) (lo : Nat) : Nat → Int
  | 0 => 0
  | m + 1 => zg_cnt f lo m + (if 0 ≤ (f (lo + m)).toInt then 1 else 0)
theorem zg_cnt_eq {f g : Nat → Int32} {lo : Nat} : ∀ {m : Nat}, (∀ j, j < m → f (lo + j) = g (lo + j)) → zg_cnt f lo m = zg_cnt g lo m
  | 0, _ => rfl
  | m + 1, h => by
    rw [zg_cnt, zg_cnt, h m (by omega), zg_cnt_eq (m := m) (fun j hj => h j (by omega))]
theorem zg_cnt_mono {f : Nat → Int32} {lo m : Nat} : ∀ {d : Nat}, zg_cnt f lo m ≤ zg_cnt f lo (m + d)
  | 0 => Int.le_refl _
  | d + 1 => by
    have h := zg_cnt_mono (f := f) (lo := lo) (m := m) (d := d)
    rw [← Nat.add_assoc, zg_cnt]
    split <;> omega
theorem zg_cnt_le {f : Nat → Int32} {lo m m' : Nat} (h : m ≤ m') : zg_cnt f lo m ≤ zg_cnt f lo m' := by
  obtain ⟨d, rfl⟩ := Nat.le.dest h
  exact zg_cnt_mono
theorem zg_cnt_1 {f : Nat → Int32} {lo m : Nat} (h : 0 ≤ (f (lo + m)).toInt) : zg_cnt f lo (m + 1) = zg_cnt f lo m + 1 := by
  rw [zg_cnt, if_pos h]
theorem zg_cnt_0 {f : Nat → Int32} {lo m : Nat} (h : ¬ 0 ≤ (f (lo + m)).toInt) : zg_cnt f lo (m + 1) = zg_cnt f lo m := by
  rw [zg_cnt, if_neg h, Int.add_zero]
/-- the nights that are laid end in time, if nothing was told since -/
def zgR1 (ws : va_W) : Prop := ∀ (fW fH : Nat → Int32) (lm lh t : Int), zg_row ws 68 fW → zg_row ws 2 fH → zg_fld ws 98 lm → zg_fld ws 99 lh → zg_fld ws 6 t → zg_fld ws 100 t → ∀ k : Nat, (k : Int) < lm → lh + (fH (fW k).toInt.toNat).toInt ≤ 24
def zgB (c0 lm lh cs : Int) (fW fH : Nat → Int32) (ws : va_W) : Prop := zx_PF ws ∧ zg_fld ws 70 c0 ∧ zg_fld ws 98 lm ∧ zg_fld ws 99 lh ∧ zg_fld ws 69 cs ∧ zg_row ws 68 fW ∧ zg_row ws 2 fH
theorem zgB_kp {c0 lm lh cs d : Int} {fW fH : Nat → Int32} {ws ws1 ws' : va_W} {K1 : List Nat} {l : List (Nat × (Int × Int))} (h : zgB c0 lm lh cs fW fH ws) (kp1 : zx_KP (ws, K1) ws1) (kp : zx_KP (ws1, vKK) ws') (hK : ∀ i ∈ [2, 20, 22, 23, 24, 68], i ∈ K1) (hf : zg_fs ws ws' l) (h1 : (70, ((0 : Int), (0 : Int))) ∈ l) (h2 : (98, ((0 : Int), (0 : Int))) ∈ l) (h3 : (99, ((0 : Int), (0 : Int))) ∈ l) (h4 : (69, (d, d)) ∈ l) : zgB c0 lm lh (cs + d) fW fH ws' := by
  obtain ⟨k1, k2, k3, k4, k5, k6, k7⟩ := h
  refine ⟨zgPF_kp (zgPF_kp k1 kp1 (fun i hi => hK i ?_)) kp (by decide +kernel), zg_fs_0 hf h1 k2, zg_fs_0 hf h2 k3, zg_fs_0 hf h3 k4, zg_fs_eq hf h4 k5, zg_row_kp kp (by decide +kernel) (zg_row_kp kp1 (hK 68 (by decide)) k6), zg_row_kp kp (by decide +kernel) (zg_row_kp kp1 (hK 2 (by decide)) k7)⟩
  simp only [List.mem_cons, List.not_mem_nil, or_false] at hi ⊢
  rcases hi with rfl | rfl | rfl | rfl <;> simp
theorem zgB_0 {c0 lm lh cs : Int} {fW fH : Nat → Int32} {ws : va_W} (h : zgB c0 lm lh (cs + 0) fW fH ws) : zgB c0 lm lh cs fW fH ws := by
  rw [Int.add_zero] at h
  exact h
theorem vKK_6 : ∀ i ∈ [2, 20, 22, 23, 24, 68], i ∈ vKK := by decide +kernel
theorem vGpn_6 : ∀ i ∈ [2, 20, 22, 23, 24, 68], i ∈ vGpn.2.2.2.2.2.1 := by decide +kernel
theorem vEK2_6 : ∀ i ∈ [2, 20, 22, 23, 24, 68], i ∈ vEK2.2.2.2.2.2.1 := by decide +kernel
theorem vKK_4 : ∀ i ∈ [20, 22, 23, 24], i ∈ vKK := by decide +kernel
theorem vGkeep_K : ∀ i ∈ vGkeep.2.2.2.2.2.1, i ∈ vKK := by decide +kernel
theorem vGkeep_K1 : ∀ i ∈ vGkeep.2.2.2.2.2.1, i ∈ vGpn.2.2.2.2.2.1 := by decide +kernel
theorem vGkeep_K2 : ∀ i ∈ vGkeep.2.2.2.2.2.1, i ∈ vEK2.2.2.2.2.2.1 := by decide +kernel
set_option maxRecDepth 1000000 in
theorem vGkeep_c0 : zg_rk vKK vKf vGm_keep vGkeep.2.1.length vGkeep.2.2.2.2.1 (some ([], fun _ => true), false) [(30, vGkeep_30, [(70, (0, 0)), (69, (0, 0)), (98, (0, 0)), (99, (0, 0)), (6, (0, 0)), (100, (0, 0))], [])] 0 vGs_keep = true := by decide +kernel
theorem vGkeep_t1 : zg_fe vGkeep_30.2.1 6 = some ([(5, 1)], 0) := rfl
theorem vGkeep_t2 : zg_fe vGkeep_30.2.1 100 = some ([(31, 1)], 0) := rfl
set_option maxRecDepth 1000000 in
theorem vGkeep_t3 : zg_xo vGkeep_30.1 ([(5, 1)], 0) ([(31, 1)], 0) 0 = true := by decide +kernel
set_option maxRecDepth 1000000 in
theorem vGkeep_k30 : zg_ca3 vKK vKf vGm_keep vGkeep.2.1.length vGkeep.2.2.2.2.1 (none, false) [] (none, false) [(37, vGkeep_37, [(70, (0, 0)), (69, (0, 0)), (98, (0, 0)), (99, (0, 0))], [(([(34, 1)], 0), (([], 0), (0, 0))), (([(35, 1)], 0), (([], 0), (0, 0)))])] 30 460 vEK2 vGkeep_30 = true := by decide +kernel
def vGkeep_nd37 : List zg_Nd := [(45, vGkeep_45l, [(70, (0, 0)), (69, (0, 0)), (98, (0, 0)), (99, (0, 0))], [(([(34, 1)], 0), (([(34, 1)], 0), (0, 0))), (([(35, 1)], 0), (([(35, 1)], 0), (0, 0))), (([(29, 1)], 0), (([(35, 1)], 0), (1, 6)))]), (135, vGkeep_135, [(70, (0, 0)), (69, (0, 0)), (98, (0, 0)), (99, (0, 0))], [(([(36, 1)], 0), (([], 0), (0, 0))), (([], 400), (([(22, 1), (34, 1)], 0), (0, 1000))), (([(29, 1)], 0), (([(35, 1)], 0), (-6, 0)))])]
set_option maxRecDepth 1000000 in
theorem vGkeep_c37 : zg_rk vKK vKf vGm_keep vGkeep.2.1.length vGkeep.2.2.2.2.1 (some ([], fun _ => true), false) vGkeep_nd37 37 vGkeep_37 = true := by decide +kernel
theorem vGkeep_q37 : zg_fe vGkeep_37.2.1 69 = some ([(22, 1)], 0) := rfl
set_option maxRecDepth 1000000 in
theorem vGkeep_b37 : zg_xb vGkeep_37.1 ([(35, 1)], 0) 0 6 = true := by decide +kernel
theorem vGkeep_i45 : zg_pl (zg_pl (((vGkeep_45l.1 ++ [((0, 8), none)]) ++ [((0, 6), none)]) ++ [((0, 24), some ([(40, 1), (30, 1)], 0))], vGkeep_45l.2) 68 ([(35, 1)], 0) ([(39, 1)], 0)) 2 ([(39, 1)], 0) ([(40, 1)], 0) = vGkeep_45 := rfl
theorem vGkeep_l45 : vGkeep_45l.1.length = 39 := rfl
theorem vGkeep_h45 : zg_fe vGkeep_45l.2.1 99 = some ([(30, 1)], 0) := rfl
theorem vGkeep_m45 : zg_fe vGkeep_45l.2.1 98 = some ([(29, 1)], 0) := rfl
set_option maxRecDepth 1000000 in
theorem vGkeep_b45 : zg_xb vGkeep_45l.1 ([(35, 1)], 0) 0 5 = true := by decide +kernel
set_option maxRecDepth 1000000 in
theorem vGkeep_g45 : zg_xb vGkeep_45l.1 ([(30, 1)], 0) 0 23 = true := by decide +kernel
set_option maxRecDepth 1000000 in
theorem vGkeep_c45 : zg_rk vKK vKf vGm_keep vGkeep.2.1.length vGkeep.2.2.2.2.1 (none, false) [(69, vGkeep_69, [(70, (0, 0)), (69, (0, 0)), (98, (0, 0)), (99, (0, 0))], [(([(34, 1)], 0), (([(34, 1)], 0), (0, 0))), (([(35, 1)], 0), (([(35, 1)], 0), (0, 0)))])] 45 vGkeep_45 = true := by decide +kernel
set_option maxRecDepth 1000000 in
theorem vGkeep_a69 : (zg_cas vGm_keep 602 vGpn vGkeep_69)[1]? = some (.inl ([(35, 1)], 0)) := by decide +kernel
set_option maxRecDepth 1000000 in
theorem vGkeep_k69 : zg_ca3 vKK vKf vGm_keep vGkeep.2.1.length vGkeep.2.2.2.2.1 (none, false) [] (none, false) [(74, vGkeep_74, [(70, (0, 0)), (69, (0, 0)), (98, (0, 0)), (99, (0, 0))], [(([(34, 1)], 0), (([(34, 1)], 0), (0, 0))), (([(35, 1)], 0), (([(35, 1)], 0), (0, 0))), (([(36, 1)], 0), (([], 0), (0, 0)))])] 69 602 vGpn vGkeep_69 = true := by decide +kernel
def vGkeep_nd74 : List zg_Nd := [(97, vGkeep_97, [(70, (0, 0)), (69, (0, 0)), (98, (0, 0)), (99, (0, 0))], [(([(34, 1)], 0), (([(34, 1)], 0), (0, 0))), (([(35, 1)], 0), (([(35, 1)], 0), (0, 0))), (([(36, 1)], 0), (([(36, 1)], 0), (0, 0)))]), (37, vGkeep_37, [(70, (0, 0)), (69, (0, 0)), (98, (0, 0)), (99, (0, 0))], [(([(34, 1)], 0), (([(34, 1)], 0), (0, 0))), (([(35, 1)], 0), (([(35, 1)], 0), (1, 1))), (([], 8), (([(36, 1)], 0), (0, 0)))])]
set_option maxRecDepth 1000000 in
theorem vGkeep_c74 : zg_rk vKK vKf vGm_keep vGkeep.2.1.length vGkeep.2.2.2.2.1 (none, false) vGkeep_nd74 74 vGkeep_74 = true := by decide +kernel
set_option maxRecDepth 1000000 in
theorem vGkeep_b74 : zg_xb vGkeep_74.1 ([(36, 1)], 0) 0 8 = true := by decide +kernel
theorem vGkeep_97_f : zg_rw vGkeep_97.2.1 47 = [(([(36, 1), (23, 8), (35, 8)], 0), .inl ([(39, 1)], 0))] := rfl
theorem vGkeep_97_p : zg_fe vGkeep_97.2.1 70 = some ([(23, 1)], 0) := rfl
set_option maxRecDepth 1000000 in
theorem vGkeep_97_x : zg_xb vGkeep_97.1 (zx_sub ([(36, 1), (23, 8), (35, 8)], 0) ([(23, 8), (35, 8), (36, 1)], 0)) 0 0 = true := by decide +kernel
set_option maxRecDepth 1000000 in
theorem vGkeep_97_v : zg_xb vGkeep_97.1 ([(39, 1)], 0) (-1) 19 = true := by decide +kernel
set_option maxRecDepth 1000000 in
theorem vGkeep_97_b : zg_xb vGkeep_97.1 ([(36, 1)], 0) 0 7 = true := by decide +kernel
theorem vGkeep_172l_f : zg_rw vGkeep_172l.2.1 47 = [(([(38, 1), (37, 8)], 0), .inl ([(41, 1)], 0))] := rfl
theorem vGkeep_172l_p : zg_fe vGkeep_172l.2.1 70 = some ([(23, 1)], 0) := rfl
set_option maxRecDepth 1000000 in
theorem vGkeep_172l_x : zg_xb vGkeep_172l.1 (zx_sub ([(38, 1), (37, 8)], 0) ([(23, 8), (36, 8), (38, 1)], 0)) 0 0 = true := by decide +kernel
set_option maxRecDepth 1000000 in
theorem vGkeep_172l_v : zg_xb vGkeep_172l.1 ([(41, 1)], 0) (-1) 19 = true := by decide +kernel
set_option maxRecDepth 1000000 in
theorem vGkeep_172l_b : zg_xb vGkeep_172l.1 ([(38, 1)], 0) 0 7 = true := by decide +kernel
theorem vGkeep_172l_q : zg_fe vGkeep_172l.2.1 69 = some ([(34, 1)], 0) := rfl
set_option maxRecDepth 1000000 in
theorem vGkeep_172l_c : zg_xb vGkeep_172l.1 ([(34, 1)], 0) 0 400 = true := by decide +kernel
set_option maxRecDepth 1000000 in
theorem vGkeep_r97p : zg_rk vKK vKf vGm_keep vGkeep.2.1.length vGkeep.2.2.2.2.1 (none, false) [(74, vGkeep_74, [(70, (0, 0)), (69, (0, 0)), (98, (0, 0)), (99, (0, 0))], [(([(34, 1)], 0), (([(34, 1)], 0), (1, 1))), (([(35, 1)], 0), (([(35, 1)], 0), (0, 0))), (([(36, 1)], 0), (([(36, 1)], 0), (1, 1)))])] 97 (zg_bd vGkeep_97 39 (0) (19)) = true := by decide +kernel
set_option maxRecDepth 1000000 in
theorem vGkeep_r172p : zg_rk vKK vKf vGm_keep vGkeep.2.1.length vGkeep.2.2.2.2.1 (none, false) [(153, vGkeep_153, [(70, (0, 0)), (69, (1, 1)), (98, (0, 0)), (99, (0, 0))], [(([(36, 1)], 0), (([(36, 1)], 0), (0, 0))), (([(38, 1)], 0), (([(38, 1)], 0), (1, 1)))])] 172 (zg_bd (zg_bd vGkeep_172l 41 (0) (19)) 34 0 399) = true := by decide +kernel
set_option maxRecDepth 1000000 in
theorem vGkeep_r97n : zg_rk vKK vKf vGm_keep vGkeep.2.1.length vGkeep.2.2.2.2.1 (none, false) [(74, vGkeep_74, [(70, (0, 0)), (69, (0, 0)), (98, (0, 0)), (99, (0, 0))], [(([(34, 1)], 0), (([(34, 1)], 0), (0, 0))), (([(35, 1)], 0), (([(35, 1)], 0), (0, 0))), (([(36, 1)], 0), (([(36, 1)], 0), (1, 1)))])] 97 (zg_bd vGkeep_97 39 (-1) (-1)) = true := by decide +kernel
set_option maxRecDepth 1000000 in
theorem vGkeep_r172n : zg_rk vKK vKf vGm_keep vGkeep.2.1.length vGkeep.2.2.2.2.1 (none, false) [(153, vGkeep_153, [(70, (0, 0)), (69, (0, 0)), (98, (0, 0)), (99, (0, 0))], [(([(36, 1)], 0), (([(36, 1)], 0), (0, 0))), (([(38, 1)], 0), (([(38, 1)], 0), (1, 1)))])] 172 (zg_bd vGkeep_172l 41 (-1) (-1)) = true := by decide +kernel
def vGkeep_nd135 : List zg_Nd := [(153, vGkeep_153, [(70, (0, 0)), (69, (0, 0)), (98, (0, 0)), (99, (0, 0))], [(([(36, 1)], 0), (([(36, 1)], 0), (0, 0))), (([(38, 1)], 0), (([], 0), (0, 0))), (([(29, 1)], 0), (([(36, 1)], 0), (1, 6)))])]
set_option maxRecDepth 1000000 in
theorem vGkeep_c135 : zg_rk vKK vKf vGm_keep vGkeep.2.1.length vGkeep.2.2.2.2.1 (some ([], fun _ => true), false) vGkeep_nd135 135 vGkeep_135 = true := by decide +kernel
set_option maxRecDepth 1000000 in
theorem vGkeep_b135 : zg_xb vGkeep_135.1 ([(36, 1)], 0) 0 6 = true := by decide +kernel
theorem vGkeep_m153 : zg_fe vGkeep_153.2.1 98 = some ([(29, 1)], 0) := rfl
theorem vGkeep_m135 : zg_fe vGkeep_135.2.1 98 = some ([(29, 1)], 0) := rfl
def vGkeep_nd153 : List zg_Nd := [(172, vGkeep_172l, [(70, (0, 0)), (69, (0, 0)), (98, (0, 0)), (99, (0, 0))], [(([(36, 1)], 0), (([(36, 1)], 0), (0, 0))), (([(38, 1)], 0), (([(38, 1)], 0), (0, 0)))]), (135, vGkeep_135, [(70, (0, 0)), (69, (0, 0)), (98, (0, 0)), (99, (0, 0))], [(([(36, 1)], 0), (([(36, 1)], 0), (1, 1))), (([], 8), (([(38, 1)], 0), (0, 0)))])]
set_option maxRecDepth 1000000 in
theorem vGkeep_c153 : zg_rk vKK vKf vGm_keep vGkeep.2.1.length vGkeep.2.2.2.2.1 (none, false) vGkeep_nd153 153 vGkeep_153 = true := by decide +kernel
set_option maxRecDepth 1000000 in
theorem vGkeep_b153 : zg_xb vGkeep_153.1 ([(38, 1)], 0) 0 8 = true := by decide +kernel
set_option maxRecDepth 100000 in
theorem vGkeep_ok {l : Launch} : zg_EN l 38 vGkeep (fun _ ws => zx_PF ws ∧ zgR1 ws) zgZk := by
  refine zg_enter (d := 37) (Kr := vKK) (md := vGm_keep) vGm_keep_ok (by decide +kernel) ?_
  intro p e R s mi args below meth c Q D A b ex nL own cc ρe tys ws0 av hX hG hh ha C KE
  have hm : ρe.length = vGkeep.2.1.length := hG.1
  have he1 : ∀ {ρ ρ' : List Int} {l : List (zx_L × (zx_L × (Int × Int)))} {x y : zx_L} {d w : Int}, zg_os ρ ρ' l → (x, (y, (d, d))) ∈ l → zx_ev ρ y = some w → zx_ev ρ' x = some (w + d) := by
    intro ρ ρ' l x y d w h1 h2 h3
    obtain ⟨w', k1, k2, k3⟩ := h1 _ h2 w h3
    have k2 : w + d ≤ w' := k2
    have k3 : w' ≤ w + d := k3
    have e : w' = w + d := by omega
    rw [e] at k1
    exact k1
  have he0 : ∀ {ρ ρ' : List Int} {l : List (zx_L × (zx_L × (Int × Int)))} {x y : zx_L} {w : Int}, zg_os ρ ρ' l → (x, (y, ((0 : Int), (0 : Int)))) ∈ l → zx_ev ρ y = some w → zx_ev ρ' x = some w := by
    intro ρ ρ' l x y w h1 h2 h3
    have h4 := he1 h1 h2 h3
    rw [Int.add_zero] at h4
    exact h4
  have n135 : ∀ (c0 : Nat) (lm : Nat) (lh cs0 : Int) (fW fH f : Nat → Int32), cs0 + zg_cnt f (8 * c0) (8 * lm) ≤ 400 → ∀ (N : Nat) (r : List Int) (ws : va_W) (k : Nat), zgB c0 lm lh (cs0 + zg_cnt f (8 * c0) (8 * k)) fW fH ws → zg_row ws 47 f → zx_ev (ρe ++ r) ([(36, 1)], 0) = some (k : Int) → 7 - k ≤ N → zg_go p l e R s mi args below meth c Q D A b ex (ws0, vGkeep.2.2.2.2.2.1) nL 135 vGkeep_135 (ρe ++ r) ws := by
    intro c0 lm lh cs0 fW fH f h400 N
    induction N with
    | zero =>
      intro r ws k y1 y2 y3 hN
      refine zg_with (fun tys1 hG1 hh1 => ?_)
      have hb := zg_xb_ok hG1 vGkeep_b135 y3
      omega
    | succ N ih =>
    intro r ws k y1 y2 y3 hN
    have n153 : ∀ (M : Nat) (r : List Int) (ws : va_W) (rr : Nat), zgB c0 lm lh (cs0 + zg_cnt f (8 * c0) (8 * k + rr)) fW fH ws → zg_row ws 47 f → zx_ev (ρe ++ r) ([(36, 1)], 0) = some (k : Int) → zx_ev (ρe ++ r) ([(38, 1)], 0) = some (rr : Int) → k < lm → 9 - rr ≤ M → zg_go p l e R s mi args below meth c Q D A b ex (ws0, vGkeep.2.2.2.2.2.1) nL 153 vGkeep_153 (ρe ++ r) ws := by
      intro M
      induction M with
      | zero =>
        intro r ws rr y1 y2 y3 y4 y5 hN
        refine zg_with (fun tys1 hG1 hh1 => ?_)
        have hb := zg_xb_ok hG1 vGkeep_b153 y4
        omega
      | succ M ih2 =>
      intro r ws rr y1 y2 y3 y4 y5 hM
      refine zg_run2 (Zv := zgZk av ws0) C vGkeep_K (vKf_ok 29 (by decide)) hm vGkeep_c153 KE (fun o r3 ws3 tys3 v kp3 _ _ h3 _ => ?_) (fun t ht r3 ws3 kp3 hfs3 hos3 => ?_)
      · rcases h3 with ⟨h3, -⟩ | ⟨l, h3, -⟩
        · cases h3
        · cases h3
      have z2 := zg_row_kp kp3 (i := 47) (by decide +kernel) y2
      unfold vGkeep_nd153 at ht
      simp only [List.mem_cons, List.not_mem_nil, or_false] at ht
      rcases ht with ht | ht
      · subst ht
        have z1 := zgB_0 (zgB_kp y1 (zx_KP_rf ws vKK) kp3 vKK_6 hfs3 (by decide) (by decide) (by decide) (by decide))
        have z3 := he0 hos3 (x := ([(36, 1)], 0)) (by decide) y3
        have z4 := he0 hos3 (x := ([(38, 1)], 0)) (by decide) y4
        refine zg_with (fun tys4 hG4 hh4 => ?_)
        obtain ⟨w, w1, w2⟩ := zg_rw_ok hh4 z2 (by rw [vGkeep_172l_f]; exact List.mem_cons_self)
        obtain ⟨u, u1, u2⟩ := zg_fe_ok hh4 vGkeep_172l_p
        have u3 := zg_fld_u u1 z1.2.1
        subst u3
        have hx := zg_xb_ok hG4 vGkeep_172l_x (zx_sub_ev w1 (zg_ev_881 u2 z3 z4))
        have hb := zg_xb_ok hG4 vGkeep_172l_b z4
        have hv := zg_xb_ok hG4 vGkeep_172l_v w2
        have hw : w = 8 * c0 + (8 * k + rr) := by omega
        subst hw
        by_cases hp : 0 ≤ (f (8 * c0 + (8 * k + rr))).toInt
        · obtain ⟨q, q1, q2⟩ := zg_fe_ok hh4 vGkeep_172l_q
          have q3 := zg_fld_u q1 z1.2.2.2.2.1
          subst q3
          have hc := zg_xb_ok hG4 vGkeep_172l_c q2
          have hct := zg_cnt_1 hp
          have hle := zg_cnt_le (f := f) (lo := 8 * c0) (m := 8 * k + rr + 1) (m' := 8 * lm) (by omega)
          refine zg_bnd (lo := 0) (hi := 19) w2 hp hv.2 (zg_bnd (lo := 0) (hi := 399) q2 hc.1 (by omega) ?_)
          refine zg_run2 (Zv := zgZk av ws0) C vGkeep_K (vKf_ok 29 (by decide)) hm vGkeep_r172p KE (fun o r5 ws5 tys5 v kp5 _ _ h3 _ => ?_) (fun t ht r5 ws5 kp5 hfs5 hos5 => ?_)
          · rcases h3 with ⟨h3, -⟩ | ⟨l, h3, -⟩
            · cases h3
            · cases h3
          rw [List.mem_singleton] at ht
          subst ht
          have z5 := zgB_kp z1 (zx_KP_rf ws3 vKK) kp5 vKK_6 hfs5 (by decide) (by decide) (by decide) (d := 1) (by decide)
          rw [Int.add_assoc, ← hct] at z5
          have z9 := he1 (d := 1) (x := ([(38, 1)], 0)) hos5 (by decide) z4
          rw [show (rr : Int) + 1 = ((rr + 1 : Nat) : Int) by omega] at z9
          exact ih2 r5 ws5 (rr + 1) z5 (zg_row_kp kp5 (by decide +kernel) z2) (he0 hos5 (by decide) z3) z9 y5 (by omega)
        · have hct := zg_cnt_0 hp
          refine zg_bnd (lo := -1) (hi := -1) w2 hv.1 (by omega) ?_
          refine zg_run2 (Zv := zgZk av ws0) C vGkeep_K (vKf_ok 29 (by decide)) hm vGkeep_r172n KE (fun o r5 ws5 tys5 v kp5 _ _ h3 _ => ?_) (fun t ht r5 ws5 kp5 hfs5 hos5 => ?_)
          · rcases h3 with ⟨h3, -⟩ | ⟨l, h3, -⟩
            · cases h3
            · cases h3
          rw [List.mem_singleton] at ht
          subst ht
          have z5 := zgB_0 (zgB_kp z1 (zx_KP_rf ws3 vKK) kp5 vKK_6 hfs5 (by decide) (by decide) (by decide) (by decide))
          rw [← hct] at z5
          have z9 := he1 (d := 1) (x := ([(38, 1)], 0)) hos5 (by decide) z4
          rw [show (rr : Int) + 1 = ((rr + 1 : Nat) : Int) by omega] at z9
          exact ih2 r5 ws5 (rr + 1) z5 (zg_row_kp kp5 (by decide +kernel) z2) (he0 hos5 (by decide) z3) z9 y5 (by omega)
      · subst ht
        have z1 := zgB_0 (zgB_kp y1 (zx_KP_rf ws vKK) kp3 vKK_6 hfs3 (by decide) (by decide) (by decide) (by decide))
        have z3 := he1 hos3 (x := ([(36, 1)], 0)) (d := 1) (by decide) y3
        rw [show (k : Int) + 1 = ((k + 1 : Nat) : Int) by omega] at z3
        have z4 := zx_ev_c (he0 hos3 (x := ([], 8)) (by decide) y4)
        have z5 : rr = 8 := by omega
        subst z5
        exact ih r3 ws3 (k + 1) z1 z2 z3 (by omega)
    refine zg_run2 (Zv := zgZk av ws0) C vGkeep_K (vKf_ok 29 (by decide)) hm vGkeep_c135 KE (fun o r3 ws3 tys3 v kp3 _ _ h3 _ => ?_) (fun t ht r3 ws3 kp3 hfs3 hos3 => ?_)
    · exact zgPF_kp y1.1 kp3 vKK_4
    unfold vGkeep_nd135 at ht
    rw [List.mem_singleton] at ht
    subst ht
    have z1 := zgB_0 (zgB_kp y1 (zx_KP_rf ws vKK) kp3 vKK_6 hfs3 (by decide) (by decide) (by decide) (by decide))
    obtain ⟨k', k1, k2, k3⟩ := hos3 (([(29, 1)], 0), (([(36, 1)], 0), (1, 6))) (by decide) _ y3
    have k2 : (k : Int) + 1 ≤ k' := k2
    refine zg_with (fun tys4 hG4 hh4 => ?_)
    obtain ⟨u, u1, u2⟩ := zg_fe_ok hh4 vGkeep_m153
    have u3 := zg_fld_u u1 z1.2.2.1
    subst u3
    rw [k1] at u2
    have u4 := Option.some.inj u2
    exact n153 9 r3 ws3 0 z1 (zg_row_kp kp3 (by decide +kernel) y2) (he0 hos3 (by decide) y3) (he0 hos3 (x := ([(38, 1)], 0)) (y := ([], 0)) (by decide) zx_ev_c') (by omega) (Nat.le_refl _)
  have n37 : ∀ (c0 : Nat) (lm : Nat) (lh cs0 : Int) (fW fH : Nat → Int32), (∀ k : Nat, k < lm → lh + (fH (fW k).toInt.toNat).toInt ≤ 24) → ∀ (N : Nat) (r : List Int) (ws : va_W) (k : Nat) (f : Nat → Int32), zgB c0 lm lh cs0 fW fH ws → zg_row ws 47 f → zx_ev (ρe ++ r) ([(35, 1)], 0) = some (k : Int) → zx_ev (ρe ++ r) ([(34, 1)], 0) = some (zg_cnt f (8 * c0) (8 * k)) → k ≤ lm → 7 - k ≤ N → zg_go p l e R s mi args below meth c Q D A b ex (ws0, vGkeep.2.2.2.2.2.1) nL 37 vGkeep_37 (ρe ++ r) ws := by
    intro c0 lm lh cs0 fW fH hR N
    induction N with
    | zero =>
      intro r ws k f y1 y2 y3 y4 y5 hN
      refine zg_with (fun tys1 hG1 hh1 => ?_)
      have hb := zg_xb_ok hG1 vGkeep_b37 y3
      omega
    | succ N ih =>
    intro r ws k f y1 y2 y3 y4 y5 hN
    have n74 : k < lm → ∀ (M : Nat) (r : List Int) (ws : va_W) (rr : Nat) (f : Nat → Int32), zgB c0 lm lh cs0 fW fH ws → zg_row ws 47 f → zx_ev (ρe ++ r) ([(35, 1)], 0) = some (k : Int) → zx_ev (ρe ++ r) ([(36, 1)], 0) = some (rr : Int) → zx_ev (ρe ++ r) ([(34, 1)], 0) = some (zg_cnt f (8 * c0) (8 * k + rr)) → 9 - rr ≤ M → zg_go p l e R s mi args below meth c Q D A b ex (ws0, vGkeep.2.2.2.2.2.1) nL 74 vGkeep_74 (ρe ++ r) ws := by
      intro hk M
      induction M with
      | zero =>
        intro r ws rr f y1 y2 y3 y4 y5 hN
        refine zg_with (fun tys1 hG1 hh1 => ?_)
        have hb := zg_xb_ok hG1 vGkeep_b74 y4
        omega
      | succ M ih2 =>
      intro r ws rr f y1 y2 y3 y4 y5 hM
      refine zg_run2 (Zv := zgZk av ws0) C vGkeep_K (vKf_ok 29 (by decide)) hm vGkeep_c74 KE (fun o r3 ws3 tys3 v kp3 _ _ h3 _ => ?_) (fun t ht r3 ws3 kp3 hfs3 hos3 => ?_)
      · rcases h3 with ⟨h3, -⟩ | ⟨l, h3, -⟩
        · cases h3
        · cases h3
      have z2 := zg_row_kp kp3 (i := 47) (by decide +kernel) y2
      unfold vGkeep_nd74 at ht
      simp only [List.mem_cons, List.not_mem_nil, or_false] at ht
      rcases ht with ht | ht
      · subst ht
        have z1 := zgB_0 (zgB_kp y1 (zx_KP_rf ws vKK) kp3 vKK_6 hfs3 (by decide) (by decide) (by decide) (by decide))
        have z3 := he0 hos3 (x := ([(35, 1)], 0)) (by decide) y3
        have z4 := he0 hos3 (x := ([(36, 1)], 0)) (by decide) y4
        have z5 := he0 hos3 (x := ([(34, 1)], 0)) (by decide) y5
        refine zg_with (fun tys4 hG4 hh4 => ?_)
        obtain ⟨w, w1, w2⟩ := zg_rw_ok hh4 z2 (by rw [vGkeep_97_f]; exact List.mem_cons_self)
        obtain ⟨u, u1, u2⟩ := zg_fe_ok hh4 vGkeep_97_p
        have u3 := zg_fld_u u1 z1.2.1
        subst u3
        have hx := zg_xb_ok hG4 vGkeep_97_x (zx_sub_ev w1 (zg_ev_881 u2 z3 z4))
        have hb := zg_xb_ok hG4 vGkeep_97_b z4
        have hv := zg_xb_ok hG4 vGkeep_97_v w2
        have hw : w = 8 * c0 + (8 * k + rr) := by omega
        subst hw
        by_cases hp : 0 ≤ (f (8 * c0 + (8 * k + rr))).toInt
        · refine zg_bnd (lo := 0) (hi := 19) w2 hp hv.2 ?_
          refine zg_run2 (Zv := zgZk av ws0) C vGkeep_K (vKf_ok 29 (by decide)) hm vGkeep_r97p KE (fun o r5 ws5 tys5 v kp5 _ _ h3 _ => ?_) (fun t ht r5 ws5 kp5 hfs5 hos5 => ?_)
          · rcases h3 with ⟨h3, -⟩ | ⟨l, h3, -⟩
            · cases h3
            · cases h3
          rw [List.mem_singleton] at ht
          subst ht
          have z6 := he1 hos5 (x := ([(34, 1)], 0)) (d := 1) (by decide) z5
          rw [← zg_cnt_1 hp] at z6
          have z9 := he1 (d := 1) (x := ([(36, 1)], 0)) hos5 (by decide) z4
          rw [show (rr : Int) + 1 = ((rr + 1 : Nat) : Int) by omega] at z9
          exact ih2 r5 ws5 (rr + 1) f (zgB_0 (zgB_kp z1 (zx_KP_rf ws3 vKK) kp5 vKK_6 hfs5 (by decide) (by decide) (by decide) (by decide))) (zg_row_kp kp5 (by decide +kernel) z2) (he0 hos5 (by decide) z3) z9 z6 (by omega)
        · refine zg_bnd (lo := -1) (hi := -1) w2 hv.1 (by omega) ?_
          refine zg_run2 (Zv := zgZk av ws0) C vGkeep_K (vKf_ok 29 (by decide)) hm vGkeep_r97n KE (fun o r5 ws5 tys5 v kp5 _ _ h3 _ => ?_) (fun t ht r5 ws5 kp5 hfs5 hos5 => ?_)
          · rcases h3 with ⟨h3, -⟩ | ⟨l, h3, -⟩
            · cases h3
            · cases h3
          rw [List.mem_singleton] at ht
          subst ht
          have z6 := he0 hos5 (x := ([(34, 1)], 0)) (by decide) z5
          rw [← zg_cnt_0 hp] at z6
          have z9 := he1 (d := 1) (x := ([(36, 1)], 0)) hos5 (by decide) z4
          rw [show (rr : Int) + 1 = ((rr + 1 : Nat) : Int) by omega] at z9
          exact ih2 r5 ws5 (rr + 1) f (zgB_0 (zgB_kp z1 (zx_KP_rf ws3 vKK) kp5 vKK_6 hfs5 (by decide) (by decide) (by decide) (by decide))) (zg_row_kp kp5 (by decide +kernel) z2) (he0 hos5 (by decide) z3) z9 z6 (by omega)
      · subst ht
        have z1 := zgB_0 (zgB_kp y1 (zx_KP_rf ws vKK) kp3 vKK_6 hfs3 (by decide) (by decide) (by decide) (by decide))
        have z3 := he1 hos3 (x := ([(35, 1)], 0)) (d := 1) (by decide) y3
        rw [show (k : Int) + 1 = ((k + 1 : Nat) : Int) by omega] at z3
        have z4 := zx_ev_c (he0 hos3 (x := ([], 8)) (by decide) y4)
        have z6 := he0 hos3 (x := ([(34, 1)], 0)) (by decide) y5
        have z5 : rr = 8 := by omega
        subst z5
        exact ih r3 ws3 (k + 1) f z1 z2 z3 z6 hk (by omega)
    refine zg_with (fun tys0 hG0 hh0 => ?_)
    obtain ⟨uc, uc1, uc2⟩ := zg_fe_ok hh0 vGkeep_q37
    have uc3 := zg_fld_u uc1 y1.2.2.2.2.1
    subst uc3
    refine zg_run2 (Zv := zgZk av ws0) C vGkeep_K (vKf_ok 29 (by decide)) hm vGkeep_c37 KE (fun o r3 ws3 tys3 v kp3 _ _ h3 _ => ?_) (fun t ht r3 ws3 kp3 hfs3 hos3 => ?_)
    · exact zgPF_kp y1.1 kp3 vKK_4
    have z2 := zg_row_kp kp3 (i := 47) (by decide +kernel) y2
    unfold vGkeep_nd37 at ht
    simp only [List.mem_cons, List.not_mem_nil, or_false] at ht
    rcases ht with ht | ht
    · subst ht
      have z1 := zgB_0 (zgB_kp y1 (zx_KP_rf ws vKK) kp3 vKK_6 hfs3 (by decide) (by decide) (by decide) (by decide))
      have z3 := he0 hos3 (x := ([(35, 1)], 0)) (by decide) y3
      have z4 := he0 hos3 (x := ([(34, 1)], 0)) (by decide) y4
      obtain ⟨k', k1, k2, k3⟩ := hos3 (([(29, 1)], 0), (([(35, 1)], 0), (1, 6))) (by decide) _ y3
      have k2 : (k : Int) + 1 ≤ k' := k2
      refine zg_with (fun tys4 hG4 hh4 => ?_)
      obtain ⟨u, u1, u2⟩ := zg_fe_ok hh4 vGkeep_m45
      have u3 := zg_fld_u u1 z1.2.2.1
      subst u3
      rw [k1] at u2
      have u4 := Option.some.inj u2
      have hk : k < lm := by omega
      have hb := zg_xb_ok hG4 vGkeep_b45 z3
      obtain ⟨lh', q1, q2⟩ := zg_fe_ok hh4 vGkeep_h45
      have q3 := zg_fld_u q1 z1.2.2.2.1
      subst q3
      have hlh := zg_xb_ok hG4 vGkeep_g45 q2
      have hW := zg_row_rg hh4 (i := 68) rfl z1.2.2.2.2.2.1 (j := k) (by omega)
      have hW1 : (0 : Int) ≤ (fW k).toInt := hW.1
      have hW2 : (fW k).toInt ≤ 8 := hW.2
      have hH := zg_row_rg hh4 (i := 2) rfl z1.2.2.2.2.2.2 (j := (fW k).toInt.toNat) (by omega)
      have hH1 : (0 : Int) ≤ (fH (fW k).toInt.toNat).toInt := hH.1
      have hH2 : (fH (fW k).toInt.toNat).toInt ≤ 6 := hH.2
      have hlen : (ρe ++ r3).length = 39 := hG4.1.trans vGkeep_l45
      have e1 : zx_ev (ρe ++ r3 ++ [(fW k).toInt]) ([(39, 1)], 0) = some (fW k).toInt := zg_ev_new hlen
      have e2 : zx_ev (ρe ++ r3 ++ [(fW k).toInt] ++ [(fH (fW k).toInt.toNat).toInt]) ([(40, 1)], 0) = some (fH (fW k).toInt.toNat).toInt := zg_ev_new (by rw [List.length_append, hlen]; rfl)
      have e3 : zx_ev (ρe ++ r3 ++ [(fW k).toInt] ++ [(fH (fW k).toInt.toNat).toInt]) ([(40, 1), (30, 1)], 0) = some ((fH (fW k).toInt.toNat).toInt + lh') := zg_ev_11 e2 (zx_ev_app (zx_ev_app q2))
      have hRk := hR k hk
      refine zg_newu (q := ((0, 8), none)) hW1 hW2 (fun e he => nomatch he) ?_
      refine zg_newu (q := ((0, 6), none)) hH1 hH2 (fun e he => nomatch he) ?_
      refine zg_newu (q := ((0, 24), some ([(40, 1), (30, 1)], 0))) (v := (fH (fW k).toInt.toNat).toInt + lh') (by show (0 : Int) ≤ _; omega) (by show _ ≤ (24 : Int); omega) (fun e he => by cases he; exact e3) ?_
      refine zg_addp (i := 68) (w := k) (n := 6) (f := fW) (x := ([(35, 1)], 0)) (y := ([(39, 1)], 0)) (t := .inr (0, 8)) (fs := []) rfl z1.2.2.2.2.2.1 (zx_ev_app (zx_ev_app (zx_ev_app z3))) (by omega) (zx_ev_app (zx_ev_app e1)) ?_
      refine zg_addp (i := 2) (w := (fW k).toInt.toNat) (n := 9) (f := fH) (x := ([(39, 1)], 0)) (y := ([(40, 1)], 0)) (t := .inr (0, 6)) (fs := []) rfl z1.2.2.2.2.2.2 (by rw [show (((fW k).toInt.toNat : Nat) : Int) = (fW k).toInt by omega]; exact zx_ev_app (zx_ev_app e1)) (by omega) (zx_ev_app e2) ?_
      have hgo : ∀ ρ9, (∃ r9, ρ9 = ρe ++ r9) → zx_ev ρ9 ([(35, 1)], 0) = some (k : Int) → zx_ev ρ9 ([(34, 1)], 0) = some (zg_cnt f (8 * c0) (8 * k)) → zg_go p l e R s mi args below meth c Q D A b ex (ws0, vGkeep.2.2.2.2.2.1) nL 45 vGkeep_45 ρ9 ws3 := by
        intro ρ9 hr9 v3 v4
        obtain ⟨r9, rfl⟩ := hr9
        refine zg_run2 (Zv := zgZk av ws0) C vGkeep_K (vKf_ok 29 (by decide)) hm vGkeep_c45 KE (fun o r3 ws3 tys3 v kp3 _ _ h3 _ => ?_) (fun t ht r5 ws5 kp5 hfs5 hos5 => ?_)
        · rcases h3 with ⟨h3, -⟩ | ⟨l, h3, -⟩
          · cases h3
          · cases h3
        rw [List.mem_singleton] at ht
        subst ht
        have m1 := zgB_0 (zgB_kp z1 (zx_KP_rf ws3 vKK) kp5 vKK_6 hfs5 (by decide) (by decide) (by decide) (by decide))
        have m2 := zg_row_kp kp5 (i := 47) (by decide +kernel) z2
        have m3 := he0 hos5 (x := ([(35, 1)], 0)) (by decide) v3
        have m4 := he0 hos5 (x := ([(34, 1)], 0)) (by decide) v4
        refine zg_call3 (Zv := zgZk av ws0) C vGkeep_K (vKf_ok 29 (by decide)) hm (zg_EN_mono vGpn_ok (by decide)) vGkeep_K1 (List.mem_of_getElem? (i := 41) rfl) vGkeep_k69 rfl KE (fun _ _ => trivial) (fun av2 ws2 _ _ _ => ⟨fun o r2 ws3 tys3 v kp3 _ _ h3 _ => ?_, fun t ht => nomatch ht⟩) (fun av6 v6 ws6 ha6 kp6 hZ6 hv6 => ⟨fun o r2 ws3 tys3 v kp3 _ _ h3 _ => ?_, fun t ht r7 ws7 kp7 hfs7 hos7 => ?_⟩)
        · rcases h3 with ⟨h3, -⟩ | ⟨l, h3, -⟩
          · cases h3
          · cases h3
        · rcases h3 with ⟨h3, -⟩ | ⟨l, h3, -⟩
          · cases h3
          · cases h3
        · rw [List.mem_singleton] at ht
          subst ht
          obtain ⟨x, fC', b1, b2, b3⟩ := hZ6 f c0 m2 m1.2.1
          obtain ⟨x', b4, b5⟩ := zg_arg ha6 vGkeep_a69
          rw [b1] at b4
          cases b4
          rw [m3] at b5
          have b6 : (k : Int) = x.toInt := Option.some.inj b5
          have b7 : zg_cnt f (8 * c0) (8 * k) = zg_cnt fC' (8 * c0) (8 * k) := zg_cnt_eq (fun j hj => (b3 _ (by omega)).symm)
          rw [b7] at m4
          exact n74 hk 9 r7 ws7 0 fC' (zgB_0 (zgB_kp m1 kp6 kp7 vGpn_6 hfs7 (by decide) (by decide) (by decide) (by decide))) (zg_row_kp kp7 (by decide +kernel) b2) (he0 hos7 (by decide) m3) (he0 hos7 (x := ([(36, 1)], 0)) (y := ([], 0)) (by decide) zx_ev_c') (he0 hos7 (by decide) m4) (Nat.le_refl _)
      rw [vGkeep_i45]
      exact hgo _ ⟨r3 ++ [(fW k).toInt] ++ [(fH (fW k).toInt.toNat).toInt] ++ [(fH (fW k).toInt.toNat).toInt + lh'], by simp only [List.append_assoc]⟩ (zx_ev_app (zx_ev_app (zx_ev_app z3))) (zx_ev_app (zx_ev_app (zx_ev_app z4)))
    · subst ht
      have z1 := zgB_0 (zgB_kp y1 (zx_KP_rf ws vKK) kp3 vKK_6 hfs3 (by decide) (by decide) (by decide) (by decide))
      have z3 := he0 hos3 (x := ([(36, 1)], 0)) (y := ([], 0)) (by decide) zx_ev_c'
      obtain ⟨k4, k5, k6, k7⟩ := hos3 (([], 400), (([(22, 1), (34, 1)], 0), (0, 1000))) (by decide) _ (zg_ev_11 uc2 y4)
      have k6 : uc + zg_cnt f (8 * c0) (8 * k) + 0 ≤ k4 := k6
      have k8 := zx_ev_c k5
      obtain ⟨k', k1, k2, k3⟩ := hos3 (([(29, 1)], 0), (([(35, 1)], 0), (-6, 0))) (by decide) _ y3
      have k3 : k' ≤ (k : Int) + 0 := k3
      refine zg_with (fun tys4 hG4 hh4 => ?_)
      obtain ⟨u, u1, u2⟩ := zg_fe_ok hh4 vGkeep_m135
      have u3 := zg_fld_u u1 z1.2.2.1
      subst u3
      rw [k1] at u2
      have u4 := Option.some.inj u2
      have ek : k = lm := by omega
      subst ek
      exact n135 c0 k lh uc fW fH f (by omega) 7 r3 ws3 0 (by rw [show zg_cnt f (8 * c0) (8 * 0) = 0 from rfl, Int.add_zero]; exact z1) z2 z3 (Nat.le_refl _)
  refine zg_run0 (Zv := zgZk av ws0) C vGkeep_K (vKf_ok 29 (by decide)) hm vGkeep_c0 KE (fun o r3 ws3 tys3 v kp3 _ _ h3 _ => ?_) (fun t ht r3 ws3 kp3 hfs3 hos3 => ?_)
  · exact zgPF_kp hX.1 kp3 vKK_4
  rw [List.mem_singleton] at ht
  subst ht
  obtain ⟨fW, w1⟩ := zg_row_of hh (i := 68) rfl (by decide)
  obtain ⟨fH, w2⟩ := zg_row_of hh (i := 2) rfl (by decide)
  refine zg_with (fun tys4 hG4 hh4 => ?_)
  obtain ⟨t1, t2, t3⟩ := zg_fe_ok hh4 vGkeep_t1
  obtain ⟨t4, t5, t6⟩ := zg_fe_ok hh4 vGkeep_t2
  have t7 := zg_xo_ok hG4 vGkeep_t3 t3 t6
  rw [Int.add_zero] at t7
  subst t7
  obtain ⟨c0, f1, f2, -⟩ := zg_fb_ok (q := 70) (lo := 0) (hi := 5000) hG4 hh4 (by decide +kernel)
  obtain ⟨lm, f3, f4, -⟩ := zg_fb_ok (q := 98) (lo := 0) (hi := 5000) hG4 hh4 (by decide +kernel)
  obtain ⟨lh, f5, -⟩ := zg_fb_ok (q := 99) (lo := -5000) (hi := 5000) hG4 hh4 (by decide +kernel)
  obtain ⟨cs, f6, -⟩ := zg_fb_ok (q := 69) (lo := -5000) (hi := 5000) hG4 hh4 (by decide +kernel)
  obtain ⟨c1, rfl⟩ := Int.eq_ofNat_of_zero_le f2
  obtain ⟨l1, rfl⟩ := Int.eq_ofNat_of_zero_le f4
  have r1 := zg_row_kp kp3 (i := 68) (by decide +kernel) w1
  have r2 := zg_row_kp kp3 (i := 2) (by decide +kernel) w2
  have z1 : zgB c1 l1 lh cs fW fH ws3 := ⟨zgPF_kp hX.1 kp3 vKK_4, f1, f3, f5, f6, r1, r2⟩
  have hR : ∀ k : Nat, k < l1 → lh + (fH (fW k).toInt.toNat).toInt ≤ 24 := by
    intro k hk
    obtain ⟨g1, g2, -⟩ := zg_fb_ok (q := 98) (lo := -5000) (hi := 5000) hG hh (by decide +kernel)
    obtain ⟨g3, g4, -⟩ := zg_fb_ok (q := 99) (lo := -5000) (hi := 5000) hG hh (by decide +kernel)
    obtain ⟨g5, g6, -⟩ := zg_fb_ok (q := 6) (lo := -5000) (hi := 5000) hG hh (by decide +kernel)
    obtain ⟨g7, g8, -⟩ := zg_fb_ok (q := 100) (lo := -5000) (hi := 5000) hG hh (by decide +kernel)
    have e1 := zg_fld_u (zg_fs_0 hfs3 (by decide) g2) f3
    have e2 := zg_fld_u (zg_fs_0 hfs3 (by decide) g4) f5
    have e3 := zg_fld_u (zg_fs_0 hfs3 (by decide) g6) t2
    have e4 := zg_fld_u (zg_fs_0 hfs3 (by decide) g8) t5
    subst e1
    subst e2
    subst e3
    subst e4
    exact hX.2 fW fH _ _ _ w1 w2 g2 g4 g6 g8 k (by omega)
  refine zg_call3 (Zv := zgZk av ws0) C vGkeep_K (vKf_ok 29 (by decide)) hm (zg_EN_mono (zg_of vnK2 rfl) (by decide)) vGkeep_K2 (List.mem_of_getElem? (i := 16) rfl) vGkeep_k30 rfl KE (fun _ _ => trivial) (fun av2 ws2 _ _ _ => ⟨fun o r2 ws3 tys3 v kp3 _ _ h3 _ => ?_, fun t ht => nomatch ht⟩) (fun av6 v6 ws6 ha6 kp6 hZ6 hv6 => ⟨fun o r2 ws3 tys3 v kp3 _ _ h3 _ => ?_, fun t ht r7 ws7 kp7 hfs7 hos7 => ?_⟩)
  · rcases h3 with ⟨h3, -⟩ | ⟨l, h3, -⟩
    · cases h3
    · cases h3
  · rcases h3 with ⟨h3, -⟩ | ⟨l, h3, -⟩
    · cases h3
    · cases h3
  · rw [List.mem_singleton] at ht
    subst ht
    refine zg_with (fun tys8 hG8 hh8 => ?_)
    obtain ⟨f, hf⟩ := zg_row_of hh8 (i := 47) rfl (by decide)
    exact n37 c1 l1 lh cs fW fH hR 7 r7 ws7 0 f (zgB_0 (zgB_kp z1 kp6 kp7 vEK2_6 hfs7 (by decide) (by decide) (by decide) (by decide))) hf (he0 hos7 (x := ([(35, 1)], 0)) (y := ([], 0)) (by decide) zx_ev_c') (he0 hos7 (x := ([(34, 1)], 0)) (y := ([], 0)) (by decide) zx_ev_c') (Nat.zero_le _) (Nat.le_refl _)
end
