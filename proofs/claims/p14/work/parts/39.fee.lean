noncomputable section
/-! zg: fee, rule of the reference -/
/-- a fee's steps are sound -/
def zg_h1 (fS : Nat → Int32) (a b : Int) (sm : Nat) : Prop := 0 ≤ a ∧ b ≤ sm ∧ ∃ d, zx_dp fS (2000 + a.toNat) (b - a).toNat = some d
theorem zg_h1_up {fS fS' : Nat → Int32} {a b : Int} {sm sm' : Nat} (h : zg_h1 fS a b sm) (hS : ∀ i, i < 2000 + sm → fS' i = fS i) (hs : sm ≤ sm') : zg_h1 fS' a b sm' := by
  obtain ⟨h1, h2, d, h3⟩ := h
  refine ⟨h1, by omega, d, ?_⟩
  rw [← h3]
  exact zg_dp_eq (fun j hj => hS _ (by omega))
/-- what stands ahead of the hand's places is as it was -/
def zgFr (gS gF gT gN fS fF fT fN : Nat → Int32) : Prop := (∀ i, i < 2000 → fS i = gS i) ∧ (∀ i, i < 160 → fF i = gF i ∧ fT i = gT i) ∧ ∀ i, i < 20 → fN i = gN i
def zgR4 (ws : va_W) (fS fF fT fN : Nat → Int32) : Prop := zg_row ws 24 fS ∧ zg_row ws 22 fF ∧ zg_row ws 23 fT ∧ zg_row ws 20 fN
theorem zgR4_kp {ws ws' : va_W} {fS fF fT fN : Nat → Int32} {K : List Nat} (h : zgR4 ws fS fF fT fN) (kp : zx_KP (ws, K) ws') (hK : ∀ i ∈ [20, 22, 23, 24], i ∈ K) : zgR4 ws' fS fF fT fN :=
  ⟨zg_row_kp kp (hK 24 (by decide)) h.1, zg_row_kp kp (hK 22 (by decide)) h.2.1, zg_row_kp kp (hK 23 (by decide)) h.2.2.1, zg_row_kp kp (hK 20 (by decide)) h.2.2.2⟩
def zgWr (gS gF gT gN : Nat → Int32) (ws : va_W) : Prop := ∃ fS fF fT fN : Nat → Int32, zgR4 ws fS fF fT fN ∧ zgFr gS gF gT gN fS fF fT fN
def zgH (gS gF gT gN : Nat → Int32) (ws : va_W) : Prop := ∃ (fS fF fT fN : Nat → Int32) (sm n : Nat), zgR4 ws fS fF fT fN ∧ zgFr gS gF gT gN fS fF fT fN ∧ zg_fld ws 37 sm ∧ (fN 20).toInt = n ∧ ∀ k, k < n → zg_h1 fS (fF (160 + k)).toInt (fT (160 + k)).toInt sm
theorem vGK_4 : ∀ i ∈ [20, 22, 23, 24], i ∈ vGK := by decide +kernel
theorem zgWr_kp {gS gF gT gN : Nat → Int32} {ws ws' : va_W} (h : zgWr gS gF gT gN ws) (kp : zx_KP (ws, vGK) ws') : zgWr gS gF gT gN ws' := by
  obtain ⟨fS, fF, fT, fN, h1, h2⟩ := h
  exact ⟨fS, fF, fT, fN, zgR4_kp h1 kp vGK_4, h2⟩
theorem zgH_W {gS gF gT gN : Nat → Int32} {ws : va_W} (h : zgH gS gF gT gN ws) : zgWr gS gF gT gN ws := by
  obtain ⟨fS, fF, fT, fN, sm, n, h1, h2, -⟩ := h
  exact ⟨fS, fF, fT, fN, h1, h2⟩
theorem zgH_kp {gS gF gT gN : Nat → Int32} {ws ws' : va_W} (h : zgH gS gF gT gN ws) (kp : zx_KP (ws, vGK) ws') (hf : ∀ w, zg_fld ws 37 w → zg_fld ws' 37 w) : zgH gS gF gT gN ws' := by
  obtain ⟨fS, fF, fT, fN, sm, n, h1, h2, h3, h4⟩ := h
  exact ⟨fS, fF, fT, fN, sm, n, zgR4_kp h1 kp vGK_4, h2, hf _ h3, h4⟩
def zgZf (gS gF gT gN : Nat → Int32) (av : List Value) (ws : va_W) (v : Option Value) (ws' : va_W) : Prop := (v ≠ some (.int 0) → zgH gS gF gT gN ws' ∧ ∀ x, zg_fld ws 4 x → zgA 4 (x + 1) ws') ∧ zgWr gS gF gT gN ws'
theorem vGfee_K : ∀ i ∈ vGfee.2.2.2.2.2.1, i ∈ vGK := by decide +kernel
theorem vGfee_K1 : ∀ i ∈ vGfee.2.2.2.2.2.1, i ∈ vGcond.2.2.2.2.2.1 := by decide +kernel
theorem vGcond_k3 : ∀ i ∈ [20, 22, 23], i ∈ vGcond.2.2.2.2.2.1 := by decide +kernel
set_option maxRecDepth 1000000 in
theorem vGfee_c0 : zg_rk vGK vGf vGm_fee vGfee.2.1.length vGfee.2.2.2.2.1 (none, true) [(67, vGfee_67, [(37, (0, 0)), (4, (1, 340))], [])] 0 vGs_fee = true := by decide +kernel
set_option maxRecDepth 1000000 in
theorem vGfee_s67 : zg_sk vGfee.2.2.2.2.2.1 vGfee_67 22 168 = true := by decide +kernel
set_option maxRecDepth 1000000 in
theorem vGfee_f67 : zg_rw vGfee_67.2.1 20 = [(([], 20), .inl ([(37, 1)], 0))] := rfl
set_option maxRecDepth 1000000 in
theorem vGfee_x67 : zg_xo vGfee_67.1 (zg_sE vGfee.2.2.2.2.2.1 vGfee_67) ([(37, 1)], 0) 160 = true := by decide +kernel
set_option maxRecDepth 1000000 in
theorem vGfee_v67 : zg_xf vGfee_67.1 vGfee_67.2.1 (zg_sV vGfee.2.2.2.2.2.1 vGfee_67) 37 0 = true := by decide +kernel
set_option maxRecDepth 1000000 in
theorem vGfee_s104 : zg_sk vGfee.2.2.2.2.2.1 vGfee_104 23 168 = true := by decide +kernel
set_option maxRecDepth 1000000 in
theorem vGfee_f104 : zg_rw vGfee_104.2.1 20 = [(([], 20), .inl ([(41, 1)], 0))] := rfl
set_option maxRecDepth 1000000 in
theorem vGfee_x104 : zg_xo vGfee_104.1 (zg_sE vGfee.2.2.2.2.2.1 vGfee_104) ([(41, 1)], 0) 160 = true := by decide +kernel
set_option maxRecDepth 1000000 in
theorem vGfee_v104 : zg_xf vGfee_104.1 vGfee_104.2.1 (zg_sV vGfee.2.2.2.2.2.1 vGfee_104) 37 0 = true := by decide +kernel
set_option maxRecDepth 1000000 in
theorem vGfee_s115 : zg_sk vGfee.2.2.2.2.2.1 vGfee_115 20 21 = true := by decide +kernel
set_option maxRecDepth 1000000 in
theorem vGfee_f115 : zg_rw vGfee_115.2.1 20 = [(([], 20), .inl ([(41, 1)], 0))] := rfl
set_option maxRecDepth 1000000 in
theorem vGfee_x115 : zg_sE vGfee.2.2.2.2.2.1 vGfee_115 = ([], 20) := by decide +kernel
set_option maxRecDepth 1000000 in
theorem vGfee_v115 : zg_xo vGfee_115.1 (zg_sV vGfee.2.2.2.2.2.1 vGfee_115) ([(41, 1)], 0) 1 = true := by decide +kernel
def vGfee_nd : List zg_Nd := [(87, vGfee_87, [(37, (0, 0)), (4, (0, 340))], []), (104, vGfee_104, [(37, (0, 0)), (4, (0, 340))], [])]
set_option maxRecDepth 1000000 in
theorem vGfee_r67 : zg_rk vGK vGf vGm_fee vGfee.2.1.length vGfee.2.2.2.2.1 (none, false) vGfee_nd 68 (zg_sT vGfee.2.2.2.2.2.1 vGfee_67) = true := by decide +kernel
set_option maxRecDepth 1000000 in
theorem vGfee_k87 : zg_ca2n vGK vGf vGm_fee vGfee.2.1.length vGfee.2.2.2.2.1 (none, true) [] (none, false) [(104, vGfee_104, [(37, (0, 0)), (4, (0, 0))], [])] 87 358 vGcond vGfee_87 = true := by decide +kernel
set_option maxRecDepth 1000000 in
theorem vGfee_r104 : zg_rk vGK vGf vGm_fee vGfee.2.1.length vGfee.2.2.2.2.1 (none, false) [(115, vGfee_115, [(37, (0, 0)), (4, (0, 0))], [])] 105 (zg_sT vGfee.2.2.2.2.2.1 vGfee_104) = true := by decide +kernel
set_option maxRecDepth 1000000 in
theorem vGfee_r115 : zg_rk vGK vGf vGm_fee vGfee.2.1.length vGfee.2.2.2.2.1 (some ([(37, (0, 0)), (4, (0, 0))], fun _ => true), false) [] 116 (zg_sT vGfee.2.2.2.2.2.1 vGfee_115) = true := by decide +kernel
set_option maxRecDepth 1000000 in
theorem vGfee_b : zg_fb vGfee_67.1 vGfee_67.2.1 37 0 100 = true := by decide +kernel
set_option maxRecDepth 100000 in
theorem vGfee_ok {l : Launch} (gS gF gT gN : Nat → Int32) : zg_EN l 35 vGfee (fun _ ws => zgH gS gF gT gN ws) (zgZf gS gF gT gN) := by
  refine zg_enter (d := 34) (Kr := vGK) (md := vGm_fee) vGm_fee_ok (by decide +kernel) ?_
  intro p e R s mi args below meth c Q D A b ex nL own cc ρe tys ws0 av hX hG hh ha C KE
  have hm : ρe.length = vGfee.2.1.length := hG.1
  obtain ⟨fS, fF, fT, fN, sm, n, x1, x2, x3, x4, x5⟩ := hX
  obtain ⟨p0, xp, -⟩ := zg_fb_ok (q := 4) (lo := -5000) (hi := 5000) hG hh (by decide +kernel)
  have n104 : ∀ (r : List Int) (ws : va_W) (fS' fF' : Nat → Int32) (sm' : Nat), zgR4 ws fS' fF' fT fN → zg_fld ws 37 sm' → zgA 4 (p0 + 1) ws → sm ≤ sm' → (∀ i, i < 2000 + sm → fS' i = fS i) → (∀ i, i ≠ 160 + n → fF' i = fF i) → (fF' (160 + n)).toInt = sm → (∃ d, zx_dp fS' (2000 + sm) (sm' - sm) = some d) → zg_go p l e R s mi args below meth c Q D A b ex (ws0, vGfee.2.2.2.2.2.1) nL 104 vGfee_104 (ρe ++ r) ws := by
    intro r ws fS' fF' sm' y1 y2 y3 y4 y5 y6 y7 y8
    refine zg_with (fun tys1 hG1 hh1 => ?_)
    refine zg_store2 C (i := 23) (n := 168) (List.mem_of_getElem? (i := 57) rfl) vGfee_s104 (by decide) (fun f w v' ws2 g1 g2 g3 g4 g5 g6 g7 => ?_)
    have e1 := zg_row_u g1 y1.2.2.1
    subst e1
    obtain ⟨w0, k1, k2⟩ := zg_rw_ok hh1 y1.2.2.2 (by rw [vGfee_f104]; exact List.mem_cons_self)
    have k3 : w0 = 20 := by
      have k4 : (20 : Int) = w0 := Option.some.inj ((zx_ev_iff.mpr ⟨0, rfl, by simp⟩ : zx_ev (ρe ++ r) ([], 20) = some 20).symm.trans k1)
      omega
    subst k3
    have hw := zg_xo_ok hG1 vGfee_x104 g2 k2
    have hv := zg_xf_ok hG1 hh1 vGfee_v104 y2 g4
    have hwn : w = 160 + n := by omega
    subst hwn
    refine zg_run2 (Zv := zgZf gS gF gT gN av ws0) C vGfee_K (vGf_ok 26 (by decide)) hm vGfee_r104 KE (fun o r3 ws3 tys3 v kp3 _ _ h3 _ => ?_) (fun t ht r3 ws3 kp3 hfs3 _ => ?_)
    · rcases h3 with ⟨h3, -⟩ | ⟨l, h3, -⟩
      · cases h3
      · cases h3
    rw [List.mem_singleton] at ht
    subst ht
    have z1 : zgR4 ws3 fS' fF' (upd f (160 + n) v') fN := zgR4_kp ⟨g6 24 _ (by decide) y1.1, g6 22 _ (by decide) y1.2.1, g5, g6 20 _ (by decide) y1.2.2.2⟩ kp3 vGK_4
    have z2 := zg_fs_0 hfs3 (by decide) (g7 _ _ y2)
    have z3 := zgA_0 (zgA_eq y3 (g7 4)) hfs3 (hi := 0) (by decide)
    refine zg_with (fun tys4 hG4 hh4 => ?_)
    refine zg_store2 C (i := 20) (n := 21) (List.mem_of_getElem? (i := 65) rfl) vGfee_s115 (by decide) (fun f2 w2 v2 ws5 m1 m2 m3 m4 m5 m6 m7 => ?_)
    have e2 := zg_row_u m1 z1.2.2.2
    subst e2
    obtain ⟨w1, k5, k6⟩ := zg_rw_ok hh4 z1.2.2.2 (by rw [vGfee_f115]; exact List.mem_cons_self)
    have k7 : w1 = 20 := by
      have k4 : (20 : Int) = w1 := Option.some.inj ((zx_ev_iff.mpr ⟨0, rfl, by simp⟩ : zx_ev (ρe ++ r3) ([], 20) = some 20).symm.trans k5)
      omega
    subst k7
    have hv2 := zg_xo_ok hG4 vGfee_v115 m4 k6
    rw [vGfee_x115] at m2
    have k8 : w2 = 20 := by
      have k4 : (20 : Int) = w2 := Option.some.inj ((zx_ev_iff.mpr ⟨0, rfl, by simp⟩ : zx_ev (ρe ++ r3) ([], 20) = some 20).symm.trans m2)
      omega
    subst k8
    refine zg_run2 (Zv := zgZf gS gF gT gN av ws0) C vGfee_K (vGf_ok 26 (by decide)) hm vGfee_r115 KE (fun o r6 ws6 tys6 v kp6 _ _ h6 _ => ?_) (fun t ht => nomatch ht)
    rcases h6 with ⟨h6, -⟩ | ⟨l, h6, h7, -⟩
    · cases h6
    cases h6
    have u1 : zgR4 ws6 fS' fF' (upd f (160 + n) v') (upd f2 20 v2) := zgR4_kp ⟨m6 24 _ (by decide) z1.1, m6 22 _ (by decide) z1.2.1, m6 23 _ (by decide) z1.2.2.1, m5⟩ kp6 vGK_4
    have u2 := zg_fs_0 h7 (by decide) (m7 _ _ z2)
    have u3 := zgA_0 (zgA_eq z3 (m7 4)) h7 (hi := 0) (by decide)
    have u4 : zgFr gS gF gT gN fS' fF' (upd f (160 + n) v') (upd f2 20 v2) := by
      refine ⟨fun i hi => ?_, fun i hi => ⟨?_, ?_⟩, fun i hi => ?_⟩
      · rw [y5 i (by omega)]
        exact x2.1 i hi
      · rw [y6 i (by omega)]
        exact (x2.2.1 i hi).1
      · rw [zg_upd_ne (by omega)]
        exact (x2.2.1 i hi).2
      · rw [zg_upd_ne (by omega)]
        exact x2.2.2 i hi
    refine ⟨fun _ => ⟨⟨fS', fF', _, _, sm', n + 1, u1, u4, u2, ?_, fun k hk => ?_⟩, fun x hx => ?_⟩, ⟨fS', fF', _, _, u1, u4⟩⟩
    · rw [zg_upd_eq]
      omega
    · by_cases hkn : k = n
      · subst hkn
        rw [zg_upd_eq, y7]
        obtain ⟨d, hd⟩ := y8
        refine ⟨by omega, by omega, d, ?_⟩
        rw [show ((sm : Int)).toNat = sm by omega, show (v'.toInt - (sm : Int)).toNat = sm' - sm by omega]
        exact hd
      · rw [zg_upd_ne (by omega), y6 _ (by omega)]
        exact zg_h1_up (x5 k (by omega)) y5 y4
    · rw [zg_fld_u hx xp]
      exact u3
  refine zg_run0 (Zv := zgZf gS gF gT gN av ws0) C vGfee_K (vGf_ok 26 (by decide)) hm vGfee_c0 KE (fun o r' ws' tys v kp _ _ h3 _ => ?_) (fun t ht r ws kp hfs _ => ?_)
  · rcases h3 with ⟨-, h3⟩ | ⟨l, h3, -⟩
    · exact ⟨fun h0 => absurd h3 h0, fS, fF, fT, fN, zgR4_kp x1 kp vGK_4, x2⟩
    · cases h3
  rw [List.mem_singleton] at ht
  subst ht
  have y1 := zgR4_kp x1 kp vGK_4
  have y2 := zg_fs_0 hfs (by decide) x3
  have y3 := zgA_fs (d := 1) ⟨p0, xp, Int.le_refl _⟩ hfs (hi := 340) (by decide)
  refine zg_with (fun tys1 hG1 hh1 => ?_)
  refine zg_store2 C (i := 22) (n := 168) (List.mem_of_getElem? (i := 38) rfl) vGfee_s67 (by decide) (fun f w v' ws2 g1 g2 g3 g4 g5 g6 g7 => ?_)
  have e1 := zg_row_u g1 y1.2.1
  subst e1
  obtain ⟨w0, k1, k2⟩ := zg_rw_ok hh1 y1.2.2.2 (by rw [vGfee_f67]; exact List.mem_cons_self)
  have k3 : w0 = 20 := by
    have k4 : (20 : Int) = w0 := Option.some.inj ((zx_ev_iff.mpr ⟨0, rfl, by simp⟩ : zx_ev (ρe ++ r) ([], 20) = some 20).symm.trans k1)
    omega
  subst k3
  have hw := zg_xo_ok hG1 vGfee_x67 g2 k2
  have hv := zg_xf_ok hG1 hh1 vGfee_v67 y2 g4
  have hwn : w = 160 + n := by omega
  subst hwn
  have hv' : v'.toInt = sm := by omega
  refine zg_run2 (Zv := zgZf gS gF gT gN av ws0) C vGfee_K (vGf_ok 26 (by decide)) hm vGfee_r67 KE (fun o r3 ws3 tys3 v kp3 _ _ h3 _ => ?_) (fun t ht r3 ws3 kp3 hfs3 _ => ?_)
  · rcases h3 with ⟨h3, -⟩ | ⟨l, h3, -⟩
    · cases h3
    · cases h3
  have hD0 : ∃ d, zx_dp fS (2000 + sm) (sm - sm) = some d := ⟨0, by rw [Nat.sub_self]; rfl⟩
  have hfF : ∀ i, i ≠ 160 + n → upd f (160 + n) v' i = f i := fun i hi => zg_upd_ne hi
  have hfn : (upd f (160 + n) v' (160 + n)).toInt = sm := by rw [zg_upd_eq]; exact hv'
  have q1 : zgR4 ws2 fS (upd f (160 + n) v') fT fN := ⟨g6 24 _ (by decide) y1.1, g5, g6 23 _ (by decide) y1.2.2.1, g6 20 _ (by decide) y1.2.2.2⟩
  have z1 := zgR4_kp q1 kp3 vGK_4
  unfold vGfee_nd at ht
  simp only [List.mem_cons, List.not_mem_nil, or_false] at ht
  rcases ht with ht | ht
  · subst ht
    have z2 := zg_fs_0 hfs3 (by decide) (g7 _ _ y2)
    have z3 := zgA_0 (zgA_eq y3 (g7 4)) hfs3 (hi := 340) (by decide)
    refine zg_call2n (Zv := zgZf gS gF gT gN av ws0) C vGfee_K (vGf_ok 26 (by decide)) hm (zg_EN_mono (vGcond_ok sm fS) (by decide)) vGfee_K1 (List.mem_of_getElem? (i := 48) rfl) vGfee_k87 rfl KE (fun _ _ => ⟨fS, z1.1, fun _ _ => rfl, z2⟩) (fun av2 ws4 _ kp4 hZ => ⟨fun o r5 ws5 tys5 v kp5 _ _ h5 _ => ?_, fun t ht => nomatch ht⟩) (fun av2 v2 ws4 ha2 kp4 hZ hv2 => ⟨fun o r5 ws5 tys5 v kp5 _ _ h3 _ => ?_, fun t ht r5 ws5 kp5 hfs5 _ => ?_⟩)
    · rcases h5 with ⟨-, h5⟩ | ⟨l, h5, -⟩
      · obtain ⟨fS', j1, j2⟩ := hZ.2
        refine ⟨fun h0 => absurd h5 h0, zgWr_kp (ws := ws4) ⟨fS', _, fT, fN, ⟨j1, zg_row_kp kp4 (vGcond_k3 22 (by decide)) z1.2.1, zg_row_kp kp4 (vGcond_k3 23 (by decide)) z1.2.2.1, zg_row_kp kp4 (vGcond_k3 20 (by decide)) z1.2.2.2⟩, fun i hi => ?_, fun i hi => ⟨?_, (x2.2.1 i hi).2⟩, x2.2.2⟩ kp5⟩
        · rw [j2 i (by omega)]
          exact x2.1 i hi
        · rw [hfF i (by omega)]
          exact (x2.2.1 i hi).1
      · cases h5
    · rcases h3 with ⟨h3, -⟩ | ⟨l, h3, -⟩
      · cases h3
      · cases h3
    · rw [List.mem_singleton] at ht
      subst ht
      obtain ⟨⟨⟨sm', fS', d, j1, j2, j3, j4⟩, j5⟩, fS2, j6, j7⟩ := (⟨hZ.1 hv2, hZ.2⟩ : _ ∧ _)
      have e6 := zg_row_u j6 j3
      subst e6
      refine n104 r5 ws5 fS2 _ sm' (zgR4_kp ⟨j3, zg_row_kp kp4 (vGcond_k3 22 (by decide)) z1.2.1, zg_row_kp kp4 (vGcond_k3 23 (by decide)) z1.2.2.1, zg_row_kp kp4 (vGcond_k3 20 (by decide)) z1.2.2.2⟩ kp5 vGK_4) (zg_fs_0 hfs5 (by decide) j1) (zgA_0 (zgA_tr z3 j5) hfs5 (hi := 0) (by decide)) j2 j7 hfF hfn ⟨d, j4⟩
  · subst ht
    exact n104 r3 ws3 fS _ sm z1 (zg_fs_0 hfs3 (by decide) (g7 _ _ y2)) (zgA_0 (zgA_eq y3 (g7 4)) hfs3 (hi := 340) (by decide)) (Nat.le_refl _) (fun _ _ => rfl) hfF hfn hD0
/-! rule -/
theorem vGrule_K : ∀ i ∈ vGrule.2.2.2.2.2.1, i ∈ vGK := by decide +kernel
theorem vGrule_K1 : ∀ i ∈ vGrule.2.2.2.2.2.1, i ∈ vGfee.2.2.2.2.2.1 := by decide +kernel
set_option maxRecDepth 1000000 in
theorem vGrule_c0 : zg_rk vGK vGf vGm_rule vGrule.2.1.length vGrule.2.2.2.2.1 (some ([(37, (0, 0)), (4, (1, 340))], fun _ => true), true) [(103, vGrule_103, [(37, (0, 0)), (4, (0, 0))], [])] 0 vGs_rule = true := by decide +kernel
set_option maxRecDepth 1000000 in
theorem vGrule_k103 : zg_ca2n vGK vGf vGm_rule vGrule.2.1.length vGrule.2.2.2.2.1 (none, true) [] (some ([(37, (0, 0)), (4, (0, 0))], fun _ => true), false) [] 103 351 vGfee vGrule_103 = true := by decide +kernel
set_option maxRecDepth 100000 in
theorem vGrule_ok {l : Launch} (gS gF gT gN : Nat → Int32) : zg_EN l 37 vGrule (fun _ ws => zgH gS gF gT gN ws) (zgZf gS gF gT gN) := by
  refine zg_enter (d := 36) (Kr := vGK) (md := vGm_rule) vGm_rule_ok (by decide +kernel) ?_
  intro p e R s mi args below meth c Q D A b ex nL own cc ρe tys ws0 av hX hG hh ha C KE
  have hm : ρe.length = vGrule.2.1.length := hG.1
  refine zg_run0 (Zv := zgZf gS gF gT gN av ws0) C vGrule_K (vGf_ok 28 (by decide)) hm vGrule_c0 KE (fun o r' ws' tys v kp _ _ h3 _ => ?_) (fun t ht r ws kp hfs _ => ?_)
  · rcases h3 with ⟨-, h3⟩ | ⟨l, h3, h4, -⟩
    · exact ⟨fun h0 => absurd h3 h0, zgWr_kp (zgH_W hX) kp⟩
    · cases h3
      have j1 := zgH_kp hX kp (fun w hw => zg_fs_0 h4 (by decide) hw)
      exact ⟨fun _ => ⟨j1, fun x hx => zgA_fs (d := 1) ⟨x, hx, Int.le_refl _⟩ h4 (hi := 340) (by decide)⟩, zgH_W j1⟩
  rw [List.mem_singleton] at ht
  subst ht
  have j1 := zgH_kp hX kp (fun w hw => zg_fs_0 hfs (by decide) hw)
  refine zg_call2n (Zv := zgZf gS gF gT gN av ws0) C vGrule_K (vGf_ok 28 (by decide)) hm (zg_EN_mono (vGfee_ok gS gF gT gN) (by decide)) vGrule_K1 (List.mem_of_getElem? (i := 52) rfl) vGrule_k103 rfl KE (fun _ _ => j1) (fun av2 ws4 _ kp4 hZ => ⟨fun o r5 ws5 tys5 v kp5 _ _ h5 _ => ?_, fun t ht => nomatch ht⟩) (fun av2 v2 ws4 ha2 kp4 hZ hv2 => ⟨fun o r5 ws5 tys5 v kp5 _ _ h5 _ => ?_, fun t ht => nomatch ht⟩)
  · rcases h5 with ⟨-, h5⟩ | ⟨l, h5, -⟩
    · exact ⟨fun h0 => absurd h5 h0, zgWr_kp hZ.2 kp5⟩
    · cases h5
  · rcases h5 with ⟨h5, -⟩ | ⟨l, h5, h6, -⟩
    · cases h5
    cases h5
    obtain ⟨j2, j3⟩ := hZ.1 hv2
    refine ⟨fun _ => ⟨zgH_kp j2 kp5 (fun w hw => zg_fs_0 h6 (by decide) hw), fun x hx => ?_⟩, zgWr_kp hZ.2 kp5⟩
    exact zgA_0 (j3 x (zg_fs_0 hfs (by decide) hx)) h6 (hi := 0) (by decide)
end
