noncomputable section
/-! zg: contract, singer of the reference: the fees stay sound -/
theorem zgPF_i {ws : va_W} {fS fF fT fN : Nat → Int32} (h : zgR4 ws fS fF fT fN) (hp : zx_PFr fS fF fT fN) : zx_PF ws := by
  obtain ⟨⟨a1, c1, n1, h1⟩, ⟨a2, c2, n2, h2⟩, ⟨a3, c3, n3, h3⟩, ⟨a4, c4, n4, h4⟩⟩ := h
  exact ⟨a1, a2, a3, a4, c1, c2, c3, c4, n1, n2, n3, n4, fS, fF, fT, fN, h1, h2, h3, h4, hp⟩
theorem zgPF_e {ws : va_W} (h : zx_PF ws) : ∃ fS fF fT fN : Nat → Int32, zgR4 ws fS fF fT fN ∧ zx_PFr fS fF fT fN := by
  obtain ⟨a1, a2, a3, a4, c1, c2, c3, c4, n1, n2, n3, n4, fS, fF, fT, fN, h1, h2, h3, h4, hp⟩ := h
  exact ⟨fS, fF, fT, fN, ⟨⟨a1, c1, n1, h1⟩, ⟨a2, c2, n2, h2⟩, ⟨a3, c3, n3, h3⟩, ⟨a4, c4, n4, h4⟩⟩, hp⟩
theorem zgPF_kp {ws ws' : va_W} {K : List Nat} (h : zx_PF ws) (kp : zx_KP (ws, K) ws') (hK : ∀ i ∈ [20, 22, 23, 24], i ∈ K) : zx_PF ws' := by
  obtain ⟨fS, fF, fT, fN, h1, h2⟩ := zgPF_e h
  exact zgPF_i (zgR4_kp h1 kp hK) h2
/-- one's steps are another's: told by the places -/
theorem zgPF_at {fS fF fT fN gS gF gT gN : Nat → Int32} {s : Nat} (h : ∀ k : Nat, 8 * s ≤ k → (k : Int) < 8 * s + (gN s).toInt → 0 ≤ (gF k).toInt ∧ (gT k).toInt ≤ 100 ∧ ∃ d, zx_dp gS (100 * s + (gF k).toInt.toNat) ((gT k).toInt - (gF k).toInt).toNat = some d)
    (hS : ∀ i, 100 * s ≤ i → i < 100 * s + 100 → fS i = gS i) (hF : ∀ i, 8 * s ≤ i → i < 8 * s + 8 → fF i = gF i ∧ fT i = gT i) (hN : fN s = gN s) (h8 : (gN s).toInt ≤ 8) :
    ∀ k : Nat, 8 * s ≤ k → (k : Int) < 8 * s + (fN s).toInt → 0 ≤ (fF k).toInt ∧ (fT k).toInt ≤ 100 ∧ ∃ d, zx_dp fS (100 * s + (fF k).toInt.toNat) ((fT k).toInt - (fF k).toInt).toNat = some d := by
  intro k h1 h2
  rw [hN] at h2
  obtain ⟨h3, h4, d, h5⟩ := h k h1 h2
  obtain ⟨e1, e2⟩ := hF k h1 (by omega)
  rw [e1, e2]
  refine ⟨h3, h4, d, ?_⟩
  rw [← h5]
  exact zg_dp_eq (fun j hj => hS _ (by omega) (by omega))
theorem zgPF_fr {gS gF gT gN fS fF fT fN : Nat → Int32} (h : zx_PFr gS gF gT gN) (h8 : ∀ s, s < 20 → (gN s).toInt ≤ 8) (hf : zgFr gS gF gT gN fS fF fT fN) : zx_PFr fS fF fT fN := by
  intro s k hs h1 h2
  exact zgPF_at (fun k' => h s k' hs) (fun i _ hi => hf.1 i (by omega)) (fun i _ hi => hf.2.1 i (by omega)) (hf.2.2 s hs) (h8 s hs) k h1 h2
theorem zg_ev_1 {ρ : List Int} {x : Nat} {c k w : Int} (hk : zx_ev ρ ([(x, 1)], 0) = some k) (hw : zx_ev ρ ([(x, 1)], c) = some w) : w = c + k := by
  obtain ⟨a, h1, h2⟩ := zx_ev_iff.mp hk
  obtain ⟨b, h3, h4⟩ := zx_ev_iff.mp hw
  rw [h1] at h3
  have h5 := Option.some.inj h3
  omega
theorem zg_ev_2 {ρ : List Int} {x y : Nat} {c k s w : Int} (hk : zx_ev ρ ([(x, 1)], 0) = some k) (hs : zx_ev ρ ([(y, 1)], 0) = some s) (hw : zx_ev ρ ([(x, 1), (y, c)], 0) = some w) : w = c * s + k := by
  obtain ⟨a, h1, h2⟩ := zx_ev_iff.mp hk
  obtain ⟨b, h3, h4⟩ := zx_ev_iff.mp hs
  obtain ⟨d, h5, h6⟩ := zx_ev_iff.mp hw
  obtain ⟨a1, a2, a3, a4, a5⟩ := zx_evl_cons.mp h1
  obtain ⟨b1, b2, b3, b4, b5⟩ := zx_evl_cons.mp h3
  obtain ⟨c1, c2, c3, c4, c5⟩ := zx_evl_cons.mp h5
  obtain ⟨d1, d2, d3, d4, d5⟩ := zx_evl_cons.mp c4
  have a4 : (0 : Int) = a2 := Option.some.inj a4
  have b4 : (0 : Int) = b2 := Option.some.inj b4
  have d4 : (0 : Int) = d2 := Option.some.inj d4
  have a3 : ρ[x]? = some a1 := a3
  have b3 : ρ[y]? = some b1 := b3
  have c3 : ρ[x]? = some c1 := c3
  have d3 : ρ[y]? = some d1 := d3
  rw [a3] at c3
  rw [b3] at d3
  have c3 := Option.some.inj c3
  have d3 := Option.some.inj d3
  have a5 : a = 1 * a1 + a2 := a5
  have b5 : b = 1 * b1 + b2 := b5
  have c5 : d = 1 * c1 + c2 := c5
  have d5 : c2 = c * d1 + d2 := d5
  have h2 : k = a + 0 := h2
  have h4 : s = b + 0 := h4
  have h6 : w = d + 0 := h6
  have e1 : d1 = s := by omega
  subst e1
  omega
theorem zg_h1_lo {fS fS' : Nat → Int32} {a b : Int} {sm : Nat} (h : zg_h1 fS a b sm) (hS : ∀ i, 2000 ≤ i → fS' i = fS i) : zg_h1 fS' a b sm := by
  obtain ⟨h1, h2, d, h3⟩ := h
  refine ⟨h1, h2, d, ?_⟩
  rw [← h3]
  exact zg_dp_eq (fun j hj => hS _ (by omega))
/-- under way to a singer's places: so many fees, so many steps -/
def zgC (gS gF gT gN : Nat → Int32) (s kf ks : Nat) (ws : va_W) : Prop := ∃ (fS fF fT fN : Nat → Int32) (sm n : Nat), zgR4 ws fS fF fT fN ∧ zg_fld ws 37 sm ∧ (∀ i, i < 2000 → (i < 100 * s ∨ 100 * s + 100 ≤ i) → fS i = gS i) ∧ (∀ i, i < 160 → (i < 8 * s ∨ 8 * s + 8 ≤ i) → fF i = gF i ∧ fT i = gT i) ∧ (∀ i, i < 20 → i ≠ s → fN i = gN i) ∧ (fN s).toInt = n ∧ (∀ k, k < n → zg_h1 fS (fF (160 + k)).toInt (fT (160 + k)).toInt sm) ∧ (∀ j, j < kf → fF (8 * s + j) = fF (160 + j) ∧ fT (8 * s + j) = fT (160 + j)) ∧ ∀ j, j < ks → fS (100 * s + j) = fS (2000 + j)
theorem zgC_kp {gS gF gT gN : Nat → Int32} {s kf ks : Nat} {ws ws' : va_W} (h : zgC gS gF gT gN s kf ks ws) (kp : zx_KP (ws, vGK) ws') (hf : ∀ w, zg_fld ws 37 w → zg_fld ws' 37 w) : zgC gS gF gT gN s kf ks ws' := by
  obtain ⟨fS, fF, fT, fN, sm, n, h1, h2, h3⟩ := h
  exact ⟨fS, fF, fT, fN, sm, n, zgR4_kp h1 kp vGK_4, hf _ h2, h3⟩
theorem zgC_end {gS gF gT gN : Nat → Int32} {s kf ks : Nat} {ws : va_W} (h : zgC gS gF gT gN s kf ks ws) (hp : zx_PFr gS gF gT gN) (h8 : ∀ s, s < 20 → (gN s).toInt ≤ 8) (hkf : 8 ≤ kf) (hks : ∀ sm : Int, zg_fld ws 37 sm → sm ≤ ks ∧ sm ≤ 100) (hn : ∀ fN, zg_row ws 20 fN → (fN s).toInt ≤ 8) : zx_PF ws := by
  obtain ⟨fS, fF, fT, fN, sm, n, h1, h2, h3, h4, h5, h6, h7, h9, h10⟩ := h
  refine zgPF_i h1 (fun s' k hs k1 k2 => ?_)
  obtain ⟨q1, q2⟩ := hks _ h2
  have q3 := hn _ h1.2.2.2
  by_cases hss : s' = s
  · subst hss
    rw [h6] at k2 q3
    obtain ⟨j, rfl⟩ : ∃ j, k = 8 * s' + j := ⟨k - 8 * s', by omega⟩
    obtain ⟨m1, m2, d, m3⟩ := h7 j (by omega)
    obtain ⟨e1, e2⟩ := h9 j (by omega)
    rw [e1, e2]
    refine ⟨m1, by omega, d, ?_⟩
    rw [← m3]
    refine zg_dp_eq (fun i hi => ?_)
    rw [show 100 * s' + (fF (160 + j)).toInt.toNat + i = 100 * s' + ((fF (160 + j)).toInt.toNat + i) by omega, h10 _ (by omega)]
    congr 1
    omega
  · exact zgPF_at (fun k' => hp s' k' hs) (fun i i1 i2 => h3 i (by omega) (by omega)) (fun i i1 i2 => h4 i (by omega) (by omega)) (h5 s' hs hss) (h8 s' hs) k k1 k2
theorem zx_ev_c {ρ : List Int} {c w : Int} (h : zx_ev ρ ([], c) = some w) : w = c := by
  have h2 : zx_ev ρ ([], c) = some c := zx_ev_iff.mpr ⟨0, rfl, by simp⟩
  rw [h2] at h
  exact (Option.some.inj h).symm
theorem zx_ev_c' {ρ : List Int} {c : Int} : zx_ev ρ ([], c) = some c := zx_ev_iff.mpr ⟨0, rfl, by simp⟩
def zgZk (av : List Value) (ws : va_W) (v : Option Value) (ws' : va_W) : Prop := zx_PF ws'
theorem vGctr_K : ∀ i ∈ vGctr.2.2.2.2.2.1, i ∈ vGK := by decide +kernel
theorem vGctr_K1 : ∀ i ∈ vGctr.2.2.2.2.2.1, i ∈ vGplain.2.2.2.2.2.1 := by decide +kernel
theorem vGctr_K2 : ∀ i ∈ vGctr.2.2.2.2.2.1, i ∈ vGrule.2.2.2.2.2.1 := by decide +kernel
theorem vGplain_k3 : ∀ i ∈ [22, 23, 24], i ∈ vGplain.2.2.2.2.2.1 := by decide +kernel
set_option maxRecDepth 1000000 in
theorem vGctr_c0 : zg_rk vGK vGf vGm_ctr vGctr.2.1.length vGctr.2.2.2.2.1 (some ([], fun _ => true), false) [(44, vGctr_44, [], [])] 0 vGs_ctr = true := by decide +kernel
set_option maxRecDepth 1000000 in
theorem vGctr_b44 : zg_fb vGctr_44.1 vGctr_44.2.1 37 0 0 = true := by decide +kernel
set_option maxRecDepth 1000000 in
theorem vGctr_a44 : (zg_cas vGm_ctr 261 vGplain vGctr_44)[1]? = some (.inl ([], 20)) := by decide +kernel
set_option maxRecDepth 1000000 in
theorem vGctr_k44 : zg_ca2n vGK vGf vGm_ctr vGctr.2.1.length vGctr.2.2.2.2.1 (none, false) [] (none, false) [(53, vGctr_53, [(37, (0, 0))], [])] 44 261 vGplain vGctr_44 = true := by decide +kernel
def vGctr_nd : List zg_Nd := [(61, vGctr_61, [(37, (0, 0)), (4, (0, 0))], []), (200, vGctr_200, [(37, (0, 0))], [])]
set_option maxRecDepth 1000000 in
theorem vGctr_c53 : zg_rk vGK vGf vGm_ctr vGctr.2.1.length vGctr.2.2.2.2.1 (none, false) vGctr_nd 53 vGctr_53 = true := by decide +kernel
set_option maxRecDepth 1000000 in
theorem vGctr_b53 : zg_fb vGctr_53.1 vGctr_53.2.1 4 0 340 = true := by decide +kernel
set_option maxRecDepth 1000000 in
theorem vGctr_k61 : zg_ca2n vGK vGf vGm_ctr vGctr.2.1.length vGctr.2.2.2.2.1 (some ([], fun _ => true), false) [] (some ([], fun _ => true), false) [(53, vGctr_53, [(37, (0, 0)), (4, (0, 340))], [])] 61 322 vGrule vGctr_61 = true := by decide +kernel
set_option maxRecDepth 1000000 in
theorem vGctr_s200 : zg_sk vGctr.2.2.2.2.2.1 vGctr_200 20 21 = true := by decide +kernel
set_option maxRecDepth 1000000 in
theorem vGctr_f200 : zg_rw vGctr_200.2.1 20 = [(([], 20), .inl ([(46, 1)], 0))] := rfl
set_option maxRecDepth 1000000 in
theorem vGctr_v200 : zg_sV vGctr.2.2.2.2.2.1 vGctr_200 = ([(46, 1)], 0) := by decide +kernel
set_option maxRecDepth 1000000 in
theorem vGctr_e200 : zg_sE vGctr.2.2.2.2.2.1 vGctr_200 = ([(32, 1)], 0) := by decide +kernel
set_option maxRecDepth 1000000 in
theorem vGctr_s250 : zg_sk vGctr.2.2.2.2.2.1 vGctr_250 22 168 = true := by decide +kernel
set_option maxRecDepth 1000000 in
theorem vGctr_f250 : zg_rw vGctr_250.2.1 22 = [(([(45, 1)], 160), .inl ([(46, 1)], 0))] := rfl
set_option maxRecDepth 1000000 in
theorem vGctr_v250 : zg_sV vGctr.2.2.2.2.2.1 vGctr_250 = ([(46, 1)], 0) := by decide +kernel
set_option maxRecDepth 1000000 in
theorem vGctr_e250 : zg_sE vGctr.2.2.2.2.2.1 vGctr_250 = ([(45, 1), (32, 8)], 0) := by decide +kernel
set_option maxRecDepth 1000000 in
theorem vGctr_s271 : zg_sk vGctr.2.2.2.2.2.1 vGctr_271 23 168 = true := by decide +kernel
set_option maxRecDepth 1000000 in
theorem vGctr_f271 : zg_rw vGctr_271.2.1 23 = [(([(45, 1)], 160), .inl ([(46, 1)], 0))] := rfl
set_option maxRecDepth 1000000 in
theorem vGctr_v271 : zg_sV vGctr.2.2.2.2.2.1 vGctr_271 = ([(46, 1)], 0) := by decide +kernel
set_option maxRecDepth 1000000 in
theorem vGctr_e271 : zg_sE vGctr.2.2.2.2.2.1 vGctr_271 = ([(45, 1), (32, 8)], 0) := by decide +kernel
set_option maxRecDepth 1000000 in
theorem vGctr_s308 : zg_sk vGctr.2.2.2.2.2.1 vGctr_308 24 2100 = true := by decide +kernel
set_option maxRecDepth 1000000 in
theorem vGctr_f308 : zg_rw vGctr_308.2.1 24 = [(([(45, 1)], 2000), .inl ([(47, 1)], 0))] := rfl
set_option maxRecDepth 1000000 in
theorem vGctr_v308 : zg_sV vGctr.2.2.2.2.2.1 vGctr_308 = ([(47, 1)], 0) := by decide +kernel
set_option maxRecDepth 1000000 in
theorem vGctr_e308 : zg_sE vGctr.2.2.2.2.2.1 vGctr_308 = ([(45, 1), (32, 100)], 0) := by decide +kernel
set_option maxRecDepth 1000000 in
theorem vGctr_r200 : zg_rk vGK vGf vGm_ctr vGctr.2.1.length vGctr.2.2.2.2.1 (none, false) [(203, vGctr_203, [(37, (0, 0))], [(([(45, 1)], 0), (([], 0), (0, 0)))])] 201 (zg_sT vGctr.2.2.2.2.2.1 vGctr_200) = true := by decide +kernel
def vGctr_nd2 : List zg_Nd := [(250, vGctr_250, [(37, (0, 0))], [(([(45, 1)], 0), (([(45, 1)], 0), (0, 0)))]), (280, vGctr_280, [(37, (0, 0))], [(([(45, 1)], 0), (([], 0), (0, 0))), (([], 8), (([(45, 1)], 0), (0, 0)))])]
set_option maxRecDepth 1000000 in
theorem vGctr_c203 : zg_rk vGK vGf vGm_ctr vGctr.2.1.length vGctr.2.2.2.2.1 (none, false) vGctr_nd2 203 vGctr_203 = true := by decide +kernel
set_option maxRecDepth 1000000 in
theorem vGctr_b203 : zg_xb vGctr_203.1 ([(45, 1)], 0) 0 8 = true := by decide +kernel
set_option maxRecDepth 1000000 in
theorem vGctr_b250 : zg_xb vGctr_250.1 ([(45, 1)], 0) 0 7 = true := by decide +kernel
set_option maxRecDepth 1000000 in
theorem vGctr_r250 : zg_rk vGK vGf vGm_ctr vGctr.2.1.length vGctr.2.2.2.2.1 (none, false) [(271, vGctr_271, [(37, (0, 0))], [(([(45, 1)], 0), (([(45, 1)], 0), (0, 0)))])] 251 (zg_sT vGctr.2.2.2.2.2.1 vGctr_250) = true := by decide +kernel
set_option maxRecDepth 1000000 in
theorem vGctr_r271 : zg_rk vGK vGf vGm_ctr vGctr.2.1.length vGctr.2.2.2.2.1 (none, false) [(203, vGctr_203, [(37, (0, 0))], [(([(45, 1)], 0), (([(45, 1)], 0), (1, 1)))])] 272 (zg_sT vGctr.2.2.2.2.2.1 vGctr_271) = true := by decide +kernel
def vGctr_nd3 : List zg_Nd := [(308, vGctr_308, [(37, (0, 0))], [(([(45, 1)], 0), (([(45, 1)], 0), (0, 0)))]), (357, vGctr_280, [(37, (0, 0))], [(([(45, 1)], 0), (([(45, 1)], 0), (0, 0))), (([(45, 1)], 0), (([(36, 1)], 0), (0, 100)))])]
set_option maxRecDepth 1000000 in
theorem vGctr_c280 : zg_rk vGK vGf vGm_ctr vGctr.2.1.length vGctr.2.2.2.2.1 (none, false) vGctr_nd3 280 vGctr_280 = true := by decide +kernel
set_option maxRecDepth 1000000 in
theorem vGctr_b280 : zg_xb vGctr_280.1 ([(45, 1)], 0) 0 80 = true := by decide +kernel
theorem vGctr_p280 : zg_fe vGctr_280.2.1 37 = some ([(36, 1)], 0) := rfl
set_option maxRecDepth 1000000 in
theorem vGctr_q280 : zg_fb vGctr_280.1 vGctr_280.2.1 37 0 100 = true := by decide +kernel
set_option maxRecDepth 1000000 in
theorem vGctr_b308 : zg_xb vGctr_308.1 ([(45, 1)], 0) 0 79 = true := by decide +kernel
set_option maxRecDepth 1000000 in
theorem vGctr_r308 : zg_rk vGK vGf vGm_ctr vGctr.2.1.length vGctr.2.2.2.2.1 (none, false) [(280, vGctr_280, [(37, (0, 0))], [(([(45, 1)], 0), (([(45, 1)], 0), (1, 1)))])] 309 (zg_sT vGctr.2.2.2.2.2.1 vGctr_308) = true := by decide +kernel
set_option maxRecDepth 1000000 in
theorem vGctr_c357 : zg_rk vGK vGf vGm_ctr vGctr.2.1.length vGctr.2.2.2.2.1 (some ([], fun _ => true), false) [] 357 vGctr_280 = true := by decide +kernel
theorem vGctr_n357 : vGctr_280.2.1[20]? = some (.inr (.inl (0, 21, true, [.inr (0, 8)]))) := rfl
theorem vGctr_arg : vGctr.2.2.2.1[1]? = some (.inl ([(32, 1)], 0)) := rfl
set_option maxRecDepth 1000000 in
theorem vGctr_bs : zg_xb vGctr_200.1 ([(32, 1)], 0) 0 19 = true := by decide +kernel
set_option maxRecDepth 100000 in
theorem vGctr_ok {l : Launch} : zg_EN l 39 vGctr (fun _ ws => zx_PF ws) zgZk := by
  refine zg_enter (d := 38) (Kr := vGK) (md := vGm_ctr) vGm_ctr_ok (by decide +kernel) ?_
  intro p e R s mi args below meth c Q D A b ex nL own cc ρe tys ws0 av hX hG hh ha C KE
  have hm : ρe.length = vGctr.2.1.length := hG.1
  obtain ⟨gS, gF, gT, gN, x1, x2⟩ := zgPF_e hX
  have h8 : ∀ s, s < 20 → (gN s).toInt ≤ 8 := fun s hs => (zg_row_rg hh (i := 20) rfl x1.2.2.2 (by omega)).2
  obtain ⟨sv, a1, a2⟩ := zg_arg ha vGctr_arg
  have a3 : ∀ r, zx_ev (ρe ++ r) ([(32, 1)], 0) = some sv.toInt := fun r => zx_ev_app a2
  have hend : ∀ ws, zgWr gS gF gT gN ws → zx_PF ws := by
    intro ws h
    obtain ⟨fS, fF, fT, fN, h1, h2⟩ := h
    exact zgPF_i h1 (zgPF_fr x2 h8 h2)
  have n280 : ∀ (N : Nat) (r : List Int) (ws : va_W) (k : Nat), zgC gS gF gT gN sv.toInt.toNat 8 k ws → zx_ev (ρe ++ r) ([(45, 1)], 0) = some (k : Int) → 0 ≤ sv.toInt → sv.toInt ≤ 19 → 81 - k ≤ N → zg_go p l e R s mi args below meth c Q D A b ex (ws0, vGctr.2.2.2.2.2.1) nL 280 vGctr_280 (ρe ++ r) ws := by
    intro N
    induction N with
    | zero =>
      intro r ws k y1 y2 y3 y4 hN
      refine zg_with (fun tys1 hG1 hh1 => ?_)
      have hb := zg_xb_ok hG1 vGctr_b280 y2
      omega
    | succ N ih =>
    intro r ws k y1 y2 y3 y4 hN
    refine zg_with (fun tys1 hG1 hh1 => ?_)
    obtain ⟨u37, p1, p2⟩ := zg_fe_ok hh1 vGctr_p280
    refine zg_run2 (Zv := zgZk av ws0) C vGctr_K (vGf_ok 30 (by decide)) hm vGctr_c280 KE (fun o r3 ws3 tys3 v kp3 _ _ h3 _ => ?_) (fun t ht r3 ws3 kp3 hfs3 hos3 => ?_)
    · rcases h3 with ⟨h3, -⟩ | ⟨l, h3, -⟩
      · cases h3
      · cases h3
    unfold vGctr_nd3 at ht
    simp only [List.mem_cons, List.not_mem_nil, or_false] at ht
    rcases ht with ht | ht
    · subst ht
      obtain ⟨k', k1, k2, k3⟩ := hos3 _ List.mem_cons_self _ y2
      have k2 : (k : Int) + 0 ≤ k' := k2
      have k3 : k' ≤ (k : Int) + 0 := k3
      have ek : k' = k := by omega
      subst ek
      obtain ⟨fS, fF, fT, fN, sm, n, z1, z2, z3, z4, z5, z6, z7, z8, z9⟩ := zgC_kp y1 kp3 (fun w hw => zg_fs_0 hfs3 (by decide) hw)
      refine zg_with (fun tys4 hG4 hh4 => ?_)
      have hb := zg_xb_ok hG4 vGctr_b308 k1
      refine zg_store2 C (i := 24) (n := 2100) (List.mem_of_getElem? (i := 187) rfl) vGctr_s308 (by decide) (fun f w v' ws5 g1 g2 g3 g4 g5 g6 g7 => ?_)
      have e1 := zg_row_u g1 z1.1
      subst e1
      obtain ⟨w0, m1, m2⟩ := zg_rw_ok hh4 z1.1 (by rw [vGctr_f308]; exact List.mem_cons_self)
      rw [vGctr_v308] at g4
      have e2 : v' = f w0 := Int32.toInt_inj.mp (by rw [m2] at g4; exact (Option.some.inj g4).symm)
      have e3 : (w0 : Int) = 2000 + k := zg_ev_1 k1 m1
      have e4 : w0 = 2000 + k := by omega
      rw [vGctr_e308] at g2
      have e5 : (w : Int) = 100 * sv.toInt + k := zg_ev_2 k1 (a3 _) g2
      have e6 : w = 100 * sv.toInt.toNat + k := by omega
      subst e4
      subst e6
      subst e2
      refine zg_run2 (Zv := zgZk av ws0) C vGctr_K (vGf_ok 30 (by decide)) hm vGctr_r308 KE (fun o r6 ws6 tys6 v kp6 _ _ h3 _ => ?_) (fun t ht r6 ws6 kp6 hfs6 hos6 => ?_)
      · rcases h3 with ⟨h3, -⟩ | ⟨l, h3, -⟩
        · cases h3
        · cases h3
      rw [List.mem_singleton] at ht
      subst ht
      obtain ⟨k6, j1, j2, j3⟩ := hos6 _ List.mem_cons_self _ k1
      have j2 : (k : Int) + 1 ≤ k6 := j2
      have j3 : k6 ≤ (k : Int) + 1 := j3
      have ek : k6 = ((k + 1 : Nat) : Int) := by omega
      rw [ek] at j1
      refine ih r6 ws6 (k + 1) ⟨_, fF, fT, fN, sm, n, zgR4_kp ⟨g5, g6 22 _ (by decide) z1.2.1, g6 23 _ (by decide) z1.2.2.1, g6 20 _ (by decide) z1.2.2.2⟩ kp6 vGK_4, zg_fs_0 hfs6 (by decide) (g7 _ _ z2), fun i i1 i2 => ?_, z4, z5, z6, fun q hq => zg_h1_lo (z7 q hq) (fun i hi => zg_upd_ne (by omega)), z8, fun j hj => ?_⟩ j1 y3 y4 (by omega)
      · rw [zg_upd_ne (by omega)]
        exact z3 i i1 i2
      · by_cases hjk : j = k
        · subst hjk
          rw [zg_upd_eq, zg_upd_ne (by omega)]
        · rw [zg_upd_ne (by omega), zg_upd_ne (by omega)]
          exact z9 j (by omega)
    · subst ht
      obtain ⟨k', k1, k2, k3⟩ := hos3 _ (List.mem_cons_of_mem _ List.mem_cons_self) _ p2
      have k2 : u37 + 0 ≤ k' := k2
      obtain ⟨k4, k5, k6, k7⟩ := hos3 _ List.mem_cons_self _ y2
      have k6 : (k : Int) + 0 ≤ k4 := k6
      have k7 : k4 ≤ (k : Int) + 0 := k7
      have ek : k' = k4 := by
        rw [k1] at k5
        exact Option.some.inj k5
      have z1 := zgC_kp y1 kp3 (fun w hw => zg_fs_0 hfs3 (by decide) hw)
      have z2 := zg_fs_0 hfs3 (by decide) p1
      refine zg_with (fun tys4 hG4 hh4 => ?_)
      refine zg_run2 (Zv := zgZk av ws0) C vGctr_K (vGf_ok 30 (by decide)) hm vGctr_c357 KE (fun o r6 ws6 tys6 v kp6 _ _ h3 _ => ?_) (fun t ht => nomatch ht)
      refine zgPF_kp (zgC_end z1 x2 h8 (Nat.le_refl _) (fun u hu => ?_) (fun fN hfN => ?_)) kp6 vGK_4
      · obtain ⟨u2, u3, -, u4⟩ := zg_fb_ok hG4 hh4 vGctr_q280
        have e1 := zg_fld_u hu z2
        have e2 := zg_fld_u hu u3
        exact ⟨by omega, by omega⟩
      · exact (zg_row_rg hh4 vGctr_n357 hfN (by omega)).2
  have n203 : ∀ (N : Nat) (r : List Int) (ws : va_W) (k : Nat), zgC gS gF gT gN sv.toInt.toNat k 0 ws → zx_ev (ρe ++ r) ([(45, 1)], 0) = some (k : Int) → 0 ≤ sv.toInt → sv.toInt ≤ 19 → 9 - k ≤ N → zg_go p l e R s mi args below meth c Q D A b ex (ws0, vGctr.2.2.2.2.2.1) nL 203 vGctr_203 (ρe ++ r) ws := by
    intro N
    induction N with
    | zero =>
      intro r ws k y1 y2 y3 y4 hN
      refine zg_with (fun tys1 hG1 hh1 => ?_)
      have hb := zg_xb_ok hG1 vGctr_b203 y2
      omega
    | succ N ih =>
    intro r ws k y1 y2 y3 y4 hN
    refine zg_run2 (Zv := zgZk av ws0) C vGctr_K (vGf_ok 30 (by decide)) hm vGctr_c203 KE (fun o r3 ws3 tys3 v kp3 _ _ h3 _ => ?_) (fun t ht r3 ws3 kp3 hfs3 hos3 => ?_)
    · rcases h3 with ⟨h3, -⟩ | ⟨l, h3, -⟩
      · cases h3
      · cases h3
    unfold vGctr_nd2 at ht
    simp only [List.mem_cons, List.not_mem_nil, or_false] at ht
    rcases ht with ht | ht
    · subst ht
      obtain ⟨k', k1, k2, k3⟩ := hos3 _ List.mem_cons_self _ y2
      have k2 : (k : Int) + 0 ≤ k' := k2
      have k3 : k' ≤ (k : Int) + 0 := k3
      have ek : k' = k := by omega
      subst ek
      obtain ⟨fS, fF, fT, fN, sm, n, z1, z2, z3, z4, z5, z6, z7, z8, z9⟩ := zgC_kp y1 kp3 (fun w hw => zg_fs_0 hfs3 (by decide) hw)
      refine zg_with (fun tys4 hG4 hh4 => ?_)
      have hb := zg_xb_ok hG4 vGctr_b250 k1
      refine zg_store2 C (i := 22) (n := 168) (List.mem_of_getElem? (i := 151) rfl) vGctr_s250 (by decide) (fun f w v' ws5 g1 g2 g3 g4 g5 g6 g7 => ?_)
      have e1 := zg_row_u g1 z1.2.1
      subst e1
      obtain ⟨w0, m1, m2⟩ := zg_rw_ok hh4 z1.2.1 (by rw [vGctr_f250]; exact List.mem_cons_self)
      rw [vGctr_v250] at g4
      have e2 : v' = f w0 := Int32.toInt_inj.mp (by rw [m2] at g4; exact (Option.some.inj g4).symm)
      have e3 : (w0 : Int) = 160 + k := zg_ev_1 k1 m1
      have e4 : w0 = 160 + k := by omega
      rw [vGctr_e250] at g2
      have e5 : (w : Int) = 8 * sv.toInt + k := zg_ev_2 k1 (a3 _) g2
      have e6 : w = 8 * sv.toInt.toNat + k := by omega
      subst e4
      subst e6
      subst e2
      refine zg_run2 (Zv := zgZk av ws0) C vGctr_K (vGf_ok 30 (by decide)) hm vGctr_r250 KE (fun o r6 ws6 tys6 v kp6 _ _ h3 _ => ?_) (fun t ht r6 ws6 kp6 hfs6 hos6 => ?_)
      · rcases h3 with ⟨h3, -⟩ | ⟨l, h3, -⟩
        · cases h3
        · cases h3
      rw [List.mem_singleton] at ht
      subst ht
      obtain ⟨k6, j1, j2, j3⟩ := hos6 _ List.mem_cons_self _ k1
      have j2 : (k : Int) + 0 ≤ k6 := j2
      have j3 : k6 ≤ (k : Int) + 0 := j3
      have ek : k6 = k := by omega
      subst ek
      have q1 := zgR4_kp ⟨g6 24 _ (by decide) z1.1, g5, g6 23 _ (by decide) z1.2.2.1, g6 20 _ (by decide) z1.2.2.2⟩ kp6 vGK_4
      have q2 := zg_fs_0 hfs6 (by decide) (g7 _ _ z2)
      refine zg_with (fun tys7 hG7 hh7 => ?_)
      refine zg_store2 C (i := 23) (n := 168) (List.mem_of_getElem? (i := 165) rfl) vGctr_s271 (by decide) (fun f2 w2 v2 ws8 b1 b2 b3 b4 b5 b6 b7 => ?_)
      have e1 := zg_row_u b1 q1.2.2.1
      subst e1
      obtain ⟨w9, m3, m4⟩ := zg_rw_ok hh7 q1.2.2.1 (by rw [vGctr_f271]; exact List.mem_cons_self)
      rw [vGctr_v271] at b4
      have e2 : v2 = f2 w9 := Int32.toInt_inj.mp (by rw [m4] at b4; exact (Option.some.inj b4).symm)
      have e3 : (w9 : Int) = 160 + k := zg_ev_1 j1 m3
      have e4 : w9 = 160 + k := by omega
      rw [vGctr_e271] at b2
      have e5 : (w2 : Int) = 8 * sv.toInt + k := zg_ev_2 j1 (a3 _) b2
      have e6 : w2 = 8 * sv.toInt.toNat + k := by omega
      subst e4
      subst e6
      subst e2
      refine zg_run2 (Zv := zgZk av ws0) C vGctr_K (vGf_ok 30 (by decide)) hm vGctr_r271 KE (fun o r9 ws9 tys9 v kp9 _ _ h3 _ => ?_) (fun t ht r9 ws9 kp9 hfs9 hos9 => ?_)
      · rcases h3 with ⟨h3, -⟩ | ⟨l, h3, -⟩
        · cases h3
        · cases h3
      rw [List.mem_singleton] at ht
      subst ht
      obtain ⟨k9, c1, c2, c3⟩ := hos9 _ List.mem_cons_self _ j1
      have c2 : (k : Int) + 1 ≤ k9 := c2
      have c3 : k9 ≤ (k : Int) + 1 := c3
      have ek : k9 = ((k + 1 : Nat) : Int) := by omega
      rw [ek] at c1
      refine ih r9 ws9 (k + 1) ⟨fS, _, _, fN, sm, n, zgR4_kp ⟨b6 24 _ (by decide) q1.1, b6 22 _ (by decide) q1.2.1, b5, b6 20 _ (by decide) q1.2.2.2⟩ kp9 vGK_4, zg_fs_0 hfs9 (by decide) (b7 _ _ q2), z3, fun i i1 i2 => ?_, z5, z6, fun q hq => ?_, fun j hj => ?_, fun j hj => absurd hj (Nat.not_lt_zero _)⟩ c1 y3 y4 (by omega)
      · rw [zg_upd_ne (by omega), zg_upd_ne (by omega)]
        exact z4 i i1 i2
      · rw [zg_upd_ne (by omega), zg_upd_ne (by omega)]
        exact z7 q hq
      · by_cases hjk : j = k
        · subst hjk
          rw [zg_upd_eq, zg_upd_eq, zg_upd_ne (by omega), zg_upd_ne (by omega)]
          exact ⟨rfl, rfl⟩
        · rw [zg_upd_ne (by omega), zg_upd_ne (by omega), zg_upd_ne (by omega), zg_upd_ne (by omega)]
          exact z8 j (by omega)
    · subst ht
      obtain ⟨k', k1, k2, k3⟩ := hos3 _ (List.mem_cons_of_mem _ List.mem_cons_self) _ y2
      have k2 : (k : Int) + 0 ≤ k' := k2
      have k3 : k' ≤ (k : Int) + 0 := k3
      have k9 := zx_ev_c k1
      obtain ⟨k4, k5, k6, k7⟩ := hos3 _ List.mem_cons_self 0 zx_ev_c'
      have k6 : (0 : Int) + 0 ≤ k4 := k6
      have k7 : k4 ≤ (0 : Int) + 0 := k7
      have ek : k4 = ((0 : Nat) : Int) := by omega
      rw [ek] at k5
      have ek8 : k = 8 := by omega
      subst ek8
      exact n280 81 r3 ws3 0 (zgC_kp y1 kp3 (fun w hw => zg_fs_0 hfs3 (by decide) hw)) k5 y3 y4 (Nat.le_refl _)
  have n53 : ∀ (N : Nat) (r : List Int) (ws : va_W) (y : Int), zgH gS gF gT gN ws → zgA 4 y ws → (341 - y).toNat ≤ N → zg_go p l e R s mi args below meth c Q D A b ex (ws0, vGctr.2.2.2.2.2.1) nL 53 vGctr_53 (ρe ++ r) ws := by
    intro N
    induction N using Nat.strongRecOn with
    | ind N ih =>
    intro r ws y y1 y2 hN
    refine zg_with (fun tys1 hG1 hh1 => ?_)
    have hy : y ≤ 340 := by
      obtain ⟨u, u1, u2, u3⟩ := zg_fb_ok hG1 hh1 vGctr_b53
      obtain ⟨z, z1, z2⟩ := y2
      have e := zg_fld_u u1 z1
      omega
    refine zg_run2 (Zv := zgZk av ws0) C vGctr_K (vGf_ok 30 (by decide)) hm vGctr_c53 KE (fun o r3 ws3 tys3 v kp3 _ _ h3 _ => ?_) (fun t ht r3 ws3 kp3 hfs3 _ => ?_)
    · rcases h3 with ⟨h3, -⟩ | ⟨l, h3, -⟩
      · cases h3
      · cases h3
    unfold vGctr_nd at ht
    simp only [List.mem_cons, List.not_mem_nil, or_false] at ht
    rcases ht with ht | ht
    · subst ht
      have z1 := zgH_kp y1 kp3 (fun w hw => zg_fs_0 hfs3 (by decide) hw)
      have z2 := zgA_0 y2 hfs3 (hi := 0) (by decide)
      refine zg_call2n (Zv := zgZk av ws0) C vGctr_K (vGf_ok 30 (by decide)) hm (zg_EN_mono (vGrule_ok gS gF gT gN) (by decide)) vGctr_K2 (List.mem_of_getElem? (i := 34) rfl) vGctr_k61 rfl KE (fun _ _ => z1) (fun av2 ws4 _ kp4 hZ => ⟨fun o r5 ws5 tys5 v kp5 _ _ h5 _ => ?_, fun t ht => nomatch ht⟩) (fun av2 v2 ws4 ha2 kp4 hZ hv2 => ⟨fun o r5 ws5 tys5 v kp5 _ _ h5 _ => ?_, fun t ht r5 ws5 kp5 hfs5 _ => ?_⟩)
      · exact hend _ (zgWr_kp hZ.2 kp5)
      · exact hend _ (zgWr_kp hZ.2 kp5)
      · rw [List.mem_singleton] at ht
        subst ht
        obtain ⟨j1, j2⟩ := hZ.1 hv2
        exact ih (341 - (y + 1)).toNat (by omega) r5 ws5 (y + 1) (zgH_kp j1 kp5 (fun w hw => zg_fs_0 hfs5 (by decide) hw)) (zgA_0 (zgA_up z2 j2) hfs5 (hi := 340) (by decide)) (Nat.le_refl _)
    · subst ht
      obtain ⟨fS, fF, fT, fN, sm, n, z1, z2, z3, z4, z5⟩ := zgH_kp y1 kp3 (fun w hw => zg_fs_0 hfs3 (by decide) hw)
      refine zg_with (fun tys4 hG4 hh4 => ?_)
      have hb := zg_xb_ok hG4 vGctr_bs (a3 r3)
      refine zg_store2 C (i := 20) (n := 21) (List.mem_of_getElem? (i := 118) rfl) vGctr_s200 (by decide) (fun f w v' ws5 g1 g2 g3 g4 g5 g6 g7 => ?_)
      have e1 := zg_row_u g1 z1.2.2.2
      subst e1
      obtain ⟨w0, m1, m2⟩ := zg_rw_ok hh4 z1.2.2.2 (by rw [vGctr_f200]; exact List.mem_cons_self)
      rw [vGctr_v200] at g4
      have e2 : v' = f w0 := Int32.toInt_inj.mp (by rw [m2] at g4; exact (Option.some.inj g4).symm)
      have e4 : w0 = 20 := by
        have e3 := zx_ev_c m1
        omega
      rw [vGctr_e200, a3] at g2
      have e6 : w = sv.toInt.toNat := by
        have e5 : sv.toInt = w := Option.some.inj g2
        omega
      subst e4
      subst e6
      subst e2
      refine zg_run2 (Zv := zgZk av ws0) C vGctr_K (vGf_ok 30 (by decide)) hm vGctr_r200 KE (fun o r6 ws6 tys6 v kp6 _ _ h3 _ => ?_) (fun t ht r6 ws6 kp6 hfs6 hos6 => ?_)
      · rcases h3 with ⟨h3, -⟩ | ⟨l, h3, -⟩
        · cases h3
        · cases h3
      rw [List.mem_singleton] at ht
      subst ht
      obtain ⟨k6, j1, j2, j3⟩ := hos6 _ List.mem_cons_self 0 zx_ev_c'
      have j2 : (0 : Int) + 0 ≤ k6 := j2
      have j3 : k6 ≤ (0 : Int) + 0 := j3
      have ek : k6 = ((0 : Nat) : Int) := by omega
      rw [ek] at j1
      refine n203 9 r6 ws6 0 ⟨fS, fF, fT, _, sm, n, zgR4_kp ⟨g6 24 _ (by decide) z1.1, g6 22 _ (by decide) z1.2.1, g6 23 _ (by decide) z1.2.2.1, g5⟩ kp6 vGK_4, zg_fs_0 hfs6 (by decide) (g7 _ _ z3), fun i i1 _ => z2.1 i i1, fun i i1 _ => z2.2.1 i i1, fun i i1 i2 => ?_, ?_, z5, fun j hj => absurd hj (Nat.not_lt_zero _), fun j hj => absurd hj (Nat.not_lt_zero _)⟩ j1 hb.1 hb.2 (Nat.le_refl _)
      · rw [zg_upd_ne i2]
        exact z2.2.2 i i1
      · rw [zg_upd_eq]
        exact z4
  refine zg_run0 (Zv := zgZk av ws0) C vGctr_K (vGf_ok 30 (by decide)) hm vGctr_c0 KE (fun o r' ws' tys v kp _ _ h3 _ => ?_) (fun t ht r ws kp hfs _ => ?_)
  · exact zgPF_kp hX kp vGK_4
  rw [List.mem_singleton] at ht
  subst ht
  have y1 := zgR4_kp x1 kp vGK_4
  refine zg_with (fun tys1 hG1 hh1 => ?_)
  obtain ⟨u, u1, u2, u3⟩ := zg_fb_ok hG1 hh1 vGctr_b44
  have u4 : u = 0 := by omega
  subst u4
  refine zg_call2n (Zv := zgZk av ws0) C vGctr_K (vGf_ok 30 (by decide)) hm (zg_EN_mono vGplain_ok (by decide)) vGctr_K1 (List.mem_of_getElem? (i := 25) rfl) vGctr_k44 rfl KE (fun _ _ => trivial) (fun av2 ws4 _ kp4 hZ => ⟨fun o r5 ws5 tys5 v kp5 _ _ h3 _ => ?_, fun t ht => nomatch ht⟩) (fun av2 v2 ws4 ha2 kp4 hZ hv2 => ⟨fun o r5 ws5 tys5 v kp5 _ _ h3 _ => ?_, fun t ht r5 ws5 kp5 hfs5 _ => ?_⟩)
  · rcases h3 with ⟨h3, -⟩ | ⟨l, h3, -⟩
    · cases h3
    · cases h3
  · rcases h3 with ⟨h3, -⟩ | ⟨l, h3, -⟩
    · cases h3
    · cases h3
  · rw [List.mem_singleton] at ht
    subst ht
    obtain ⟨x, j1, j2, j3, j4⟩ := hZ _ y1.2.2.2
    obtain ⟨x', b1, b2⟩ := zg_arg ha2 vGctr_a44
    rw [j1] at b1
    cases b1
    have hx := zx_ev_c b2
    have hx2 : x.toInt.toNat = 20 := by omega
    rw [hx2] at j3
    have z1 : zgR4 ws4 gS gF gT (upd gN 20 0) := ⟨zg_row_kp kp4 (vGplain_k3 24 (by decide)) y1.1, zg_row_kp kp4 (vGplain_k3 22 (by decide)) y1.2.1, zg_row_kp kp4 (vGplain_k3 23 (by decide)) y1.2.2.1, j3⟩
    have z2 : zgH gS gF gT gN ws4 := ⟨gS, gF, gT, _, 0, 0, z1, ⟨fun _ _ => rfl, fun _ _ => ⟨rfl, rfl⟩, fun i hi => zg_upd_ne (by omega)⟩, j4 37 (by decide) _ u1, by rw [zg_upd_eq]; rfl, fun k hk => absurd hk (Nat.not_lt_zero _)⟩
    have z3 := zgH_kp z2 kp5 (fun w hw => zg_fs_0 hfs5 (by decide) hw)
    refine zg_with (fun tys6 hG6 hh6 => ?_)
    obtain ⟨p0, q1, q2, q3⟩ := zg_fb_ok hG6 hh6 vGctr_b53
    exact n53 341 r5 ws5 0 z3 ⟨p0, q1, q2⟩ (by decide)
/-! singer -/
theorem vGsing_K : ∀ i ∈ vGsing.2.2.2.2.2.1, i ∈ vGK := by decide +kernel
theorem vGsing_K1 : ∀ i ∈ vGsing.2.2.2.2.2.1, i ∈ vGplain.2.2.2.2.2.1 := by decide +kernel
set_option maxRecDepth 1000000 in
theorem vGsing_c0 : zg_rk vGK vGf vGm_sing vGsing.2.1.length vGsing.2.2.2.2.1 (some ([], fun _ => true), false) [(81, vGsing_81, [], [])] 0 vGs_sing = true := by decide +kernel
set_option maxRecDepth 1000000 in
theorem vGsing_k81 : zg_ca2n vGK vGf vGm_sing vGsing.2.1.length vGsing.2.2.2.2.1 (none, false) [] (some ([], fun _ => true), false) [] 81 261 vGplain vGsing_81 = true := by decide +kernel
set_option maxRecDepth 100000 in
theorem vGsing_ok {l : Launch} : zg_EN l 29 vGsing (fun _ ws => zx_PF ws) zgZk := by
  refine zg_enter (d := 28) (Kr := vGK) (md := vGm_sing) vGm_sing_ok (by decide +kernel) ?_
  intro p e R s mi args below meth c Q D A b ex nL own cc ρe tys ws0 av hX hG hh ha C KE
  have hm : ρe.length = vGsing.2.1.length := hG.1
  refine zg_run0 (Zv := zgZk av ws0) C vGsing_K (vGf_ok 20 (by decide)) hm vGsing_c0 KE (fun o r' ws' tys v kp _ _ h3 _ => ?_) (fun t ht r ws kp hfs _ => ?_)
  · exact zgPF_kp hX kp vGK_4
  rw [List.mem_singleton] at ht
  subst ht
  obtain ⟨gS, gF, gT, gN, x1, x2⟩ := zgPF_e (zgPF_kp hX kp vGK_4)
  refine zg_with (fun tys1 hG1 hh1 => ?_)
  have h8 : ∀ s, s < 20 → (gN s).toInt ≤ 8 := fun s hs => (zg_row_rg hh1 (i := 20) rfl x1.2.2.2 (by omega)).2
  refine zg_call2n (Zv := zgZk av ws0) C vGsing_K (vGf_ok 20 (by decide)) hm (zg_EN_mono vGplain_ok (by decide)) vGsing_K1 (List.mem_of_getElem? (i := 45) rfl) vGsing_k81 rfl KE (fun _ _ => trivial) (fun av2 ws4 _ kp4 hZ => ⟨fun o r5 ws5 tys5 v kp5 _ _ h3 _ => ?_, fun t ht => nomatch ht⟩) (fun av2 v2 ws4 ha2 kp4 hZ hv2 => ⟨fun o r5 ws5 tys5 v kp5 _ _ h3 _ => ?_, fun t ht => nomatch ht⟩)
  · rcases h3 with ⟨h3, -⟩ | ⟨l, h3, -⟩
    · cases h3
    · cases h3
  · obtain ⟨x, j1, j2, j3, j4⟩ := hZ _ x1.2.2.2
    have z1 : zgR4 ws4 gS gF gT (upd gN x.toInt.toNat 0) := ⟨zg_row_kp kp4 (vGplain_k3 24 (by decide)) x1.1, zg_row_kp kp4 (vGplain_k3 22 (by decide)) x1.2.1, zg_row_kp kp4 (vGplain_k3 23 (by decide)) x1.2.2.1, j3⟩
    refine zgPF_kp (zgPF_i z1 (fun s k hs k1 k2 => ?_)) kp5 vGK_4
    by_cases hsx : s = x.toInt.toNat
    · rw [hsx, zg_upd_eq] at k2
      have k3 : ((0 : Int32)).toInt = 0 := rfl
      rw [k3] at k2
      omega
    · rw [zg_upd_ne hsx] at k2
      exact x2 s k hs k1 k2
end
