noncomputable section
def vYKc : List Nat := [1, 9, 16, 22, 28, 34, 40, 46, 52, 58, 64]
/-! zq: four bytes of a number; feed -/
def zq_f0 : zx_Fn := fun _ _ _ _ => none
def vYf (K : List Nat) : zx_Fn := zx_run (zw_YK zx_Yt K false) zx_dt zx_rmt (zv_hd [] 0 zx_Pt) zq_f0 3000 8
theorem vYf_ok {l : Launch} (K : List Nat) (d0 : Nat) : zx_FOK l vwCl zx_Ts zx_nw zx_sts (zw_YK zx_Yt K false) zx_aos zx_PRt zx_rmt (d0 + 8) (vYf K) :=
  zv_run_ok (Y := zw_YK zx_Yt K false) d0 (zv_PK_hd zx_PKt) zx_CKt zx_arrs zx_Ts_good zx_nw_kind (vYI K) (fun _ _ _ => by
    intro y cc maxL ret rm _ _ G h as os hz
    cases hz) 8
def zq_up (g : Int32 → Int32 → Int32) (f : Nat → Int32) (m : Nat) (x : Int32) : Nat → Int32 := upd (upd (upd (upd f m (g x 24)) (m + 1) (g x 16)) (m + 2) (g x 8)) (m + 3) (g x 0)
def zqZb (g : Int32 → Int32 → Int32) (q : Nat) (av : List Value) (ws : va_W) (_ : Option Value) (ws' : va_W) : Prop := ∀ (f : Nat → Int32) (t : Int), zg_row ws 1 f → zg_fld ws q t → ∃ (x : Int32) (m : Nat), av[1]? = some (.int x) ∧ t = m ∧ zg_row ws' 1 (zq_up g f m x) ∧ zg_fld ws' q (t + 4)
/-- a byte stored: its place is a field, the number and how far it is shifted are known -/
def zq_nk (K0 : List Nat) (tag : Nat) (lo hi : Int) (q : Nat) (x : zx_L) (sh : Int) (T : zx_T) : Bool := match zq_sb K0 tag lo hi T with
  | some z => Nat.beq z.1 1 && (zg_xf T.1 T.2.1 z.2.2.1 q 0 && (decide (z.2.2.2.1 = x) && (zx_isc z.2.2.2.2.1 && decide (z.2.2.2.2.1.2 = sh))))
  | none => false
def zq_nT (K0 : List Nat) (tag : Nat) (lo hi : Int) (T : zx_T) : zx_T := match zq_sb K0 tag lo hi T with
  | some z => z.2.2.2.2.2
  | none => T
section ZQB
variable {p : Program} {l : Launch} {e : Env} {R : Room} {s : State} {mi : MethodId} {args : Array Value} {below : List Frame} {meth : Method} {c : Code} {Q : State → Prop} {D : va_G} {A : Nat → Prop} {b : Nat} {ex : List Nat} {ad0 : zx_A0} {nL : Nat} {own : String} {cc : ByteArray} {Kr : List Nat} {d : Nat} {md : zx_MD}
theorem zq_nodeC (C : zg_cx p R s mi args meth c A b ex nL own cc Kr d md) {pc q : Nat} {x : zx_L} {sh : Int} {sc : Int32} (hsc : sc.toInt = sh) {T : zx_T} {ρ : List Int} {ws : va_W} (hd1 : (pc, Instr.ishr, 1) ∈ md.1) (hd2 : (pc + 1, Instr.sipush 255, 3) ∈ md.1) (hd3 : (pc + 4, Instr.iand, 1) ∈ md.1) (hd4 : (pc + 5, Instr.iastore, 1) ∈ md.1) (hk : zq_nk ad0.2 0 (0) (255) q x sh T = true) {t : Int} (ht : zg_fld ws q t) {xv : Int32} (hxv : zx_ev ρ x = some xv.toInt)
    (hgo : ∀ (f : Nat → Int32) (m : Nat) (ws' : va_W), zg_row ws 1 f → t = m → zg_row ws' 1 (upd f m (zq_b xv sc)) → (∀ q y, zg_fld ws q y → zg_fld ws' q y) → zg_go p l e R s mi args below meth c Q D A b ex ad0 nL (pc + 6) (zq_nT ad0.2 0 (0) (255) T) ρ ws') : zg_go p l e R s mi args below meth c Q D A b ex ad0 nL pc T ρ ws := by
  unfold zq_nk at hk
  unfold zq_nT at hgo
  split at hk
  case h_2 => cases hk
  rename_i z hz
  rw [hz] at hgo
  obtain ⟨i, n, e1, x1, s1, T'⟩ := z
  simp only [Bool.and_eq_true] at hk
  obtain ⟨k1, k2, k3, k4, k5⟩ := hk
  have k1 : i = 1 := Nat.eq_of_beq_eq_true k1
  subst k1
  have k3 : x1 = x := of_decide_eq_true k3
  subst k3
  refine zg_with (fun tys hG hh => ?_)
  refine zq_putC0 C.1.1 C.1.2.1 (C.2.2.2.2.1 _ hd1).1 (C.2.2.2.2.1 _ hd2).1 (C.2.2.2.2.1 _ hd3).1 (C.2.2.2.2.1 _ hd4).1 hz (fun a cA f w xv' sv h1 h2 h3 h4 h5 => ?_)
  have e1 : xv' = xv := Int32.toInt_inj.mp (Option.some.inj (h4.symm.trans hxv))
  subst e1
  have e2 : sv = sc := Int32.toInt_inj.mp (by rw [zx_isc_ev k4 h5, hsc]; exact of_decide_eq_true k5)
  subst e2
  have hw := zg_xf_ok hG hh k2 ht h2
  exact hgo f w _ ⟨a, cA, n, h1⟩ (by omega) (zg_row_set h1) (fun q y hy => zg_fld_ne (by decide) hy)
theorem zq_nodeR (C : zg_cx p R s mi args meth c A b ex nL own cc Kr d md) {pc q : Nat} {x : zx_L} {sh : Int} {sc : Int32} (hsc : sc.toInt = sh) {T : zx_T} {ρ : List Int} {ws : va_W} (hd1 : (pc, Instr.ishr, 1) ∈ md.1) (hd2 : (pc + 1, Instr.i2b, 1) ∈ md.1) (hd3 : (pc + 2, Instr.bastore, 1) ∈ md.1) (hk : zq_nk ad0.2 1 (-128) (127) q x sh T = true) {t : Int} (ht : zg_fld ws q t) {xv : Int32} (hxv : zx_ev ρ x = some xv.toInt)
    (hgo : ∀ (f : Nat → Int32) (m : Nat) (ws' : va_W), zg_row ws 1 f → t = m → zg_row ws' 1 (upd f m (zq_r xv sc)) → (∀ q y, zg_fld ws q y → zg_fld ws' q y) → zg_go p l e R s mi args below meth c Q D A b ex ad0 nL (pc + 3) (zq_nT ad0.2 1 (-128) (127) T) ρ ws') : zg_go p l e R s mi args below meth c Q D A b ex ad0 nL pc T ρ ws := by
  unfold zq_nk at hk
  unfold zq_nT at hgo
  split at hk
  case h_2 => cases hk
  rename_i z hz
  rw [hz] at hgo
  obtain ⟨i, n, e1, x1, s1, T'⟩ := z
  simp only [Bool.and_eq_true] at hk
  obtain ⟨k1, k2, k3, k4, k5⟩ := hk
  have k1 : i = 1 := Nat.eq_of_beq_eq_true k1
  subst k1
  have k3 : x1 = x := of_decide_eq_true k3
  subst k3
  refine zg_with (fun tys hG hh => ?_)
  refine zq_putR0 C.1.1 C.1.2.1 (C.2.2.2.2.1 _ hd1).1 (C.2.2.2.2.1 _ hd2).1 (C.2.2.2.2.1 _ hd3).1 hz (fun a cA f w xv' sv h1 h2 h3 h4 h5 => ?_)
  have e1 : xv' = xv := Int32.toInt_inj.mp (Option.some.inj (h4.symm.trans hxv))
  subst e1
  have e2 : sv = sc := Int32.toInt_inj.mp (by rw [zx_isc_ev k4 h5, hsc]; exact of_decide_eq_true k5)
  subst e2
  have hw := zg_xf_ok hG hh k2 ht h2
  exact hgo f w _ ⟨a, cA, n, h1⟩ (by omega) (zg_row_set h1) (fun q y hy => zg_fld_ne (by decide) hy)
end ZQB
def vYKr : List Nat := [1, 6, 2, 20, 22, 23, 24, 27, 65, 66, 67, 68]
theorem vYputC_K : ∀ i ∈ vYputC.2.2.2.2.2.1, i ∈ vYKc := by decide +kernel
theorem vYputC_a : vYputC.2.2.2.1[1]? = some (.inl ([(24, 1)], 0)) := by decide +kernel
set_option maxRecDepth 1000000 in
theorem vYputC_c0 : zg_rk vYKc (vYf vYKc) vYm_putC vYputC.2.1.length vYputC.2.2.2.2.1 (none, false) [(17, vYputC_17_24, [(10, (0, 0))], [])] 0 vYs_putC = true := by decide +kernel
set_option maxRecDepth 1000000 in
theorem vYputC_n24 : zq_nk vYputC.2.2.2.2.2.1 0 (0) (255) 10 ([(24, 1)], 0) 24 vYputC_17_24 = true := by decide +kernel
set_option maxRecDepth 1000000 in
theorem vYputC_r24 : zg_rk vYKc (vYf vYKc) vYm_putC vYputC.2.1.length vYputC.2.2.2.2.1 (none, false) [(17, vYputC_17_16, [(10, (1, 1))], [])] 23 (zq_nT vYputC.2.2.2.2.2.1 0 (0) (255) vYputC_17_24) = true := by decide +kernel
set_option maxRecDepth 1000000 in
theorem vYputC_n16 : zq_nk vYputC.2.2.2.2.2.1 0 (0) (255) 10 ([(24, 1)], 0) 16 vYputC_17_16 = true := by decide +kernel
set_option maxRecDepth 1000000 in
theorem vYputC_r16 : zg_rk vYKc (vYf vYKc) vYm_putC vYputC.2.1.length vYputC.2.2.2.2.1 (none, false) [(17, vYputC_17_8, [(10, (1, 1))], [])] 23 (zq_nT vYputC.2.2.2.2.2.1 0 (0) (255) vYputC_17_16) = true := by decide +kernel
set_option maxRecDepth 1000000 in
theorem vYputC_n8 : zq_nk vYputC.2.2.2.2.2.1 0 (0) (255) 10 ([(24, 1)], 0) 8 vYputC_17_8 = true := by decide +kernel
set_option maxRecDepth 1000000 in
theorem vYputC_r8 : zg_rk vYKc (vYf vYKc) vYm_putC vYputC.2.1.length vYputC.2.2.2.2.1 (none, false) [(17, vYputC_17_0, [(10, (1, 1))], [])] 23 (zq_nT vYputC.2.2.2.2.2.1 0 (0) (255) vYputC_17_8) = true := by decide +kernel
set_option maxRecDepth 1000000 in
theorem vYputC_n0 : zq_nk vYputC.2.2.2.2.2.1 0 (0) (255) 10 ([(24, 1)], 0) 0 vYputC_17_0 = true := by decide +kernel
set_option maxRecDepth 1000000 in
theorem vYputC_r0 : zg_rk vYKc (vYf vYKc) vYm_putC vYputC.2.1.length vYputC.2.2.2.2.1 (some ([(10, (1, 1))], fun _ => true), false) [] 23 (zq_nT vYputC.2.2.2.2.2.1 0 (0) (255) vYputC_17_0) = true := by decide +kernel
set_option maxRecDepth 100000 in
theorem vYputC_ok {l : Launch} : zg_EN l 9 vYputC (fun _ _ => True) (zqZb zq_b 10) := by
  refine zg_enter (d := 8) (Kr := vYKc) (md := vYm_putC) vYm_putC_ok (by decide +kernel) ?_
  intro p e R s mi args below meth c Q D A b ex nL own cc ρe tys ws0 av hX hG hh ha C KE
  have hm : ρe.length = vYputC.2.1.length := hG.1
  obtain ⟨x, a1, a2⟩ := zg_arg ha vYputC_a
  have a3 : ∀ r, zx_ev (ρe ++ r) ([(24, 1)], 0) = some x.toInt := fun r => zx_ev_app a2
  obtain ⟨f0, r0⟩ := zg_row_of hh (i := 1) rfl (by decide)
  obtain ⟨t0, q0, -⟩ := zg_fb_ok (q := 10) (lo := 0) (hi := 336) hG hh (by decide +kernel)
  refine zg_run0 (Zv := zqZb zq_b 10 av ws0) C vYputC_K (vYf_ok vYKc 0) hm vYputC_c0 KE (fun o r' ws' tys v _ _ _ h3 _ => ?_) (fun t ht r1 ws1 kp1 hfs1 _ => ?_)
  · rcases h3 with ⟨h3, -⟩ | ⟨l, h3, -⟩ <;> cases h3
  rw [List.mem_singleton] at ht
  subst ht
  have y1 := zg_row_kp kp1 (by decide) r0
  have z1 := zg_fs_0 hfs1 (by decide) q0
  refine zq_nodeC (sc := 24) (sh := 24) C (by decide) (List.mem_of_getElem? (i := 10) rfl) (List.mem_of_getElem? (i := 11) rfl) (List.mem_of_getElem? (i := 12) rfl) (List.mem_of_getElem? (i := 13) rfl) vYputC_n24 z1 (a3 _) (fun g1 m1 wt1 u1 v1 s1 f1 => ?_)
  have e1 := zg_row_u u1 y1
  subst e1
  refine zg_run2 (Zv := zqZb zq_b 10 av ws0) C vYputC_K (vYf_ok vYKc 0) hm vYputC_r24 KE (fun o r' ws' tys v _ _ _ h3 _ => ?_) (fun t ht r2 ws2 kp2 hfs2 _ => ?_)
  · rcases h3 with ⟨h3, -⟩ | ⟨l, h3, -⟩ <;> cases h3
  rw [List.mem_singleton] at ht
  subst ht
  have y2 := zg_row_kp kp2 (by decide) s1
  have z2 := zg_fs_eq (δ := 1) hfs2 (by decide) (f1 _ _ z1)
  refine zq_nodeC (sc := 16) (sh := 16) C (by decide) (List.mem_of_getElem? (i := 10) rfl) (List.mem_of_getElem? (i := 11) rfl) (List.mem_of_getElem? (i := 12) rfl) (List.mem_of_getElem? (i := 13) rfl) vYputC_n16 z2 (a3 _) (fun g2 m2 wt2 u2 v2 s2 f2 => ?_)
  have e2 := zg_row_u u2 y2
  subst e2
  refine zg_run2 (Zv := zqZb zq_b 10 av ws0) C vYputC_K (vYf_ok vYKc 0) hm vYputC_r16 KE (fun o r' ws' tys v _ _ _ h3 _ => ?_) (fun t ht r3 ws3 kp3 hfs3 _ => ?_)
  · rcases h3 with ⟨h3, -⟩ | ⟨l, h3, -⟩ <;> cases h3
  rw [List.mem_singleton] at ht
  subst ht
  have y3 := zg_row_kp kp3 (by decide) s2
  have z3 := zg_fs_eq (δ := 1) hfs3 (by decide) (f2 _ _ z2)
  refine zq_nodeC (sc := 8) (sh := 8) C (by decide) (List.mem_of_getElem? (i := 10) rfl) (List.mem_of_getElem? (i := 11) rfl) (List.mem_of_getElem? (i := 12) rfl) (List.mem_of_getElem? (i := 13) rfl) vYputC_n8 z3 (a3 _) (fun g3 m3 wt3 u3 v3 s3 f3 => ?_)
  have e3 := zg_row_u u3 y3
  subst e3
  refine zg_run2 (Zv := zqZb zq_b 10 av ws0) C vYputC_K (vYf_ok vYKc 0) hm vYputC_r8 KE (fun o r' ws' tys v _ _ _ h3 _ => ?_) (fun t ht r4 ws4 kp4 hfs4 _ => ?_)
  · rcases h3 with ⟨h3, -⟩ | ⟨l, h3, -⟩ <;> cases h3
  rw [List.mem_singleton] at ht
  subst ht
  have y4 := zg_row_kp kp4 (by decide) s3
  have z4 := zg_fs_eq (δ := 1) hfs4 (by decide) (f3 _ _ z3)
  refine zq_nodeC (sc := 0) (sh := 0) C (by decide) (List.mem_of_getElem? (i := 10) rfl) (List.mem_of_getElem? (i := 11) rfl) (List.mem_of_getElem? (i := 12) rfl) (List.mem_of_getElem? (i := 13) rfl) vYputC_n0 z4 (a3 _) (fun g4 m4 wt4 u4 v4 s4 f4 => ?_)
  have e4 := zg_row_u u4 y4
  subst e4
  refine zg_run2 (Zv := zqZb zq_b 10 av ws0) C vYputC_K (vYf_ok vYKc 0) hm vYputC_r0 KE (fun o r' ws' tys v kp5 _ _ h3 _ => ?_) (fun t ht => nomatch ht)
  rcases h3 with ⟨h3, -⟩ | ⟨l, h3, h4, -⟩
  · cases h3
  cases h3
  have y5 := zg_row_kp kp5 (by decide) s4
  have z5 := zg_fs_eq (δ := 1) h4 (by decide) (f4 _ _ z4)
  intro f t k1 k2
  have e5 := zg_row_u k1 r0
  have e6 := zg_fld_u k2 q0
  subst e5
  subst e6
  refine ⟨x, m1, a1, v1, ?_, ?_⟩
  · have w2 : m2 = m1 + 1 := by omega
    have w3 : m3 = m1 + 2 := by omega
    have w4 : m4 = m1 + 3 := by omega
    subst w2
    subst w3
    subst w4
    exact y5
  · have w5 : t + 1 + 1 + 1 + 1 = t + 4 := by omega
    rw [← w5]
    exact z5
theorem vYputR_K : ∀ i ∈ vYputR.2.2.2.2.2.1, i ∈ vYKr := by decide +kernel
theorem vYputR_a : vYputR.2.2.2.1[1]? = some (.inl ([(32, 1)], 0)) := by decide +kernel
set_option maxRecDepth 1000000 in
theorem vYputR_c0 : zg_rk vYKr (vYf vYKr) vYm_putR vYputR.2.1.length vYputR.2.2.2.2.1 (none, false) [(17, vYputR_17_24, [(2, (0, 0))], [])] 0 vYs_putR = true := by decide +kernel
set_option maxRecDepth 1000000 in
theorem vYputR_n24 : zq_nk vYputR.2.2.2.2.2.1 1 (-128) (127) 2 ([(32, 1)], 0) 24 vYputR_17_24 = true := by decide +kernel
set_option maxRecDepth 1000000 in
theorem vYputR_r24 : zg_rk vYKr (vYf vYKr) vYm_putR vYputR.2.1.length vYputR.2.2.2.2.1 (none, false) [(17, vYputR_17_16, [(2, (1, 1))], [])] 20 (zq_nT vYputR.2.2.2.2.2.1 1 (-128) (127) vYputR_17_24) = true := by decide +kernel
set_option maxRecDepth 1000000 in
theorem vYputR_n16 : zq_nk vYputR.2.2.2.2.2.1 1 (-128) (127) 2 ([(32, 1)], 0) 16 vYputR_17_16 = true := by decide +kernel
set_option maxRecDepth 1000000 in
theorem vYputR_r16 : zg_rk vYKr (vYf vYKr) vYm_putR vYputR.2.1.length vYputR.2.2.2.2.1 (none, false) [(17, vYputR_17_8, [(2, (1, 1))], [])] 20 (zq_nT vYputR.2.2.2.2.2.1 1 (-128) (127) vYputR_17_16) = true := by decide +kernel
set_option maxRecDepth 1000000 in
theorem vYputR_n8 : zq_nk vYputR.2.2.2.2.2.1 1 (-128) (127) 2 ([(32, 1)], 0) 8 vYputR_17_8 = true := by decide +kernel
set_option maxRecDepth 1000000 in
theorem vYputR_r8 : zg_rk vYKr (vYf vYKr) vYm_putR vYputR.2.1.length vYputR.2.2.2.2.1 (none, false) [(17, vYputR_17_0, [(2, (1, 1))], [])] 20 (zq_nT vYputR.2.2.2.2.2.1 1 (-128) (127) vYputR_17_8) = true := by decide +kernel
set_option maxRecDepth 1000000 in
theorem vYputR_n0 : zq_nk vYputR.2.2.2.2.2.1 1 (-128) (127) 2 ([(32, 1)], 0) 0 vYputR_17_0 = true := by decide +kernel
set_option maxRecDepth 1000000 in
theorem vYputR_r0 : zg_rk vYKr (vYf vYKr) vYm_putR vYputR.2.1.length vYputR.2.2.2.2.1 (some ([(2, (1, 1))], fun _ => true), false) [] 20 (zq_nT vYputR.2.2.2.2.2.1 1 (-128) (127) vYputR_17_0) = true := by decide +kernel
set_option maxRecDepth 100000 in
theorem vYputR_ok {l : Launch} : zg_EN l 9 vYputR (fun _ _ => True) (zqZb zq_r 2) := by
  refine zg_enter (d := 8) (Kr := vYKr) (md := vYm_putR) vYm_putR_ok (by decide +kernel) ?_
  intro p e R s mi args below meth c Q D A b ex nL own cc ρe tys ws0 av hX hG hh ha C KE
  have hm : ρe.length = vYputR.2.1.length := hG.1
  obtain ⟨x, a1, a2⟩ := zg_arg ha vYputR_a
  have a3 : ∀ r, zx_ev (ρe ++ r) ([(32, 1)], 0) = some x.toInt := fun r => zx_ev_app a2
  obtain ⟨f0, r0⟩ := zg_row_of hh (i := 1) rfl (by decide)
  obtain ⟨t0, q0, -⟩ := zg_fb_ok (q := 2) (lo := 0) (hi := 336) hG hh (by decide +kernel)
  refine zg_run0 (Zv := zqZb zq_r 2 av ws0) C vYputR_K (vYf_ok vYKr 0) hm vYputR_c0 KE (fun o r' ws' tys v _ _ _ h3 _ => ?_) (fun t ht r1 ws1 kp1 hfs1 _ => ?_)
  · rcases h3 with ⟨h3, -⟩ | ⟨l, h3, -⟩ <;> cases h3
  rw [List.mem_singleton] at ht
  subst ht
  have y1 := zg_row_kp kp1 (by decide) r0
  have z1 := zg_fs_0 hfs1 (by decide) q0
  refine zq_nodeR (sc := 24) (sh := 24) C (by decide) (List.mem_of_getElem? (i := 10) rfl) (List.mem_of_getElem? (i := 11) rfl) (List.mem_of_getElem? (i := 12) rfl) vYputR_n24 z1 (a3 _) (fun g1 m1 wt1 u1 v1 s1 f1 => ?_)
  have e1 := zg_row_u u1 y1
  subst e1
  refine zg_run2 (Zv := zqZb zq_r 2 av ws0) C vYputR_K (vYf_ok vYKr 0) hm vYputR_r24 KE (fun o r' ws' tys v _ _ _ h3 _ => ?_) (fun t ht r2 ws2 kp2 hfs2 _ => ?_)
  · rcases h3 with ⟨h3, -⟩ | ⟨l, h3, -⟩ <;> cases h3
  rw [List.mem_singleton] at ht
  subst ht
  have y2 := zg_row_kp kp2 (by decide) s1
  have z2 := zg_fs_eq (δ := 1) hfs2 (by decide) (f1 _ _ z1)
  refine zq_nodeR (sc := 16) (sh := 16) C (by decide) (List.mem_of_getElem? (i := 10) rfl) (List.mem_of_getElem? (i := 11) rfl) (List.mem_of_getElem? (i := 12) rfl) vYputR_n16 z2 (a3 _) (fun g2 m2 wt2 u2 v2 s2 f2 => ?_)
  have e2 := zg_row_u u2 y2
  subst e2
  refine zg_run2 (Zv := zqZb zq_r 2 av ws0) C vYputR_K (vYf_ok vYKr 0) hm vYputR_r16 KE (fun o r' ws' tys v _ _ _ h3 _ => ?_) (fun t ht r3 ws3 kp3 hfs3 _ => ?_)
  · rcases h3 with ⟨h3, -⟩ | ⟨l, h3, -⟩ <;> cases h3
  rw [List.mem_singleton] at ht
  subst ht
  have y3 := zg_row_kp kp3 (by decide) s2
  have z3 := zg_fs_eq (δ := 1) hfs3 (by decide) (f2 _ _ z2)
  refine zq_nodeR (sc := 8) (sh := 8) C (by decide) (List.mem_of_getElem? (i := 10) rfl) (List.mem_of_getElem? (i := 11) rfl) (List.mem_of_getElem? (i := 12) rfl) vYputR_n8 z3 (a3 _) (fun g3 m3 wt3 u3 v3 s3 f3 => ?_)
  have e3 := zg_row_u u3 y3
  subst e3
  refine zg_run2 (Zv := zqZb zq_r 2 av ws0) C vYputR_K (vYf_ok vYKr 0) hm vYputR_r8 KE (fun o r' ws' tys v _ _ _ h3 _ => ?_) (fun t ht r4 ws4 kp4 hfs4 _ => ?_)
  · rcases h3 with ⟨h3, -⟩ | ⟨l, h3, -⟩ <;> cases h3
  rw [List.mem_singleton] at ht
  subst ht
  have y4 := zg_row_kp kp4 (by decide) s3
  have z4 := zg_fs_eq (δ := 1) hfs4 (by decide) (f3 _ _ z3)
  refine zq_nodeR (sc := 0) (sh := 0) C (by decide) (List.mem_of_getElem? (i := 10) rfl) (List.mem_of_getElem? (i := 11) rfl) (List.mem_of_getElem? (i := 12) rfl) vYputR_n0 z4 (a3 _) (fun g4 m4 wt4 u4 v4 s4 f4 => ?_)
  have e4 := zg_row_u u4 y4
  subst e4
  refine zg_run2 (Zv := zqZb zq_r 2 av ws0) C vYputR_K (vYf_ok vYKr 0) hm vYputR_r0 KE (fun o r' ws' tys v kp5 _ _ h3 _ => ?_) (fun t ht => nomatch ht)
  rcases h3 with ⟨h3, -⟩ | ⟨l, h3, h4, -⟩
  · cases h3
  cases h3
  have y5 := zg_row_kp kp5 (by decide) s4
  have z5 := zg_fs_eq (δ := 1) h4 (by decide) (f4 _ _ z4)
  intro f t k1 k2
  have e5 := zg_row_u k1 r0
  have e6 := zg_fld_u k2 q0
  subst e5
  subst e6
  refine ⟨x, m1, a1, v1, ?_, ?_⟩
  · have w2 : m2 = m1 + 1 := by omega
    have w3 : m3 = m1 + 2 := by omega
    have w4 : m4 = m1 + 3 := by omega
    subst w2
    subst w3
    subst w4
    exact y5
  · have w5 : t + 1 + 1 + 1 + 1 = t + 4 := by omega
    rw [← w5]
    exact z5
end
