noncomputable section
/-! zq: feed and opera in the law -/
section ZQL
variable {p : Program} {l : Launch} {e : Env} {R : Room} {s : State} {mi : MethodId} {args : Array Value} {below : List Frame} {meth : Method} {c : Code} {Q : State → Prop} {D : va_G} {A : Nat → Prop} {b : Nat} {ex : List Nat} {ad0 : zx_A0} {nL : Nat} {own : String} {cc : ByteArray} {d : Nat} {xs : Nat → Int32} {L : Nat}
set_option maxRecDepth 1000000 in
theorem zq_feed (C : zgL_cx p R s mi args meth c A ex nL own cc vLK 386 zx_mlw) (had : ad0.2 = []) (hf : zx_FOK l vwCl zx_Ts zx_nw zx_sts (zw_YK zx_Yt vLK false) zx_aos zx_PRt zx_rmt 386 vLf) {i0 : Nat} (hS : ∀ r, zx_SX b xs A s zx_mlw.2.1 (zgL_re L xs i0 ++ r)) (KE : ∀ (u : zx_Ou) (r : List Int) (ws' : va_W), zgL_is1 u = true → zg_ed p l e R s mi args below meth c Q D A b ex ad0 nL cc zx_mlw.2.2.2 (zx_mR zx_mlw.2.1) u (zgL_re L xs i0 ++ r) ws') (back : ∀ (r : List Int) (ws : va_W), zgL_Inv11 ws → zx_ev (zgL_re L xs i0 ++ r) ([(67, 1)], 0) = some ((i0 : Int) + 6) → zg_go p l e R s mi args below meth c Q D A b ex ad0 nL 23 vL_23 (zgL_re L xs i0 ++ r) ws) (r : List Int) (ws : va_W) (hI : zgL_Inv11 ws) : zg_go p l e R s mi args below meth c Q D A b ex ad0 nL 168 vL_cs (zgL_re L xs i0 ++ r) ws := by
  have hK : ∀ K : List Nat, ∀ i ∈ ad0.2, i ∈ K := fun K i hi => by rw [had] at hi; cases hi
  have h7 : ∀ r, zx_ev (zgL_re L xs i0 ++ r) ([(7, 1)], 0) = some (i0 : Int) := fun r => by
    refine zx_ev_iff.mpr ⟨1 * (i0 : Int) + 0, zx_evl_cons.mpr ⟨(i0 : Int), 0, rfl, rfl, rfl⟩, ?_⟩
    show (i0 : Int) = 1 * (i0 : Int) + 0 + 0
    omega
  refine zg_with (fun tys hG hh => ?_)
  refine zgL_run3 (m := 8) C (hK _) hf rfl hS hh vL_k168 KE (fun t ht r1 ws1 kp1 hfs1 _ => ?_)
  rw [List.mem_singleton] at ht
  subst ht
  have hI1 : zgL_Inv11 ws1 := zgL_Inv11_kp (d := 0) hI kp1 hfs1 (by decide) (by decide) (by decide) (by decide) (by decide)
  obtain ⟨fC, fR, rC, rR, hrel⟩ := hI1.1.2
  refine zg_with (fun tys1 hG1 hh1 => ?_)
  obtain ⟨tC, qC, eC⟩ := zgL_fe_ok hh1 vL_f1_c
  obtain ⟨tR, qR, eR⟩ := zgL_fe_ok (zgL_drop 218 hh1) vL_f1_r
  have et : tR = tC := Option.some.inj (eR.symm.trans eC)
  subst et
  refine zgL_call4 (o := 0) (o2 := 218) (KK := [9, 16, 22, 28, 34, 40, 46, 52, 58, 64, 224, 219, 220, 238, 240, 241, 242, 286]) C hf (hK _) (hK _) rfl hS (zg_EN_mono vYfeedC_ok (by decide)) (zq_mem vL_m199) vL_a199 vL_f1_l KE (fun _ _ => trivial) (fun av v ws2 ha kp2 hZ hfs2 t2 ht2 r3 ws3 kp3 hfs3 hos3 => ?_)
  rw [vYfeedC_l] at hZ
  have hz := hZ fC tR ((zgL_bk_row (by decide)).mpr rC) ((zgL_bk_fld (by decide)).mpr qC)
  have hI2 : zgL_Inv ws2 := zq_Inv_kp (d := 0) hI1.1.1 kp2 (by decide) hfs2 (by decide) (by decide) (by decide) (by decide)
  have hJ2 := zr_J_kp hI1.2 kp2 (by decide) hfs2 (by decide)
  have rR2 := zg_row_kp kp2 (by decide) rR
  have qR2 := zg_fs_0 hfs2 (by decide) qR
  have arg : ∀ (av2 : List Value) (ws' : va_W) (r' : List Int) (as : List zx_V), zq_as [2, 3, 4, 5, 6] as = true → zx_F2 (zx_R b ex (zgL_re L xs i0 ++ r') (zx_as ws')) as av2 → ∀ (i k : Nat) (x x' : Int32), ([2, 3, 4, 5, 6] : List Nat)[i]? = some k → k < 8 → av[i + 1]? = some (.int x) → av2[i + 1]? = some (.int x') → x = x' := by
    intro av2 ws' r' as has ha2 i k x x' hi hk h1 h2
    obtain ⟨y1, p1, q1⟩ := zg_arg ha (zq_as_ok vL_s199 hi)
    obtain ⟨y2, p2, q2⟩ := zg_arg ha2 (zq_as_ok has hi)
    have e1 : x = y1 := Value.int.inj (Option.some.inj (h1.symm.trans p1))
    have e2 : x' = y2 := Value.int.inj (Option.some.inj (h2.symm.trans p2))
    rw [e1, e2]
    exact Int32.toInt_inj.mp (zq_ev_l (ρe := zgL_re L xs i0) hk q1 q2)
  unfold vL_nF at ht2
  simp only [List.mem_cons, List.not_mem_nil, or_false] at ht2
  rcases hz with ⟨hn, hz⟩ | ⟨hn, x1, x2, x3, x4, x5, mm, ⟨a1, a2, a3, a4, a5⟩, em, hz⟩
  · have rC2 : zg_row ws2 1 fC := (zgL_bk_row (by decide)).mp hz
    rcases ht2 with ht2 | ht2
    · subst ht2
      have rC3 := zg_row_kp kp3 (by decide) rC2
      have hI3 : zgL_Inv ws3 := zgL_Inv_kp (d := 0) hI2 kp3 hfs3 (by decide) (by decide) (by decide) (by decide)
      have hJ3 := zr_J_kp hJ2 kp3 (by decide) hfs3 (by decide)
      have rR3 := zg_row_kp kp3 (by decide) rR2
      have qR3 := zg_fs_0 hfs3 (by decide) qR2
      refine zgL_call4 (o := 218) (o2 := 218) (KK := [9, 16, 22, 28, 34, 40, 46, 52, 58, 64, 224, 1, 220, 238, 240, 241, 242, 286]) C hf (hK _) (hK _) rfl hS (zg_EN_mono vYfeedR_ok (by decide)) (zq_mem vL_m234) vL_a234n vL_f2n_l KE (fun _ _ => trivial) (fun av2 v2 ws4 ha2 kp4 hZ2 hfs4 t4 ht4 r5 ws5 kp5 hfs5 hos5 => ?_)
      rw [List.mem_singleton] at ht4
      subst ht4
      rw [vYfeedR_l] at hZ2
      have hz2 := hZ2 fR tR ((zgL_bk_row (by decide)).mpr rR3) ((zgL_bk_fld (by decide)).mpr qR3)
      obtain ⟨y, k1, k2, k3⟩ := hos5 (([(67, 1)], 0), (([(7, 1)], 0), (6, 6))) List.mem_cons_self _ (h7 _)
      have k2 : (i0 : Int) + 6 ≤ y := k2
      have k3 : y ≤ (i0 : Int) + 6 := k3
      have ey : y = (i0 : Int) + 6 := by omega
      rw [ey] at k1
      refine back r5 ws5 ⟨⟨zgL_Inv_kp (d := 0) (zq_Inv_kp (d := 0) hI3 kp4 (by decide) hfs4 (by decide) (by decide) (by decide) (by decide)) kp5 hfs5 (by decide) (by decide) (by decide) (by decide), ?_⟩, zr_J_kp (zr_J_kp hJ3 kp4 (by decide) hfs4 (by decide)) kp5 (by decide) hfs5 (by decide)⟩ k1
      rcases hz2 with ⟨-, hz2⟩ | ⟨hn2, -⟩
      · have rR4 : zg_row ws4 219 fR := (zgL_bk_row (by decide)).mp hz2
        exact ⟨fC, fR, zg_row_kp kp5 (by decide) (zg_row_kp kp4 (by decide) rC3), zg_row_kp kp5 (by decide) rR4, hrel⟩
      · omega
    · subst ht2
      refine zg_with (fun tys3 hG3 hh3 => ?_)
      obtain ⟨y8, k1, k2, k3⟩ := hos3 (([(8, 1)], 0), (([(8, 1)], 0), (0, 0))) List.mem_cons_self _ eC
      have k2 : tR + 0 ≤ y8 := k2
      have k3 : y8 ≤ tR + 0 := k3
      have hb := zg_xb_ok hG3 vL_f2a_b k1
      omega
  · have rC2 : zg_row ws2 1 _ := (zgL_bk_row (by decide)).mp hz
    rcases ht2 with ht2 | ht2
    · subst ht2
      refine zg_with (fun tys3 hG3 hh3 => ?_)
      obtain ⟨y8, k1, k2, k3⟩ := hos3 (([(8, 1)], 0), (([(8, 1)], 0), (0, 0))) List.mem_cons_self _ eC
      have k2 : tR + 0 ≤ y8 := k2
      have k3 : y8 ≤ tR + 0 := k3
      have hb := zg_xb_ok hG3 vL_f2n_b k1
      omega
    · subst ht2
      have rC3 := zg_row_kp kp3 (by decide) rC2
      have hI3 : zgL_Inv ws3 := zgL_Inv_kp (d := 0) hI2 kp3 hfs3 (by decide) (by decide) (by decide) (by decide)
      have hJ3 := zr_J_kp hJ2 kp3 (by decide) hfs3 (by decide)
      have rR3 := zg_row_kp kp3 (by decide) rR2
      have qR3 := zg_fs_0 hfs3 (by decide) qR2
      refine zgL_call4 (o := 218) (o2 := 218) (KK := [9, 16, 22, 28, 34, 40, 46, 52, 58, 64, 224, 1, 220, 238, 240, 241, 242, 286]) C hf (hK _) (hK _) rfl hS (zg_EN_mono vYfeedR_ok (by decide)) (zq_mem vL_m234) vL_a234a vL_f2a_l KE (fun _ _ => trivial) (fun av2 v2 ws4 ha2 kp4 hZ2 hfs4 t4 ht4 r5 ws5 kp5 hfs5 hos5 => ?_)
      rw [List.mem_singleton] at ht4
      subst ht4
      rw [vYfeedR_l] at hZ2
      have hz2 := hZ2 fR tR ((zgL_bk_row (by decide)).mpr rR3) ((zgL_bk_fld (by decide)).mpr qR3)
      obtain ⟨y, k1, k2, k3⟩ := hos5 (([(67, 1)], 0), (([(7, 1)], 0), (6, 6))) List.mem_cons_self _ (h7 _)
      have k2 : (i0 : Int) + 6 ≤ y := k2
      have k3 : y ≤ (i0 : Int) + 6 := k3
      have ey : y = (i0 : Int) + 6 := by omega
      rw [ey] at k1
      refine back r5 ws5 ⟨⟨zgL_Inv_kp (d := 0) (zq_Inv_kp (d := 0) hI3 kp4 (by decide) hfs4 (by decide) (by decide) (by decide) (by decide)) kp5 hfs5 (by decide) (by decide) (by decide) (by decide), ?_⟩, zr_J_kp (zr_J_kp hJ3 kp4 (by decide) hfs4 (by decide)) kp5 (by decide) hfs5 (by decide)⟩ k1
      rcases hz2 with ⟨hn2, -⟩ | ⟨hn2, y1, y2, y3, y4, y5, mm2, ⟨b1, b2, b3, b4, b5⟩, em2, hz2⟩
      · omega
      · have rR4 : zg_row ws4 219 _ := (zgL_bk_row (by decide)).mp hz2
        have e0 : mm2 = mm := by omega
        have e1 := arg av2 ws3 r3 _ vL_s234a ha2 0 2 x1 y1 rfl (by decide) a1 b1
        have e2 := arg av2 ws3 r3 _ vL_s234a ha2 1 3 x2 y2 rfl (by decide) a2 b2
        have e3 := arg av2 ws3 r3 _ vL_s234a ha2 2 4 x3 y3 rfl (by decide) a3 b3
        have e4 := arg av2 ws3 r3 _ vL_s234a ha2 3 5 x4 y4 rfl (by decide) a4 b4
        have e5 := arg av2 ws3 r3 _ vL_s234a ha2 4 6 x5 y5 rfl (by decide) a5 b5
        subst e0
        subst e1
        subst e2
        subst e3
        subst e4
        subst e5
        exact ⟨_, _, zg_row_kp kp5 (by decide) (zg_row_kp kp4 (by decide) rC3), zg_row_kp kp5 (by decide) rR4, zq_up_rel (zq_up_rel (zq_up_rel (zq_up_rel (zq_up_rel hrel _ _) _ _) _ _) _ _) _ _⟩
end ZQL
end
