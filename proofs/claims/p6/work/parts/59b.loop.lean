noncomputable section
/-! zgL: the law's loop, from head to head -/
theorem vLK_68 : ∀ i ∈ [2, 20, 22, 23, 24, 68], 218 + i ∈ vLK := vLK_6
set_option maxRecDepth 1000000 in
theorem vL_m361 : (zx_drop 361 zx_mlw.1).head? = some (361, Instr.invokevirtual 38, 3) := by decide +kernel
theorem vL_q361 : vL_h361x.2.1.length = 288 := by decide +kernel
set_option maxRecDepth 1000000 in
theorem vL_m409 : (zx_drop 409 zx_mlw.1).head? = some (409, Instr.invokevirtual 43, 3) := by decide +kernel
theorem vL_q409 : vL_h409.2.1.length = 288 := by decide +kernel
set_option maxRecDepth 1000000 in
theorem vL_m521 : (zx_drop 521 zx_mlw.1).head? = some (521, Instr.invokevirtual 57, 3) := by decide +kernel
theorem vL_q521 : vL_h521.2.1.length = 288 := by decide +kernel
set_option maxRecDepth 1000000 in
theorem vL_m1095 : (zx_drop 1095 zx_mlw.1).head? = some (1095, Instr.invokevirtual 107, 3) := by decide +kernel
theorem vL_q1095 : vL_h1095.2.1.length = 288 := by decide +kernel
set_option maxRecDepth 1000000 in
theorem vL_m1144 : (zx_drop 1144 zx_mlw.1).head? = some (1144, Instr.invokevirtual 111, 3) := by decide +kernel
theorem vL_q1144 : vL_h1144.2.1.length = 288 := by decide +kernel
set_option maxRecDepth 1000000 in
theorem vL_m1279 : (zx_drop 1279 zx_mlw.1).head? = some (1279, Instr.invokevirtual 123, 3) := by decide +kernel
theorem vL_q1279 : vL_h1279.2.1.length = 288 := by decide +kernel
set_option maxRecDepth 1000000 in
theorem vL_m1316 : (zx_drop 1316 zx_mlw.1).head? = some (1316, Instr.invokevirtual 127, 3) := by decide +kernel
theorem vL_q1316 : vL_h1316.2.1.length = 288 := by decide +kernel
set_option maxRecDepth 1000000 in
theorem vL_m1365 : (zx_drop 1365 zx_mlw.1).head? = some (1365, Instr.invokevirtual 131, 3) := by decide +kernel
theorem vL_q1365 : vL_h1365.2.1.length = 288 := by decide +kernel
set_option maxRecDepth 1000000 in
theorem vL_m1403 : (zx_drop 1403 zx_mlw.1).head? = some (1403, Instr.invokevirtual 139, 3) := by decide +kernel
theorem vL_q1403 : vL_h1403.2.1.length = 288 := by decide +kernel
theorem zgL_mem {pc : Nat} {l : List (Nat × Instr × Nat)} {x : Nat × Instr × Nat} (h : (zx_drop pc l).head? = some x) : x ∈ l := by
  obtain ⟨g1, -⟩ := zx_drop_ok (t := pc) (l := l)
  cases hd : zx_drop pc l with
  | nil => rw [hd] at h; cases h
  | cons a t =>
    rw [hd] at h
    cases h
    exact g1 _ (by rw [hd]; exact List.mem_cons_self)
section ZGLOOP
variable {p : Program} {l : Launch} {e : Env} {R : Room} {s : State} {mi : MethodId} {args : Array Value} {below : List Frame} {meth : Method} {c : Code} {Q : State → Prop} {D : va_G} {A : Nat → Prop} {b : Nat} {ex : List Nat} {ad0 : zx_A0} {nL : Nat} {own : String} {cc : ByteArray} {d : Nat} {xs : Nat → Int32} {L : Nat}
/-- from a case on: no call by hand -/
theorem zgL_case (C : zgL_cx p R s mi args meth c A ex nL own cc vLK d zx_mlw) (had : ad0.2 = []) (hf : zx_FOK l vwCl zx_Ts zx_nw zx_sts (zw_YK zx_Yt vLK false) zx_aos zx_PRt zx_rmt d vLf) {i0 : Nat} (hS : ∀ r, zx_SX b xs A s zx_mlw.2.1 (zgL_re L xs i0 ++ r)) (KE : ∀ (u : zx_Ou) (r : List Int) (ws' : va_W), zgL_is1 u = true → zg_ed p l e R s mi args below meth c Q D A b ex ad0 nL cc zx_mlw.2.2.2 (zx_mR zx_mlw.2.1) u (zgL_re L xs i0 ++ r) ws')
    (back : ∀ (r : List Int) (ws : va_W), zgL_Inv ws → zx_ev (zgL_re L xs i0 ++ r) ([(67, 1)], 0) = some ((i0 : Int) + 6) → zg_go p l e R s mi args below meth c Q D A b ex ad0 nL 23 vL_23 (zgL_re L xs i0 ++ r) ws)
    {pc : Nat} {T : zx_T} {nds : List zg_Nd} (hnds : ∀ t ∈ nds, t = vL_n23 ∨ (t.2.2.1 = [(98, (0, 0)), (99, (0, 0)), (100, (0, 0)), (6, (0, 0))] ∧ ∀ (r : List Int) (ws : va_W), zgL_Inv ws → zg_go p l e R s mi args below meth c Q D A b ex ad0 nL t.1 t.2.1 (zgL_re L xs i0 ++ r) ws)) (hck : zgL_rk 218 T.2.1 vLK vLf zx_mlw 8 nds pc T = true) (r : List Int) (ws : va_W) (hI : zgL_Inv ws) : zg_go p l e R s mi args below meth c Q D A b ex ad0 nL pc T (zgL_re L xs i0 ++ r) ws := by
  have hK : ∀ i ∈ ad0.2, i ∈ vLK := fun i hi => by rw [had] at hi; cases hi
  refine zg_with (fun tys hG hh => ?_)
  have h7 : zx_ev (zgL_re L xs i0 ++ r) ([(7, 1)], 0) = some (i0 : Int) := by
    refine zx_ev_iff.mpr ⟨1 * (i0 : Int) + 0, zx_evl_cons.mpr ⟨(i0 : Int), 0, rfl, rfl, rfl⟩, ?_⟩
    show (i0 : Int) = 1 * (i0 : Int) + 0 + 0
    omega
  refine zgL_run3 (m := 8) C hK hf rfl hS hh hck KE (fun t ht r' ws' kp hfs hos => ?_)
  rcases hnds t ht with h | ⟨h1, h2⟩
  · subst h
    obtain ⟨y, k1, k2, k3⟩ := hos (([(67, 1)], 0), (([(7, 1)], 0), (6, 6))) List.mem_cons_self _ h7
    have k2 : (i0 : Int) + 6 ≤ y := k2
    have k3 : y ≤ (i0 : Int) + 6 := k3
    have ey : y = (i0 : Int) + 6 := by omega
    rw [ey] at k1
    exact back r' ws' (zgL_Inv_kp (d := 1) hI kp hfs (by decide) (by decide) (by decide) (by decide)) k1
  · rw [h1] at hfs
    exact h2 r' ws' (zgL_Inv_kp (d := 0) hI kp hfs (by decide) (by decide) (by decide) (by decide))
/-- a call by hand, and back to the head -/
theorem zgL_hand (C : zgL_cx p R s mi args meth c A ex nL own cc vLK d zx_mlw) (had : ad0.2 = []) (hf : zx_FOK l vwCl zx_Ts zx_nw zx_sts (zw_YK zx_Yt vLK false) zx_aos zx_PRt zx_rmt d vLf) {i0 : Nat} (hS : ∀ r, zx_SX b xs A s zx_mlw.2.1 (zgL_re L xs i0 ++ r)) (KE : ∀ (u : zx_Ou) (r : List Int) (ws' : va_W), zgL_is1 u = true → zg_ed p l e R s mi args below meth c Q D A b ex ad0 nL cc zx_mlw.2.2.2 (zx_mR zx_mlw.2.1) u (zgL_re L xs i0 ++ r) ws')
    (back : ∀ (r : List Int) (ws : va_W), zgL_Inv ws → zx_ev (zgL_re L xs i0 ++ r) ([(67, 1)], 0) = some ((i0 : Int) + 6) → zg_go p l e R s mi args below meth c Q D A b ex ad0 nL 23 vL_23 (zgL_re L xs i0 ++ r) ws)
    {pc ix : Nat} {T : zx_T} {KK : List Nat} {en : zw_En} {X : List Value → va_W → Prop} {Z : List Value → va_W → Option Value → va_W → Prop} {dC : List (Nat × (Int × Int))} (hen : zg_EN l d en X Z) (hd : (pc, Instr.invokevirtual ix, 3) ∈ zx_mlw.1) (hl : en.2.2.1.length = 69) (hT : T.2.1.length = 288) (hck : zgL_ca 218 KK vLK vLf zx_mlw 8 dC [(23, vL_23, [(98, (0, 0)), (99, (0, 0)), (100, (0, 0)), (6, (0, 0))], [(([(67, 1)], 0), (([(7, 1)], 0), (6, 6)))])] pc ix en T = true)
    (r : List Int) (ws : va_W) (hX : ∀ av, X av (zgL_bk 218 69 ws)) (hZ : ∀ (av : List Value) (v : Option Value) (ws1 : va_W), zx_KP (ws, KK) ws1 → Z av (zgL_bk 218 69 ws) v (zgL_bk 218 69 ws1) → zg_fs (ws.drop 218) (ws1.drop 218) dC → zgL_Inv ws1) : zg_go p l e R s mi args below meth c Q D A b ex ad0 nL pc T (zgL_re L xs i0 ++ r) ws := by
  have hK : ∀ i ∈ ad0.2, i ∈ vLK := fun i hi => by rw [had] at hi; cases hi
  have hK1 : ∀ i ∈ ad0.2, i ∈ KK := fun i hi => by rw [had] at hi; cases hi
  have h7 : zx_ev (zgL_re L xs i0 ++ r) ([(7, 1)], 0) = some (i0 : Int) := by
    refine zx_ev_iff.mpr ⟨1 * (i0 : Int) + 0, zx_evl_cons.mpr ⟨(i0 : Int), 0, rfl, rfl, rfl⟩, ?_⟩
    show (i0 : Int) = 1 * (i0 : Int) + 0 + 0
    omega
  refine zgL_call3 (mm := 8) C hf hK1 hK rfl hS hen hd hck (by omega) KE (fun av => by rw [hl]; exact hX av) (fun av v ws1 kp hz hfs1 t ht r' ws' kp' hfs hos => ?_)
  rw [hl] at hz
  rw [List.mem_singleton] at ht
  subst ht
  obtain ⟨y, k1, k2, k3⟩ := hos (([(67, 1)], 0), (([(7, 1)], 0), (6, 6))) List.mem_cons_self _ h7
  have k2 : (i0 : Int) + 6 ≤ y := k2
  have k3 : y ≤ (i0 : Int) + 6 := k3
  have ey : y = (i0 : Int) + 6 := by omega
  rw [ey] at k1
  exact back r' ws' (zgL_Inv_kp (d := 0) (hZ av v ws1 kp hz hfs1) kp' hfs (by decide) (by decide) (by decide) (by decide)) k1
set_option maxRecDepth 1000000 in
theorem zgL_h361 (C : zgL_cx p R s mi args meth c A ex nL own cc vLK 386 zx_mlw) (had : ad0.2 = []) (hf : zx_FOK l vwCl zx_Ts zx_nw zx_sts (zw_YK zx_Yt vLK false) zx_aos zx_PRt zx_rmt 386 vLf) {i0 : Nat} (hS : ∀ r, zx_SX b xs A s zx_mlw.2.1 (zgL_re L xs i0 ++ r)) (KE : ∀ (u : zx_Ou) (r : List Int) (ws' : va_W), zgL_is1 u = true → zg_ed p l e R s mi args below meth c Q D A b ex ad0 nL cc zx_mlw.2.2.2 (zx_mR zx_mlw.2.1) u (zgL_re L xs i0 ++ r) ws') (back : ∀ (r : List Int) (ws : va_W), zgL_Inv ws → zx_ev (zgL_re L xs i0 ++ r) ([(67, 1)], 0) = some ((i0 : Int) + 6) → zg_go p l e R s mi args below meth c Q D A b ex ad0 nL 23 vL_23 (zgL_re L xs i0 ++ r) ws) (r : List Int) (ws : va_W) (hI : zgL_Inv ws) : zg_go p l e R s mi args below meth c Q D A b ex ad0 nL 361 vL_h361x (zgL_re L xs i0 ++ r) ws := by
    refine zgL_hand C had hf hS KE back (zg_EN_mono vGopr_ok (by decide)) (zgL_mem vL_m361) rfl vL_q361 vL_a361 r ws (fun _ => trivial) (fun av v ws1 kp hz hf1 => ?_)
    exact ⟨zgL_PF_bk kp (by decide) hI.1, zgR1e_op hI.2 (fun f hr => zgL_row_bk kp (by decide) (by decide) hr) (zgL_fs_bk (by decide) hf1) (by decide) (by decide) (by decide) hz⟩
set_option maxRecDepth 1000000 in
theorem zgL_h409 (C : zgL_cx p R s mi args meth c A ex nL own cc vLK 386 zx_mlw) (had : ad0.2 = []) (hf : zx_FOK l vwCl zx_Ts zx_nw zx_sts (zw_YK zx_Yt vLK false) zx_aos zx_PRt zx_rmt 386 vLf) {i0 : Nat} (hS : ∀ r, zx_SX b xs A s zx_mlw.2.1 (zgL_re L xs i0 ++ r)) (KE : ∀ (u : zx_Ou) (r : List Int) (ws' : va_W), zgL_is1 u = true → zg_ed p l e R s mi args below meth c Q D A b ex ad0 nL cc zx_mlw.2.2.2 (zx_mR zx_mlw.2.1) u (zgL_re L xs i0 ++ r) ws') (back : ∀ (r : List Int) (ws : va_W), zgL_Inv ws → zx_ev (zgL_re L xs i0 ++ r) ([(67, 1)], 0) = some ((i0 : Int) + 6) → zg_go p l e R s mi args below meth c Q D A b ex ad0 nL 23 vL_23 (zgL_re L xs i0 ++ r) ws) (r : List Int) (ws : va_W) (hI : zgL_Inv ws) : zg_go p l e R s mi args below meth c Q D A b ex ad0 nL 409 vL_h409 (zgL_re L xs i0 ++ r) ws := by
    refine zgL_hand C had hf hS KE back (zg_EN_mono vGsi3_ok (by decide)) (zgL_mem vL_m409) rfl vL_q409 vL_a409 r ws (fun _ => hI.1) (fun av v ws1 kp hz hf1 => ?_)
    exact ⟨hz, zgR1e_kp (d := 1) hI.2 (fun i hi f hr => by
        simp only [List.mem_cons, List.not_mem_nil, or_false] at hi
        rcases hi with rfl | rfl
        · exact zgL_row_bk kp (by decide) (by decide) hr
        · exact zgL_row_bk kp (by decide) (by decide) hr) (zgL_fs_bk (by decide) hf1) (by decide) (by decide) (by decide) (by decide)⟩
set_option maxRecDepth 1000000 in
theorem zgL_h521 (C : zgL_cx p R s mi args meth c A ex nL own cc vLK 386 zx_mlw) (had : ad0.2 = []) (hf : zx_FOK l vwCl zx_Ts zx_nw zx_sts (zw_YK zx_Yt vLK false) zx_aos zx_PRt zx_rmt 386 vLf) {i0 : Nat} (hS : ∀ r, zx_SX b xs A s zx_mlw.2.1 (zgL_re L xs i0 ++ r)) (KE : ∀ (u : zx_Ou) (r : List Int) (ws' : va_W), zgL_is1 u = true → zg_ed p l e R s mi args below meth c Q D A b ex ad0 nL cc zx_mlw.2.2.2 (zx_mR zx_mlw.2.1) u (zgL_re L xs i0 ++ r) ws') (back : ∀ (r : List Int) (ws : va_W), zgL_Inv ws → zx_ev (zgL_re L xs i0 ++ r) ([(67, 1)], 0) = some ((i0 : Int) + 6) → zg_go p l e R s mi args below meth c Q D A b ex ad0 nL 23 vL_23 (zgL_re L xs i0 ++ r) ws) (r : List Int) (ws : va_W) (hI : zgL_Inv ws) : zg_go p l e R s mi args below meth c Q D A b ex ad0 nL 521 vL_h521 (zgL_re L xs i0 ++ r) ws := by
    refine zgL_hand C had hf hS KE back (zg_EN_mono vGctr_ok (by decide)) (zgL_mem vL_m521) rfl vL_q521 vL_a521 r ws (fun _ => hI.1) (fun av v ws1 kp hz hf1 => ?_)
    exact ⟨hz, zgR1e_kp (d := 1) hI.2 (fun i hi f hr => by
        simp only [List.mem_cons, List.not_mem_nil, or_false] at hi
        rcases hi with rfl | rfl
        · exact zgL_row_bk kp (by decide) (by decide) hr
        · exact zgL_row_bk kp (by decide) (by decide) hr) (zgL_fs_bk (by decide) hf1) (by decide) (by decide) (by decide) (by decide)⟩
set_option maxRecDepth 1000000 in
theorem zgL_h1095 (C : zgL_cx p R s mi args meth c A ex nL own cc vLK 386 zx_mlw) (had : ad0.2 = []) (hf : zx_FOK l vwCl zx_Ts zx_nw zx_sts (zw_YK zx_Yt vLK false) zx_aos zx_PRt zx_rmt 386 vLf) {i0 : Nat} (hS : ∀ r, zx_SX b xs A s zx_mlw.2.1 (zgL_re L xs i0 ++ r)) (KE : ∀ (u : zx_Ou) (r : List Int) (ws' : va_W), zgL_is1 u = true → zg_ed p l e R s mi args below meth c Q D A b ex ad0 nL cc zx_mlw.2.2.2 (zx_mR zx_mlw.2.1) u (zgL_re L xs i0 ++ r) ws') (back : ∀ (r : List Int) (ws : va_W), zgL_Inv ws → zx_ev (zgL_re L xs i0 ++ r) ([(67, 1)], 0) = some ((i0 : Int) + 6) → zg_go p l e R s mi args below meth c Q D A b ex ad0 nL 23 vL_23 (zgL_re L xs i0 ++ r) ws) (hfee : zg_EN l 378 (zg_nf vER38) (fun _ ws => zx_PF ws) (fun _ _ _ _ => True)) (r : List Int) (ws : va_W) (hI : zgL_Inv ws) : zg_go p l e R s mi args below meth c Q D A b ex ad0 nL 1095 vL_h1095 (zgL_re L xs i0 ++ r) ws := by
    refine zgL_hand C had hf hS KE back (zg_EN_mono hfee (by decide)) (zgL_mem vL_m1095) rfl vL_q1095 vL_a1095 r ws (fun _ => hI.1) (fun av v ws1 kp hz hf1 => ?_)
    exact ⟨zgL_PF_bk kp (by decide) hI.1, zgR1e_kp (d := 1) hI.2 (fun i hi f hr => by
        simp only [List.mem_cons, List.not_mem_nil, or_false] at hi
        rcases hi with rfl | rfl
        · exact zgL_row_bk kp (by decide) (by decide) hr
        · exact zgL_row_bk kp (by decide) (by decide) hr) (zgL_fs_bk (by decide) hf1) (by decide) (by decide) (by decide) (by decide)⟩
set_option maxRecDepth 1000000 in
theorem zgL_h1144 (C : zgL_cx p R s mi args meth c A ex nL own cc vLK 386 zx_mlw) (had : ad0.2 = []) (hf : zx_FOK l vwCl zx_Ts zx_nw zx_sts (zw_YK zx_Yt vLK false) zx_aos zx_PRt zx_rmt 386 vLf) {i0 : Nat} (hS : ∀ r, zx_SX b xs A s zx_mlw.2.1 (zgL_re L xs i0 ++ r)) (KE : ∀ (u : zx_Ou) (r : List Int) (ws' : va_W), zgL_is1 u = true → zg_ed p l e R s mi args below meth c Q D A b ex ad0 nL cc zx_mlw.2.2.2 (zx_mR zx_mlw.2.1) u (zgL_re L xs i0 ++ r) ws') (back : ∀ (r : List Int) (ws : va_W), zgL_Inv ws → zx_ev (zgL_re L xs i0 ++ r) ([(67, 1)], 0) = some ((i0 : Int) + 6) → zg_go p l e R s mi args below meth c Q D A b ex ad0 nL 23 vL_23 (zgL_re L xs i0 ++ r) ws) (hpay : zg_EN l 378 (zg_nf vER39) (fun _ ws => zx_PF ws) (fun _ _ _ _ => True)) (r : List Int) (ws : va_W) (hI : zgL_Inv ws) : zg_go p l e R s mi args below meth c Q D A b ex ad0 nL 1144 vL_h1144 (zgL_re L xs i0 ++ r) ws := by
    refine zgL_hand C had hf hS KE back (zg_EN_mono hpay (by decide)) (zgL_mem vL_m1144) rfl vL_q1144 vL_a1144 r ws (fun _ => hI.1) (fun av v ws1 kp hz hf1 => ?_)
    exact ⟨zgL_PF_bk kp (by decide) hI.1, zgR1e_kp (d := 1) hI.2 (fun i hi f hr => by
        simp only [List.mem_cons, List.not_mem_nil, or_false] at hi
        rcases hi with rfl | rfl
        · exact zgL_row_bk kp (by decide) (by decide) hr
        · exact zgL_row_bk kp (by decide) (by decide) hr) (zgL_fs_bk (by decide) hf1) (by decide) (by decide) (by decide) (by decide)⟩
set_option maxRecDepth 1000000 in
theorem zgL_h1279 (C : zgL_cx p R s mi args meth c A ex nL own cc vLK 386 zx_mlw) (had : ad0.2 = []) (hf : zx_FOK l vwCl zx_Ts zx_nw zx_sts (zw_YK zx_Yt vLK false) zx_aos zx_PRt zx_rmt 386 vLf) {i0 : Nat} (hS : ∀ r, zx_SX b xs A s zx_mlw.2.1 (zgL_re L xs i0 ++ r)) (KE : ∀ (u : zx_Ou) (r : List Int) (ws' : va_W), zgL_is1 u = true → zg_ed p l e R s mi args below meth c Q D A b ex ad0 nL cc zx_mlw.2.2.2 (zx_mR zx_mlw.2.1) u (zgL_re L xs i0 ++ r) ws') (back : ∀ (r : List Int) (ws : va_W), zgL_Inv ws → zx_ev (zgL_re L xs i0 ++ r) ([(67, 1)], 0) = some ((i0 : Int) + 6) → zg_go p l e R s mi args below meth c Q D A b ex ad0 nL 23 vL_23 (zgL_re L xs i0 ++ r) ws) (hharm : zg_EN l 378 (zg_nf vER44) (fun _ ws => zx_PF ws) (fun _ _ _ _ => True)) (r : List Int) (ws : va_W) (hI : zgL_Inv ws) : zg_go p l e R s mi args below meth c Q D A b ex ad0 nL 1279 vL_h1279 (zgL_re L xs i0 ++ r) ws := by
    refine zgL_hand C had hf hS KE back (zg_EN_mono hharm (by decide)) (zgL_mem vL_m1279) rfl vL_q1279 vL_a1279 r ws (fun _ => hI.1) (fun av v ws1 kp hz hf1 => ?_)
    exact ⟨zgL_PF_bk kp (by decide) hI.1, zgR1e_kp (d := 1) hI.2 (fun i hi f hr => by
        simp only [List.mem_cons, List.not_mem_nil, or_false] at hi
        rcases hi with rfl | rfl
        · exact zgL_row_bk kp (by decide) (by decide) hr
        · exact zgL_row_bk kp (by decide) (by decide) hr) (zgL_fs_bk (by decide) hf1) (by decide) (by decide) (by decide) (by decide)⟩
set_option maxRecDepth 1000000 in
theorem zgL_h1316 (C : zgL_cx p R s mi args meth c A ex nL own cc vLK 386 zx_mlw) (had : ad0.2 = []) (hf : zx_FOK l vwCl zx_Ts zx_nw zx_sts (zw_YK zx_Yt vLK false) zx_aos zx_PRt zx_rmt 386 vLf) {i0 : Nat} (hS : ∀ r, zx_SX b xs A s zx_mlw.2.1 (zgL_re L xs i0 ++ r)) (KE : ∀ (u : zx_Ou) (r : List Int) (ws' : va_W), zgL_is1 u = true → zg_ed p l e R s mi args below meth c Q D A b ex ad0 nL cc zx_mlw.2.2.2 (zx_mR zx_mlw.2.1) u (zgL_re L xs i0 ++ r) ws') (back : ∀ (r : List Int) (ws : va_W), zgL_Inv ws → zx_ev (zgL_re L xs i0 ++ r) ([(67, 1)], 0) = some ((i0 : Int) + 6) → zg_go p l e R s mi args below meth c Q D A b ex ad0 nL 23 vL_23 (zgL_re L xs i0 ++ r) ws) (hinstead : zg_EN l 378 (zg_nf vER45) (fun _ ws => zx_PF ws) (fun _ _ _ _ => True)) (r : List Int) (ws : va_W) (hI : zgL_Inv ws) : zg_go p l e R s mi args below meth c Q D A b ex ad0 nL 1316 vL_h1316 (zgL_re L xs i0 ++ r) ws := by
    refine zgL_hand C had hf hS KE back (zg_EN_mono hinstead (by decide)) (zgL_mem vL_m1316) rfl vL_q1316 vL_a1316 r ws (fun _ => hI.1) (fun av v ws1 kp hz hf1 => ?_)
    exact ⟨zgL_PF_bk kp (by decide) hI.1, zgR1e_kp (d := 1) hI.2 (fun i hi f hr => by
        simp only [List.mem_cons, List.not_mem_nil, or_false] at hi
        rcases hi with rfl | rfl
        · exact zgL_row_bk kp (by decide) (by decide) hr
        · exact zgL_row_bk kp (by decide) (by decide) hr) (zgL_fs_bk (by decide) hf1) (by decide) (by decide) (by decide) (by decide)⟩
set_option maxRecDepth 1000000 in
theorem zgL_h1365 (C : zgL_cx p R s mi args meth c A ex nL own cc vLK 386 zx_mlw) (had : ad0.2 = []) (hf : zx_FOK l vwCl zx_Ts zx_nw zx_sts (zw_YK zx_Yt vLK false) zx_aos zx_PRt zx_rmt 386 vLf) {i0 : Nat} (hS : ∀ r, zx_SX b xs A s zx_mlw.2.1 (zgL_re L xs i0 ++ r)) (KE : ∀ (u : zx_Ou) (r : List Int) (ws' : va_W), zgL_is1 u = true → zg_ed p l e R s mi args below meth c Q D A b ex ad0 nL cc zx_mlw.2.2.2 (zx_mR zx_mlw.2.1) u (zgL_re L xs i0 ++ r) ws') (back : ∀ (r : List Int) (ws : va_W), zgL_Inv ws → zx_ev (zgL_re L xs i0 ++ r) ([(67, 1)], 0) = some ((i0 : Int) + 6) → zg_go p l e R s mi args below meth c Q D A b ex ad0 nL 23 vL_23 (zgL_re L xs i0 ++ r) ws) (hlay : zg_EN l 378 (zg_lw 24 vER48) (fun _ _ => True) (fun _ _ _ ws => zgR1e ws)) (r : List Int) (ws : va_W) (hI : zgL_Inv ws) : zg_go p l e R s mi args below meth c Q D A b ex ad0 nL 1365 vL_h1365 (zgL_re L xs i0 ++ r) ws := by
    refine zgL_hand C had hf hS KE back (zg_EN_mono hlay (by decide)) (zgL_mem vL_m1365) rfl vL_q1365 vL_a1365 r ws (fun _ => trivial) (fun av v ws1 kp hz hf1 => ?_)
    exact ⟨zgL_PF_bk kp (by decide) hI.1, hz⟩
set_option maxRecDepth 1000000 in
theorem zgL_h1403 (C : zgL_cx p R s mi args meth c A ex nL own cc vLK 386 zx_mlw) (had : ad0.2 = []) (hf : zx_FOK l vwCl zx_Ts zx_nw zx_sts (zw_YK zx_Yt vLK false) zx_aos zx_PRt zx_rmt 386 vLf) {i0 : Nat} (hS : ∀ r, zx_SX b xs A s zx_mlw.2.1 (zgL_re L xs i0 ++ r)) (KE : ∀ (u : zx_Ou) (r : List Int) (ws' : va_W), zgL_is1 u = true → zg_ed p l e R s mi args below meth c Q D A b ex ad0 nL cc zx_mlw.2.2.2 (zx_mR zx_mlw.2.1) u (zgL_re L xs i0 ++ r) ws') (back : ∀ (r : List Int) (ws : va_W), zgL_Inv ws → zx_ev (zgL_re L xs i0 ++ r) ([(67, 1)], 0) = some ((i0 : Int) + 6) → zg_go p l e R s mi args below meth c Q D A b ex ad0 nL 23 vL_23 (zgL_re L xs i0 ++ r) ws) (r : List Int) (ws : va_W) (hI : zgL_Inv ws) : zg_go p l e R s mi args below meth c Q D A b ex ad0 nL 1403 vL_h1403 (zgL_re L xs i0 ++ r) ws := by
    refine zgL_hand C had hf hS KE back (zg_EN_mono vGkeep_ok (by decide)) (zgL_mem vL_m1403) rfl vL_q1403 vL_a1403 r ws (fun _ => ⟨hI.1, zgR1e_1 hI.2⟩) (fun av v ws1 kp hz hf1 => ?_)
    exact ⟨hz, zgR1e_kp (d := 1) hI.2 (fun i hi f hr => by
        simp only [List.mem_cons, List.not_mem_nil, or_false] at hi
        rcases hi with rfl | rfl
        · exact zgL_row_bk kp (by decide) (by decide) hr
        · exact zgL_row_bk kp (by decide) (by decide) hr) (zgL_fs_bk (by decide) hf1) (by decide) (by decide) (by decide) (by decide)⟩
set_option maxRecDepth 1000000 in
/-- the loop; what is by hand elsewhere is given -/
theorem zgL_loop (C : zgL_cx p R s mi args meth c A ex nL own cc vLK 386 zx_mlw) (had : ad0.2 = []) (hf : zx_FOK l vwCl zx_Ts zx_nw zx_sts (zw_YK zx_Yt vLK false) zx_aos zx_PRt zx_rmt 386 vLf) (hS : ∀ (i0 : Nat) (r : List Int), zx_SX b xs A s zx_mlw.2.1 (zgL_re L xs i0 ++ r)) (KE : ∀ (u : zx_Ou) (ρ : List Int) (ws' : va_W), zgL_is1 u = true → zg_ed p l e R s mi args below meth c Q D A b ex ad0 nL cc zx_mlw.2.2.2 (zx_mR zx_mlw.2.1) u ρ ws')
    (hfee : zg_EN l 378 (zg_nf vER38) (fun _ ws => zx_PF ws) (fun _ _ _ _ => True)) (hpay : zg_EN l 378 (zg_nf vER39) (fun _ ws => zx_PF ws) (fun _ _ _ _ => True)) (hharm : zg_EN l 378 (zg_nf vER44) (fun _ ws => zx_PF ws) (fun _ _ _ _ => True)) (hinstead : zg_EN l 378 (zg_nf vER45) (fun _ ws => zx_PF ws) (fun _ _ _ _ => True)) (hlay : zg_EN l 378 (zg_lw 24 vER48) (fun _ _ => True) (fun _ _ _ ws => zgR1e ws))
    {N0 : Nat} (htold : ∀ (i0 : Nat) (r : List Int) (ws : va_W), L + 6 - i0 ≤ N0 → zgL_Inv ws → zg_go p l e R s mi args below meth c Q D A b ex ad0 nL 917 vL_h917 (zgL_re L xs i0 ++ r) ws) :
    ∀ N : Nat, N ≤ N0 → ∀ (i0 : Nat) (r : List Int) (ws : va_W), zgL_Inv ws → L + 6 - i0 ≤ N → zg_go p l e R s mi args below meth c Q D A b ex ad0 nL 23 vL_st (zgL_re L xs i0 ++ r) ws := by
  intro N
  induction N using Nat.strongRecOn with
  | ind N ih =>
  intro hN0 i0 r ws hI0 hN
  have back : ∀ (r : List Int) (ws : va_W), zgL_Inv ws → zx_ev (zgL_re L xs i0 ++ r) ([(67, 1)], 0) = some ((i0 : Int) + 6) → zg_go p l e R s mi args below meth c Q D A b ex ad0 nL 23 vL_23 (zgL_re L xs i0 ++ r) ws := fun r ws hI hy => zgL_back (fun r2 ws hI2 h6 => ih (L + 6 - (i0 + 6)) (by omega) (by omega) (i0 + 6) r2 ws hI2 (Nat.le_refl _)) r ws hI hy
  have KE' := fun (u : zx_Ou) (r : List Int) (ws' : va_W) (hu : zgL_is1 u = true) => KE u (zgL_re L xs i0 ++ r) ws' hu
  have hc168 : ∀ (r : List Int) (ws : va_W), zgL_Inv ws → zg_go p l e R s mi args below meth c Q D A b ex ad0 nL 168 vL_cs (zgL_re L xs i0 ++ r) ws :=
    fun r ws hI => zgL_case C had hf (hS i0) KE' back (fun t ht => Or.inl (List.mem_singleton.mp ht)) vL_k168 r ws hI
  have hc241 : ∀ (r : List Int) (ws : va_W), zgL_Inv ws → zg_go p l e R s mi args below meth c Q D A b ex ad0 nL 241 vL_cs (zgL_re L xs i0 ++ r) ws :=
    fun r ws hI => zgL_case C had hf (hS i0) KE' back (fun t ht => Or.inl (List.mem_singleton.mp ht)) vL_k241 r ws hI
  have hc266 : ∀ (r : List Int) (ws : va_W), zgL_Inv ws → zg_go p l e R s mi args below meth c Q D A b ex ad0 nL 266 vL_cs (zgL_re L xs i0 ++ r) ws :=
    fun r ws hI => zgL_case C had hf (hS i0) KE' back (fun t ht => Or.inl (List.mem_singleton.mp ht)) vL_k266 r ws hI
  have hc291 : ∀ (r : List Int) (ws : va_W), zgL_Inv ws → zg_go p l e R s mi args below meth c Q D A b ex ad0 nL 291 vL_cs (zgL_re L xs i0 ++ r) ws :=
    fun r ws hI => zgL_case C had hf (hS i0) KE' back (fun t ht => by
      rw [List.mem_singleton] at ht
      subst ht
      exact Or.inr ⟨rfl, (fun r ws hI => zgL_h361 C had hf (hS i0) KE' back r ws hI)⟩) vL_k291x r ws hI
  have hc368 : ∀ (r : List Int) (ws : va_W), zgL_Inv ws → zg_go p l e R s mi args below meth c Q D A b ex ad0 nL 368 vL_cs (zgL_re L xs i0 ++ r) ws :=
    fun r ws hI => zgL_case C had hf (hS i0) KE' back (fun t ht => by
      unfold vL_n368 at ht
      simp only [List.mem_cons, List.not_mem_nil, or_false] at ht
      rcases ht with h | h | h | h | h | h | h | h
      · subst h
        exact Or.inr ⟨rfl, (fun r ws hI => zgL_h409 C had hf (hS i0) KE' back r ws hI)⟩
      · subst h
        exact Or.inr ⟨rfl, (fun r ws hI => zgL_case C had hf (hS i0) KE' back (fun t ht => Or.inl (List.mem_singleton.mp ht)) vL_s409_0 r ws hI)⟩
      · subst h
        exact Or.inr ⟨rfl, (fun r ws hI => zgL_case C had hf (hS i0) KE' back (fun t ht => Or.inl (List.mem_singleton.mp ht)) vL_s409_1 r ws hI)⟩
      · subst h
        exact Or.inr ⟨rfl, (fun r ws hI => zgL_case C had hf (hS i0) KE' back (fun t ht => Or.inl (List.mem_singleton.mp ht)) vL_s409_2 r ws hI)⟩
      · subst h
        exact Or.inr ⟨rfl, (fun r ws hI => zgL_case C had hf (hS i0) KE' back (fun t ht => Or.inl (List.mem_singleton.mp ht)) vL_s409_3 r ws hI)⟩
      · subst h
        exact Or.inr ⟨rfl, (fun r ws hI => zgL_case C had hf (hS i0) KE' back (fun t ht => Or.inl (List.mem_singleton.mp ht)) vL_s409_4 r ws hI)⟩
      · subst h
        exact Or.inr ⟨rfl, (fun r ws hI => zgL_case C had hf (hS i0) KE' back (fun t ht => Or.inl (List.mem_singleton.mp ht)) vL_s409_5 r ws hI)⟩
      · subst h
        exact Or.inr ⟨rfl, (fun r ws hI => zgL_case C had hf (hS i0) KE' back (fun t ht => Or.inl (List.mem_singleton.mp ht)) vL_s409_6 r ws hI)⟩) vL_k368 r ws hI
  have hc417 : ∀ (r : List Int) (ws : va_W), zgL_Inv ws → zg_go p l e R s mi args below meth c Q D A b ex ad0 nL 417 vL_cs (zgL_re L xs i0 ++ r) ws :=
    fun r ws hI => zgL_case C had hf (hS i0) KE' back (fun t ht => Or.inl (List.mem_singleton.mp ht)) vL_k417 r ws hI
  have hc466 : ∀ (r : List Int) (ws : va_W), zgL_Inv ws → zg_go p l e R s mi args below meth c Q D A b ex ad0 nL 466 vL_cs (zgL_re L xs i0 ++ r) ws :=
    fun r ws hI => zgL_case C had hf (hS i0) KE' back (fun t ht => Or.inl (List.mem_singleton.mp ht)) vL_k466 r ws hI
  have hc503 : ∀ (r : List Int) (ws : va_W), zgL_Inv ws → zg_go p l e R s mi args below meth c Q D A b ex ad0 nL 503 vL_cs (zgL_re L xs i0 ++ r) ws :=
    fun r ws hI => zgL_case C had hf (hS i0) KE' back (fun t ht => by
      rw [List.mem_singleton] at ht
      subst ht
      exact Or.inr ⟨rfl, (fun r ws hI => zgL_h521 C had hf (hS i0) KE' back r ws hI)⟩) vL_k503 r ws hI
  have hc528 : ∀ (r : List Int) (ws : va_W), zgL_Inv ws → zg_go p l e R s mi args below meth c Q D A b ex ad0 nL 528 vL_cs (zgL_re L xs i0 ++ r) ws :=
    fun r ws hI => zgL_case C had hf (hS i0) KE' back (fun t ht => Or.inl (List.mem_singleton.mp ht)) vL_k528 r ws hI
  have hc541 : ∀ (r : List Int) (ws : va_W), zgL_Inv ws → zg_go p l e R s mi args below meth c Q D A b ex ad0 nL 541 vL_cs (zgL_re L xs i0 ++ r) ws :=
    fun r ws hI => zgL_case C had hf (hS i0) KE' back (fun t ht => Or.inl (List.mem_singleton.mp ht)) vL_k541 r ws hI
  have hc602 : ∀ (r : List Int) (ws : va_W), zgL_Inv ws → zg_go p l e R s mi args below meth c Q D A b ex ad0 nL 602 vL_cs (zgL_re L xs i0 ++ r) ws :=
    fun r ws hI => zgL_case C had hf (hS i0) KE' back (fun t ht => Or.inl (List.mem_singleton.mp ht)) vL_k602 r ws hI
  have hm712 : ∀ (r : List Int) (ws : va_W), zgL_Inv ws → zg_go p l e R s mi args below meth c Q D A b ex ad0 nL 712 vL_cs (zgL_re L xs i0 ++ r) ws :=
    fun r ws hI => zgL_case C had hf (hS i0) KE' back (fun t ht => Or.inl (List.mem_singleton.mp ht)) vL_m712 r ws hI
  have hc675 : ∀ (r : List Int) (ws : va_W), zgL_Inv ws → zg_go p l e R s mi args below meth c Q D A b ex ad0 nL 675 vL_cs (zgL_re L xs i0 ++ r) ws :=
    fun r ws hI => zgL_case C had hf (hS i0) KE' back (fun t ht => by
      rw [List.mem_singleton] at ht
      subst ht
      exact Or.inr ⟨rfl, hm712⟩) vL_k675 r ws hI
  have hm775 : ∀ (r : List Int) (ws : va_W), zgL_Inv ws → zg_go p l e R s mi args below meth c Q D A b ex ad0 nL 775 vL_cs (zgL_re L xs i0 ++ r) ws :=
    fun r ws hI => zgL_case C had hf (hS i0) KE' back (fun t ht => Or.inl (List.mem_singleton.mp ht)) vL_m775 r ws hI
  have hc752 : ∀ (r : List Int) (ws : va_W), zgL_Inv ws → zg_go p l e R s mi args below meth c Q D A b ex ad0 nL 752 vL_cs (zgL_re L xs i0 ++ r) ws :=
    fun r ws hI => zgL_case C had hf (hS i0) KE' back (fun t ht => by
      rw [List.mem_singleton] at ht
      subst ht
      exact Or.inr ⟨rfl, hm775⟩) vL_k752 r ws hI
  have hm838 : ∀ (r : List Int) (ws : va_W), zgL_Inv ws → zg_go p l e R s mi args below meth c Q D A b ex ad0 nL 838 vL_cs (zgL_re L xs i0 ++ r) ws :=
    fun r ws hI => zgL_case C had hf (hS i0) KE' back (fun t ht => Or.inl (List.mem_singleton.mp ht)) vL_m838 r ws hI
  have hc801 : ∀ (r : List Int) (ws : va_W), zgL_Inv ws → zg_go p l e R s mi args below meth c Q D A b ex ad0 nL 801 vL_cs (zgL_re L xs i0 ++ r) ws :=
    fun r ws hI => zgL_case C had hf (hS i0) KE' back (fun t ht => by
      rw [List.mem_singleton] at ht
      subst ht
      exact Or.inr ⟨rfl, hm838⟩) vL_k801 r ws hI
  have hm889 : ∀ (r : List Int) (ws : va_W), zgL_Inv ws → zg_go p l e R s mi args below meth c Q D A b ex ad0 nL 889 vL_cs (zgL_re L xs i0 ++ r) ws :=
    fun r ws hI => zgL_case C had hf (hS i0) KE' back (fun t ht => Or.inl (List.mem_singleton.mp ht)) vL_m889 r ws hI
  have hc878 : ∀ (r : List Int) (ws : va_W), zgL_Inv ws → zg_go p l e R s mi args below meth c Q D A b ex ad0 nL 878 vL_cs (zgL_re L xs i0 ++ r) ws :=
    fun r ws hI => zgL_case C had hf (hS i0) KE' back (fun t ht => by
      rw [List.mem_singleton] at ht
      subst ht
      exact Or.inr ⟨rfl, hm889⟩) vL_k878 r ws hI
  have hc903 : ∀ (r : List Int) (ws : va_W), zgL_Inv ws → zg_go p l e R s mi args below meth c Q D A b ex ad0 nL 903 vL_cs (zgL_re L xs i0 ++ r) ws :=
    fun r ws hI => zgL_case C had hf (hS i0) KE' back (fun t ht => by
      rw [List.mem_singleton] at ht
      subst ht
      exact Or.inr ⟨rfl, fun r ws hI => htold i0 r ws (by omega) hI⟩) vL_k903 r ws hI
  have hm972 : ∀ (r : List Int) (ws : va_W), zgL_Inv ws → zg_go p l e R s mi args below meth c Q D A b ex ad0 nL 972 vL_cs (zgL_re L xs i0 ++ r) ws :=
    fun r ws hI => zgL_case C had hf (hS i0) KE' back (fun t ht => Or.inl (List.mem_singleton.mp ht)) vL_m972 r ws hI
  have hc943 : ∀ (r : List Int) (ws : va_W), zgL_Inv ws → zg_go p l e R s mi args below meth c Q D A b ex ad0 nL 943 vL_cs (zgL_re L xs i0 ++ r) ws :=
    fun r ws hI => zgL_case C had hf (hS i0) KE' back (fun t ht => by
      rw [List.mem_singleton] at ht
      subst ht
      exact Or.inr ⟨rfl, hm972⟩) vL_k943 r ws hI
  have hm1027 : ∀ (r : List Int) (ws : va_W), zgL_Inv ws → zg_go p l e R s mi args below meth c Q D A b ex ad0 nL 1027 vL_cs (zgL_re L xs i0 ++ r) ws :=
    fun r ws hI => zgL_case C had hf (hS i0) KE' back (fun t ht => Or.inl (List.mem_singleton.mp ht)) vL_m1027 r ws hI
  have hc1004 : ∀ (r : List Int) (ws : va_W), zgL_Inv ws → zg_go p l e R s mi args below meth c Q D A b ex ad0 nL 1004 vL_cs (zgL_re L xs i0 ++ r) ws :=
    fun r ws hI => zgL_case C had hf (hS i0) KE' back (fun t ht => by
      rw [List.mem_singleton] at ht
      subst ht
      exact Or.inr ⟨rfl, hm1027⟩) vL_k1004 r ws hI
  have hc1053 : ∀ (r : List Int) (ws : va_W), zgL_Inv ws → zg_go p l e R s mi args below meth c Q D A b ex ad0 nL 1053 vL_cs (zgL_re L xs i0 ++ r) ws :=
    fun r ws hI => zgL_case C had hf (hS i0) KE' back (fun t ht => by
      rw [List.mem_singleton] at ht
      subst ht
      exact Or.inr ⟨rfl, (fun r ws hI => zgL_h1095 C had hf (hS i0) KE' back hfee r ws hI)⟩) vL_k1053 r ws hI
  have hc1102 : ∀ (r : List Int) (ws : va_W), zgL_Inv ws → zg_go p l e R s mi args below meth c Q D A b ex ad0 nL 1102 vL_cs (zgL_re L xs i0 ++ r) ws :=
    fun r ws hI => zgL_case C had hf (hS i0) KE' back (fun t ht => by
      rw [List.mem_singleton] at ht
      subst ht
      exact Or.inr ⟨rfl, (fun r ws hI => zgL_h1144 C had hf (hS i0) KE' back hpay r ws hI)⟩) vL_k1102 r ws hI
  have hm1168 : ∀ (r : List Int) (ws : va_W), zgL_Inv ws → zg_go p l e R s mi args below meth c Q D A b ex ad0 nL 1168 vL_cs (zgL_re L xs i0 ++ r) ws :=
    fun r ws hI => zgL_case C had hf (hS i0) KE' back (fun t ht => Or.inl (List.mem_singleton.mp ht)) vL_m1168 r ws hI
  have hc1151 : ∀ (r : List Int) (ws : va_W), zgL_Inv ws → zg_go p l e R s mi args below meth c Q D A b ex ad0 nL 1151 vL_cs (zgL_re L xs i0 ++ r) ws :=
    fun r ws hI => zgL_case C had hf (hS i0) KE' back (fun t ht => by
      rw [List.mem_singleton] at ht
      subst ht
      exact Or.inr ⟨rfl, hm1168⟩) vL_k1151 r ws hI
  have hm1211 : ∀ (r : List Int) (ws : va_W), zgL_Inv ws → zg_go p l e R s mi args below meth c Q D A b ex ad0 nL 1211 vL_cs (zgL_re L xs i0 ++ r) ws :=
    fun r ws hI => zgL_case C had hf (hS i0) KE' back (fun t ht => Or.inl (List.mem_singleton.mp ht)) vL_m1211 r ws hI
  have hc1188 : ∀ (r : List Int) (ws : va_W), zgL_Inv ws → zg_go p l e R s mi args below meth c Q D A b ex ad0 nL 1188 vL_cs (zgL_re L xs i0 ++ r) ws :=
    fun r ws hI => zgL_case C had hf (hS i0) KE' back (fun t ht => by
      rw [List.mem_singleton] at ht
      subst ht
      exact Or.inr ⟨rfl, hm1211⟩) vL_k1188 r ws hI
  have hc1237 : ∀ (r : List Int) (ws : va_W), zgL_Inv ws → zg_go p l e R s mi args below meth c Q D A b ex ad0 nL 1237 vL_cs (zgL_re L xs i0 ++ r) ws :=
    fun r ws hI => zgL_case C had hf (hS i0) KE' back (fun t ht => by
      rw [List.mem_singleton] at ht
      subst ht
      exact Or.inr ⟨rfl, (fun r ws hI => zgL_h1279 C had hf (hS i0) KE' back hharm r ws hI)⟩) vL_k1237 r ws hI
  have hc1286 : ∀ (r : List Int) (ws : va_W), zgL_Inv ws → zg_go p l e R s mi args below meth c Q D A b ex ad0 nL 1286 vL_cs (zgL_re L xs i0 ++ r) ws :=
    fun r ws hI => zgL_case C had hf (hS i0) KE' back (fun t ht => by
      rw [List.mem_singleton] at ht
      subst ht
      exact Or.inr ⟨rfl, (fun r ws hI => zgL_h1316 C had hf (hS i0) KE' back hinstead r ws hI)⟩) vL_k1286 r ws hI
  have hc1323 : ∀ (r : List Int) (ws : va_W), zgL_Inv ws → zg_go p l e R s mi args below meth c Q D A b ex ad0 nL 1323 vL_cs (zgL_re L xs i0 ++ r) ws :=
    fun r ws hI => zgL_case C had hf (hS i0) KE' back (fun t ht => by
      rw [List.mem_singleton] at ht
      subst ht
      exact Or.inr ⟨rfl, (fun r ws hI => zgL_h1365 C had hf (hS i0) KE' back hlay r ws hI)⟩) vL_k1323 r ws hI
  have hm1383 : ∀ (r : List Int) (ws : va_W), zgL_Inv ws → zg_go p l e R s mi args below meth c Q D A b ex ad0 nL 1383 vL_cs (zgL_re L xs i0 ++ r) ws :=
    fun r ws hI => zgL_case C had hf (hS i0) KE' back (fun t ht => Or.inl (List.mem_singleton.mp ht)) vL_m1383 r ws hI
  have hc1372 : ∀ (r : List Int) (ws : va_W), zgL_Inv ws → zg_go p l e R s mi args below meth c Q D A b ex ad0 nL 1372 vL_cs (zgL_re L xs i0 ++ r) ws :=
    fun r ws hI => zgL_case C had hf (hS i0) KE' back (fun t ht => by
      rw [List.mem_singleton] at ht
      subst ht
      exact Or.inr ⟨rfl, hm1383⟩) vL_k1372 r ws hI
  have hc1397 : ∀ (r : List Int) (ws : va_W), zgL_Inv ws → zg_go p l e R s mi args below meth c Q D A b ex ad0 nL 1397 vL_cs (zgL_re L xs i0 ++ r) ws :=
    fun r ws hI => zgL_case C had hf (hS i0) KE' back (fun t ht => by
      rw [List.mem_singleton] at ht
      subst ht
      exact Or.inr ⟨rfl, (fun r ws hI => zgL_h1403 C had hf (hS i0) KE' back r ws hI)⟩) vL_k1397 r ws hI
  have hm1421 : ∀ (r : List Int) (ws : va_W), zgL_Inv ws → zg_go p l e R s mi args below meth c Q D A b ex ad0 nL 1421 vL_cs (zgL_re L xs i0 ++ r) ws :=
    fun r ws hI => zgL_case C had hf (hS i0) KE' back (fun t ht => Or.inl (List.mem_singleton.mp ht)) vL_m1421 r ws hI
  have hc1410 : ∀ (r : List Int) (ws : va_W), zgL_Inv ws → zg_go p l e R s mi args below meth c Q D A b ex ad0 nL 1410 vL_cs (zgL_re L xs i0 ++ r) ws :=
    fun r ws hI => zgL_case C had hf (hS i0) KE' back (fun t ht => by
      rw [List.mem_singleton] at ht
      subst ht
      exact Or.inr ⟨rfl, hm1421⟩) vL_k1410 r ws hI
  refine zgL_case C had hf (hS i0) KE' back (pc := 23) (T := vL_st) (fun t ht => ?_) vL_c23 r ws hI0
  unfold vL_nd0 at ht
  simp only [List.mem_cons, List.not_mem_nil, or_false] at ht
  rcases ht with h | h | h | h | h | h | h | h | h | h | h | h | h | h | h | h | h | h | h | h | h | h | h | h | h | h | h | h | h
  · subst h
    exact Or.inr ⟨rfl, hc168⟩
  · subst h
    exact Or.inr ⟨rfl, hc241⟩
  · subst h
    exact Or.inr ⟨rfl, hc266⟩
  · subst h
    exact Or.inr ⟨rfl, hc291⟩
  · subst h
    exact Or.inr ⟨rfl, hc368⟩
  · subst h
    exact Or.inr ⟨rfl, hc417⟩
  · subst h
    exact Or.inr ⟨rfl, hc466⟩
  · subst h
    exact Or.inr ⟨rfl, hc503⟩
  · subst h
    exact Or.inr ⟨rfl, hc528⟩
  · subst h
    exact Or.inr ⟨rfl, hc541⟩
  · subst h
    exact Or.inr ⟨rfl, hc602⟩
  · subst h
    exact Or.inr ⟨rfl, hc675⟩
  · subst h
    exact Or.inr ⟨rfl, hc752⟩
  · subst h
    exact Or.inr ⟨rfl, hc801⟩
  · subst h
    exact Or.inr ⟨rfl, hc878⟩
  · subst h
    exact Or.inr ⟨rfl, hc903⟩
  · subst h
    exact Or.inr ⟨rfl, hc943⟩
  · subst h
    exact Or.inr ⟨rfl, hc1004⟩
  · subst h
    exact Or.inr ⟨rfl, hc1053⟩
  · subst h
    exact Or.inr ⟨rfl, hc1102⟩
  · subst h
    exact Or.inr ⟨rfl, hc1151⟩
  · subst h
    exact Or.inr ⟨rfl, hc1188⟩
  · subst h
    exact Or.inr ⟨rfl, hc1237⟩
  · subst h
    exact Or.inr ⟨rfl, hc1286⟩
  · subst h
    exact Or.inr ⟨rfl, hc1323⟩
  · subst h
    exact Or.inr ⟨rfl, hc1372⟩
  · subst h
    exact Or.inr ⟨rfl, hc1397⟩
  · subst h
    exact Or.inr ⟨rfl, hc1410⟩
  · exact Or.inl h
end ZGLOOP
end
