noncomputable section
/-! zm: the law's case of moves -/
theorem vnR40b {l : Launch} : vN l 27 vER40 := vGo (d := 18) (vOK_cons (vnR21) (by decide) (vOK_cons (vnR22) (by decide) (vOK_cons (vnR23) (by decide) vOK_nil))) (vYI _) vkR40
theorem zm_l3 {fs : List Value} {x0 x1 x2 : Value} (hl : fs.length = 3) (h0 : fs[0]? = some x0) (h1 : fs[1]? = some x1) (h2 : fs[2]? = some x2) : fs = [x0, x1, x2] := by
  refine List.ext_getElem? (fun n => ?_)
  match n with
  | 0 => exact h0
  | 1 => exact h1
  | 2 => exact h2
  | n + 3 =>
    rw [List.getElem?_eq_none (by omega), List.getElem?_eq_none (by simp only [List.length_cons, List.length_nil]; omega)]
theorem zm_av3 {b : Nat} {ex : List Nat} {ρ : List Int} {ws : va_W} {p : Nat} {e e2 : zx_L} {av : List Value} (h : zx_F2 (zx_R b ex ρ (zx_as ws)) [.inr (.inl ([64 + p], false)), .inl e, .inl e2] av) : ∃ (aO : Nat) (eO : va_E) (x y : Int32), ws[p]? = some (aO, eO) ∧ av = [.ref aO, .int x, .int y] ∧ zx_ev ρ e = some x.toInt ∧ zx_ev ρ e2 = some y.toInt := by
  rcases av with _ | ⟨x0, _ | ⟨x1, _ | ⟨x2, _ | ⟨x3, r⟩⟩⟩⟩
  · exact h.elim
  · exact h.2.elim
  · exact h.2.2.elim
  · obtain ⟨h0, ⟨w, h1, h2⟩, ⟨w2, h8, h9⟩, -⟩ := h
    rcases h0 with ⟨h3, -⟩ | ⟨i, a, h4, h5, h6⟩
    · cases h3
    · have h4 : i = 64 + p := List.mem_singleton.mp h4
      rw [h4, zx_ad, if_neg (by omega), show 64 + p - 64 = p by omega] at h5
      obtain ⟨eO, h7⟩ := zj_adw h5
      exact ⟨a, eO, w, w2, h7, by rw [h6, h1, h8], h2, h9⟩
  · exact h.2.2.2.elim
/-- the constant rows, from the law's frame -/
theorem zm_ex_of {p : Program} {R : Room} {s : State} {mi : MethodId} {args : Array Value} {meth : Method} {c : Code} {A : Nat → Prop} {ex : List Nat} {nL : Nat} {own : String} {cc : ByteArray} {Kr : List Nat} {d : Nat} {md : zx_MD} (C : zgL_cx p R s mi args meth c A ex nL own cc Kr d md) : (∃ a, ex[1]? = some a) ∧ ∃ a, ex[2]? = some a := by
  obtain ⟨⟨hx, hb, hown, hts, hnw, hA, hR, hin, hnL, hCX, hao, hCK, hMK⟩, -⟩ := C
  have h1 : ∀ q ∈ zx_Yt.1, ∃ a, ex[q.1]? = some a := fun q hq => by
    obtain ⟨a, -, h, -⟩ := hCX.2 q hq
    exact ⟨a, h⟩
  exact ⟨h1 (1, [1, 2, 3, 0, 4, (-1), 0, (-1), (-1), 0, 4, (-1), 1, 3, (-1)]) (by decide), h1 (2, [1, 5, 25, 125]) (by decide)⟩
section ZML
variable {l : Launch} {b : Nat} {ex : List Nat} {ρ : List Int} {tys : List (ClassId × FieldType)} {h : List zx_C} {ws : va_W}
theorem zm_useC (hh : zx_F2 (fun c q => zx_RC vwCl b ex ρ (zx_as ws) tys c q.2) h ws) (hck : zm_ckC h = true) {a1 a2 : Nat} (hx1 : ex[1]? = some a1) (hx2 : ex[2]? = some a2) {aO : Nat} {eO : va_E} (hO : ws[0]? = some (aO, eO)) {x y : Int32} : ∃ (X : List Nat → List (ClassId × FieldType) → List Value → va_W → Prop) (Z0 : List Nat → List Value → va_W → Option Value → va_W → Prop), zj_W l 6 111 X Z0 ∧ X ex tys [.ref aO, .int x, .int y] ws ∧ ∀ v ws', Z0 ex [.ref aO, .int x, .int y] ws v ws' → ∃ a : Int32, v = some (.int a) ∧ a.toInt = zm_ans x y := by
  unfold zm_ckC at hck
  simp only [Bool.and_eq_true] at hck
  obtain ⟨⟨c1, c2⟩, ⟨c3, c4, c5, c6⟩, c7, c8⟩ := hck
  obtain ⟨aO', FO, h0, -⟩ := zj_o hh c1
  have eO' : aO' = aO := by rw [h0] at hO; cases hO; rfl
  subst eO'
  obtain ⟨aW, eW, hO5, pW⟩ := zj_s1 hh c2 h0
  obtain ⟨aW', FW, h195, hWl⟩ := zj_o hh c3
  have eW' : aW' = aW := by rw [h195] at pW; cases pW; rfl
  subst eW'
  obtain ⟨aS, eS, w0, pS⟩ := zj_s1 hh c4 h195
  obtain ⟨aN, eN, w1, pN⟩ := zj_s1 hh c5 h195
  obtain ⟨n0, w2⟩ := zj_sI hh c6 h195
  rw [zm_l3 hWl w0 w1 w2] at h195
  have hc : zm_C0 tys aW' aS aN ws := ⟨⟨n0, h195⟩, zj_r hh c7 (by decide) pS, zj_r hh c8 (by decide) pN⟩
  exact ⟨_, _, zm_movesC_W (l := l) (ex := ex) (x := x) (y := y) hx1 hx2 h0 hO5 hc, ⟨rfl, rfl, rfl, rfl⟩, fun v ws' hZ => hZ⟩
theorem zm_useM (hh : zx_F2 (fun c q => zx_RC vwCl b ex ρ (zx_as ws) tys c q.2) h ws) (hck : zm_ckM h = true) {aO : Nat} {eO : va_E} (hO : ws[218]? = some (aO, eO)) {x y : Int32} : ∃ (X : List Nat → List (ClassId × FieldType) → List Value → va_W → Prop) (Z0 : List Nat → List Value → va_W → Option Value → va_W → Prop), zj_W l 5 201 X Z0 ∧ X ex tys [.ref aO, .int x, .int y] ws ∧ ∀ v ws', Z0 ex [.ref aO, .int x, .int y] ws v ws' → ∃ a : Int32, v = some (.int a) ∧ a.toInt = zm_ansR x y := by
  unfold zm_ckM at hck
  simp only [Bool.and_eq_true] at hck
  obtain ⟨c1, ⟨c2, c3⟩, c4, c5⟩ := hck
  obtain ⟨aO', FO, h0, hl⟩ := zj_o hh c1
  have eO' : aO' = aO := by rw [h0] at hO; cases hO; rfl
  subst eO'
  obtain ⟨aY, eY, w0, pY⟩ := zj_s1 hh c2 h0
  obtain ⟨aZ, eZ, w1, pZ⟩ := zj_s1 hh c3 h0
  have hc : zm_cell aO' aY aZ ws := ⟨FO, h0, hl, w0, w1⟩
  exact ⟨_, _, zm_movesR_W (l := l) (ex := ex) (x := x) (y := y) hc (zj_r hh c4 (by decide) pY) (zj_r hh c5 (by decide) pZ), ⟨rfl, rfl, rfl, rfl⟩, fun v ws' hZ => hZ⟩
end ZML
section ZMJ
variable {p : Program} {l : Launch} {e : Env} {R : Room} {s : State} {mi : MethodId} {args : Array Value} {below : List Frame} {meth : Method} {c : Code} {Q : State → Prop} {D : va_G} {A : Nat → Prop} {b : Nat} {ex : List Nat} {ad0 : zx_A0} {nL : Nat} {own : String} {cc : ByteArray} {d : Nat} {xs : Nat → Int32} {L : Nat}
set_option linter.constructorNameAsVariable false in
set_option maxHeartbeats 4000000 in
set_option maxRecDepth 1000000 in
theorem zm_moves (C : zgL_cx p R s mi args meth c A ex nL own cc vLK 386 zx_mlw) (had : ad0.2 = []) (hf : zx_FOK l vwCl zx_Ts zx_nw zx_sts (zw_YK zx_Yt vLK false) zx_aos zx_PRt zx_rmt 386 vLf) {i0 : Nat} (hS : ∀ r, zx_SX b xs A s zx_mlw.2.1 (zgL_re L xs i0 ++ r)) (KE : ∀ (u : zx_Ou) (r : List Int) (ws' : va_W), zgL_is1 u = true → zg_ed p l e R s mi args below meth c Q D A b ex ad0 nL cc zx_mlw.2.2.2 (zx_mR zx_mlw.2.1) u (zgL_re L xs i0 ++ r) ws') (back : ∀ (r : List Int) (ws : va_W), zgL_Inv ws → zx_ev (zgL_re L xs i0 ++ r) ([(67, 1)], 0) = some ((i0 : Int) + 6) → zg_go p l e R s mi args below meth c Q D A b ex ad0 nL 23 vL_23 (zgL_re L xs i0 ++ r) ws) (r : List Int) (ws : va_W) (hI : zgL_Inv ws) : zg_go p l e R s mi args below meth c Q D A b ex ad0 nL 1151 vL_cs (zgL_re L xs i0 ++ r) ws := by
  have hK : ∀ K : List Nat, ∀ i ∈ ad0.2, i ∈ K := fun K i hi => by rw [had] at hi; cases hi
  have h7 : ∀ r, zx_ev (zgL_re L xs i0 ++ r) ([(7, 1)], 0) = some (i0 : Int) := fun r => by
    refine zx_ev_iff.mpr ⟨1 * (i0 : Int) + 0, zx_evl_cons.mpr ⟨(i0 : Int), 0, rfl, rfl, rfl⟩, ?_⟩
    show (i0 : Int) = 1 * (i0 : Int) + 0 + 0
    omega
  obtain ⟨⟨a1, hx1⟩, a2, hx2⟩ := zm_ex_of C
  refine zg_with (fun tys hG hh => ?_)
  refine zgL_run3 (m := 8) C (hK _) hf rfl hS hh vL_k1151 KE (fun t ht r1 ws1 kp1 hfs1 _ => ?_)
  rw [List.mem_singleton] at ht
  subst ht
  have hI1 : zgL_Inv ws1 := zgL_Inv_kp (d := 0) hI kp1 hfs1 (by decide) (by decide) (by decide) (by decide)
  refine zj_call5 (o := 0) (o2 := 218) (KK := vLK) (ZW := fun av v wsW => ∃ (a : Nat) (x y w : Int32), av = [.ref a, .int x, .int y] ∧ v = some (.int w) ∧ w.toInt = zm_ans x y) C hf (hK _) (hK _) rfl hS (zg_EN_mono (zg_of vnC113 rfl) (by decide)) (zm_memh vL_m1164) vL_a1164 vL_t1_l KE (fun _ _ => trivial) (fun tysW av hhW ha => ?_) (fun _ _ _ _ _ _ h _ => h) (fun _ _ _ _ _ _ _ _ _ _ _ _ _ _ _ h => h) (fun eu _ av w ws2 r2 _ ha kp2 _ hWW haw2 hfs2 he t2 ht2 r3 ws3 kp3 hfs3 hos3 => ?_)
  · rw [vL_s1164] at ha
    obtain ⟨aO, eO, x, y, hO, rfl, -, -⟩ := zm_av3 (p := 0) ha
    obtain ⟨XX, Z0, g1, g2, g3⟩ := zm_useC (l := l) (x := x) (y := y) hhW vL_t1_ck hx1 hx2 hO
    refine ⟨XX, Z0, zm_W_mono g1 (by decide), g2, fun v ws' hz => ?_⟩
    obtain ⟨w, k1, k2⟩ := g3 v ws' hz
    exact ⟨aO, x, y, w, rfl, k1, k2⟩
  rw [vL_s1164] at ha
  obtain ⟨aO, eO, x, y, hO, hav, ex2, ex3⟩ := zm_av3 (p := 0) ha
  obtain ⟨wsW, -, ⟨a', x', y', w', hav', hw', hans⟩, -⟩ := hWW
  rw [hav] at hav'
  cases hav'
  cases hw'
  have ht2 := List.mem_singleton.mp ht2
  subst ht2
  have hI2 : zgL_Inv ws2 := zgL_Inv_kp (d := 0) hI1 kp2 hfs2 (by decide) (by decide) (by decide) (by decide)
  have hfs3 : zg_fs (ws2.drop 218) (ws3.drop 218) [(98, (0, 0)), (99, (0, 0)), (100, (0, 0)), (6, (0, 0))] := hfs3
  have hI3 : zgL_Inv ws3 := zgL_Inv_kp (d := 0) hI2 kp3 hfs3 (by decide) (by decide) (by decide) (by decide)
  obtain ⟨y0, k1, k2, k3⟩ := hos3 (([(70, 1)], 0), (eu, (0, 0))) List.mem_cons_self _ he
  have k2 : w.toInt + 0 ≤ y0 := k2
  have k3 : y0 ≤ w.toInt + 0 := k3
  have ey : y0 = w.toInt := by omega
  subst ey
  refine zj_call5 (o := 218) (o2 := 218) (KK := vLK) (ZW := fun av v wsW => ∃ (a : Nat) (x y w : Int32), av = [.ref a, .int x, .int y] ∧ v = some (.int w) ∧ w.toInt = zm_ansR x y) C hf (hK _) (hK _) rfl hS (zg_EN_mono (zg_of vnR40b rfl) (by decide)) (zm_memh vL_m1180) vL_a1180 vL_t2_l KE (fun _ _ => trivial) (fun tysW av2 hhW ha2 => ?_) (fun eu2 av2 w2 r4 wsW2 ha2 he2 hz2 => ?_) (fun _ _ _ _ _ _ _ _ _ _ _ _ _ _ _ h => h) (fun eu2 _ av2 w2 ws4 r4 _ ha2 kp4 _ _ haw4 hfs4 he4 t4 ht4 r5 ws5 kp5 hfs5 hos5 => ?_)
  · rw [vL_s1180] at ha2
    obtain ⟨aM, eM, x2, y2, hM, rfl, -, -⟩ := zm_av3 (p := 218) ha2
    obtain ⟨XX, Z0, g1, g2, g3⟩ := zm_useM (l := l) (x := x2) (y := y2) hhW vL_t2_ck hM
    refine ⟨XX, Z0, zm_W_mono g1 (by decide), g2, fun v ws' hz => ?_⟩
    obtain ⟨w, j1, j2⟩ := g3 v ws' hz
    exact ⟨aM, x2, y2, w, rfl, j1, j2⟩
  · rw [vL_s1180] at ha2
    obtain ⟨aM, eM, x2, y2, hM, hav2, ey2, ey3⟩ := zm_av3 (p := 218) ha2
    obtain ⟨a'', x'', y'', w'', hav3, hw3, hans2⟩ := hz2
    rw [hav2] at hav3
    cases hav3
    cases hw3
    have exx : x = x2 := Int32.toInt_inj.mp (zm_ev_l (ρe := zgL_re L xs i0) (by show 2 < 8; decide) ex2 ey2)
    have eyy : y = y2 := Int32.toInt_inj.mp (zm_ev_l (ρe := zgL_re L xs i0) (by show 3 < 8; decide) ex3 ey3)
    subst exx
    subst eyy
    rw [hans2, ← zm_ans_eq, ← hans, ← List.append_assoc]
    exact zx_ev_app k1
  · have ht4 := List.mem_singleton.mp ht4
    subst ht4
    obtain ⟨y1, g1, g2, g3⟩ := hos5 (([(67, 1)], 0), (([(7, 1)], 0), (6, 6))) List.mem_cons_self _ (h7 _)
    have g2 : (i0 : Int) + 6 ≤ y1 := g2
    have g3 : y1 ≤ (i0 : Int) + 6 := g3
    have ey : y1 = (i0 : Int) + 6 := by omega
    rw [ey] at g1
    have hI4 : zgL_Inv ws4 := zgL_Inv_kp (d := 0) hI3 kp4 hfs4 (by decide) (by decide) (by decide) (by decide)
    exact back r5 ws5 (zgL_Inv_kp (d := 1) hI4 kp5 hfs5 (by decide) (by decide) (by decide) (by decide)) g1
end ZMJ
end
