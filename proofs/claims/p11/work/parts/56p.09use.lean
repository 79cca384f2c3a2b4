noncomputable section
/-! zl: how many roles each opera has, on both sides -/
def zr_of (ws : va_W) (i : Nat) (w : Int) : Prop := zg_fld (ws.drop i) 3 w
theorem zr_of_kp {ws ws' : va_W} {K : List Nat} (kp : zx_KP (ws, K) ws') {i : Nat} (hi : i ∈ K) {w : Int} (h : zr_of ws i w) : zr_of ws' i w := by
  obtain ⟨a, ci, fs, x, h1, h2, h3⟩ := h
  rw [List.getElem?_drop] at h1
  refine ⟨a, ci, fs, x, ?_, h2, h3⟩
  rw [List.getElem?_drop]
  exact kp.2 (i + 0) hi _ h1
def zr_KL : List Nat := [9, 16, 22, 28, 34, 40, 46, 52, 58, 64, 224]
theorem zr_mem : ∀ k : Nat, k < 9 → 16 + 6 * k ∈ zr_KL := by decide
def zr_R9 (ws : va_W) : Prop := ∃ (a : Nat) (cB : ClassId) (n : Nat) (g : Nat → Option Nat), ws[9]? = some (a, .inl (cB, n, .inr (.inr (.inr (.inr g))))) ∧ ∀ k : Nat, k < 9 → ∃ x, (zx_as ws)[16 + 6 * k]? = some x ∧ g k = some x
def zr_Rol (ws : va_W) : Prop := ∃ (f : Nat → Int32) (n : Int), zg_row ws 224 f ∧ zg_fld (ws.drop 218) 21 n ∧ ∀ k : Nat, k < 9 → (k : Int) < n → zr_of ws (16 + 6 * k) (f k).toInt
def zr_J (ws : va_W) : Prop := zr_R9 ws ∧ zr_Rol ws
theorem zr_R9_kp {ws ws' : va_W} {K : List Nat} (h : zr_R9 ws) (kp : zx_KP (ws, K) ws') (h9 : 9 ∈ K) : zr_R9 ws' := by
  obtain ⟨a, cB, n, g, h1, h2⟩ := h
  obtain ⟨⟨xt, hx⟩, hk⟩ := kp
  have hx : zx_as ws' = zx_as ws ++ xt := hx
  refine ⟨a, cB, n, g, hk 9 h9 _ h1, fun k hk9 => ?_⟩
  obtain ⟨x, e1, e2⟩ := h2 k hk9
  exact ⟨x, by rw [hx, List.getElem?_append_left (List.getElem?_eq_some_iff.mp e1).1]; exact e1, e2⟩
theorem zr_Rol_kp {ws ws' : va_W} {K : List Nat} {l : List (Nat × (Int × Int))} (h : zr_Rol ws) (kp : zx_KP (ws, K) ws') (hK : ∀ i ∈ zr_KL, i ∈ K) (hf : zg_fs (ws.drop 218) (ws'.drop 218) l) (m : (21, ((0 : Int), (0 : Int))) ∈ l) : zr_Rol ws' := by
  obtain ⟨f, n, h1, h2, h3⟩ := h
  exact ⟨f, n, zg_row_kp kp (hK 224 (by decide)) h1, zg_fs_0 hf m h2, fun k k9 kn => zr_of_kp kp (hK _ (zr_mem k k9)) (h3 k k9 kn)⟩
theorem zr_J_kp {ws ws' : va_W} {K : List Nat} {l : List (Nat × (Int × Int))} (h : zr_J ws) (kp : zx_KP (ws, K) ws') (hK : ∀ i ∈ zr_KL, i ∈ K) (hf : zg_fs (ws.drop 218) (ws'.drop 218) l) (m : (21, ((0 : Int), (0 : Int))) ∈ l) : zr_J ws' :=
  ⟨zr_R9_kp h.1 kp (hK 9 (by decide)), zr_Rol_kp h.2 kp hK hf m⟩
theorem zl_fi {ws : va_W} {i k a ci : Nat} {w : Int} {FO : List Value} (h0 : ws[i]? = some (a, .inr (ci, FO))) (h : zg_fld (ws.drop i) k w) : ∃ x : Int32, FO[k]? = some (.int x) ∧ x.toInt = w := by
  obtain ⟨a, ci, fs, x, g1, g2, g3⟩ := h
  rw [List.getElem?_drop] at g1
  have g1 : ws[i]? = _ := g1
  rw [h0] at g1
  cases g1
  exact ⟨x, g2, g3⟩
theorem zl_fld {ws : va_W} {i k a ci : Nat} {x : Int32} {FO : List Value} (h0 : ws[i]? = some (a, .inr (ci, FO))) (h : FO[k]? = some (.int x)) : zg_fld (ws.drop i) k x.toInt := ⟨a, ci, FO, x, by rw [List.getElem?_drop]; exact h0, h, rfl⟩
section ZLU
variable {l : Launch} {b : Nat} {ex : List Nat} {ρ : List Int} {tys : List (ClassId × FieldType)} {h : List zx_C} {ws : va_W}
/-- the object of one opera -/
theorem zl_obj (hh : zx_F2 (fun c q => zx_RC vwCl b ex ρ (zx_as ws) tys c q.2) h ws) {k : Nat} (hc : zo_cko h (80 + 6 * k) = true) : ∃ (a : Nat) (x0 x1 x2 x3 x4 : Int32), zo_O tys ws (16 + 6 * k) a x0 x1 x2 x3 x4 := by
  unfold zo_cko at hc
  rw [show (80 + 6 * k - 80) / 6 = k by omega] at hc
  simp only [Bool.and_eq_true] at hc
  obtain ⟨-, -, ⟨c3, ⟨d0, d1, d2, d3, d4⟩, d5, d6, d7, d8, d9⟩, e1, e2, e3, e4, e5⟩ := hc
  obtain ⟨a', fs, ho, hl⟩ := zj_o hh c3
  obtain ⟨x0, f0⟩ := zj_sI hh d0 ho
  obtain ⟨x1, f1⟩ := zj_sI hh d1 ho
  obtain ⟨x2, f2⟩ := zj_sI hh d2 ho
  obtain ⟨x3, f3⟩ := zj_sI hh d3 ho
  obtain ⟨x4, f4⟩ := zj_sI hh d4 ho
  obtain ⟨b5, y5, f5, p5⟩ := zj_s1 hh d5 ho
  obtain ⟨b6, y6, f6, p6⟩ := zj_s1 hh d6 ho
  obtain ⟨b7, y7, f7, p7⟩ := zj_s1 hh d7 ho
  obtain ⟨b8, y8, f8, p8⟩ := zj_s1 hh d8 ho
  obtain ⟨b9, y9, f9, p9⟩ := zj_s1 hh d9 ho
  rw [zo_l10 hl f0 f1 f2 f3 f4 f5 f6 f7 f8 f9] at ho
  exact ⟨a', x0, x1, x2, x3, x4, b5, b6, b7, b8, b9, ho, zj_r hh e1 (by decide) p5, zj_r hh e2 (by decide) p6, zj_r hh e3 (by decide) p7, zj_r hh e4 (by decide) p8, zj_r hh e5 (by decide) p9⟩
/-- row 9: the objects in their order -/
theorem zl_row9 (hh : zx_F2 (fun c q => zx_RC vwCl b ex ρ (zx_as ws) tys c q.2) h ws) (hq : zj_qa h 9 9 9 = true) (hR : zr_R9 ws) {aQ : Nat} {eQ : va_E} (pQ : ws[9]? = some (aQ, eQ)) : ∃ (cQ : ClassId) (tQ : Nat) (Cn : String) (fQ : Nat → Option Nat), ws[9]? = some (aQ, .inl (cQ, 9, .inr (.inr (.inr (.inr fQ))))) ∧ tys[tQ]? = some (cQ, .object Cn) ∧ ∀ k, k < 9 → ∃ (a : Nat) (e : va_E), fQ k = some a ∧ ws[16 + 6 * k]? = some (a, e) := by
  unfold zj_qa at hq
  split at hq
  case h_2 => cases hq
  rename_i t m sl hi
  rw [zy_get_eq] at hi
  rw [Bool.and_eq_true] at hq
  have e1 := Nat.eq_of_beq_eq_true hq.1
  have e2 := Nat.eq_of_beq_eq_true hq.2
  subst e1
  subst e2
  obtain ⟨⟨a', e'⟩, h1, cA, t0, h2, h3⟩ := zx_F2_get hh hi
  rw [h1] at pQ
  cases pQ
  rcases h3 with ⟨h4, -⟩ | ⟨-, f, h4, -⟩
  · have h4 : 9 < 3 := h4
    omega
  · have h4 : eQ = .inl (cA, 9, .inr (.inr (.inr (.inr f)))) := h4
    subst h4
    obtain ⟨aR, cR, nR, gR, r1, r2⟩ := hR
    rw [h1] at r1
    cases r1
    refine ⟨cA, t0, _, f, h1, h2, fun k hk => ?_⟩
    obtain ⟨x, k1, k2⟩ := r2 k hk
    obtain ⟨e, k3⟩ := zj_adw k1
    exact ⟨x, e, k2, k3⟩
/-- learn of the class: what the state must show -/
def zl_ckC (h : List zx_C) : Bool := (zj_ql h 0 10 14 && (zj_qs h 0 10 2 (zj_k1 3) && (zj_qs h 0 10 4 (zj_k1 178) && (zj_qs h 0 10 9 (zj_k1 212) && zj_qs h 0 10 11 zj_kI)))) &&
  ((zj_ql h 3 2 12 && (zj_qs h 3 2 5 (zj_k1 9) && zj_qa h 9 9 9)) &&
  ((zj_ql h 178 5 19 && (zj_qs h 178 5 10 (zj_k1 186) && (zj_qs h 178 5 11 (zj_k1 187) && zj_qs h 178 5 12 (zj_k1 188)))) &&
  ((zj_qa h 186 0 200 && (zj_qa h 187 0 200 && zj_qa h 188 0 200)) && (zj_ql h 212 4 13 && (List.range 9).all (fun k => zj_ql h (16 + 6 * k) 6 10)))))
def zl_oC (acc : Prop) (L : Nat) (v : Option Value) (ws' : va_W) : Prop := (acc → v = some (.int 1) ∧ ∃ aL FL, ws'[178]? = some (aL, .inr (5, FL)) ∧ FL[9]? = some (.int (nI (L + 1)))) ∧ (¬ acc → v = some (.int 0) ∧ ∃ aL FL, ws'[178]? = some (aL, .inr (5, FL)) ∧ FL[9]? = some (.int (nI L)))
def zl_oM (acc : Prop) (L : Nat) (v : Option Value) (ws' : va_W) : Prop := (acc → v = some (.int 1) ∧ ∃ aM fs, ws'[218]? = some (aM, .inr (11, fs)) ∧ fs[67]? = some (.int (nI (L + 1)))) ∧ (¬ acc → v = some (.int 0) ∧ ∃ aM fs, ws'[218]? = some (aM, .inr (11, fs)) ∧ fs[67]? = some (.int (nI L)))
set_option maxHeartbeats 4000000 in
theorem zl_useC (hh : zx_F2 (fun c q => zx_RC vwCl b ex ρ (zx_as ws) tys c q.2) h ws) (hck : zl_ckC h = true) (hR : zr_R9 ws) {f : Nat → Int32} {NO NS L : Int} (hof : ∀ k : Nat, k < 9 → (k : Int) < NO → zr_of ws (16 + 6 * k) (f k).toInt) (hNO : zg_fld (ws.drop 3) 0 NO) (hNS : zg_fld (ws.drop 3) 1 NS) (hL : zg_fld (ws.drop 178) 9 L) (hN9 : NO ≤ 9) (hL0 : 0 ≤ L ∧ L ≤ 200) {aO : Nat} {eO : va_E} (hO : ws[0]? = some (aO, eO)) {sx o r hx : Int32} : ∃ (X : List Nat → List (ClassId × FieldType) → List Value → va_W → Prop) (Z0 : List Nat → List Value → va_W → Option Value → va_W → Prop), zj_W l 3 47 X Z0 ∧ X ex tys [.ref aO, .int sx, .int o, .int r, .int hx] ws ∧ ∀ v ws', Z0 ex [.ref aO, .int sx, .int o, .int r, .int hx] ws v ws' → zl_oC (zl_ok NS NO L f sx.toInt o.toInt r.toInt hx.toInt) L.toNat v ws' := by
  unfold zl_ckC at hck
  simp only [Bool.and_eq_true] at hck
  obtain ⟨⟨c1, c2, c3, c4, c5⟩, ⟨c6, c7, c8⟩, ⟨c9, d1, d2, d3⟩, ⟨d4, d5, d6⟩, d7, d8⟩ := hck
  obtain ⟨aO', FO, h0, hOl⟩ := zj_o hh c1
  have eO' : aO' = aO := by rw [h0] at hO; cases hO; rfl
  subst eO'
  obtain ⟨aH, eH, hO2, pH⟩ := zj_s1 hh c2 h0
  obtain ⟨aL, eL, hO4, pL⟩ := zj_s1 hh c3 h0
  obtain ⟨aY, eY, hO9, pY⟩ := zj_s1 hh c4 h0
  obtain ⟨td, hO11⟩ := zj_sI hh c5 h0
  obtain ⟨aH', FH, h3, -⟩ := zj_o hh c6
  have eH' : aH' = aH := by rw [h3] at pH; cases pH; rfl
  subst eH'
  obtain ⟨xo, hH0, exo⟩ := zl_fi h3 hNO
  obtain ⟨xs, hH1, exs⟩ := zl_fi h3 hNS
  obtain ⟨aQ, eQ, hH5, pQ⟩ := zj_s1 hh c7 h3
  obtain ⟨cQ, tQ, Cn, fQ, h9, htQ, hQ⟩ := zl_row9 hh c8 hR pQ
  obtain ⟨aL', FL, h178, hLl⟩ := zj_o hh c9
  have eL' : aL' = aL := by rw [h178] at pL; cases pL; rfl
  subst eL'
  obtain ⟨xl, hL9, exl⟩ := zl_fi h178 hL
  have hL9 : FL[9]? = some (.int (nI L.toNat)) := by rw [hL9, zo_nat exl hL0.1]
  obtain ⟨a10, e10, hL10, p10⟩ := zj_s1 hh d1 h178
  obtain ⟨a11, e11, hL11, p11⟩ := zj_s1 hh d2 h178
  obtain ⟨a12, e12, hL12, p12⟩ := zj_s1 hh d3 h178
  obtain ⟨aY', FY, h212, hYl⟩ := zj_o hh d7
  have eY' : aY' = aY := by rw [h212] at pY; cases pY; rfl
  subst eY'
  have hQ2 : ∀ k : Nat, k < 9 → (k : Int) < xo.toInt → ∃ (a : Nat) (F : List Value), fQ k = some a ∧ ws[16 + 6 * k]? = some (a, .inr (6, F)) ∧ F[3]? = some (.int (f k)) := by
    intro k hk hkn
    obtain ⟨a, e, g1, g2⟩ := hQ k hk
    obtain ⟨a', F, g3, -⟩ := zj_o hh (List.all_eq_true.mp d8 k (List.mem_range.mpr hk))
    rw [g3] at g2
    cases g2
    obtain ⟨x, g4, g5⟩ := zl_fi g3 (hof k hk (by omega))
    have g6 : x = f k := Int32.toInt_inj.mp g5
    rw [g6] at g4
    exact ⟨a, F, g1, g3, g4⟩
  have hW := zl_learnC_W (l := l) (ex := ex) (tys := tys) (sx := sx) (o := o) (r := r) (hx := hx) h0 hO2 hO4 hO9 hO11 hOl h3 hH0 hH5 h9 htQ hQ2 (by omega) hH1 h178 hLl hL9 hL10 hL11 hL12 (zj_r hh d4 (by decide) p10) (zj_r hh d5 (by decide) p11) (zj_r hh d6 (by decide) p12) h212 hYl (by omega)
  have eLn : ((L.toNat : Nat) : Int) = L := by omega
  rw [exo, exs, eLn] at hW
  refine ⟨_, _, hW, ⟨rfl, rfl, rfl, rfl⟩, fun v ws' hZ => ⟨fun ha => ?_, fun ha => ?_⟩⟩
  · obtain ⟨g1, FL', g2, g3⟩ := hZ.1 ha
    exact ⟨g1, _, FL', g2, g3⟩
  · obtain ⟨g1, FL', g2, g3⟩ := hZ.2 ha
    exact ⟨g1, _, FL', g2, g3⟩
def zl_mQ : List (Nat × (Nat × (Nat × Nat))) := [(11, 224, 0, 9), (48, 246, 0, 200), (49, 247, 0, 200), (50, 248, 0, 200), (51, 249, 0, 200)]
def zl_ckM (h : List zx_C) : Bool := zj_ql h 218 11 101 && ((zj_qs h 218 11 5 zj_kI && zj_qs h 218 11 6 zj_kI) && zl_mQ.all (fun q => zj_qs h 218 11 q.1 (zj_k1 q.2.1) && zj_qa h q.2.1 q.2.2.1 q.2.2.2))
set_option maxHeartbeats 4000000 in
theorem zl_useM (hh : zx_F2 (fun c q => zx_RC vwCl b ex ρ (zx_as ws) tys c q.2) h ws) (hck : zl_ckM h = true) {f : Nat → Int32} (hrow : zg_row ws 224 f) (hf : ∀ k : Nat, k < 9 → 0 ≤ (f k).toInt) {NO NS L : Int} (hNO : zg_fld (ws.drop 218) 21 NO) (hNS : zg_fld (ws.drop 218) 22 NS) (hL : zg_fld (ws.drop 218) 67 L) (hN9 : 0 ≤ NO ∧ NO ≤ 9) (hS0 : 0 ≤ NS) (hL0 : 0 ≤ L ∧ L ≤ 200) {aO : Nat} {eO : va_E} (hO : ws[218]? = some (aO, eO)) {sx o r hx : Int32} : ∃ (X : List Nat → List (ClassId × FieldType) → List Value → va_W → Prop) (Z0 : List Nat → List Value → va_W → Option Value → va_W → Prop), zj_W l 4 171 X Z0 ∧ X ex tys [.ref aO, .int sx, .int o, .int r, .int hx] ws ∧ ∀ v ws', Z0 ex [.ref aO, .int sx, .int o, .int r, .int hx] ws v ws' → zl_oM (zl_ok NS NO L f sx.toInt o.toInt r.toInt hx.toInt) L.toNat v ws' := by
  unfold zl_ckM at hck
  simp only [Bool.and_eq_true] at hck
  obtain ⟨c1, ⟨c2, c3⟩, c4⟩ := hck
  obtain ⟨aO', FO, h0, hOl⟩ := zj_o hh c1
  have eO' : aO' = aO := by rw [h0] at hO; cases hO; rfl
  subst eO'
  obtain ⟨td, hM5⟩ := zj_sI hh c2 h0
  obtain ⟨tl, hM6⟩ := zj_sI hh c3 h0
  have hq : ∀ q ∈ zl_mQ, ∃ (a : Nat) (f : Nat → Int32), FO[q.1]? = some (.ref a) ∧ zj_row tys ws q.2.1 a q.2.2.2 (zx_ty vwCl q.2.2.1) f := by
    intro q hq
    have h1 := List.all_eq_true.mp c4 q hq
    rw [Bool.and_eq_true] at h1
    obtain ⟨a, e, h2, h3⟩ := zj_s1 hh h1.1 h0
    have h4 : ∀ q ∈ zl_mQ, q.2.2.1 < 3 := by decide
    obtain ⟨f, h5⟩ := zj_r hh h1.2 (h4 q hq) h3
    exact ⟨a, f, h2, h5⟩
  obtain ⟨xo, hM21, exo⟩ := zl_fi h0 hNO
  obtain ⟨xs, hM22, exs⟩ := zl_fi h0 hNS
  obtain ⟨xl, hM67, exl⟩ := zl_fi h0 hL
  have hM67 : FO[67]? = some (.int (nI L.toNat)) := by rw [hM67, zo_nat exl hL0.1]
  obtain ⟨a11, fr, hM11, r11⟩ := hq (11, 224, 0, 9) (by decide)
  have r11 : zj_row tys ws 224 a11 9 .int f := by
    obtain ⟨cA, t0, g1, g2⟩ := r11
    have := zg_row_eq hrow g1
    subst this
    exact ⟨cA, t0, g1, g2⟩
  obtain ⟨b48, f48, hM48, r48⟩ := hq (48, 246, 0, 200) (by decide)
  obtain ⟨b49, f49, hM49, r49⟩ := hq (49, 247, 0, 200) (by decide)
  obtain ⟨b50, f50, hM50, r50⟩ := hq (50, 248, 0, 200) (by decide)
  obtain ⟨b51, f51, hM51, r51⟩ := hq (51, 249, 0, 200) (by decide)
  have hW := zl_learnM_W (l := l) (ex := ex) (tys := tys) (sx := sx) (o := o) (r := r) (hx := hx) h0 hM21 hM11 r11 hf (by omega) hM5 hM6 hM22 hM67 hM48 hM49 hM50 hM51 hOl ⟨_, r48⟩ ⟨_, r49⟩ ⟨_, r50⟩ ⟨_, r51⟩ (by omega) (by omega)
  have eLn : ((L.toNat : Nat) : Int) = L := by omega
  rw [exo, exs, eLn] at hW
  refine ⟨_, _, hW, ⟨rfl, rfl, rfl, rfl⟩, fun v ws' hZ => ⟨fun ha => ?_, fun ha => ?_⟩⟩
  · obtain ⟨g1, fs, g2, g3⟩ := hZ.1 ha
    exact ⟨g1, _, fs, g2, g3⟩
  · obtain ⟨g1, fs, g2, g3⟩ := hZ.2 ha
    exact ⟨g1, _, fs, g2, g3⟩
set_option maxHeartbeats 4000000 in
theorem zl_useOC (hh : zx_F2 (fun c q => zx_RC vwCl b ex ρ (zx_as ws) tys c q.2) h ws) (hck : zo_ckC h = true) (hck9 : (List.range 9).all (fun k => zo_cko h (80 + 6 * k)) = true) (hR : zr_R9 ws) {fC : Nat → Int32} (hrow : zg_row ws 1 fC) (hf : ∀ i, i < 340 → 0 ≤ (fC i).toInt ∧ (fC i).toInt ≤ 255) {t N : Int} (ht : zg_fld ws 10 t) (hN : zg_fld (ws.drop 3) 0 N) (ht0 : 0 ≤ t ∧ t ≤ 340) (hN0 : 0 ≤ N ∧ N ≤ 9) {aO : Nat} {eO : va_E} (hO : ws[0]? = some (aO, eO)) {hx sx cx nx : Int32} (hcx : cx = 0 ∨ cx = 1) : ∃ (X : List Nat → List (ClassId × FieldType) → List Value → va_W → Prop) (Z0 : List Nat → List Value → va_W → Option Value → va_W → Prop), zj_W l 5 16 X Z0 ∧ X ex tys [.ref aO, .int hx, .int sx, .int cx, .int nx] ws ∧ ∀ v ws', Z0 ex [.ref aO, .int hx, .int sx, .int cx, .int nx] ws v ws' → zo_oC (zo_acc N.toNat hx.toInt sx.toInt nx.toInt (fun k => (fC k).toInt) t.toNat) N.toNat v ws' ∧ (∀ k, k < 9 → k ≠ N.toNat → ws'[16 + 6 * k]? = ws[16 + 6 * k]?) ∧ (zo_acc N.toNat hx.toInt sx.toInt nx.toInt (fun k => (fC k).toInt) t.toNat → ∃ (a : Nat) (FO : List Value), ws'[16 + 6 * N.toNat]? = some (a, .inr (6, FO)) ∧ FO[3]? = some (.int (nI (t.toNat / 4 - 1)))) := by
  unfold zo_ckC at hck
  simp only [Bool.and_eq_true] at hck
  obtain ⟨⟨c1, c2, c3, c4, c5⟩, ⟨c6, c7, c8⟩, ⟨c9, c10, c11⟩, c12⟩ := hck
  obtain ⟨aO', FO, h0, hOl⟩ := zj_o hh c1
  have eO' : aO' = aO := by rw [h0] at hO; cases hO; rfl
  subst eO'
  obtain ⟨aT, eT, hO0, pT⟩ := zj_s1 hh c2 h0
  obtain ⟨aH, eH, hO2, pH⟩ := zj_s1 hh c3 h0
  obtain ⟨aY, eY, hO9, pY⟩ := zj_s1 hh c4 h0
  have hO10 : FO[10]? = some (.int (nI t.toNat)) := by
    obtain ⟨a, ci, fs, x, g1, g2, g3⟩ := ht
    rw [h0] at g1
    cases g1
    rw [g2, zo_nat g3 ht0.1]
  obtain ⟨aH', FH, h3, hHl⟩ := zj_o hh c6
  have eH' : aH' = aH := by rw [h3] at pH; cases pH; rfl
  subst eH'
  have hH0 : FH[0]? = some (.int (nI N.toNat)) := by
    obtain ⟨a, ci, fs, x, g1, g2, g3⟩ := hN
    rw [List.getElem?_drop] at g1
    have g1 : ws[3]? = _ := g1
    rw [h3] at g1
    cases g1
    rw [g2, zo_nat g3 hN0.1]
  obtain ⟨aQ, eQ, hH5, pQ⟩ := zj_s1 hh c8 h3
  obtain ⟨cQ, tQ, Cn, fQ, h9, htQ, hQ⟩ := zl_row9 hh c11 hR pQ
  have hσ : ∀ k, k < 9 → (fun k => k) k < 9 ∧ ∃ (a : Nat) (x0 x1 x2 x3 x4 : Int32), fQ k = some a ∧ zo_O tys ws (16 + 6 * (fun k => k) k) a x0 x1 x2 x3 x4 := by
    intro k hk
    obtain ⟨a, e, g1, g2⟩ := hQ k hk
    obtain ⟨a', x0, x1, x2, x3, x4, g3⟩ := zl_obj hh (List.all_eq_true.mp hck9 k (List.mem_range.mpr hk))
    have g4 : a' = a := by
      obtain ⟨b5, b6, b7, b8, b9, g5, -⟩ := g3
      rw [g5] at g2
      cases g2
      rfl
    subst g4
    exact ⟨hk, a', x0, x1, x2, x3, x4, g1, g3⟩
  obtain ⟨aY', FY, h212, hYl⟩ := zj_o hh c9
  have eY' : aY' = aY := by rw [h212] at pY; cases pY; rfl
  subst eY'
  obtain ⟨fT, hT⟩ := zj_r hh c10 (by decide) pT
  have hT : zj_row tys ws 1 aT 340 .int fC := by
    obtain ⟨cA, t0, g1, g2⟩ := hT
    have := zg_row_eq hrow g1
    subst this
    exact ⟨cA, t0, g1, g2⟩
  have hW := zo_operaC_W (l := l) (σ := fun k => k) (ex := ex) (tys := tys) (hh := hx) (ss := sx) (ch := cx) (nn := nx) h0 hO0 hO2 hO9 hO10 hOl hT hf h3 hH0 hH5 hHl h9 htQ hσ h212 hYl (by omega : N.toNat ≤ 9) (by omega : t.toNat ≤ 340) hcx
  refine ⟨_, _, hW, ⟨rfl, rfl, rfl, rfl⟩, fun v ws' hZ => ⟨⟨fun ha => ?_, fun ha => ?_⟩, fun k hk hkN => hZ.1 k hk hkN, fun ha => ?_⟩⟩
  · obtain ⟨g1, -, -, -, -, -, -, FH', g2, g3⟩ := hZ.2.1 ha
    exact ⟨g1, _, FH', g2, g3⟩
  · obtain ⟨g1, FH', g2, g3⟩ := hZ.2.2 ha
    exact ⟨g1, _, FH', g2, g3⟩
  · obtain ⟨-, a, x0, x1, x2, x4, ⟨b5, b6, b7, b8, b9, g1, -⟩, -⟩ := hZ.2.1 ha
    exact ⟨a, _, g1, rfl⟩
set_option maxHeartbeats 4000000 in
theorem zl_useOM (hh : zx_F2 (fun c q => zx_RC vwCl b ex ρ (zx_as ws) tys c q.2) h ws) (hck : zo_ckM h = true) {fR : Nat → Int32} (hrow : zg_row ws 219 fR) {f : Nat → Int32} (hrow2 : zg_row ws 224 f) {t N : Int} (ht : zg_fld (ws.drop 218) 2 t) (hN : zg_fld (ws.drop 218) 21 N) (ht0 : 0 ≤ t ∧ t ≤ 340) (hN0 : 0 ≤ N ∧ N ≤ 9) {aO : Nat} {eO : va_E} (hO : ws[218]? = some (aO, eO)) {hx sx cx nx : Int32} : ∃ (X : List Nat → List (ClassId × FieldType) → List Value → va_W → Prop) (Z0 : List Nat → List Value → va_W → Option Value → va_W → Prop), zj_W l 4 142 X Z0 ∧ X ex tys [.ref aO, .int hx, .int sx, .int cx, .int nx] ws ∧ ∀ v ws', Z0 ex [.ref aO, .int hx, .int sx, .int cx, .int nx] ws v ws' → zo_oM (zo_acc N.toNat hx.toInt sx.toInt nx.toInt (fun k => (fR k).toInt) t.toNat) N.toNat v ws' ∧ (zo_acc N.toNat hx.toInt sx.toInt nx.toInt (fun k => (fR k).toInt) t.toNat → ∃ (a : Nat) (c : ClassId), ws'[224]? = some (a, .inl (c, 9, .inl (upd f N.toNat (nI (t.toNat / 4 - 1)))))) ∧ (¬ zo_acc N.toNat hx.toInt sx.toInt nx.toInt (fun k => (fR k).toInt) t.toNat → ∃ (a : Nat) (c : ClassId), ws'[224]? = some (a, .inl (c, 9, .inl f))) := by
  unfold zo_ckM at hck
  simp only [Bool.and_eq_true] at hck
  obtain ⟨c1, c3, c4⟩ := hck
  obtain ⟨aO', FO, h0, hOl⟩ := zj_o hh c1
  have eO' : aO' = aO := by rw [h0] at hO; cases hO; rfl
  subst eO'
  have hi : ∀ k ∈ zo_mI, ∃ w : Int32, FO[k]? = some (.int w) := fun k hk => zj_sI hh (List.all_eq_true.mp c3 k hk) h0
  have hq : ∀ q ∈ zo_mQ, ∃ (a : Nat) (f : Nat → Int32), FO[q.1]? = some (.ref a) ∧ zj_row tys ws q.2.1 a q.2.2.2 (zx_ty vwCl q.2.2.1) f := by
    intro q hq
    have h1 := List.all_eq_true.mp c4 q hq
    rw [Bool.and_eq_true] at h1
    obtain ⟨a, e, h2, h3⟩ := zj_s1 hh h1.1 h0
    have h4 : ∀ q ∈ zo_mQ, q.2.2.1 < 3 := by decide
    obtain ⟨f, h5⟩ := zj_r hh h1.2 (h4 q hq) h3
    exact ⟨a, f, h2, h5⟩
  have hfi : ∀ {k : Nat} {w : Int}, zg_fld (ws.drop 218) k w → ∃ x : Int32, FO[k]? = some (.int x) ∧ x.toInt = w := by
    rintro k w ⟨a, ci, fs, x, g1, g2, g3⟩
    rw [List.getElem?_drop] at g1
    have g1 : ws[218]? = _ := g1
    rw [h0] at g1
    cases g1
    exact ⟨x, g2, g3⟩
  have k2 : FO[2]? = some (.int (nI t.toNat)) := by
    obtain ⟨x, g1, g2⟩ := hfi ht
    rw [g1, zo_nat g2 ht0.1]
  have k21 : FO[21]? = some (.int (nI N.toNat)) := by
    obtain ⟨x, g1, g2⟩ := hfi hN
    rw [g1, zo_nat g2 hN0.1]
  obtain ⟨sz, k3⟩ := hi 3 (by decide)
  obtain ⟨pp, k4⟩ := hi 4 (by decide)
  obtain ⟨tl, k6⟩ := hi 6 (by decide)
  let ad : Nat → Nat := fun k => match FO[k]? with
    | some (.ref a) => a
    | _ => 0
  have hq2 : ∀ q ∈ zo_mQ, FO[q.1]? = some (.ref (ad q.1)) ∧ ∃ f, zj_row tys ws q.2.1 (ad q.1) q.2.2.2 (zx_ty vwCl q.2.2.1) f := by
    intro q h1
    obtain ⟨a, f, h2, h3⟩ := hq q h1
    have h4 : ad q.1 = a := by
      show (match FO[q.1]? with
        | some (.ref a) => a
        | _ => 0) = a
      rw [h2]
    rw [h4]
    exact ⟨h2, f, h3⟩
  obtain ⟨fr, r11⟩ := (hq2 (11, 224, 0, 9) (by decide)).2
  have r11 : zj_row tys ws 224 (ad 11) 9 .int f := by
    obtain ⟨cA, t0, g1, g2⟩ := r11
    have := zg_row_eq hrow2 g1
    subst this
    exact ⟨cA, t0, g1, g2⟩
  obtain ⟨f1, r1⟩ := (hq2 (1, 219, 1, 340) (by decide)).2
  have r1 : zj_row tys ws 219 (ad 1) 340 .byte fR := by
    obtain ⟨cA, t0, g1, g2⟩ := r1
    have := zg_row_eq hrow g1
    subst this
    exact ⟨cA, t0, g1, g2⟩
  have hms : zo_ms tys ws aO' ad (zo_L ad (nI t.toNat) sz pp (nI N.toNat)) fR f := by
    refine ⟨⟨FO, h0, hOl, ?_, tl, k6⟩, r1, r11, (hq2 (16, 229, 2, 9) (by decide)).2, fun q hq3 => ?_⟩
    · intro q hq3
      unfold zo_L at hq3
      simp only [List.mem_cons, List.not_mem_nil, or_false] at hq3
      rcases hq3 with rfl | rfl | rfl | rfl | rfl | rfl | rfl | rfl | rfl | rfl | rfl | rfl | rfl | rfl | rfl
      · exact k2
      · exact k3
      · exact k4
      · exact k21
      · exact (hq2 (1, 219, 1, 340) (by decide)).1
      · exact (hq2 (7, 220, 0, 9) (by decide)).1
      · exact (hq2 (8, 221, 0, 9) (by decide)).1
      · exact (hq2 (9, 222, 0, 9) (by decide)).1
      · exact (hq2 (10, 223, 0, 36) (by decide)).1
      · exact (hq2 (11, 224, 0, 9) (by decide)).1
      · exact (hq2 (12, 225, 0, 72) (by decide)).1
      · exact (hq2 (13, 226, 0, 72) (by decide)).1
      · exact (hq2 (14, 227, 0, 72) (by decide)).1
      · exact (hq2 (15, 228, 0, 72) (by decide)).1
      · exact (hq2 (16, 229, 2, 9) (by decide)).1
    · have h5 : ∀ q ∈ zo_mrt, (q.1, q.2.1, 0, q.2.2) ∈ zo_mQ := by decide
      exact (hq2 _ (h5 q hq3)).2
  have hW := zo_operaM_W (l := l) (ex := ex) (hh := hx) (ss := sx) (ch := cx) (nn := nx) hms (by omega : N.toNat ≤ 9) (by omega : t.toNat ≤ 340)
  refine ⟨_, _, hW, ⟨rfl, rfl, rfl, rfl⟩, fun v ws' hZ => ⟨⟨fun ha => ?_, fun ha => ?_⟩, fun ha => ?_, fun ha => ?_⟩⟩
  · obtain ⟨g1, -, fs, g2, g3⟩ := hZ.1 ha
    exact ⟨g1, _, fs, g2, g3⟩
  · obtain ⟨g1, -, fs, g2, g3⟩ := hZ.2 ha
    exact ⟨g1, _, fs, g2, g3⟩
  · obtain ⟨-, ⟨cA, t0, g1, -⟩, -⟩ := hZ.1 ha
    exact ⟨_, cA, g1⟩
  · obtain ⟨-, ⟨cA, t0, g1, -⟩, -⟩ := hZ.2 ha
    exact ⟨_, cA, g1⟩
end ZLU
theorem zl_r {b : Nat} {ex : List Nat} {ρ : List Int} {tys : List (ClassId × FieldType)} {h : List zx_C} {ws : va_W} (hh : zx_F2 (fun c q => zx_RC vwCl b ex ρ (zx_as ws) tys c q.2) h ws) {i n : Nat} (hq : zj_qa h i 0 n = true) : ∃ (a : Nat) (c : ClassId) (f : Nat → Int32), ws[i]? = some (a, .inl (c, n, .inl f)) := by
  unfold zj_qa at hq
  split at hq
  case h_2 => cases hq
  rename_i t m sl hi
  rw [zy_get_eq] at hi
  rw [Bool.and_eq_true] at hq
  have e1 := Nat.eq_of_beq_eq_true hq.1
  have e2 := Nat.eq_of_beq_eq_true hq.2
  subst e1
  subst e2
  obtain ⟨⟨a, e⟩, h1, cA, t0, h2, h3⟩ := zx_F2_get hh hi
  rcases h3 with ⟨-, f, h4, -⟩ | ⟨h4, -⟩
  · have h4 : e = .inl (cA, m, .inl f) := h4
    subst h4
    exact ⟨a, cA, f, h1⟩
  · have h4 : 3 ≤ 0 := h4
    omega
/-- the other side of a split of cells: an address is one -/
theorem zl_adr {ws ws' w0 : va_W} (ha : zx_as ws = zx_as w0) (hb : zx_as ws' = zx_as w0) {i a a' : Nat} {e e' : va_E} (h : ws[i]? = some (a, e)) (h' : ws'[i]? = some (a', e')) : a' = a := by
  have k1 : (zx_as ws)[i]? = some a := by rw [zx_as, List.getElem?_map, h]; rfl
  have k2 : (zx_as ws')[i]? = some a' := by rw [zx_as, List.getElem?_map, h']; rfl
  rw [ha, ← hb, k2] at k1
  exact Option.some.inj k1
theorem zl_one {acc : Prop} {L : Nat} {v v' : Option Value} {wsC wsM : va_W} (h1 : zl_oC acc L v wsC) (h2 : zl_oM acc L v' wsM) : v = v' ∧ ∃ x : Int32, (∃ aL FL, wsC[178]? = some (aL, .inr (5, FL)) ∧ FL[9]? = some (.int x)) ∧ ∃ aM fs, wsM[218]? = some (aM, .inr (11, fs)) ∧ fs[67]? = some (.int x) := by
  by_cases ha : acc
  · obtain ⟨g1, g2⟩ := h1.1 ha
    obtain ⟨g3, g4⟩ := h2.1 ha
    exact ⟨g1.trans g3.symm, _, g2, g4⟩
  · obtain ⟨g1, g2⟩ := h1.2 ha
    obtain ⟨g3, g4⟩ := h2.2 ha
    exact ⟨g1.trans g3.symm, _, g2, g4⟩
end
