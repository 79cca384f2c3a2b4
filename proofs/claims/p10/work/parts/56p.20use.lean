noncomputable section
/-! zj: class and reference at the law's calls of contract -/
/-- the constant objects -/
def zj_exo (ex : List Nat) : Prop := (∀ j, j < 30 → ∃ a, ex[8 + j]? = some a) ∧ (∀ i j, i < 30 → j < 30 → ex[8 + i]? = ex[8 + j]? → i = j) ∧ (∃ a, ex[3]? = some a) ∧ ∃ a, ex[4]? = some a
def zj_ckp (h : List zx_C) (id : Nat) : Bool := (fun (i : Nat) => Nat.beq id (64 + i) && ((zj_ql h i 1 9 && (zj_qs h i 1 0 (zj_k1 (i + 1)) && (zj_qs h i 1 1 (zj_k1 (i + 2)) && (zj_qs h i 1 2 (zj_k1 (i + 3)) && zj_qs h i 1 3 (zj_k1 (i + 4)))))) && ((zj_qs h i 1 4 zj_kI && (zj_qs h i 1 5 zj_kI && (zj_qs h i 1 6 zj_kI && (zj_qs h i 1 7 zj_kI && zj_qs h i 1 8 zj_kI)))) && ((zj_qa h (i + 1) 0 4 && (zj_qa h (i + 2) 0 8 && (zj_qa h (i + 3) 0 9 && zj_qa h (i + 4) 0 80))) && [0, 1, 3, 10, 198, 212].all (fun q => Nat.blt q i || Nat.blt (i + 4) q))))) (id - 64)
def zj_kq (P : Nat → Bool) (s : zx_S) : Bool := match s with
  | .inl (.inr (.inl (ids, false))) => ids.all P
  | _ => false
def zj_kn (h : List zx_C) (i : Nat) : Bool := match zy_get h i with
  | some (.inr (.inl (_, _, true, t :: _))) => zj_kR t
  | some (.inr (.inl (_, _, false, l))) => l.all zj_kR
  | _ => false
def zj_ckC (h : List zx_C) : Bool := (zj_ql h 0 10 14 && (zj_qs h 0 10 2 (zj_k1 3) && (zj_qs h 0 10 6 (zj_k1 198) && (zj_qs h 0 10 9 (zj_k1 212) && (zj_qs h 0 10 10 zj_kI && zj_qs h 0 10 12 zj_kI))))) &&
  ((zj_ql h 3 2 12 && (zj_qs h 3 2 1 zj_kI && (zj_qs h 3 2 4 (zj_kq (zj_ckp h)) && zj_qs h 3 2 6 (zj_k1 10)))) &&
  ((zj_ql h 198 7 9 && (zj_qs h 198 7 0 (zj_k1 1) && ((zj_qs h 198 7 1 zj_kI && (zj_qs h 198 7 2 zj_kI && (zj_qs h 198 7 3 zj_kI && (zj_qs h 198 7 4 zj_kI && zj_qs h 198 7 5 zj_kI)))) && (zj_qs h 198 7 6 zj_kR && (zj_qs h 198 7 7 zj_kR && zj_qs h 198 7 8 zj_kI))))) &&
  ((zj_ql h 212 4 13 && (zj_qa h 1 0 340 && zj_qa h 10 4 20)) && zj_kn h 10)))
theorem zj_kq_ok {P : Nat → Bool} {b : Nat} {ex : List Nat} {ρ : List Int} {ad : List Nat} {s : zx_S} {x : Value} (hs : zj_kq P s = true) (hx : zx_RS b ex ρ ad s x) : ∃ i a : Nat, P i = true ∧ zx_ad ex ad i = some a ∧ x = .ref a := by
  rcases s with (e | (⟨r, n⟩ | c)) | q
  · cases hs
  · cases n
    · rcases hx with ⟨h1, -⟩ | ⟨i, a, h2, h3, h1⟩
      · cases h1
      · exact ⟨i, a, List.all_eq_true.mp hs i h2, h3, h1⟩
    · cases hs
  · cases hs
  · cases hs
theorem zj_l9 {fs : List Value} {x0 x1 x2 x3 x4 x5 x6 x7 x8 : Value} (hl : fs.length = 9) (h0 : fs[0]? = some x0) (h1 : fs[1]? = some x1) (h2 : fs[2]? = some x2) (h3 : fs[3]? = some x3) (h4 : fs[4]? = some x4) (h5 : fs[5]? = some x5) (h6 : fs[6]? = some x6) (h7 : fs[7]? = some x7) (h8 : fs[8]? = some x8) : fs = [x0, x1, x2, x3, x4, x5, x6, x7, x8] := by
  refine List.ext_getElem? (fun n => ?_)
  match n with
  | 0 => exact h0
  | 1 => exact h1
  | 2 => exact h2
  | 3 => exact h3
  | 4 => exact h4
  | 5 => exact h5
  | 6 => exact h6
  | 7 => exact h7
  | 8 => exact h8
  | n + 9 =>
    rw [List.getElem?_eq_none (by omega), List.getElem?_eq_none (by simp only [List.length_cons, List.length_nil]; omega)]
/-- what the class's contract answers -/
def zj_oC (fC : Nat → Int32) (t S : Nat) (xs lf : Int32) (v : Option Value) (ws' : va_W) : Prop := ((0 ≤ xs.toInt ∧ xs.toInt < (S : Int)) → ∃ (a : Int32) (k : Nat), v = some (.int a) ∧ zj_R (fun i => (fC i).toInt) t (0, zj_tk (fun i => (fC i).toInt) t 0, 0, 0, 0, 0, 0, [], 0, 0) (zj_f a.toInt k) ∧ ∃ aO FO3, ws'[0]? = some (aO, .inr (10, FO3)) ∧ FO3[12]? = some (.int (nI k))) ∧ (¬ (0 ≤ xs.toInt ∧ xs.toInt < (S : Int)) → v = some (.int (-1000)) ∧ ∃ aO FO3, ws'[0]? = some (aO, .inr (10, FO3)) ∧ FO3[12]? = some (.int lf))
section ZKV
variable {l : Launch} {b : Nat} {ex : List Nat} {ρ : List Int} {tys : List (ClassId × FieldType)} {h : List zx_C} {ws : va_W}
theorem zj_nat {x : Int32} {t : Int} (h : x.toInt = t) (h0 : 0 ≤ t) : x = nI t.toNat := by
  subst h
  exact (zx_nat h0).1
set_option maxHeartbeats 4000000 in
theorem zj_useC (hh : zx_F2 (fun c q => zx_RC vwCl b ex ρ (zx_as ws) tys c q.2) h ws) (hck : zj_ckC h = true) (hex : zj_exo ex) {r1 : vw_C} (hr1 : vwCl[1]? = some r1) {fC : Nat → Int32} (hrow : zg_row ws 1 fC) (hf : ∀ i, i < 340 → 0 ≤ (fC i).toInt ∧ (fC i).toInt ≤ 255) {t S : Int} (ht : zg_fld ws 10 t) (hS : zg_fld (ws.drop 3) 1 S) (ht0 : 0 ≤ t ∧ t ≤ 340) (hS0 : 0 ≤ S ∧ S ≤ 20) {aO : Nat} {eO : va_E} (hO : ws[0]? = some (aO, eO)) {xs : Int32} {lf : Int} (hlf : zg_fld ws 12 lf) : ∃ (X : List Nat → List (ClassId × FieldType) → List Value → va_W → Prop) (Z0 : List Nat → List Value → va_W → Option Value → va_W → Prop), zj_W l 53 24 X Z0 ∧ X ex tys [.ref aO, .int xs] ws ∧ ∀ v ws', Z0 ex [.ref aO, .int xs] ws v ws' → ∃ lfx : Int32, lfx.toInt = lf ∧ zj_oC fC t.toNat S.toNat xs lfx v ws' := by
  unfold zj_ckC at hck
  simp only [Bool.and_eq_true] at hck
  obtain ⟨⟨c1, c2, c3, c4, c5, c6⟩, ⟨c7, c8, c9, c10⟩, ⟨c11, c12, ⟨c13, c14, c15, c16, c17⟩, c18, c19, c20⟩, ⟨c21, c22, c23⟩, c24⟩ := hck
  -- the class
  obtain ⟨aO', FO, h0, hOl⟩ := zj_o hh c1
  have eO' : aO' = aO := by rw [h0] at hO; cases hO; rfl
  subst eO'
  obtain ⟨aH, eH, hO2, pH⟩ := zj_s1 hh c2 h0
  obtain ⟨aR, eR, hO6, pR⟩ := zj_s1 hh c3 h0
  obtain ⟨aY, eY, hO9, pY⟩ := zj_s1 hh c4 h0
  have hO10 : FO[10]? = some (.int (nI t.toNat)) := by
    obtain ⟨a, ci, fs, x, g1, g2, g3⟩ := ht
    rw [h0] at g1
    cases g1
    rw [g2, zj_nat g3 ht0.1]
  obtain ⟨lfx, hlfx, hO12⟩ : ∃ lfx : Int32, lfx.toInt = lf ∧ FO[12]? = some (.int lfx) := by
    obtain ⟨a, ci, fs, x, g1, g2, g3⟩ := hlf
    rw [h0] at g1
    cases g1
    exact ⟨x, g3, g2⟩
  -- the house
  obtain ⟨aH', FH, h3, hHl⟩ := zj_o hh c7
  have eH' : aH' = aH := by rw [h3] at pH; cases pH; rfl
  subst eH'
  have hH1 : FH[1]? = some (.int (nI S.toNat)) := by
    obtain ⟨a, ci, fs, x, g1, g2, g3⟩ := hS
    rw [List.getElem?_drop] at g1
    have g1 : ws[3]? = _ := g1
    rw [h3] at g1
    cases g1
    rw [g2, zj_nat g3 hS0.1]
  obtain ⟨sP, xP, cP, hH4, rP⟩ := zj_s hh c9 h3
  obtain ⟨id, aP, cp, adP, rfl⟩ := zj_kq_ok cP rP
  obtain ⟨aC, eC, hH6, pC⟩ := zj_s1 hh c10 h3
  obtain ⟨cC, tC, fN, h10, htC, hfN⟩ := zj_rq hh hr1 c23 (by
    intro c hc
    unfold zj_kn at c24
    rw [zy_get_eq, hc] at c24
    split at c24
    · rename_i e; cases e; exact c24
    · rename_i e; cases e; exact c24
    · cases c24) pC
  -- the layer
  obtain ⟨aY', FY, h212, hYl⟩ := zj_o hh c21
  have eY' : aY' = aY := by rw [h212] at pY; cases pY; rfl
  subst eY'
  -- the reader
  obtain ⟨aR', FR, h198, hRl⟩ := zj_o hh c11
  have eR' : aR' = aR := by rw [h198] at pR; cases pR; rfl
  subst eR'
  obtain ⟨aT, eT, hR0, pT⟩ := zj_s1 hh c12 h198
  obtain ⟨z1, hR1⟩ := zj_sI hh c13 h198
  obtain ⟨z2, hR2⟩ := zj_sI hh c14 h198
  obtain ⟨z3, hR3⟩ := zj_sI hh c15 h198
  obtain ⟨z4, hR4⟩ := zj_sI hh c16 h198
  obtain ⟨z5, hR5⟩ := zj_sI hh c17 h198
  obtain ⟨k6, hR6⟩ := zj_sR hh c18 h198
  obtain ⟨k7, hR7⟩ := zj_sR hh c19 h198
  obtain ⟨z8, hR8⟩ := zj_sI hh c20 h198
  rw [zj_l9 hRl hR0 hR1 hR2 hR3 hR4 hR5 hR6 hR7 hR8] at h198
  obtain ⟨fT, hT⟩ := zj_r hh c22 (by decide) pT
  have hT : zj_row tys ws 1 aT 340 .int fC := by
    obtain ⟨cA, t0, g1, g2⟩ := hT
    have := zg_row_eq hrow g1
    subst this
    exact ⟨cA, t0, g1, g2⟩
  -- the paper
  unfold zj_ckp at cp
  generalize hI : id - 64 = i0 at cp
  simp only [Bool.and_eq_true] at cp
  obtain ⟨d0, ⟨d1, d2, d3, d4, d5⟩, ⟨d6, d7, d8, d9, d10⟩, ⟨d11, d12, d13, d14⟩, d15⟩ := cp
  have d0 := Nat.eq_of_beq_eq_true d0
  obtain ⟨aP', FP, hp, hPl⟩ := zj_o hh d1
  have eP : aP' = aP := by
    rw [zx_ad, if_neg (by omega), hI] at adP
    obtain ⟨e, g1⟩ := zj_adw adP
    rw [hp] at g1
    cases g1
    rfl
  subst eP
  obtain ⟨aL, eL, hP0, pL⟩ := zj_s1 hh d2 hp
  obtain ⟨aS, eS, hP1, pS⟩ := zj_s1 hh d3 hp
  obtain ⟨aB, eB, hP2, pB⟩ := zj_s1 hh d4 hp
  obtain ⟨aN, eN, hP3, pN⟩ := zj_s1 hh d5 hp
  obtain ⟨v4, hP4⟩ := zj_sI hh d6 hp
  obtain ⟨v5, hP5⟩ := zj_sI hh d7 hp
  obtain ⟨v6, hP6⟩ := zj_sI hh d8 hp
  obtain ⟨v7, hP7⟩ := zj_sI hh d9 hp
  obtain ⟨v8, hP8⟩ := zj_sI hh d10 hp
  rw [zj_l9 hPl hP0 hP1 hP2 hP3 hP4 hP5 hP6 hP7 hP8] at hp
  obtain ⟨fL, hL⟩ := zj_r hh d11 (by decide) pL
  obtain ⟨fS, hSr⟩ := zj_r hh d12 (by decide) pS
  obtain ⟨fB, hBr⟩ := zj_r hh d13 (by decide) pB
  obtain ⟨fNn, hNr⟩ := zj_r hh d14 (by decide) pN
  have hne : ∀ q ∈ [0, 1, 3, 10, 198, 212], ∀ j, j < 5 → i0 + j ≠ q := by
    intro q hq j hj e
    have h9 := List.all_eq_true.mp d15 q hq
    rw [Bool.or_eq_true] at h9
    rcases h9 with h9 | h9
    · have h9 : q < i0 := by simpa [Nat.blt_eq] using h9
      omega
    · have h9 : i0 + 4 < q := by simpa [Nat.blt_eq] using h9
      omega
  obtain ⟨x1, x2, x3, x4⟩ := hex
  let K : zj_K := (tys, ex, aR', aT, fC, t.toNat, fun j => ex.getD (8 + j) 0, aP', fun j => i0 + j, ws.set 0 (aO', .inr (10, FO.set 10 (.int 0))))
  have hK : zj_Kok K := by
    refine ⟨by show t.toNat ≤ 340; omega, hf, fun j hj => ?_, fun i j hi hj e => x2 i j hi hj ?_, fun i hi => ⟨hne 198 (by decide) i hi, hne 1 (by decide) i hi⟩, fun i j _ _ e => by have e : i0 + i = i0 + j := e; omega, x3, x4⟩
    · obtain ⟨a, ha⟩ := x1 j hj
      show ex[8 + j]? = some (ex.getD (8 + j) 0)
      rw [List.getD_eq_getElem?_getD, ha]
      rfl
    · have e : ex.getD (8 + i) 0 = ex.getD (8 + j) 0 := e
      obtain ⟨a, ha⟩ := x1 i hi
      obtain ⟨a', ha'⟩ := x1 j hj
      rw [List.getD_eq_getElem?_getD, List.getD_eq_getElem?_getD, ha, ha'] at e
      have e : a = a' := e
      rw [ha, ha', e]
  have hRS : zj_RS K.tys ws K.aR K.aT K.fT [.int z1, .int z2, .int z3, .int z4, .int z5, .ref k6, .ref k7, .int z8] := ⟨h198, hT⟩
  have hPG : zj_pg K ws aL aS aB aN [.int v4, .int v5, .int v6, .int v7, .int v8] := ⟨hp, ⟨fL, hL⟩, ⟨fS, hSr⟩, ⟨fB, hBr⟩, fNn, hNr⟩
  have hW := zj_contractC_W (l := l) (K := K) (xs := xs) hK h0 hO2 hO6 hO9 hO10 hO12 hOl rfl h3 hH1 hH4 hH6 hHl h10 htC hr1 hfN h212 hYl hRS hPG (fun j hj => ⟨hne 0 (by decide) j hj, hne 3 (by decide) j hj, hne 10 (by decide) j hj, hne 212 (by decide) j hj⟩) (by omega : S.toNat ≤ 20)
  refine ⟨_, _, hW, ⟨rfl, rfl, rfl, rfl⟩, fun v ws' hZ => ⟨lfx, hlfx, fun hv => ?_, fun hv => ?_⟩⟩
  · obtain ⟨a, k, g1, g2, F3, g3, g4⟩ := hZ.1 hv
    exact ⟨a, k, g1, g2, _, F3, g3, g4⟩
  · obtain ⟨g1, F3, g3, g4⟩ := hZ.2 hv
    exact ⟨g1, _, F3, g3, g4⟩
end ZKV
/-- what the reference's contract answers -/
def zj_oM (fM : Nat → Int32) (t S : Nat) (xs lf : Int32) (v : Option Value) (ws' : va_W) : Prop := ((0 ≤ xs.toInt ∧ xs.toInt < (S : Int)) → ∃ (a : Int32) (k : Nat), v = some (.int a) ∧ zj_R (fun i => (fM i).toInt) t (0, zj_tk (fun i => (fM i).toInt) t 0, 0, 0, 0, 0, 0, [], 0, 0) (zj_f a.toInt k) ∧ ∃ aO FO3, ws'[218]? = some (aO, .inr (11, FO3)) ∧ FO3[44]? = some (.int (nI k))) ∧ (¬ (0 ≤ xs.toInt ∧ xs.toInt < (S : Int)) → v = some (.int (-1000)) ∧ ∃ aO FO3, ws'[218]? = some (aO, .inr (11, FO3)) ∧ FO3[44]? = some (.int lf))
def zj_mI : List Nat := [3, 4, 6, 37, 38, 39, 40, 41, 42, 43, 45, 46]
def zj_mQ : List (Nat × (Nat × (Nat × Nat))) := [(1, 219, 1, 340), (25, 234, 0, 84), (26, 235, 0, 21), (27, 236, 0, 126), (28, 237, 0, 126), (29, 238, 0, 21), (30, 239, 0, 168), (31, 240, 0, 168), (32, 241, 0, 168), (33, 242, 0, 2100), (34, 243, 0, 2100), (35, 244, 0, 2100), (36, 245, 0, 64)]
def zj_ckM (h : List zx_C) : Bool := (zj_ql h 218 11 101 && zj_qs h 218 11 47 zj_kL) && (zj_mI.all (fun k => zj_qs h 218 11 k zj_kI) && zj_mQ.all (fun q => zj_qs h 218 11 q.1 (zj_k1 q.2.1) && zj_qa h q.2.1 q.2.2.1 q.2.2.2))
section ZKV2
variable {l : Launch} {b : Nat} {ex : List Nat} {ρ : List Int} {tys : List (ClassId × FieldType)} {h : List zx_C} {ws : va_W}
set_option maxHeartbeats 4000000 in
theorem zj_useM (hh : zx_F2 (fun c q => zx_RC vwCl b ex ρ (zx_as ws) tys c q.2) h ws) (hck : zj_ckM h = true) {fR fM : Nat → Int32} (hrow : zg_row ws 219 fR) (hf : ∀ i, fR i &&& 255 = fM i) (hf2 : ∀ i, 0 ≤ (fM i).toInt ∧ (fM i).toInt ≤ 255) {t S : Int} (ht : zg_fld (ws.drop 218) 2 t) (hS : zg_fld (ws.drop 218) 22 S) (ht0 : 0 ≤ t ∧ t ≤ 340) (hS0 : 0 ≤ S ∧ S ≤ 20) {aO : Nat} {eO : va_E} (hO : ws[218]? = some (aO, eO)) {xs : Int32} {lf : Int} (hlf : zg_fld (ws.drop 218) 44 lf) : ∃ (X : List Nat → List (ClassId × FieldType) → List Value → va_W → Prop) (Z0 : List Nat → List Value → va_W → Option Value → va_W → Prop), zj_W l 10 148 X Z0 ∧ X ex tys [.ref aO, .int xs] ws ∧ ∀ v ws', Z0 ex [.ref aO, .int xs] ws v ws' → ∃ lfx : Int32, lfx.toInt = lf ∧ zj_oM fM t.toNat S.toNat xs lfx v ws' := by
  unfold zj_ckM at hck
  simp only [Bool.and_eq_true] at hck
  obtain ⟨⟨c1, c2⟩, c3, c4⟩ := hck
  obtain ⟨aO', FO, h0, hOl⟩ := zj_o hh c1
  have eO' : aO' = aO := by rw [h0] at hO; cases hO; rfl
  subst eO'
  obtain ⟨wd, k47⟩ := zj_sL hh c2 h0
  have hi : ∀ k ∈ zj_mI, ∃ w : Int32, FO[k]? = some (.int w) := fun k hk => zj_sI hh (List.all_eq_true.mp c3 k hk) h0
  have hq : ∀ q ∈ zj_mQ, ∃ (a : Nat) (f : Nat → Int32), FO[q.1]? = some (.ref a) ∧ zj_row tys ws q.2.1 a q.2.2.2 (zx_ty vwCl q.2.2.1) f := by
    intro q hq
    have h1 := List.all_eq_true.mp c4 q hq
    rw [Bool.and_eq_true] at h1
    obtain ⟨a, e, h2, h3⟩ := zj_s1 hh h1.1 h0
    have h4 : ∀ q ∈ zj_mQ, q.2.2.1 < 3 := by decide
    obtain ⟨f, h5⟩ := zj_r hh h1.2 (h4 q hq) h3
    exact ⟨a, f, h2, h5⟩
  have hfi : ∀ {k : Nat} {w : Int}, zg_fld (ws.drop 218) k w → ∃ x : Int32, FO[k]? = some (.int x) ∧ x.toInt = w := by
    rintro k w ⟨a, ci, fs, x, g1, g2, g3⟩
    rw [List.getElem?_drop] at g1
    have g1 : ws[218]? = _ := g1
    rw [h0] at g1
    cases g1
    exact ⟨x, g2, g3⟩
  have k2 : FO[2]? = some (.int (nI t.toNat)) := by
    obtain ⟨x, g1, g2⟩ := hfi ht
    rw [g1, zj_nat g2 ht0.1]
  have k22 : FO[22]? = some (.int (nI S.toNat)) := by
    obtain ⟨x, g1, g2⟩ := hfi hS
    rw [g1, zj_nat g2 hS0.1]
  obtain ⟨lfx, k44, hlfx⟩ := hfi hlf
  obtain ⟨sz, k3⟩ := hi 3 (by decide)
  obtain ⟨pp, k4⟩ := hi 4 (by decide)
  obtain ⟨tl, k6⟩ := hi 6 (by decide)
  obtain ⟨sm, k37⟩ := hi 37 (by decide)
  obtain ⟨pm, k38⟩ := hi 38 (by decide)
  obtain ⟨on, k39⟩ := hi 39 (by decide)
  obtain ⟨tok, k40⟩ := hi 40 (by decide)
  obtain ⟨at_, k41⟩ := hi 41 (by decide)
  obtain ⟨sp, k42⟩ := hi 42 (by decide)
  obtain ⟨nu, k43⟩ := hi 43 (by decide)
  obtain ⟨fa, k45⟩ := hi 45 (by decide)
  obtain ⟨td, k46⟩ := hi 46 (by decide)
  let ad : Nat → Nat := fun k => match FO[k]? with
    | some (.ref a) => a
    | _ => 0
  let M : zj_M := (tys, aO', ad, fR, fM, t.toNat)
  have hq2 : ∀ q ∈ zj_mQ, FO[q.1]? = some (.ref (M.ad q.1)) ∧ ∃ f, zj_row tys ws q.2.1 (M.ad q.1) q.2.2.2 (zx_ty vwCl q.2.2.1) f := by
    intro q h1
    obtain ⟨a, f, h2, h3⟩ := hq q h1
    have h4 : M.ad q.1 = a := by
      show (match FO[q.1]? with
        | some (.ref a) => a
        | _ => 0) = a
      rw [h2]
    rw [h4]
    exact ⟨h2, f, h3⟩
  have hM : zj_Mok M := ⟨by show t.toNat ≤ 340; omega, hf, hf2⟩
  obtain ⟨fv, r26⟩ := (hq2 (26, 235, 0, 21) (by decide)).2
  obtain ⟨fe, r29⟩ := (hq2 (29, 238, 0, 21) (by decide)).2
  obtain ⟨pf, r36⟩ := (hq2 (36, 245, 0, 64) (by decide)).2
  obtain ⟨f1, r1⟩ := (hq2 (1, 219, 1, 340) (by decide)).2
  have r1 : zj_row tys ws 219 (M.ad 1) 340 .byte fR := by
    obtain ⟨cA, t0, g1, g2⟩ := r1
    have := zg_row_eq hrow g1
    subst this
    exact ⟨cA, t0, g1, g2⟩
  have hms : zj_ms M ws (zj_ME M (nI M.t) (nI S.toNat) (zj_ML M sz pp tok at_ sp nu wd lfx fa td on sm pm)) fv fe pf := by
    refine ⟨⟨FO, h0, hOl, ?_, tl, k6⟩, r1, r26, r29, r36, fun q hq3 => ?_⟩
    · intro q hq3
      unfold zj_ME zj_ML at hq3
      simp only [List.mem_cons, List.not_mem_nil, or_false] at hq3
      rcases hq3 with rfl | rfl | rfl | rfl | rfl | rfl | rfl | rfl | rfl | rfl | rfl | rfl | rfl | rfl | rfl | rfl | rfl | rfl | rfl | rfl | rfl | rfl | rfl | rfl | rfl | rfl | rfl | rfl
      · exact k2
      · exact k22
      · exact k3
      · exact k4
      · exact k40
      · exact k41
      · exact k42
      · exact k43
      · exact k47
      · exact k44
      · exact k45
      · exact k46
      · exact k39
      · exact k37
      · exact k38
      · exact (hq2 (1, 219, 1, 340) (by decide)).1
      · exact (hq2 (25, 234, 0, 84) (by decide)).1
      · exact (hq2 (26, 235, 0, 21) (by decide)).1
      · exact (hq2 (27, 236, 0, 126) (by decide)).1
      · exact (hq2 (28, 237, 0, 126) (by decide)).1
      · exact (hq2 (29, 238, 0, 21) (by decide)).1
      · exact (hq2 (30, 239, 0, 168) (by decide)).1
      · exact (hq2 (31, 240, 0, 168) (by decide)).1
      · exact (hq2 (32, 241, 0, 168) (by decide)).1
      · exact (hq2 (33, 242, 0, 2100) (by decide)).1
      · exact (hq2 (34, 243, 0, 2100) (by decide)).1
      · exact (hq2 (35, 244, 0, 2100) (by decide)).1
      · exact (hq2 (36, 245, 0, 64) (by decide)).1
    · have h5 : ∀ q ∈ zj_mrt, (q.1, q.2.1, 0, q.2.2) ∈ zj_mQ := by decide
      exact (hq2 _ (h5 q hq3)).2
  have hW := zj_contractM_W (l := l) (M := M) (xs := xs) hM hms (by omega : S.toNat ≤ 20)
  have fin : ∀ {L : List (Nat × Value)} {fv2 fe2 pf2 : Nat → Int32} {ws' : va_W} {w : Int32}, zj_ms M ws' L fv2 fe2 pf2 → zj_lk L 44 = some (.int w) → ∃ aO FO3, ws'[218]? = some (aO, .inr (11, FO3)) ∧ FO3[44]? = some (.int w) := by
    rintro L fv2 fe2 pf2 ws' w ⟨⟨fs, g1, -, g2, -⟩, -⟩ g3
    exact ⟨_, fs, g1, g2 _ (zj_lk_mem g3)⟩
  refine ⟨_, _, hW, ⟨rfl, rfl, rfl⟩, fun v ws' hZ => ⟨lfx, hlfx, fun hv => ?_, fun hv => ?_⟩⟩
  · obtain ⟨a, k, L, fv2, fe2, pf2, g1, g2, g3, g4⟩ := hZ.1 hv
    exact ⟨a, k, g1, g2, fin g3 g4⟩
  · obtain ⟨g1, L, fv2, fe2, pf2, g3, g4⟩ := hZ.2 hv
    exact ⟨g1, fin g3 g4⟩
end ZKV2
end
