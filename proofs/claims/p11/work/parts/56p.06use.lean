noncomputable section
/-! zo: class and reference at the law's calls of opera -/
def zo_kq (P : Nat → Bool) (s : zx_S) : Bool := match s with
  | .inl (.inr (.inl (ids, false))) => ids.all P
  | _ => false
theorem zo_kq_ok {P : Nat → Bool} {b : Nat} {ex : List Nat} {ρ : List Int} {ad : List Nat} {s : zx_S} {x : Value} (hs : zo_kq P s = true) (hx : zx_RS b ex ρ ad s x) : ∃ i a : Nat, P i = true ∧ zx_ad ex ad i = some a ∧ x = .ref a := by
  rcases s with (e | (⟨r, n⟩ | c)) | q
  · cases hs
  · cases n
    · rcases hx with ⟨h1, -⟩ | ⟨i, a, h2, h3, h1⟩
      · cases h1
      · exact ⟨i, a, List.all_eq_true.mp hs i h2, h3, h1⟩
    · cases hs
  · cases hs
  · cases hs
/-- a row of references, each one of these -/
def zo_kn (P : Nat → Bool) (h : List zx_C) (i : Nat) : Bool := match zy_get h i with
  | some (.inr (.inl (_, _, true, t :: _))) => zo_kq P t
  | some (.inr (.inl (_, _, false, l))) => l.all (zo_kq P)
  | _ => false
def zo_cko (h : List zx_C) (id : Nat) : Bool := (fun (j : Nat) => Nat.blt j 9 && (Nat.beq id (80 + 6 * j) && (fun (i : Nat) => (zj_ql h i 6 10 && ((zj_qs h i 6 0 zj_kI && (zj_qs h i 6 1 zj_kI && (zj_qs h i 6 2 zj_kI && (zj_qs h i 6 3 zj_kI && zj_qs h i 6 4 zj_kI)))) && (zj_qs h i 6 5 (zj_k1 (i + 1)) && (zj_qs h i 6 6 (zj_k1 (i + 2)) && (zj_qs h i 6 7 (zj_k1 (i + 3)) && (zj_qs h i 6 8 (zj_k1 (i + 4)) && zj_qs h i 6 9 (zj_k1 (i + 5)))))))) && (zj_qa h (i + 1) 0 4 && (zj_qa h (i + 2) 0 8 && (zj_qa h (i + 3) 0 8 && (zj_qa h (i + 4) 0 8 && zj_qa h (i + 5) 0 8))))) (16 + 6 * j))) ((id - 80) / 6)
def zo_ckC (h : List zx_C) : Bool := (zj_ql h 0 10 14 && (zj_qs h 0 10 0 (zj_k1 1) && (zj_qs h 0 10 2 (zj_k1 3) && (zj_qs h 0 10 9 (zj_k1 212) && zj_qs h 0 10 10 zj_kI)))) &&
  ((zj_ql h 3 2 12 && (zj_qs h 3 2 0 zj_kI && zj_qs h 3 2 5 (zj_k1 9))) &&
  ((zj_ql h 212 4 13 && (zj_qa h 1 0 340 && zj_qa h 9 9 9)) && zo_kn (zo_cko h) h 9))
theorem zo_l10 {fs : List Value} {x0 x1 x2 x3 x4 x5 x6 x7 x8 x9 : Value} (hl : fs.length = 10) (h0 : fs[0]? = some x0) (h1 : fs[1]? = some x1) (h2 : fs[2]? = some x2) (h3 : fs[3]? = some x3) (h4 : fs[4]? = some x4) (h5 : fs[5]? = some x5) (h6 : fs[6]? = some x6) (h7 : fs[7]? = some x7) (h8 : fs[8]? = some x8) (h9 : fs[9]? = some x9) : fs = [x0, x1, x2, x3, x4, x5, x6, x7, x8, x9] := by
  refine List.ext_getElem? (fun n => ?_)
  match n with
  | 0 => exact h0
  | 1 => exact h1
  | 2 => exact h2
  | 3 => exact h3
  | 4 => exact h4
  | 5 => exact h5
  | 6 => exact h6
  | 7 => exact h7
  | 8 => exact h8
  | 9 => exact h9
  | n + 10 =>
    rw [List.getElem?_eq_none (by omega), List.getElem?_eq_none (by simp only [List.length_cons, List.length_nil]; omega)]
/-- what is told of both: the answer; how many there are -/
def zo_oC (acc : Prop) (N : Nat) (v : Option Value) (ws' : va_W) : Prop := (acc → v = some (.int (nI N)) ∧ ∃ aH FH, ws'[3]? = some (aH, .inr (2, FH)) ∧ FH[0]? = some (.int (nI (N + 1)))) ∧ (¬ acc → v = some (.int (-1)) ∧ ∃ aH FH, ws'[3]? = some (aH, .inr (2, FH)) ∧ FH[0]? = some (.int (nI N)))
def zo_oM (acc : Prop) (N : Nat) (v : Option Value) (ws' : va_W) : Prop := (acc → v = some (.int (nI N)) ∧ ∃ aM fs, ws'[218]? = some (aM, .inr (11, fs)) ∧ fs[21]? = some (.int (nI (N + 1)))) ∧ (¬ acc → v = some (.int (-1)) ∧ ∃ aM fs, ws'[218]? = some (aM, .inr (11, fs)) ∧ fs[21]? = some (.int (nI N)))
theorem zo_nat {x : Int32} {t : Int} (h : x.toInt = t) (h0 : 0 ≤ t) : x = nI t.toNat := by
  subst h
  exact (zx_nat h0).1
section ZOU
variable {l : Launch} {b : Nat} {ex : List Nat} {ρ : List Int} {tys : List (ClassId × FieldType)} {h : List zx_C} {ws : va_W}
/-- the operas' objects -/
theorem zo_objs (hh : zx_F2 (fun c q => zx_RC vwCl b ex ρ (zx_as ws) tys c q.2) h ws) (hk : zo_kn (zo_cko h) h 9 = true) (hq : zj_qa h 9 9 9 = true) {aQ : Nat} {eQ : va_E} (pQ : ws[9]? = some (aQ, eQ)) : ∃ (cQ : ClassId) (tQ : Nat) (Cn : String) (fQ : Nat → Option Nat), ws[9]? = some (aQ, .inl (cQ, 9, .inr (.inr (.inr (.inr fQ))))) ∧ tys[tQ]? = some (cQ, .object Cn) ∧ ∀ k, k < 9 → ∃ j, j < 9 ∧ ∃ (a : Nat) (x0 x1 x2 x3 x4 : Int32), fQ k = some a ∧ zo_O tys ws (16 + 6 * j) a x0 x1 x2 x3 x4 := by
  have obj : ∀ (i a : Nat), zo_cko h i = true → zx_ad ex (zx_as ws) i = some a → ∃ j, j < 9 ∧ ∃ (x0 x1 x2 x3 x4 : Int32), zo_O tys ws (16 + 6 * j) a x0 x1 x2 x3 x4 := by
    intro i a hc hA
    unfold zo_cko at hc
    generalize (i - 80) / 6 = j at hc
    simp only [Bool.and_eq_true] at hc
    obtain ⟨c1, c2, ⟨c3, ⟨d0, d1, d2, d3, d4⟩, d5, d6, d7, d8, d9⟩, e1, e2, e3, e4, e5⟩ := hc
    have c1 : j < 9 := by simpa [Nat.blt_eq] using c1
    have c2 := Nat.eq_of_beq_eq_true c2
    obtain ⟨a', fs, ho, hl⟩ := zj_o hh c3
    have ea : a' = a := by
      rw [zx_ad, if_neg (by omega), show i - 64 = 16 + 6 * j by omega] at hA
      obtain ⟨e, g1⟩ := zj_adw hA
      rw [ho] at g1
      cases g1
      rfl
    subst ea
    obtain ⟨x0, f0⟩ := zj_sI hh d0 ho
    obtain ⟨x1, f1⟩ := zj_sI hh d1 ho
    obtain ⟨x2, f2⟩ := zj_sI hh d2 ho
    obtain ⟨x3, f3⟩ := zj_sI hh d3 ho
    obtain ⟨x4, f4⟩ := zj_sI hh d4 ho
    obtain ⟨b5, y5, f5, p5⟩ := zj_s1 hh d5 ho
    obtain ⟨b6, y6, f6, p6⟩ := zj_s1 hh d6 ho
    obtain ⟨b7, y7, f7, p7⟩ := zj_s1 hh d7 ho
    obtain ⟨b8, y8, f8, p8⟩ := zj_s1 hh d8 ho
    obtain ⟨b9, y9, f9, p9⟩ := zj_s1 hh d9 ho
    rw [zo_l10 hl f0 f1 f2 f3 f4 f5 f6 f7 f8 f9] at ho
    exact ⟨j, c1, x0, x1, x2, x3, x4, b5, b6, b7, b8, b9, ho, zj_r hh e1 (by decide) p5, zj_r hh e2 (by decide) p6, zj_r hh e3 (by decide) p7, zj_r hh e4 (by decide) p8, zj_r hh e5 (by decide) p9⟩
  unfold zj_qa at hq
  split at hq
  case h_2 => cases hq
  rename_i t m sl hi
  rw [zy_get_eq] at hi
  rw [Bool.and_eq_true] at hq
  have e1 := Nat.eq_of_beq_eq_true hq.1
  have e2 := Nat.eq_of_beq_eq_true hq.2
  subst e1
  subst e2
  obtain ⟨sm, l0⟩ := sl
  unfold zo_kn at hk
  rw [zy_get_eq, hi] at hk
  obtain ⟨⟨a', e'⟩, h1, cA, t0, h2, h3⟩ := zx_F2_get hh hi
  rw [h1] at pQ
  cases pQ
  rcases h3 with ⟨h4, -⟩ | ⟨-, f, h4, h5⟩
  · have h4 : 9 < 3 := h4
    omega
  · have h4 : eQ = .inl (cA, 9, .inr (.inr (.inr (.inr f)))) := h4
    subst h4
    refine ⟨cA, t0, _, f, h1, h2, fun k hk9 => ?_⟩
    have h6 : ∃ i a : Nat, zo_cko h i = true ∧ zx_ad ex (zx_as ws) i = some a ∧ va_rf (f k) = .ref a := by
      cases sm with
      | true =>
        obtain ⟨t, fs, g1, g2, -⟩ := h5
        have g1 : l0 = t :: fs := g1
        subst g1
        exact zo_kq_ok hk (g2 k hk9)
      | false =>
        obtain ⟨g1, g2⟩ := h5
        have g1 : l0.length = 9 := g1
        have g3 : l0[k]? = some l0[k] := List.getElem?_eq_getElem (by omega)
        exact zo_kq_ok (List.all_eq_true.mp hk _ (List.getElem_mem _)) (g2 k _ g3)
    obtain ⟨i, a, k1, k2, k3⟩ := h6
    obtain ⟨j, hj, x0, x1, x2, x3, x4, ho⟩ := obj i a k1 k2
    refine ⟨j, hj, a, x0, x1, x2, x3, x4, ?_, ho⟩
    cases h8 : f k with
    | none => rw [h8] at k3; cases k3
    | some y => rw [h8] at k3; cases k3; rfl
set_option maxHeartbeats 4000000 in
theorem zo_useC (hh : zx_F2 (fun c q => zx_RC vwCl b ex ρ (zx_as ws) tys c q.2) h ws) (hck : zo_ckC h = true) {fC : Nat → Int32} (hrow : zg_row ws 1 fC) (hf : ∀ i, i < 340 → 0 ≤ (fC i).toInt ∧ (fC i).toInt ≤ 255) {t N : Int} (ht : zg_fld ws 10 t) (hN : zg_fld (ws.drop 3) 0 N) (ht0 : 0 ≤ t ∧ t ≤ 340) (hN0 : 0 ≤ N ∧ N ≤ 9) {aO : Nat} {eO : va_E} (hO : ws[0]? = some (aO, eO)) {hx sx cx nx : Int32} (hcx : cx = 0 ∨ cx = 1) : ∃ (X : List Nat → List (ClassId × FieldType) → List Value → va_W → Prop) (Z0 : List Nat → List Value → va_W → Option Value → va_W → Prop), zj_W l 5 16 X Z0 ∧ X ex tys [.ref aO, .int hx, .int sx, .int cx, .int nx] ws ∧ ∀ v ws', Z0 ex [.ref aO, .int hx, .int sx, .int cx, .int nx] ws v ws' → zo_oC (zo_acc N.toNat hx.toInt sx.toInt nx.toInt (fun k => (fC k).toInt) t.toNat) N.toNat v ws' := by
  unfold zo_ckC at hck
  simp only [Bool.and_eq_true] at hck
  obtain ⟨⟨c1, c2, c3, c4, c5⟩, ⟨c6, c7, c8⟩, ⟨c9, c10, c11⟩, c12⟩ := hck
  obtain ⟨aO', FO, h0, hOl⟩ := zj_o hh c1
  have eO' : aO' = aO := by rw [h0] at hO; cases hO; rfl
  subst eO'
  obtain ⟨aT, eT, hO0, pT⟩ := zj_s1 hh c2 h0
  obtain ⟨aH, eH, hO2, pH⟩ := zj_s1 hh c3 h0
  obtain ⟨aY, eY, hO9, pY⟩ := zj_s1 hh c4 h0
  have hO10 : FO[10]? = some (.int (nI t.toNat)) := by
    obtain ⟨a, ci, fs, x, g1, g2, g3⟩ := ht
    rw [h0] at g1
    cases g1
    rw [g2, zo_nat g3 ht0.1]
  obtain ⟨aH', FH, h3, hHl⟩ := zj_o hh c6
  have eH' : aH' = aH := by rw [h3] at pH; cases pH; rfl
  subst eH'
  have hH0 : FH[0]? = some (.int (nI N.toNat)) := by
    obtain ⟨a, ci, fs, x, g1, g2, g3⟩ := hN
    rw [List.getElem?_drop] at g1
    have g1 : ws[3]? = _ := g1
    rw [h3] at g1
    cases g1
    rw [g2, zo_nat g3 hN0.1]
  obtain ⟨aQ, eQ, hH5, pQ⟩ := zj_s1 hh c8 h3
  obtain ⟨cQ, tQ, Cn, fQ, h9, htQ, hQ⟩ := zo_objs hh c12 c11 pQ
  obtain ⟨aY', FY, h212, hYl⟩ := zj_o hh c9
  have eY' : aY' = aY := by rw [h212] at pY; cases pY; rfl
  subst eY'
  obtain ⟨fT, hT⟩ := zj_r hh c10 (by decide) pT
  have hT : zj_row tys ws 1 aT 340 .int fC := by
    obtain ⟨cA, t0, g1, g2⟩ := hT
    have := zg_row_eq hrow g1
    subst this
    exact ⟨cA, t0, g1, g2⟩
  obtain ⟨σ, hσ⟩ := Classical.axiomOfChoice (r := fun (k j : Nat) => k < 9 → (j < 9 ∧ ∃ (a : Nat) (x0 x1 x2 x3 x4 : Int32), fQ k = some a ∧ zo_O tys ws (16 + 6 * j) a x0 x1 x2 x3 x4)) (fun k => by
    by_cases hk : k < 9
    · obtain ⟨j, hj⟩ := hQ k hk
      exact ⟨j, fun _ => hj⟩
    · exact ⟨0, fun h => absurd h hk⟩)
  have hW := zo_operaC_W (l := l) (ex := ex) (tys := tys) (hh := hx) (ss := sx) (ch := cx) (nn := nx) h0 hO0 hO2 hO9 hO10 hOl hT hf h3 hH0 hH5 hHl h9 htQ hσ h212 hYl (by omega : N.toNat ≤ 9) (by omega : t.toNat ≤ 340) hcx
  refine ⟨_, _, hW, ⟨rfl, rfl, rfl, rfl⟩, fun v ws' hZ => ⟨fun ha => ?_, fun ha => ?_⟩⟩
  · obtain ⟨g1, -, -, -, -, -, -, FH', g2, g3⟩ := hZ.2.1 ha
    exact ⟨g1, _, FH', g2, g3⟩
  · obtain ⟨g1, FH', g2, g3⟩ := hZ.2.2 ha
    exact ⟨g1, _, FH', g2, g3⟩
end ZOU
def zo_mI : List Nat := [3, 4, 6]
def zo_mQ : List (Nat × (Nat × (Nat × Nat))) := [(1, 219, 1, 340), (7, 220, 0, 9), (8, 221, 0, 9), (9, 222, 0, 9), (10, 223, 0, 36), (11, 224, 0, 9), (12, 225, 0, 72), (13, 226, 0, 72), (14, 227, 0, 72), (15, 228, 0, 72), (16, 229, 2, 9)]
def zo_ckM (h : List zx_C) : Bool := zj_ql h 218 11 101 && (zo_mI.all (fun k => zj_qs h 218 11 k zj_kI) && zo_mQ.all (fun q => zj_qs h 218 11 q.1 (zj_k1 q.2.1) && zj_qa h q.2.1 q.2.2.1 q.2.2.2))
section ZOV
variable {l : Launch} {b : Nat} {ex : List Nat} {ρ : List Int} {tys : List (ClassId × FieldType)} {h : List zx_C} {ws : va_W}
set_option maxHeartbeats 4000000 in
theorem zo_useM (hh : zx_F2 (fun c q => zx_RC vwCl b ex ρ (zx_as ws) tys c q.2) h ws) (hck : zo_ckM h = true) {fR : Nat → Int32} (hrow : zg_row ws 219 fR) {t N : Int} (ht : zg_fld (ws.drop 218) 2 t) (hN : zg_fld (ws.drop 218) 21 N) (ht0 : 0 ≤ t ∧ t ≤ 340) (hN0 : 0 ≤ N ∧ N ≤ 9) {aO : Nat} {eO : va_E} (hO : ws[218]? = some (aO, eO)) {hx sx cx nx : Int32} : ∃ (X : List Nat → List (ClassId × FieldType) → List Value → va_W → Prop) (Z0 : List Nat → List Value → va_W → Option Value → va_W → Prop), zj_W l 4 142 X Z0 ∧ X ex tys [.ref aO, .int hx, .int sx, .int cx, .int nx] ws ∧ ∀ v ws', Z0 ex [.ref aO, .int hx, .int sx, .int cx, .int nx] ws v ws' → zo_oM (zo_acc N.toNat hx.toInt sx.toInt nx.toInt (fun k => (fR k).toInt) t.toNat) N.toNat v ws' := by
  unfold zo_ckM at hck
  simp only [Bool.and_eq_true] at hck
  obtain ⟨c1, c3, c4⟩ := hck
  obtain ⟨aO', FO, h0, hOl⟩ := zj_o hh c1
  have eO' : aO' = aO := by rw [h0] at hO; cases hO; rfl
  subst eO'
  have hi : ∀ k ∈ zo_mI, ∃ w : Int32, FO[k]? = some (.int w) := fun k hk => zj_sI hh (List.all_eq_true.mp c3 k hk) h0
  have hq : ∀ q ∈ zo_mQ, ∃ (a : Nat) (f : Nat → Int32), FO[q.1]? = some (.ref a) ∧ zj_row tys ws q.2.1 a q.2.2.2 (zx_ty vwCl q.2.2.1) f := by
    intro q hq
    have h1 := List.all_eq_true.mp c4 q hq
    rw [Bool.and_eq_true] at h1
    obtain ⟨a, e, h2, h3⟩ := zj_s1 hh h1.1 h0
    have h4 : ∀ q ∈ zo_mQ, q.2.2.1 < 3 := by decide
    obtain ⟨f, h5⟩ := zj_r hh h1.2 (h4 q hq) h3
    exact ⟨a, f, h2, h5⟩
  have hfi : ∀ {k : Nat} {w : Int}, zg_fld (ws.drop 218) k w → ∃ x : Int32, FO[k]? = some (.int x) ∧ x.toInt = w := by
    rintro k w ⟨a, ci, fs, x, g1, g2, g3⟩
    rw [List.getElem?_drop] at g1
    have g1 : ws[218]? = _ := g1
    rw [h0] at g1
    cases g1
    exact ⟨x, g2, g3⟩
  have k2 : FO[2]? = some (.int (nI t.toNat)) := by
    obtain ⟨x, g1, g2⟩ := hfi ht
    rw [g1, zo_nat g2 ht0.1]
  have k21 : FO[21]? = some (.int (nI N.toNat)) := by
    obtain ⟨x, g1, g2⟩ := hfi hN
    rw [g1, zo_nat g2 hN0.1]
  obtain ⟨sz, k3⟩ := hi 3 (by decide)
  obtain ⟨pp, k4⟩ := hi 4 (by decide)
  obtain ⟨tl, k6⟩ := hi 6 (by decide)
  let ad : Nat → Nat := fun k => match FO[k]? with
    | some (.ref a) => a
    | _ => 0
  have hq2 : ∀ q ∈ zo_mQ, FO[q.1]? = some (.ref (ad q.1)) ∧ ∃ f, zj_row tys ws q.2.1 (ad q.1) q.2.2.2 (zx_ty vwCl q.2.2.1) f := by
    intro q h1
    obtain ⟨a, f, h2, h3⟩ := hq q h1
    have h4 : ad q.1 = a := by
      show (match FO[q.1]? with
        | some (.ref a) => a
        | _ => 0) = a
      rw [h2]
    rw [h4]
    exact ⟨h2, f, h3⟩
  obtain ⟨fr, r11⟩ := (hq2 (11, 224, 0, 9) (by decide)).2
  obtain ⟨f1, r1⟩ := (hq2 (1, 219, 1, 340) (by decide)).2
  have r1 : zj_row tys ws 219 (ad 1) 340 .byte fR := by
    obtain ⟨cA, t0, g1, g2⟩ := r1
    have := zg_row_eq hrow g1
    subst this
    exact ⟨cA, t0, g1, g2⟩
  have hms : zo_ms tys ws aO' ad (zo_L ad (nI t.toNat) sz pp (nI N.toNat)) fR fr := by
    refine ⟨⟨FO, h0, hOl, ?_, tl, k6⟩, r1, r11, (hq2 (16, 229, 2, 9) (by decide)).2, fun q hq3 => ?_⟩
    · intro q hq3
      unfold zo_L at hq3
      simp only [List.mem_cons, List.not_mem_nil, or_false] at hq3
      rcases hq3 with rfl | rfl | rfl | rfl | rfl | rfl | rfl | rfl | rfl | rfl | rfl | rfl | rfl | rfl | rfl
      · exact k2
      · exact k3
      · exact k4
      · exact k21
      · exact (hq2 (1, 219, 1, 340) (by decide)).1
      · exact (hq2 (7, 220, 0, 9) (by decide)).1
      · exact (hq2 (8, 221, 0, 9) (by decide)).1
      · exact (hq2 (9, 222, 0, 9) (by decide)).1
      · exact (hq2 (10, 223, 0, 36) (by decide)).1
      · exact (hq2 (11, 224, 0, 9) (by decide)).1
      · exact (hq2 (12, 225, 0, 72) (by decide)).1
      · exact (hq2 (13, 226, 0, 72) (by decide)).1
      · exact (hq2 (14, 227, 0, 72) (by decide)).1
      · exact (hq2 (15, 228, 0, 72) (by decide)).1
      · exact (hq2 (16, 229, 2, 9) (by decide)).1
    · have h5 : ∀ q ∈ zo_mrt, (q.1, q.2.1, 0, q.2.2) ∈ zo_mQ := by decide
      exact (hq2 _ (h5 q hq3)).2
  have hW := zo_operaM_W (l := l) (ex := ex) (hh := hx) (ss := sx) (ch := cx) (nn := nx) hms (by omega : N.toNat ≤ 9) (by omega : t.toNat ≤ 340)
  refine ⟨_, _, hW, ⟨rfl, rfl, rfl, rfl⟩, fun v ws' hZ => ⟨fun ha => ?_, fun ha => ?_⟩⟩
  · obtain ⟨g1, -, fs, g2, g3⟩ := hZ.1 ha
    exact ⟨g1, _, fs, g2, g3⟩
  · obtain ⟨g1, -, fs, g2, g3⟩ := hZ.2 ha
    exact ⟨g1, _, fs, g2, g3⟩
end ZOV
/-- both take the same -/
theorem zo_same {fC fR : Nat → Int32} {t : Nat} {N : Nat} {h s n : Int} (hrel : ∀ k : Nat, k < 340 → zq_rel (fC k) (fR k)) (hf : ∀ k : Nat, k < 340 → 0 ≤ (fC k).toInt ∧ (fC k).toInt ≤ 255) (ht : t ≤ 340) : zo_acc N h s n (fun k => (fC k).toInt) t ↔ zo_acc N h s n (fun k => (fR k).toInt) t := by
  have key : ∀ k, k < t → ((zo_lo k ≤ (fC k).toInt ∧ (fC k).toInt ≤ zo_hi k) ↔ (zo_lo k ≤ (fR k).toInt ∧ (fR k).toInt ≤ zo_hi k)) := by
    intro k hk
    have h1 := hrel k (by omega)
    have h2 := hf k (by omega)
    obtain ⟨h3, h4⟩ := zo_b k
    unfold zq_rel at h1
    rw [h1]
    unfold Int.bmod
    simp only []
    split <;> omega
  unfold zo_acc zo_ok
  exact ⟨fun h1 => ⟨h1.1, h1.2.1, h1.2.2.1, fun k hk => (key k hk).mp (h1.2.2.2 k hk)⟩, fun h1 => ⟨h1.1, h1.2.1, h1.2.2.1, fun k hk => (key k hk).mpr (h1.2.2.2 k hk)⟩⟩
/-- one answer, one count -/
theorem zo_one {acc : Prop} {N : Nat} {v v' : Option Value} {wsC wsM : va_W} (h1 : zo_oC acc N v wsC) (h2 : zo_oM acc N v' wsM) : v = v' ∧ ∃ x : Int32, (∃ aH FH, wsC[3]? = some (aH, .inr (2, FH)) ∧ FH[0]? = some (.int x)) ∧ ∃ aM fs, wsM[218]? = some (aM, .inr (11, fs)) ∧ fs[21]? = some (.int x) := by
  by_cases ha : acc
  · obtain ⟨g1, g2⟩ := h1.1 ha
    obtain ⟨g3, g4⟩ := h2.1 ha
    exact ⟨g1.trans g3.symm, _, g2, g4⟩
  · obtain ⟨g1, g2⟩ := h1.2 ha
    obtain ⟨g3, g4⟩ := h2.2 ha
    exact ⟨g1.trans g3.symm, _, g2, g4⟩
end
