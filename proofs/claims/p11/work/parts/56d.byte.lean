noncomputable section
/-! zq: bytes on both tapes -/
def zq_b (x s : Int32) : Int32 := (x >>> (s &&& 31)) &&& 255
def zq_r (x s : Int32) : Int32 := (x >>> (s &&& 31)).toInt8.toInt32
/-- a place of the class's tape and the same one of the reference's -/
def zq_rel (c r : Int32) : Prop := r.toInt = c.toInt.bmod 256
theorem zq_rel_b (x s : Int32) : zq_rel (zq_b x s) (zq_r x s) := by
  unfold zq_rel zq_b zq_r
  rw [zx_and255, Int8.toInt_toInt32, Int32.toInt_toInt8]
  exact (Int.emod_bmod _ 256).symm
theorem zq_rel_0 : zq_rel 0 0 := by
  unfold zq_rel
  rfl
theorem zq_rel_lo {c r : Int32} (h : zq_rel c r) (h0 : 0 ≤ c.toInt) (h1 : c.toInt ≤ 127) : r.toInt = c.toInt := by
  unfold zq_rel at h
  rw [h, Int.bmod_def]
  split <;> omega
theorem zq_rel_hi {c r : Int32} (h : zq_rel c r) (h0 : 128 ≤ c.toInt) (h1 : c.toInt ≤ 255) : r.toInt = c.toInt - 256 := by
  unfold zq_rel at h
  rw [h, Int.bmod_def]
  split <;> omega
theorem zq_b_rg (x s : Int32) : 0 ≤ (zq_b x s).toInt ∧ (zq_b x s).toInt ≤ 255 := by
  unfold zq_b
  rw [zx_and255]
  omega
theorem zq_r_rg (x s : Int32) : -128 ≤ (zq_r x s).toInt ∧ (zq_r x s).toInt ≤ 127 := by
  unfold zq_r
  rw [Int8.toInt_toInt32]
  exact ⟨Int8.le_toInt _, by have := Int8.toInt_lt (x >>> (s &&& 31)).toInt8; omega⟩
/-- a byte of a number is stored: the row, its length, the place, the number, how far it is shifted, the state behind -/
def zq_sb (K0 : List Nat) (tag : Nat) (lo hi : Int) (T : zx_T) : Option (Nat × (Nat × (zx_L × (zx_L × (zx_L × zx_T))))) := match T.2.2.2.1 with
  | .inl s :: .inl x :: .inl e :: .inr (.inl ([id], false)) :: r => if id < 64 then none else (match zy_get T.2.1 (id - 64), zv_rng T.1 e with
    | some (.inr (.inl (tg, n, true, .inr t :: _))), some te => if tg = tag ∧ 0 ≤ te.1 ∧ te.2 < (n : Int) ∧ t.1 ≤ lo ∧ hi ≤ t.2 ∧ zx_wk0 K0 [id] = true then some (id - 64, n, e, x, s, (T.1, T.2.1.set (id - 64) (.inr (.inl (tg, n, true, [.inr t]))), T.2.2.1, r, T.2.2.2.2)) else none
    | _, _ => none)
  | _ => none
section ZQA
variable {p : Program} {l : Launch} {e : Env} {R : Room} {s : State} {mi : MethodId} {args : Array Value} {below : List Frame} {meth : Method} {c : Code} {Q : State → Prop} {D : va_G} {A : Nat → Prop} {b : Nat} {ex : List Nat} {ad0 : zx_A0} {nL : Nat} {own : String} {cc : ByteArray} {Kr : List Nat} {d : Nat} {md : zx_MD}
theorem zq_putC0 {pc i n : Nat} {e1 x1 s1 : zx_L} {T T' : zx_T} {ρ : List Int} {ws : va_W} (hx : p.tables.exec = Jvm.exec) (hb : c.code = cc) (hd1 : decode cc pc = .ok (.ishr, 1)) (hd2 : decode cc (pc + 1) = .ok (.sipush 255, 3)) (hd3 : decode cc (pc + 4) = .ok (.iand, 1)) (hd4 : decode cc (pc + 5) = .ok (.iastore, 1)) (hst : zq_sb ad0.2 0 (0) (255) T = some (i, n, e1, x1, s1, T'))
    (hgo : ∀ (a : Nat) (cA : ClassId) (f : Nat → Int32) (w : Nat) (xv sv : Int32), ws[i]? = some (a, .inl (cA, n, .inl f)) → zx_ev ρ e1 = some (w : Int) → w < n → zx_ev ρ x1 = some xv.toInt → zx_ev ρ s1 = some sv.toInt → zg_go p l e R s mi args below meth c Q D A b ex ad0 nL (pc + 6) T' ρ (ws.set i (a, .inl (cA, n, .inl (upd f w (zq_b xv sv)))))) : zg_go p l e R s mi args below meth c Q D A b ex ad0 nL pc T ρ ws := by
  intro H locs ls kc tys lc hG B
  unfold zq_sb at hst
  split at hst
  case h_2 => cases hst
  rename_i s2 x2 e2 id r hsk
  rw [hsk] at B
  obtain ⟨sv, kr0, rfl, hs, B0⟩ := zx_topi B
  obtain ⟨xv, kr1, rfl, hxv, B1⟩ := zx_topi B0
  obtain ⟨w, kr2, rfl, he, B2⟩ := zx_topi B1
  obtain ⟨x3, kr, rfl, hv3, B3⟩ := zx_top1 B2
  split at hst
  · cases hst
  rename_i hi
  rcases hv3 with ⟨h4, -⟩ | ⟨i0, a, h4, h5, rfl⟩
  · cases h4
  have hid : i0 = id := List.mem_singleton.mp h4
  subst hid
  split at hst
  case h_2 => cases hst
  rename_i tg n0 t fs te har hte
  rw [zy_get_eq] at har
  obtain ⟨w2, w3⟩ := zv_rng_ok hG hte he
  split at hst
  case isFalse => cases hst
  rename_i hc
  obtain ⟨c0, c1, c2, c3, c4, c5⟩ := hc
  subst c0
  cases hst
  have hkk : ¬ (i0 - 64) ∈ ad0.2 := zx_wk0_ok (ids := [i0]) c5 (List.mem_singleton.mpr rfl)
  obtain ⟨en, g1, cA, t0, g2, g3⟩ := zx_cell B3 hi h5 har
  rcases g3 with ⟨g3, f, rfl, g4⟩ | ⟨g3, -⟩
  case inr =>
    have g3 : 3 ≤ 0 := g3
    omega
  obtain ⟨t', fs', k1, k2, k3⟩ := g4
  cases k1
  have hvp : vp_in w n := vp_in_iff.mpr ⟨by omega, by omega⟩
  have hwn : w.toNatClampNeg = w.toInt.toNat := rfl
  have hrg := zq_b_rg xv sv
  have hq : zx_RC vwCl b ex ρ (zx_as ws) tys (.inr (.inl (0, n, true, [.inr t]))) (.inl (cA, n, .inl (upd f w.toNatClampNeg (zq_b xv sv)))) := by
    refine ⟨cA, t0, g2, Or.inl ⟨g3, _, rfl, .inr t, [], rfl, fun j hj => ?_, fun q hq => nomatch hq⟩⟩
    by_cases hj2 : j = w.toNatClampNeg
    · have e9 : upd f w.toNatClampNeg (zq_b xv sv) j = zq_b xv sv := by simp [upd, hj2]
      show zx_RS b ex ρ (zx_as ws) (.inr t) (.int (upd f w.toNatClampNeg (zq_b xv sv) j))
      rw [e9]
      exact ⟨_, rfl, by omega, by omega⟩
    · have e9 : upd f w.toNatClampNeg (zq_b xv sv) j = f j := by simp [upd, hj2]
      show zx_RS b ex ρ (zx_as ws) (.inr t) (.int (upd f w.toNatClampNeg (zq_b xv sv) j))
      rw [e9]
      exact k2 j hj
  refine lv_ishr hx hb hd1 ?_
  refine lv_sipush (v := 255) hx hb hd2 (by decide) ?_
  refine lv_iand hx hb hd3 ?_
  refine va_iast hx hb B.1 B.2.1 B.2.2.1 B.2.2.2.1.1 (i0 - 64) t0 g1 g2 hvp hd4 (fun H1 locs1 P1 D1 S1 => ?_)
  have B4 := zx_B_set B3 hkk g1 hq P1 D1 S1
  exact hgo a cA f w.toNatClampNeg xv sv g1 (by rw [he, hwn]; congr 1; omega) (by omega) hxv hs H1 locs1 ls kr tys lc hG B4
theorem zq_putR0 {pc i n : Nat} {e1 x1 s1 : zx_L} {T T' : zx_T} {ρ : List Int} {ws : va_W} (hx : p.tables.exec = Jvm.exec) (hb : c.code = cc) (hd1 : decode cc pc = .ok (.ishr, 1)) (hd2 : decode cc (pc + 1) = .ok (.i2b, 1)) (hd3 : decode cc (pc + 2) = .ok (.bastore, 1)) (hst : zq_sb ad0.2 1 (-128) (127) T = some (i, n, e1, x1, s1, T'))
    (hgo : ∀ (a : Nat) (cA : ClassId) (f : Nat → Int32) (w : Nat) (xv sv : Int32), ws[i]? = some (a, .inl (cA, n, .inl f)) → zx_ev ρ e1 = some (w : Int) → w < n → zx_ev ρ x1 = some xv.toInt → zx_ev ρ s1 = some sv.toInt → zg_go p l e R s mi args below meth c Q D A b ex ad0 nL (pc + 3) T' ρ (ws.set i (a, .inl (cA, n, .inl (upd f w (zq_r xv sv)))))) : zg_go p l e R s mi args below meth c Q D A b ex ad0 nL pc T ρ ws := by
  intro H locs ls kc tys lc hG B
  unfold zq_sb at hst
  split at hst
  case h_2 => cases hst
  rename_i s2 x2 e2 id r hsk
  rw [hsk] at B
  obtain ⟨sv, kr0, rfl, hs, B0⟩ := zx_topi B
  obtain ⟨xv, kr1, rfl, hxv, B1⟩ := zx_topi B0
  obtain ⟨w, kr2, rfl, he, B2⟩ := zx_topi B1
  obtain ⟨x3, kr, rfl, hv3, B3⟩ := zx_top1 B2
  split at hst
  · cases hst
  rename_i hi
  rcases hv3 with ⟨h4, -⟩ | ⟨i0, a, h4, h5, rfl⟩
  · cases h4
  have hid : i0 = id := List.mem_singleton.mp h4
  subst hid
  split at hst
  case h_2 => cases hst
  rename_i tg n0 t fs te har hte
  rw [zy_get_eq] at har
  obtain ⟨w2, w3⟩ := zv_rng_ok hG hte he
  split at hst
  case isFalse => cases hst
  rename_i hc
  obtain ⟨c0, c1, c2, c3, c4, c5⟩ := hc
  subst c0
  cases hst
  have hkk : ¬ (i0 - 64) ∈ ad0.2 := zx_wk0_ok (ids := [i0]) c5 (List.mem_singleton.mpr rfl)
  obtain ⟨en, g1, cA, t0, g2, g3⟩ := zx_cell B3 hi h5 har
  rcases g3 with ⟨g3, f, rfl, g4⟩ | ⟨g3, -⟩
  case inr =>
    have g3 : 3 ≤ 1 := g3
    omega
  obtain ⟨t', fs', k1, k2, k3⟩ := g4
  cases k1
  have hvp : vp_in w n := vp_in_iff.mpr ⟨by omega, by omega⟩
  have hwn : w.toNatClampNeg = w.toInt.toNat := rfl
  have hrg := zq_r_rg xv sv
  have hq : zx_RC vwCl b ex ρ (zx_as ws) tys (.inr (.inl (1, n, true, [.inr t]))) (.inl (cA, n, .inl (upd f w.toNatClampNeg (zq_r xv sv)))) := by
    refine ⟨cA, t0, g2, Or.inl ⟨g3, _, rfl, .inr t, [], rfl, fun j hj => ?_, fun q hq => nomatch hq⟩⟩
    by_cases hj2 : j = w.toNatClampNeg
    · have e9 : upd f w.toNatClampNeg (zq_r xv sv) j = zq_r xv sv := by simp [upd, hj2]
      show zx_RS b ex ρ (zx_as ws) (.inr t) (.int (upd f w.toNatClampNeg (zq_r xv sv) j))
      rw [e9]
      exact ⟨_, rfl, by omega, by omega⟩
    · have e9 : upd f w.toNatClampNeg (zq_r xv sv) j = f j := by simp [upd, hj2]
      show zx_RS b ex ρ (zx_as ws) (.inr t) (.int (upd f w.toNatClampNeg (zq_r xv sv) j))
      rw [e9]
      exact k2 j hj
  refine lv_ishr hx hb hd1 ?_
  refine lv_i2b hx hb hd2 rfl ?_
  refine va_bast hx hb B.1 B.2.1 B.2.2.1 B.2.2.2.1.1 (i0 - 64) t0 g1 g2 hvp hd3 (fun H1 locs1 P1 D1 S1 => ?_)
  have e8 : vp_nar .byte (zq_r xv sv) = zq_r xv sv := zx_nar8 hrg.1 hrg.2
  have P1 : va_P D vwCl (ws.set (i0 - 64) (a, .inl (cA, n, .inl (upd f w.toNatClampNeg (vp_nar .byte (zq_r xv sv)))))) H1 := P1
  have D1 : va_D A (ws.set (i0 - 64) (a, .inl (cA, n, .inl (upd f w.toNatClampNeg (vp_nar .byte (zq_r xv sv)))))) := D1
  rw [e8] at P1 D1
  have B4 := zx_B_set B3 hkk g1 hq P1 D1 S1
  exact hgo a cA f w.toNatClampNeg xv sv g1 (by rw [he, hwn]; congr 1; omega) (by omega) hxv hs H1 locs1 ls kr tys lc hG B4
end ZQA
end
