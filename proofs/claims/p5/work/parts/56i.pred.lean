noncomputable section
/-! zq: what an opera's tape must hold -/
def zq_lo (k : Nat) : Int := if k < 4 then 0 else if k % 4 = 1 then 1 else 0
def zq_hi (k : Nat) : Int := if k < 4 then 40 else if k % 4 = 1 then 30 else if k % 4 = 3 then 9 else 5
def zq_ok (f : Nat → Int32) (t : Int) : Prop := t % 4 = 0 ∧ 8 ≤ t ∧ t ≤ 36 ∧ ∀ k : Nat, (k : Int) < t → zq_lo k ≤ (f k).toInt ∧ (f k).toInt ≤ zq_hi k
def zq_ar (h s n : Int) : Prop := (2 ≤ h ∧ h ≤ 6) ∧ (0 ≤ s ∧ s ≤ 3) ∧ (1 ≤ n ∧ n ≤ 60)
/-- an unknown is a number and four times another one -/
def zq_m4 (u : Nat) (lo hi : Int) (g : zx_b) : Bool := match g.2 with
  | some ([q, x], c) => (decide (q.2 = -4) && decide (x = (u, 1))) && (decide (c = 0) && (decide (lo ≤ g.1.1) && decide (g.1.2 ≤ hi)))
  | _ => false
theorem zq_m4_ok {ρ : List Int} {G : zx_G} (hG : zx_ok ρ G) {u : Nat} {lo hi t : Int} (h : G.any (zq_m4 u lo hi) = true) (ht : zx_ev ρ ([(u, 1)], 0) = some t) : ∃ a r : Int, t = 4 * a + r ∧ lo ≤ r ∧ r ≤ hi := by
  obtain ⟨g, hg, h1⟩ := List.any_eq_true.mp h
  unfold zq_m4 at h1
  split at h1
  case h_2 => cases h1
  rename_i q x c he
  simp only [Bool.and_eq_true, decide_eq_true_iff] at h1
  obtain ⟨⟨h2, h3⟩, h4, h5, h6⟩ := h1
  obtain ⟨i, hi, hgi⟩ := List.getElem_of_mem hg
  have hi2 : i < ρ.length := by rw [hG.1]; exact hi
  obtain ⟨b1, b2, b3⟩ := hG.2 i ρ[i] g (List.getElem?_eq_getElem hi2) (by rw [List.getElem?_eq_getElem hi, hgi])
  have b3 := b3 _ he
  obtain ⟨w, w1, w2⟩ := zx_ev_iff.mp b3
  obtain ⟨v1, u1, k1, k2, k3⟩ := zx_evl_cons.mp w1
  obtain ⟨v2, u2, k4, k5, k6⟩ := zx_evl_cons.mp k2
  cases k5
  obtain ⟨w', w3, w4⟩ := zx_ev_iff.mp ht
  obtain ⟨v3, u3, k7, k8, k9⟩ := zx_evl_cons.mp w3
  cases k8
  rw [h3] at k4 k6
  have k4 : ρ[u]? = some v2 := k4
  rw [k4] at k7
  cases k7
  have k6 : u1 = 1 * v2 + 0 := k6
  have k9 : w' = 1 * v2 + 0 := k9
  have w4 : t = w' + 0 := w4
  have w2 : ρ[i] = w + c := w2
  rw [h2] at k3
  exact ⟨v1, ρ[i], by omega, by omega, by omega⟩
/-- a place known, its bounds -/
def zq_pk (G : zx_G) (lo hi : Nat → Int) (q : zx_L × zx_V) : Bool := zx_isc q.1 && (match q.2 with
  | .inl e => zg_xb G e (lo q.1.2.toNat) (hi q.1.2.toNat)
  | _ => false)
theorem zq_pk_ok {b : Nat} {ex : List Nat} {ρ : List Int} {tys : List (ClassId × FieldType)} {G : zx_G} {h : List zx_C} {ws : va_W} (hG : zx_ok ρ G) (hh : zx_F2 (fun c q => zx_RC vwCl b ex ρ (zx_as ws) tys c q.2) h ws) {i : Nat} {f : Nat → Int32} (hf : zg_row ws i f) {lo hi : Nat → Int} {q : zx_L × zx_V} (hq : q ∈ zq_rw h i) (hk : zq_pk G lo hi q = true) : ∃ k : Nat, q.1.2 = k ∧ lo k ≤ (f k).toInt ∧ (f k).toInt ≤ hi k := by
  obtain ⟨x, v⟩ := q
  unfold zq_pk at hk
  rw [Bool.and_eq_true] at hk
  obtain ⟨k1, k2⟩ := hk
  split at k2
  case h_2 => cases k2
  rename_i e he
  have he : v = .inl e := he
  subst he
  obtain ⟨n, h2, h3⟩ := zq_rw_ok hh hf hq
  have h4 : (n : Int) = x.2 := zx_isc_ev k1 h2
  have h5 := zg_xb_ok hG k2 h3
  have h6 : x.2.toNat = n := by omega
  have h5 : lo x.2.toNat ≤ (f n).toInt ∧ (f n).toInt ≤ hi x.2.toNat := h5
  rw [h6] at h5
  exact ⟨n, h4.symm, h5⟩
/-- it is taken: u the unknown of the tape's size, a the first argument's -/
def zq_acc (u a i : Nat) (G : zx_G) (h : List zx_C) : Bool := (zg_xb G ([(a, 1)], 0) 2 6 && (zg_xb G ([(a + 1, 1)], 0) 0 3 && zg_xb G ([(a + 3, 1)], 0) 1 60)) && (match zv_rng G ([(u, 1)], 0) with
  | some t => (decide (8 ≤ t.1) && (decide (t.1 ≤ 36) && (decide (t.2 ≤ t.1 + 3) && decide (t.1 % 4 = 0)))) && (G.any (zq_m4 u 0 0) && (List.range t.1.toNat).all (fun k => (zq_rw h i).any (fun q => decide (q.1.2 = (k : Int)) && zq_pk G zq_lo zq_hi q)))
  | none => false)
/-- it is refused -/
def zq_ref (u a i : Nat) (G : zx_G) (h : List zx_C) : Bool := ((zg_xb G ([(a, 1)], 0) (-2147483648) 1 || zg_xb G ([(a, 1)], 0) 7 2147483647) || ((zg_xb G ([(a + 1, 1)], 0) (-2147483648) (-1) || zg_xb G ([(a + 1, 1)], 0) 4 2147483647) || (zg_xb G ([(a + 3, 1)], 0) (-2147483648) 0 || zg_xb G ([(a + 3, 1)], 0) 61 2147483647))) || ((zg_xb G ([(u, 1)], 0) (-1000) 7 || zg_xb G ([(u, 1)], 0) 37 1000) || (G.any (zq_m4 u 1 3) || (match zv_rng G ([(u, 1)], 0) with
  | some t => (zq_rw h i).any (fun q => decide (q.1.2 < t.1) && (zq_pk G (fun _ => -1000) (fun k => zq_lo k - 1) q || zq_pk G (fun k => zq_hi k + 1) (fun _ => 1000) q))
  | none => false)))
section ZQE
variable {b : Nat} {ex : List Nat} {ρ : List Int} {tys : List (ClassId × FieldType)} {G : zx_G} {h : List zx_C} {ws : va_W} {u a i : Nat} {f : Nat → Int32} {t x1 x2 x4 : Int}
theorem zq_acc_ok (hG : zx_ok ρ G) (hh : zx_F2 (fun c q => zx_RC vwCl b ex ρ (zx_as ws) tys c q.2) h ws) (hf : zg_row ws i f) (hk : zq_acc u a i G h = true) (ht : zx_ev ρ ([(u, 1)], 0) = some t) (h1 : zx_ev ρ ([(a, 1)], 0) = some x1) (h2 : zx_ev ρ ([(a + 1, 1)], 0) = some x2) (h4 : zx_ev ρ ([(a + 3, 1)], 0) = some x4) : zq_ar x1 x2 x4 ∧ zq_ok f t := by
  unfold zq_acc at hk
  rw [Bool.and_eq_true, Bool.and_eq_true, Bool.and_eq_true] at hk
  obtain ⟨⟨k1, k2, k3⟩, k4⟩ := hk
  refine ⟨⟨zg_xb_ok hG k1 h1, zg_xb_ok hG k2 h2, zg_xb_ok hG k3 h4⟩, ?_⟩
  split at k4
  case h_2 => cases k4
  rename_i tt htt
  simp only [Bool.and_eq_true, decide_eq_true_iff] at k4
  obtain ⟨⟨j1, j2, j3, j4⟩, j5, j6⟩ := k4
  obtain ⟨m, r, e1, e2, e3⟩ := zq_m4_ok hG j5 ht
  obtain ⟨e4, e5⟩ := zv_rng_ok hG htt ht
  have e6 : t = tt.1 := by omega
  refine ⟨by omega, by omega, by omega, fun k hk => ?_⟩
  have j7 := List.all_eq_true.mp j6 k (List.mem_range.mpr (by omega))
  obtain ⟨q, hq, j8⟩ := List.any_eq_true.mp j7
  rw [Bool.and_eq_true, decide_eq_true_iff] at j8
  obtain ⟨k', j9, j10⟩ := zq_pk_ok hG hh hf hq j8.2
  have e7 : k' = k := by omega
  subst e7
  exact j10
theorem zq_ref_ok (hG : zx_ok ρ G) (hh : zx_F2 (fun c q => zx_RC vwCl b ex ρ (zx_as ws) tys c q.2) h ws) (hf : zg_row ws i f) (hk : zq_ref u a i G h = true) (ht : zx_ev ρ ([(u, 1)], 0) = some t) (h1 : zx_ev ρ ([(a, 1)], 0) = some x1) (h2 : zx_ev ρ ([(a + 1, 1)], 0) = some x2) (h4 : zx_ev ρ ([(a + 3, 1)], 0) = some x4) : ¬ (zq_ar x1 x2 x4 ∧ zq_ok f t) := by
  rintro ⟨⟨p1, p2, p3⟩, p4, p5, p6, p7⟩
  unfold zq_ref at hk
  simp only [Bool.or_eq_true] at hk
  rcases hk with ((k | k) | ((k | k) | (k | k))) | ((k | k) | (k | k))
  · have := zg_xb_ok hG k h1; omega
  · have := zg_xb_ok hG k h1; omega
  · have := zg_xb_ok hG k h2; omega
  · have := zg_xb_ok hG k h2; omega
  · have := zg_xb_ok hG k h4; omega
  · have := zg_xb_ok hG k h4; omega
  · have := zg_xb_ok hG k ht; omega
  · have := zg_xb_ok hG k ht; omega
  · obtain ⟨m, r, e1, e2, e3⟩ := zq_m4_ok hG k ht
    omega
  · split at k
    case h_2 => cases k
    rename_i tt htt
    obtain ⟨e4, e5⟩ := zv_rng_ok hG htt ht
    obtain ⟨q, hq, j8⟩ := List.any_eq_true.mp k
    simp only [Bool.and_eq_true, Bool.or_eq_true, decide_eq_true_iff] at j8
    obtain ⟨j9, j10 | j10⟩ := j8
    · obtain ⟨k', l1, l2, l3⟩ := zq_pk_ok hG hh hf hq j10
      have l4 := p7 k' (by omega)
      have l3 : (f k').toInt ≤ zq_lo k' - 1 := l3
      omega
    · obtain ⟨k', l1, l2, l3⟩ := zq_pk_ok hG hh hf hq j10
      have l4 := p7 k' (by omega)
      have l2 : zq_hi k' + 1 ≤ (f k').toInt := l2
      omega
end ZQE
/-- both sides' tapes say the same -/
theorem zq_lo_0 (k : Nat) : 0 ≤ zq_lo k := by
  unfold zq_lo
  split
  · omega
  · split <;> omega
theorem zq_hi_40 (k : Nat) : zq_hi k ≤ 40 := by
  unfold zq_hi
  split
  · omega
  · split
    · omega
    · split <;> omega
theorem zq_same {fC fR : Nat → Int32} (hr : ∀ k : Nat, k < 340 → zq_rel (fC k) (fR k)) (hb : ∀ k : Nat, k < 340 → 0 ≤ (fC k).toInt ∧ (fC k).toInt ≤ 255) (t : Int) : zq_ok fC t ↔ zq_ok fR t := by
  constructor
  · rintro ⟨h1, h2, h3, h4⟩
    refine ⟨h1, h2, h3, fun k hk => ?_⟩
    have a1 := h4 k hk
    have a2 := zq_lo_0 k
    have a3 := zq_hi_40 k
    rw [zq_rel_lo (hr k (by omega)) (by omega) (by omega)]
    exact a1
  · rintro ⟨h1, h2, h3, h4⟩
    refine ⟨h1, h2, h3, fun k hk => ?_⟩
    have a1 := h4 k hk
    have a2 := zq_lo_0 k
    have a3 := zq_hi_40 k
    have a4 := hb k (by omega)
    rcases Int.lt_or_le (fC k).toInt 128 with h5 | h5
    · have a5 := zq_rel_lo (hr k (by omega)) a4.1 (by omega)
      omega
    · have a5 := zq_rel_hi (hr k (by omega)) h5 a4.2
      omega
end
