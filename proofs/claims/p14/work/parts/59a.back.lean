noncomputable section
/-! zgL: from a case's end to the next head -/
def zgL_re (L : Nat) (xs : Nat → Int32) (i : Nat) : List Int := [(L : Int), (xs (i + 0)).toInt, (xs (i + 1)).toInt, (xs (i + 2)).toInt, (xs (i + 3)).toInt, (xs (i + 4)).toInt, (xs (i + 5)).toInt, (i : Int)]
theorem zgL_i32 (w : Int32) : (-2147483648 : Int) ≤ w.toInt ∧ w.toInt ≤ 2147483647 := by
  have h1 := Int32.minValue_le_toInt w
  have h2 := Int32.toInt_le w
  exact ⟨h1, by have h3 : w.toInt ≤ 2147483647 := h2; exact h3⟩
theorem vL_l23 : vL_23.1.length = 70 := rfl
set_option maxRecDepth 1000000 in
theorem vL_b23 : zg_xb vL_23.1 (zx_sub ([(67, 1)], 0) ([(0, 1)], 0)) (-3066) 0 = true := by decide +kernel
theorem zg_ev_at {ρ vs : List Int} {n j : Nat} {v : Int} (h : ρ.length = n) (hj : vs[j]? = some v) : zx_ev (ρ ++ vs) ([(n + j, 1)], 0) = some v := by
  subst h
  refine zx_ev_iff.mpr ⟨1 * v + 0, zx_evl_cons.mpr ⟨v, 0, ?_, rfl, rfl⟩, ?_⟩
  · show (ρ ++ vs)[ρ.length + j]? = some v
    rw [List.getElem?_append_right (Nat.le_add_right _ _), Nat.add_sub_cancel_left]
    exact hj
  · show v = 1 * v + 0 + 0
    omega
section ZGLB
variable {p : Program} {l : Launch} {e : Env} {R : Room} {s : State} {mi : MethodId} {args : Array Value} {below : List Frame} {meth : Method} {c : Code} {Q : State → Prop} {D : va_G} {A : Nat → Prop} {b : Nat} {ex : List Nat} {ad0 : zx_A0} {nL : Nat} {xs : Nat → Int32} {L : Nat}
theorem zg_newus {pc : Nat} {ws : va_W} : ∀ (vs : List Int) {T : zx_T} {ρ : List Int}, (∀ v ∈ vs, (-2147483648 : Int) ≤ v ∧ v ≤ 2147483647) → zg_go p l e R s mi args below meth c Q D A b ex ad0 nL pc (T.1 ++ vs.map (fun _ => (((-2147483648 : Int), (2147483647 : Int)), none)), T.2) (ρ ++ vs) ws → zg_go p l e R s mi args below meth c Q D A b ex ad0 nL pc T ρ ws
  | [], T, ρ, _, h => by
    rw [List.map_nil, List.append_nil, List.append_nil] at h
    exact h
  | v :: vs, T, ρ, hv, h => by
    refine zg_newu (v := v) (q := ((-2147483648, 2147483647), none)) (hv v List.mem_cons_self).1 (hv v List.mem_cons_self).2 (fun e he => nomatch he) ?_
    refine zg_newus vs (fun w hw => hv w (List.mem_cons_of_mem _ hw)) ?_
    rw [List.map_cons] at h
    show zg_go p l e R s mi args below meth c Q D A b ex ad0 nL pc ((T.1 ++ [((-2147483648, 2147483647), none)]) ++ vs.map (fun _ => (((-2147483648 : Int), (2147483647 : Int)), none)), T.2) (ρ ++ [v] ++ vs) ws
    rw [List.append_assoc, List.append_assoc]
    exact h
theorem zgL_re_hd {i0 : Nat} {r vs : List Int} : zgL_re L xs i0 ++ r ++ vs = [(L : Int)] ++ ((zgL_re L xs i0).tail ++ r ++ vs) := rfl
theorem vL_e23 : vL_23e = (vL_23.1 ++ [((-2147483648, 2147483647), none), ((-2147483648, 2147483647), none), ((-2147483648, 2147483647), none), ((-2147483648, 2147483647), none), ((-2147483648, 2147483647), none), ((-2147483648, 2147483647), none)], vL_23.2) := rfl
theorem zgL_sig {r' r9 : List Int} {v1 v2 v3 v4 v5 v6 v7 : Int} (hσ : zw_sig ([(L : Int)] ++ r9) vL_sg ([(L : Int)] ++ r')) (h1 : zx_ev ([(L : Int)] ++ r9) ([(70, 1)], 0) = some v1) (h2 : zx_ev ([(L : Int)] ++ r9) ([(71, 1)], 0) = some v2) (h3 : zx_ev ([(L : Int)] ++ r9) ([(72, 1)], 0) = some v3) (h4 : zx_ev ([(L : Int)] ++ r9) ([(73, 1)], 0) = some v4) (h5 : zx_ev ([(L : Int)] ++ r9) ([(74, 1)], 0) = some v5) (h6 : zx_ev ([(L : Int)] ++ r9) ([(75, 1)], 0) = some v6) (h7 : zx_ev ([(L : Int)] ++ r9) ([(67, 1)], 0) = some v7) : ∃ r2, r' = v1 :: v2 :: v3 :: v4 :: v5 :: v6 :: v7 :: r2 := by
  have hat : ∀ (i : Nat) (f : zx_L) (w : Int), vL_sg[i + 1]? = some f → zx_ev ([(L : Int)] ++ r9) f = some w → r'[i]? = some w := by
    intro i f w k1 k2
    obtain ⟨v, k3, k4⟩ := zx_F2_get hσ k1
    rw [k2] at k4
    rw [Option.some.inj k4]
    exact k3
  have a1 := hat 0 _ _ rfl h1
  have a2 := hat 1 _ _ rfl h2
  have a3 := hat 2 _ _ rfl h3
  have a4 := hat 3 _ _ rfl h4
  have a5 := hat 4 _ _ rfl h5
  have a6 := hat 5 _ _ rfl h6
  have a7 := hat 6 _ _ rfl h7
  clear hat hσ h1 h2 h3 h4 h5 h6 h7
  match r', a1, a2, a3, a4, a5, a6, a7 with
  | c1 :: c2 :: c3 :: c4 :: c5 :: c6 :: c7 :: r2, a1, a2, a3, a4, a5, a6, a7 =>
    cases a1
    cases a2
    cases a3
    cases a4
    cases a5
    cases a6
    cases a7
    exact ⟨r2, rfl⟩
  | [], a, _, _, _, _, _, _ => exact nomatch a
  | [_], _, a, _, _, _, _, _ => exact nomatch a
  | [_, _], _, _, a, _, _, _, _ => exact nomatch a
  | [_, _, _], _, _, _, a, _, _, _ => exact nomatch a
  | [_, _, _, _], _, _, _, _, a, _, _ => exact nomatch a
  | [_, _, _, _, _], _, _, _, _, _, a, _ => exact nomatch a
  | [_, _, _, _, _, _], _, _, _, _, _, _, a => exact nomatch a
set_option maxRecDepth 1000000 in
theorem zgL_back {i0 : Nat} (ih : ∀ (r2 : List Int) (ws : va_W), zgL_Inv ws → i0 + 6 ≤ L → zg_go p l e R s mi args below meth c Q D A b ex ad0 nL 23 vL_st (zgL_re L xs (i0 + 6) ++ r2) ws) (r : List Int) (ws : va_W) (hI : zgL_Inv ws) (hy : zx_ev (zgL_re L xs i0 ++ r) ([(67, 1)], 0) = some ((i0 : Int) + 6)) : zg_go p l e R s mi args below meth c Q D A b ex ad0 nL 23 vL_23 (zgL_re L xs i0 ++ r) ws := by
  refine zg_with (fun tys hG hh => ?_)
  have h0 : zx_ev (zgL_re L xs i0 ++ r) ([(0, 1)], 0) = some (L : Int) := by
    refine zx_ev_iff.mpr ⟨1 * (L : Int) + 0, zx_evl_cons.mpr ⟨(L : Int), 0, rfl, rfl, rfl⟩, ?_⟩
    show (L : Int) = 1 * (L : Int) + 0 + 0
    omega
  have hb := zg_xb_ok hG vL_b23 (zx_sub_ev hy h0)
  have hlen : (zgL_re L xs i0 ++ r).length = 70 := hG.1.trans vL_l23
  clear hG hh
  refine zg_newus [(xs (i0 + 6 + 0)).toInt, (xs (i0 + 6 + 1)).toInt, (xs (i0 + 6 + 2)).toInt, (xs (i0 + 6 + 3)).toInt, (xs (i0 + 6 + 4)).toInt, (xs (i0 + 6 + 5)).toInt] (fun v hv => ?_) ?_
  · simp only [List.mem_cons, List.not_mem_nil, or_false] at hv
    rcases hv with rfl | rfl | rfl | rfl | rfl | rfl <;> exact zgL_i32 _
  have w0 := zg_ev_at (vs := [(xs (i0 + 6 + 0)).toInt, (xs (i0 + 6 + 1)).toInt, (xs (i0 + 6 + 2)).toInt, (xs (i0 + 6 + 3)).toInt, (xs (i0 + 6 + 4)).toInt, (xs (i0 + 6 + 5)).toInt]) (j := 0) hlen rfl
  have w1 := zg_ev_at (vs := [(xs (i0 + 6 + 0)).toInt, (xs (i0 + 6 + 1)).toInt, (xs (i0 + 6 + 2)).toInt, (xs (i0 + 6 + 3)).toInt, (xs (i0 + 6 + 4)).toInt, (xs (i0 + 6 + 5)).toInt]) (j := 1) hlen rfl
  have w2 := zg_ev_at (vs := [(xs (i0 + 6 + 0)).toInt, (xs (i0 + 6 + 1)).toInt, (xs (i0 + 6 + 2)).toInt, (xs (i0 + 6 + 3)).toInt, (xs (i0 + 6 + 4)).toInt, (xs (i0 + 6 + 5)).toInt]) (j := 2) hlen rfl
  have w3 := zg_ev_at (vs := [(xs (i0 + 6 + 0)).toInt, (xs (i0 + 6 + 1)).toInt, (xs (i0 + 6 + 2)).toInt, (xs (i0 + 6 + 3)).toInt, (xs (i0 + 6 + 4)).toInt, (xs (i0 + 6 + 5)).toInt]) (j := 3) hlen rfl
  have w4 := zg_ev_at (vs := [(xs (i0 + 6 + 0)).toInt, (xs (i0 + 6 + 1)).toInt, (xs (i0 + 6 + 2)).toInt, (xs (i0 + 6 + 3)).toInt, (xs (i0 + 6 + 4)).toInt, (xs (i0 + 6 + 5)).toInt]) (j := 4) hlen rfl
  have w5 := zg_ev_at (vs := [(xs (i0 + 6 + 0)).toInt, (xs (i0 + 6 + 1)).toInt, (xs (i0 + 6 + 2)).toInt, (xs (i0 + 6 + 3)).toInt, (xs (i0 + 6 + 4)).toInt, (xs (i0 + 6 + 5)).toInt]) (j := 5) hlen rfl
  have w7 := zx_ev_app (r := [(xs (i0 + 6 + 0)).toInt, (xs (i0 + 6 + 1)).toInt, (xs (i0 + 6 + 2)).toInt, (xs (i0 + 6 + 3)).toInt, (xs (i0 + 6 + 4)).toInt, (xs (i0 + 6 + 5)).toInt]) hy
  rw [zgL_re_hd] at w0 w1 w2 w3 w4 w5 w7 ⊢
  rw [List.map_cons, List.map_cons, List.map_cons, List.map_cons, List.map_cons, List.map_cons, List.map_nil, ← vL_e23]
  refine zg_T (m := 1) (σ := vL_sg) rfl vL_rb (fun r' hσ => ?_)
  obtain ⟨r2, rfl⟩ := zgL_sig hσ w0 w1 w2 w3 w4 w5 w7
  exact ih r2 ws hI (by omega)
end ZGLB
end
