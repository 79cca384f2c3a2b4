noncomputable section
/-! zm: small things of the law -/
def zgL_as (o : Nat) (KK : List Nat) (md : zx_MD) (ix : Nat) (en : zw_En) (T : zx_T) : List zx_V := match zgL_cl o KK md.2.1 md.2.2.1 ix en T.1 T.2.1 T.2.2.2.2 T.2.2.2.1 with
  | some z => z.2.1
  | none => []
theorem zm_ev_l {ρe r r' : List Int} {k : Nat} (hk : k < ρe.length) {x x' : Int} (h : zx_ev (ρe ++ r) ([(k, 1)], 0) = some x) (h' : zx_ev (ρe ++ r') ([(k, 1)], 0) = some x') : x = x' := by
  obtain ⟨w, w1, w2⟩ := zx_ev_iff.mp h
  obtain ⟨v, u, k1, k2, k3⟩ := zx_evl_cons.mp w1
  obtain ⟨w', w3, w4⟩ := zx_ev_iff.mp h'
  obtain ⟨v', u', k4, k5, k6⟩ := zx_evl_cons.mp w3
  have k1 : (ρe ++ r)[k]? = some v := k1
  have k4 : (ρe ++ r')[k]? = some v' := k4
  rw [List.getElem?_append_left hk] at k1 k4
  rw [k1] at k4
  cases k4
  cases k2
  cases k5
  have w2 : x = w + 0 := w2
  have w4 : x' = w' + 0 := w4
  omega
theorem zm_memh {pc : Nat} {l : List (Nat × Instr × Nat)} {x : Nat × Instr × Nat} (h : (zx_drop pc l).head? = some x) : x ∈ l := by
  obtain ⟨g1, -⟩ := zx_drop_ok (t := pc) (l := l)
  cases hd : zx_drop pc l with
  | nil => rw [hd] at h; cases h
  | cons a t =>
    rw [hd] at h
    cases h
    exact g1 _ (by rw [hd]; exact List.mem_cons_self)
end
