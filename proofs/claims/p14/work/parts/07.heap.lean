noncomputable section
/-! zx: instructions on cells -/
def zx_fd {α : Type} : List (Nat × α) → Nat → Option α
  | [], _ => none
  | q :: r, i => if q.1 = i then some q.2 else zx_fd r i
theorem zx_fd_mem {α : Type} {i : Nat} {v : α} : ∀ {l : List (Nat × α)}, zx_fd l i = some v → (i, v) ∈ l
  | [], h => nomatch h
  | q :: r, h => by
    rw [zx_fd] at h
    by_cases hq : q.1 = i
    · rw [if_pos hq] at h
      cases h
      rw [← hq]
      exact List.mem_cons_self
    · rw [if_neg hq] at h
      exact List.mem_cons_of_mem _ (zx_fd_mem h)
def zx_tag (ty : FieldType) : Nat := match ty with
  | .int => 0
  | .boolean => 1
  | .long => 2
  | .object _ => 3
  | .array _ => 3
  | _ => 9
def zx_dv (t : Nat) : zx_S := match t with
  | 2 => .inl zx_lg
  | 3 => .inl (.inr (.inl ([], true)))
  | _ => .inl (.inl ([], 0))
def zx_dV (t : Nat) : Value := match t with
  | 2 => .long 0
  | 3 => .null
  | _ => .int 0
theorem zx_dv_ok {b : Nat} {ex : List Nat} {ρ : List Int} {ad : List Nat} (t : Nat) : zx_RS b ex ρ ad (zx_dv t) (zx_dV t) := by
  unfold zx_dv zx_dV
  split
  · exact ⟨0, rfl⟩
  · exact Or.inl ⟨rfl, rfl⟩
  · exact ⟨0, rfl, rfl⟩
theorem zx_dV_ty {ty : FieldType} (h : zx_tag ty ≠ 9) : defaultValue ty = zx_dV (zx_tag ty) := by
  cases ty <;> first | rfl | exact absurd rfl h
/-- may stand in a field of that sort as it is -/
def zx_fit (G : zx_G) (t : Nat) (v : zx_V) : Bool := match v with
  | .inl e => match zx_rng G e with
    | some q => t == 0 || (t == 1 && zx_in q 0 1)
    | none => false
  | .inr (.inl _) => t == 3
  | .inr (.inr true) => t == 2
  | .inr (.inr false) => false
theorem zx_01 {w : Int32} (h1 : 0 ≤ w.toInt) (h2 : w.toInt ≤ 1) : w = 0 ∨ w = 1 := by
  rcases (by omega : w.toInt = 0 ∨ w.toInt = 1) with h | h
  · exact Or.inl (Int32.toInt_inj.mp h)
  · exact Or.inr (Int32.toInt_inj.mp h)
theorem zx_fit_ok {b : Nat} {ex : List Nat} {ρ : List Int} {ad : List Nat} {G : zx_G} {ty : FieldType} {v : zx_V} {x : Value} (hG : zx_ok ρ G) (h : zx_fit G (zx_tag ty) v = true) (hv : zx_R b ex ρ ad v x) : narrow ty x = x ∧ fits ty x = true := by
  rcases v with e | r | k
  · obtain ⟨w, h1, h2⟩ := hv
    subst h1
    unfold zx_fit at h
    dsimp only at h
    split at h
    · rename_i q hq
      obtain ⟨g1, g2⟩ := zx_rng_ok hG hq h2
      cases ty <;> first | exact ⟨rfl, rfl⟩ | (simp [zx_tag] at h; done) | skip
      simp only [zx_tag] at h
      have h3 : zx_in q 0 1 = true := by simpa using h
      obtain ⟨k1, k2⟩ := zx_in_iff.mp h3
      rcases zx_01 (w := w) (by omega) (by omega) with rfl | rfl
      · exact ⟨rfl, rfl⟩
      · exact ⟨rfl, rfl⟩
    · cases h
  · have hx : x = .null ∨ ∃ a, x = .ref a := by
      rcases hv with ⟨-, h1⟩ | ⟨i, a, -, -, h1⟩
      · exact Or.inl h1
      · exact Or.inr ⟨a, h1⟩
    cases ty <;> first | (simp [zx_fit, zx_tag] at h; done) | skip
    · rcases hx with rfl | ⟨a, rfl⟩ <;> exact ⟨rfl, rfl⟩
    · rcases hx with rfl | ⟨a, rfl⟩ <;> exact ⟨rfl, rfl⟩
  · cases k
    · cases h
    · obtain ⟨w, h1⟩ := hv
      subst h1
      cases ty <;> first | (simp [zx_fit, zx_tag] at h; done) | skip
      exact ⟨rfl, rfl⟩
/-- is a place one of those that are known? -/
def zx_fl (e : zx_L) : List (zx_L × zx_V) → Option zx_V
  | [] => none
  | q :: r => if (fun (d : zx_L) => zx_isc d && decide (d.2 = 0)) (zx_sub e q.1) = true then some q.2 else zx_fl e r
theorem zx_fl_ok {ρ : List Int} {e : zx_L} {w : Int} (he : zx_ev ρ e = some w) {v : zx_V} : ∀ {l : List (zx_L × zx_V)}, zx_fl e l = some v → ∃ q ∈ l, q.2 = v ∧ ∀ u, zx_ev ρ q.1 = some u → u = w
  | [], h => nomatch h
  | q :: r, h => by
    rw [zx_fl] at h
    split at h
    · rename_i hc
      cases h
      refine ⟨q, List.mem_cons_self, rfl, fun u hu => ?_⟩
      have hc : (zx_isc (zx_sub e q.1) && decide ((zx_sub e q.1).2 = 0)) = true := hc
      rw [Bool.and_eq_true, decide_eq_true_iff] at hc
      have h1 := zx_isc_ev hc.1 (zx_sub_ev he hu)
      omega
    · obtain ⟨q', h1, h2, h3⟩ := zx_fl_ok he h
      exact ⟨q', List.mem_cons_of_mem _ h1, h2, h3⟩
/-- what is written is not one of the kept cells -/
def zx_wk0 (K : List Nat) (ids : List Nat) : Bool := ids.all (fun id => !zx_hs K (id - 64))
where zx_hs (l : List Nat) (i : Nat) : Bool := match l with
  | [] => false
  | q :: r => Nat.beq q i || zx_hs r i
def zx_wk1 (K : List Nat) (sk : List zx_V) : Bool := match sk with
  | _ :: .inr (.inl (ids, _)) :: _ => zx_wk0 K ids
  | _ => true
def zx_wk2 (K : List Nat) (sk : List zx_V) : Bool := match sk with
  | _ :: _ :: .inr (.inl (ids, _)) :: _ => zx_wk0 K ids
  | _ => true
def zx_wkk (K : List Nat) (i : Instr) (sk : List zx_V) : Bool := match i with
  | .putfield _ => zx_wk1 K sk
  | .iastore => zx_wk2 K sk
  | .bastore => zx_wk2 K sk
  | .aastore => zx_wk2 K sk
  | _ => true
def zx_wK (K : List Nat) (i : Instr) (sk : List zx_V) : Bool := match K with
  | [] => true
  | q :: r => zx_wkk (q :: r) i sk
theorem zx_wk0_nil (ids : List Nat) : zx_wk0 [] ids = true := List.all_eq_true.mpr fun _ _ => rfl
theorem zx_wk1_nil (sk : List zx_V) : zx_wk1 [] sk = true := by
  unfold zx_wk1
  split
  · exact zx_wk0_nil _
  · rfl
theorem zx_wk2_nil (sk : List zx_V) : zx_wk2 [] sk = true := by
  unfold zx_wk2
  split
  · exact zx_wk0_nil _
  · rfl
theorem zx_wK_ok {K : List Nat} {i : Instr} {sk : List zx_V} (h : zx_wK K i sk = true) : zx_wkk K i sk = true := by
  cases K with
  | cons q r => exact h
  | nil =>
    unfold zx_wkk
    split
    · exact zx_wk1_nil sk
    · exact zx_wk2_nil sk
    · exact zx_wk2_nil sk
    · exact zx_wk2_nil sk
    · rfl
theorem zx_hs_no {K : List Nat} {i : Nat} (h : zx_wk0.zx_hs K i = false) : ¬ i ∈ K := by
  induction K with
  | nil => intro h; cases h
  | cons q r ih =>
    rw [zx_wk0.zx_hs, Bool.or_eq_false_iff] at h
    intro hm
    rcases List.mem_cons.mp hm with e | e
    · subst e
      have := h.1
      rw [Nat.beq_refl] at this
      cases this
    · exact ih h.2 e
theorem zx_wk0_ok {K ids : List Nat} (h : zx_wk0 K ids = true) {id : Nat} (hid : id ∈ ids) : ¬ (id - 64) ∈ K := by
  have h1 := List.all_eq_true.mp h id hid
  have h2 : zx_wk0.zx_hs K (id - 64) = false := by
    revert h1
    cases zx_wk0.zx_hs K (id - 64)
    · exact fun _ => rfl
    · exact fun h => nomatch h
  exact zx_hs_no h2
section ZXY
variable (M : zx_M) (Y : zx_Y) (pc : Nat) (G : zx_G) (h : List zx_C) (lv : List (Nat × zx_V)) (k : Nat × Nat) (sk : List zx_V)
def zx_xslot (r : List zx_V) (sl : zx_S) : zx_O := match sl with
  | .inl v => some [(pc, G, h, lv, v :: r, k)]
  | .inr t => zx_go pc h lv k r (some (zx_fr G t.1 t.2))
def zx_xget1 (q : Nat × Nat × Nat × Bool) (r : List zx_V) (id : Nat) : zx_O := if id < 64 then none else match zy_get h (id - 64) with
  | some (.inl o) => if o.1 = q.1 then (match zy_get o.2 q.2.1 with
    | some sl => zx_xslot (pc + 3) G h lv k r sl
    | none => none) else none
  | _ => none
def zx_xget (ix : Nat) : zx_O := match zx_mF M ix with
  | some q => (match sk with
    | .inr (.inl (ids, false)) :: r => zx_all (zx_xget1 pc G h lv k q r) ids
    | _ => none)
  | none => none
def zx_xput (ix : Nat) : zx_O := match zx_mF M ix with
  | some q => (match sk with
    | v :: .inr (.inl ([id], false)) :: r => if id < 64 then none else (match zy_get h (id - 64) with
      | some (.inl o) => if o.1 = q.1 ∧ q.2.1 < o.2.length ∧ zx_fit G q.2.2.1 v = true ∧ (!q.2.2.2 || zx_mB M) = true then some [(pc + 3, G, zy_set h (id - 64) (.inl (o.1, zy_set o.2 q.2.1 (.inl v))), lv, r, k)] else none
      | _ => none)
    | _ => none)
  | none => none
def zx_xal1 (r : List zx_V) (ar : Nat × Nat × Bool × List zx_S) (e : zx_L) (G1 : zx_G) : zx_O := match zx_rng G1 e with
  | none => none
  | some t => if 0 ≤ t.1 ∧ t.2 < (ar.2.1 : Int) then (if ar.2.2.1 = true then (match ar.2.2.2 with
      | sl :: fs => (match zx_fl e (zx_fs fs) with
        | some v => some [(pc + 1, G1, h, lv, v :: r, k)]
        | none => zx_xslot (pc + 1) G1 h lv k r sl)
      | [] => none) else (if t.1 = t.2 then (match zy_get ar.2.2.2 t.1.toNat with
      | some sl => zx_xslot (pc + 1) G1 h lv k r sl
      | none => none) else none)) else none
def zx_xal2 (ok : Nat → Bool) (r : List zx_V) (e : zx_L) (id : Nat) : zx_O := if id < 64 then none else match zy_get h (id - 64) with
  | some (.inr (.inl ar)) => if ok ar.1 = true then (if ar.2.2.1 = true then zx_xal1 pc h lv k r ar e G else (match zx_split G e with
    | some l => zx_all (zx_xal1 pc h lv k r ar e) l
    | none => none)) else none
  | _ => none
def zx_xal (ok : Nat → Bool) : zx_O := match sk with
  | .inl e :: .inr (.inl (ids, false)) :: r => zx_all (zx_xal2 pc G h lv k ok r e) ids
  | _ => none
def zx_xyl1 (r : List zx_V) (row : List Int) (e : zx_L) (G1 : zx_G) : zx_O := match zx_rng G1 e with
  | none => none
  | some t => if 0 ≤ t.1 ∧ t.1 = t.2 ∧ t.2 < (row.length : Int) then some [(pc + 1, G1, h, lv, .inl ([], row.getD t.1.toNat 0) :: r, k)] else none
/-- of a row that never changes -/
def zx_xyl : zx_O := match sk with
  | .inl e :: .inr (.inl ([id], false)) :: r => (match (if id < 8 then zx_fd Y.1 id else none) with
    | some row => (match zx_split G e with
      | some l => zx_all (zx_xyl1 pc h lv k r row e) l
      | none => none)
    | none => none)
  | _ => none
def zx_xyn : zx_O := match sk with
  | .inr (.inl ([id], false)) :: r => (match (if id < 8 then zx_fd Y.1 id else none) with
    | some row => if row.length < 2147483648 then some [(pc + 1, G, h, lv, .inl ([], (row.length : Int)) :: r, k)] else none
    | none => none)
  | _ => none
/-- of the script: one of the six behind the place that unknown 7 tells -/
def zx_xsl : zx_O := match sk with
  | .inl e :: .inr (.inr false) :: r => (match zx_rng G (zx_sub e ([(7, 1)], 0)), zv_rng G (zx_sub e ([(0, 1)], 0)), zv_rng G e with
    | some t, some u, some w => if 0 ≤ t.1 ∧ t.1 = t.2 ∧ t.1 < 6 ∧ u.2 < 0 ∧ 0 ≤ w.1 ∧ zx_mX M = true then some [(pc + 1, G, h, lv, .inl ([(1 + t.1.toNat, 1)], 0) :: r, k)] else none
    | _, _, _ => none)
  | _ => none
def zx_xsn : zx_O := match sk with
  | .inr (.inr false) :: r => if zx_mX M = true then some [(pc + 1, G, h, lv, .inl ([(0, 1)], 0) :: r, k)] else none
  | _ => none
def zx_xas1 (r : List zx_V) (id : Nat) (ar : Nat × Nat × Bool × List zx_S) (v : zx_V) (e : zx_L) (G1 : zx_G) : zx_O := match zx_rng G1 e with
  | none => none
  | some t => if 0 ≤ t.1 ∧ t.1 = t.2 ∧ t.2 < (ar.2.1 : Int) then some [(pc + 1, G1, zy_set h (id - 64) (.inr (.inl (ar.1, ar.2.1, false, zy_set ar.2.2.2 t.1.toNat (.inl v)))), lv, r, k)] else none
/-- into a row of ints, bytes, booleans: what fits as it is -/
def zx_bok (by_ : Bool) (t : Nat) (tv : Int × Int) : Bool := match by_ with
  | true => (t == 1 && zx_in tv (-128) 127) || (t == 2 && zx_in tv 0 1)
  | false => t == 0
def zx_xas (by_ : Bool) : zx_O := match sk with
  | .inl v :: .inl e :: .inr (.inl ([id], false)) :: r => if id < 64 then none else (match zy_get h (id - 64), zx_rng G v, zx_rng G e with
    | some (.inr (.inl ar)), some tv, some te => if zx_bok by_ ar.1 tv = true then (if ar.2.2.1 = true then (match ar.2.2.2 with
        | [.inr t] => if 0 ≤ te.1 ∧ te.2 < (ar.2.1 : Int) ∧ zx_in tv t.1 t.2 = true then some [(pc + 1, G, h, lv, r, k)] else none
        | _ => none) else (match zx_split G e with
        | some l => zx_all (zx_xas1 pc h lv k r id ar (.inl v) e) l
        | none => none)) else none
    | _, _, _ => none)
  | _ => none
/-- into a row of references: an object of just that class -/
def zx_xqs : zx_O := match sk with
  | .inr (.inl ([iv], false)) :: .inl e :: .inr (.inl ([id], false)) :: r => if id < 64 ∨ iv < 64 then none else (match zy_get h (id - 64), zy_get h (iv - 64) with
    | some (.inr (.inl ar)), some (.inl o) => if ar.1 = 3 + o.1 ∧ ar.2.2.1 = false then (match zx_split G e with
        | some l => zx_all (zx_xas1 pc h lv k r id ar (.inr (.inl ([iv], false))) e) l
        | none => none) else none
    | _, _ => none)
  | _ => none
def zx_xlen1 (r : List zx_V) (id : Nat) : zx_O := if id < 64 then none else match zy_get h (id - 64) with
  | some (.inr (.inl ar)) => if ar.2.1 < 2147483648 then some [(pc + 1, G, h, lv, .inl ([], (ar.2.1 : Int)) :: r, k)] else none
  | _ => none
def zx_xlen : zx_O := match sk with
  | .inr (.inl (ids, false)) :: r => zx_all (zx_xlen1 pc G h lv k r) ids
  | _ => none
def zx_at (a : ArrayType) : Nat := match a with
  | .int => 0
  | .byte => 1
  | .boolean => 2
  | .long => 3
  | _ => 9
def zx_xnew (ix : Nat) (dt : List (List Nat)) : zx_O := match zx_mC M ix with
  | some ci => (match dt[ci]? with
    | some d => if ix < 65536 ∧ k.1 + 1 ≤ (zx_mR M).1 ∧ k.2 + d.length ≤ (zx_mR M).2 then some [(pc + 3, G, h ++ [.inl (ci, d.map zx_dv)], lv, .inr (.inl ([64 + h.length], false)) :: sk, (k.1 + 1, k.2 + d.length))] else none
    | none => none)
  | none => none
def zx_xna (at_ : ArrayType) : zx_O := match sk with
  | .inl e :: r => if zx_isc e = true ∧ 0 ≤ e.2 ∧ e.2 ≤ 1000000 ∧ k.1 + 1 ≤ (zx_mR M).1 ∧ k.2 + e.2.toNat ≤ (zx_mR M).2 then (if zx_at at_ = 3 then some [(pc + 2, G, h ++ [.inr (.inr e.2.toNat)], lv, .inr (.inl ([64 + h.length], false)) :: r, (k.1 + 1, k.2 + e.2.toNat))] else if zx_at at_ < 3 then (match zx_mN M pc with
      | some (true, lo, hi) => if lo ≤ 0 ∧ 0 ≤ hi then some [(pc + 2, G, h ++ [.inr (.inl (zx_at at_, e.2.toNat, true, [.inr (lo, hi)]))], lv, .inr (.inl ([64 + h.length], false)) :: r, (k.1 + 1, k.2 + e.2.toNat))] else none
      | some (false, _) => some [(pc + 2, G, h ++ [.inr (.inl (zx_at at_, e.2.toNat, false, List.replicate e.2.toNat (.inl (.inl ([], 0)))))], lv, .inr (.inl ([64 + h.length], false)) :: r, (k.1 + 1, k.2 + e.2.toNat))]
      | none => none) else none) else none
  | _ => none
def zx_xnq (ix : Nat) : zx_O := match sk with
  | .inl e :: r => (match zx_mC M (ix + 65536) with
    | some ci => if ix < 65536 ∧ zx_isc e = true ∧ 0 ≤ e.2 ∧ e.2 ≤ 1000000 ∧ k.1 + 1 ≤ (zx_mR M).1 ∧ k.2 + e.2.toNat ≤ (zx_mR M).2 then some [(pc + 3, G, h ++ [.inr (.inl (3 + ci, e.2.toNat, false, List.replicate e.2.toNat (.inl (.inr (.inl ([], true))))))], lv, .inr (.inl ([64 + h.length], false)) :: r, (k.1 + 1, k.2 + e.2.toNat))] else none
    | none => none)
  | _ => none
def zx_xgs (ix : Nat) : zx_O := match zx_mS M ix with
  | some id => if id < 64 then some [(pc + 3, G, h, lv, .inr (.inl ([id], false)) :: sk, k)] else none
  | none => none
end ZXY
end
