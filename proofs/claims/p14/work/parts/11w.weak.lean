noncomputable section
/-! zw: instructions on sets of cells, and some more -/
def zw_hs (l : List Nat) (i : Nat) : Bool := match l with
  | [] => false
  | q :: r => Nat.beq q i || zw_hs r i
theorem zw_hs_ok {i : Nat} : ∀ {l : List Nat}, zw_hs l i = true → i ∈ l
  | [], h => nomatch h
  | q :: r, h => by
    rw [zw_hs, Bool.or_eq_true] at h
    rcases h with h | h
    · rw [← Nat.eq_of_beq_eq_true h]; exact List.mem_cons_self
    · exact List.mem_cons_of_mem _ (zw_hs_ok h)
def zw_un : List Nat → List Nat → List Nat
  | [], b => b
  | x :: r, b => if zw_hs b x = true then zw_un r b else x :: zw_un r b
theorem zw_un_ok {i : Nat} : ∀ {a b : List Nat}, i ∈ a ∨ i ∈ b → i ∈ zw_un a b
  | [], b, h => by
    rcases h with h | h
    · cases h
    · exact h
  | x :: r, b, h => by
    rw [zw_un]
    by_cases hx : zw_hs b x = true
    · rw [if_pos hx]
      rcases h with h | h
      · rcases List.mem_cons.mp h with e | e
        · subst e; exact zw_un_ok (Or.inr (zw_hs_ok hx))
        · exact zw_un_ok (Or.inl e)
      · exact zw_un_ok (Or.inr h)
    · rw [if_neg hx]
      rcases h with h | h
      · rcases List.mem_cons.mp h with e | e
        · subst e; exact List.mem_cons_self
        · exact List.mem_cons_of_mem _ (zw_un_ok (Or.inl e))
      · exact List.mem_cons_of_mem _ (zw_un_ok (Or.inr h))
/-- the bounds of a slot that holds an int -/
def zw_rS (G : zx_G) (t : zx_S) : Option (Int × Int) := match t with
  | .inr q => some q
  | .inl (.inl e) => zx_rng G e
  | _ => none
def zw_jI (G : zx_G) (a b : zx_S) : Option zx_S := match zw_rS G a, zw_rS G b with
  | some q, some t => some (.inr (if q.1 ≤ t.1 then q.1 else t.1, if q.2 ≤ t.2 then t.2 else q.2))
  | some _, none => none
  | none, _ => none
def zw_jn (G : zx_G) (a b : zx_S) : Option zx_S := match a, b with
  | .inl (.inr (.inl r)), .inl (.inr (.inl t)) => some (.inl (.inr (.inl (zw_un r.1 t.1, r.2 || t.2))))
  | _, _ => zw_jI G a b
section ZWJ
variable {b : Nat} {ex : List Nat} {ρ : List Int} {ad : List Nat} {G : zx_G}
theorem zw_rS_ok (hG : zx_ok ρ G) {t : zx_S} {q : Int × Int} (h : zw_rS G t = some q) {x : Value} (hx : zx_RS b ex ρ ad t x) : ∃ w : Int32, x = .int w ∧ q.1 ≤ w.toInt ∧ w.toInt ≤ q.2 := by
  unfold zw_rS at h
  split at h
  · cases h; exact hx
  · obtain ⟨w, h1, h2⟩ := hx
    exact ⟨w, h1, zx_rng_ok hG h h2⟩
  · cases h
theorem zw_jI_ok (hG : zx_ok ρ G) {t u j : zx_S} (h : zw_jI G t u = some j) {x : Value} : (zx_RS b ex ρ ad t x → zx_RS b ex ρ ad j x) ∧ (zx_RS b ex ρ ad u x → zx_RS b ex ρ ad j x) := by
  unfold zw_jI at h
  split at h
  · rename_i q t' hq ht
    cases h
    refine ⟨fun hx => ?_, fun hx => ?_⟩
    · obtain ⟨w, h1, h2, h3⟩ := zw_rS_ok hG hq hx
      refine ⟨w, h1, ?_, ?_⟩
      · show (if q.1 ≤ t'.1 then q.1 else t'.1) ≤ w.toInt
        split <;> omega
      · show w.toInt ≤ (if q.2 ≤ t'.2 then t'.2 else q.2)
        split <;> omega
    · obtain ⟨w, h1, h2, h3⟩ := zw_rS_ok hG ht hx
      refine ⟨w, h1, ?_, ?_⟩
      · show (if q.1 ≤ t'.1 then q.1 else t'.1) ≤ w.toInt
        split <;> omega
      · show w.toInt ≤ (if q.2 ≤ t'.2 then t'.2 else q.2)
        split <;> omega
  · cases h
  · cases h
theorem zw_jn_ok (hG : zx_ok ρ G) {t u j : zx_S} (h : zw_jn G t u = some j) {x : Value} : (zx_RS b ex ρ ad t x → zx_RS b ex ρ ad j x) ∧ (zx_RS b ex ρ ad u x → zx_RS b ex ρ ad j x) := by
  unfold zw_jn at h
  split at h
  · rename_i r t'
    cases h
    refine ⟨fun hx => ?_, fun hx => ?_⟩
    · rcases hx with ⟨h1, h2⟩ | ⟨i, a, h1, h2, h3⟩
      · exact Or.inl ⟨by show (r.2 || t'.2) = true; rw [h1]; rfl, h2⟩
      · exact Or.inr ⟨i, a, zw_un_ok (Or.inl h1), h2, h3⟩
    · rcases hx with ⟨h1, h2⟩ | ⟨i, a, h1, h2, h3⟩
      · exact Or.inl ⟨by show (r.2 || t'.2) = true; rw [h1]; cases r.2 <;> rfl, h2⟩
      · exact Or.inr ⟨i, a, zw_un_ok (Or.inr h1), h2, h3⟩
  · exact zw_jI_ok hG h
/-- the join of what f says of each -/
def zw_fold (G : zx_G) (f : Nat → Option zx_S) : List Nat → Option zx_S
  | [] => none
  | id :: r => match r with
    | [] => f id
    | _ :: _ => match f id, zw_fold G f r with
      | some a, some c => zw_jn G a c
      | some _, none => none
      | none, _ => none
theorem zw_fold_ok (hG : zx_ok ρ G) {f : Nat → Option zx_S} {i : Nat} : ∀ {l : List Nat} {j : zx_S}, zw_fold G f l = some j → i ∈ l → ∃ t, f i = some t ∧ ∀ x, zx_RS b ex ρ ad t x → zx_RS b ex ρ ad j x
  | [], _, h, _ => nomatch h
  | [id], j, h, hi => by
    cases List.mem_singleton.mp hi
    exact ⟨j, h, fun _ hx => hx⟩
  | id :: c :: r, j, h, hi => by
    rw [zw_fold] at h
    split at h
    · rename_i a d ha hd
      rcases List.mem_cons.mp hi with e | e
      · subst e
        exact ⟨a, ha, fun x hx => (zw_jn_ok hG h).1 hx⟩
      · obtain ⟨t, h1, h2⟩ := zw_fold_ok hG hd e
        exact ⟨t, h1, fun x hx => (zw_jn_ok hG h).2 (h2 x hx)⟩
    · cases h
    · cases h
end ZWJ
/-- a field's slot in a cell -/
def zw_sl (h : List zx_C) (ci f id : Nat) : Option zx_S := if id < 64 then none else match zy_get h (id - 64) with
  | some (.inl o) => if o.1 = ci then zy_get o.2 f else none
  | _ => none
/-- a row's one slot, where the place lies in it -/
def zw_ar (h : List zx_C) (ok : Nat → Bool) (t : Int × Int) (id : Nat) : Option zx_S := if id < 64 then none else match zy_get h (id - 64) with
  | some (.inr (.inl ar)) => if (ok ar.1 && ar.2.2.1) = true ∧ 0 ≤ t.1 ∧ t.2 < (ar.2.1 : Int) then (match ar.2.2.2 with
    | [sl] => some sl
    | _ => none) else none
  | _ => none
/-- a value fits into a slot that holds many -/
def zw_fits (G : zx_G) (t : zx_S) (v : zx_V) : Bool := match t, v with
  | .inr q, .inl e => (match zx_rng G e with
    | some u => zx_in u q.1 q.2
    | none => false)
  | .inl (.inr (.inl r)), .inr (.inl u) => (r.2 || !u.2) && u.1.all (fun i => zw_hs r.1 i)
  | .inl (.inr (.inr true)), .inr (.inr true) => true
  | _, _ => false
theorem zw_fits_ok {b : Nat} {ex : List Nat} {ρ : List Int} {ad : List Nat} {G : zx_G} (hG : zx_ok ρ G) {t : zx_S} {v : zx_V} (h : zw_fits G t v = true) {x : Value} (hx : zx_R b ex ρ ad v x) : zx_RS b ex ρ ad t x := by
  unfold zw_fits at h
  split at h
  · rename_i q e
    split at h
    · rename_i u hu
      obtain ⟨w, h1, h2⟩ := hx
      obtain ⟨k1, k2⟩ := zx_rng_ok hG hu h2
      obtain ⟨k3, k4⟩ := zx_in_iff.mp h
      exact ⟨w, h1, by omega, by omega⟩
    · cases h
  · rename_i r u
    rw [Bool.and_eq_true] at h
    rcases hx with ⟨h1, h2⟩ | ⟨i, a, h1, h2, h3⟩
    · refine Or.inl ⟨?_, h2⟩
      have h4 := h.1
      rw [h1] at h4
      simpa using h4
    · exact Or.inr ⟨i, a, zw_hs_ok (List.all_eq_true.mp h.2 i h1), h2, h3⟩
  · exact hx
  · cases h
section ZWD
variable (M : zx_M) (Y : zx_Y) (dt : List (List Nat)) (pc : Nat) (i : Instr) (G : zx_G) (h : List zx_C) (lv : List (Nat × zx_V)) (k : Nat × Nat) (sk : List zx_V)
def zw_xget (ix : Nat) : zx_O := match zx_mF M ix with
  | some q => (match sk with
    | .inr (.inl (ids, false)) :: r => (match zw_fold G (zw_sl h q.1 q.2.1) ids with
      | some sl => zx_xslot (pc + 3) G h lv k r sl
      | none => none)
    | _ => none)
  | none => none
def zw_xal (ok : Nat → Bool) : zx_O := match sk with
  | .inl e :: .inr (.inl (ids, false)) :: r => (match zx_rng G e with
    | some t => (match zw_fold G (zw_ar h ok t) ids with
      | some sl => zx_xslot (pc + 1) G h lv k r sl
      | none => none)
    | none => none)
  | _ => none
def zw_xput (ix : Nat) : zx_O := match zx_mF M ix with
  | some q => (match sk with
    | v :: .inr (.inl (ids, false)) :: r => if ids.all (fun id => match zw_sl h q.1 q.2.1 id with
        | some t => zw_fits G t v
        | none => false) = true ∧ zx_fit G q.2.2.1 v = true ∧ (!q.2.2.2 || zx_mB M) = true then some [(pc + 3, G, h, lv, r, k)] else none
    | _ => none)
  | none => none
def zw_xas (by_ : Bool) : zx_O := match sk with
  | .inl v :: .inl e :: .inr (.inl (ids, false)) :: r => (match zx_rng G v, zx_rng G e with
    | some tv, some te => if ids.all (fun id => match zw_ar h (fun t => zx_bok by_ t tv) te id with
        | some (.inr q) => zx_in tv q.1 q.2
        | _ => false) = true then some [(pc + 1, G, h, lv, r, k)] else none
    | _, _ => none)
  | _ => none
/-- what is known of other places stays known -/
def zx_ff (e : zx_L) : List zx_S → List zx_S
  | .inl (.inl d) :: .inl v :: r => if (fun (u : zx_L) => zx_isc u && !decide (u.2 = 0)) (zx_sub e d) = true then .inl (.inl d) :: .inl v :: zx_ff e r else zx_ff e r
  | _ => []
/-- into a row of ints whose places are known one by one: this one is known then -/
def zx_xasf : zx_O := match zx_mN M (400000 + pc) with
  | none => none
  | some _ => (match sk with
    | .inl v :: .inl e :: .inr (.inl ([id], false)) :: r => if id < 64 then none else (match zy_get h (id - 64), zx_rng G v, zx_rng G e with
      | some (.inr (.inl ar)), some tv, some te => (match ar.2.2.2 with
        | .inr t :: fs => if ar.1 = 0 ∧ ar.2.2.1 = true ∧ 0 ≤ te.1 ∧ te.2 < (ar.2.1 : Int) ∧ zx_in tv t.1 t.2 = true then some [(pc + 1, G, zy_set h (id - 64) (.inr (.inl (ar.1, ar.2.1, true, .inr t :: .inl (.inl e) :: .inl (.inl v) :: zx_ff e fs))), lv, r, k)] else none
        | _ => none)
      | _, _, _ => none)
    | _ => none)
def zw_xqs : zx_O := match sk with
  | .inr (.inl (vs, false)) :: .inl e :: .inr (.inl ([id], false)) :: r => (match zx_rng G e with
    | some te => (if id < 64 then none else match zy_get h (id - 64) with
      | some (.inr (.inl ar)) => if ar.2.2.1 = true ∧ 0 ≤ te.1 ∧ te.2 < (ar.2.1 : Int) then (match ar.2.2.2 with
        | [.inl (.inr (.inl t))] => if vs.all (fun iv => zw_hs t.1 iv && (!Nat.blt iv 64 && (match zy_get h (iv - 64) with
            | some (.inl o) => Nat.beq ar.1 (3 + o.1)
            | _ => false))) = true then some [(pc + 1, G, h, lv, r, k)] else none
        | _ => none) else none
      | _ => none)
    | none => none)
  | _ => none
def zw_xacmp (off : Int) : zx_O := match sk with
  | .inr (.inl _) :: .inr (.inl _) :: r => (match zx_tg pc off with
    | some t => some [(t, G, h, lv, r, k), (pc + 3, G, h, lv, r, k)]
    | none => none)
  | _ => none
/-- a field of constant objects -/
def zx_xg1 (Y : zx_Y) (key id : Nat) : Option Int := if Nat.ble 8 id = true then (match zx_fd Y.1 id with
  | some row => zy_get row key
  | none => none) else none
def zx_xgr (Y : zx_Y) (key : Nat) : List Nat → Option (Int × Int)
  | [] => none
  | id :: r => match zx_xg1 Y key id with
    | some n => (match r with
      | [] => some (n, n)
      | _ :: _ => (match zx_xgr Y key r with
        | some u => some (if n ≤ u.1 then n else u.1, if n ≤ u.2 then u.2 else n)
        | none => none))
    | none => none
def zx_xgx (ix : Nat) : zx_O := match zx_mN M (500000 + ix) with
  | some (_, key, _) => (match sk with
    | .inr (.inl (ids, false)) :: r => (match zx_xgr Y key.toNat ids with
      | some t => zx_go (pc + 3) h lv k r (some (if t.1 = t.2 then (G, .inl ([], t.1)) else zx_fr G t.1 t.2))
      | none => none)
    | _ => none)
  | none => none
def zw_xneg : zx_O := match sk with
  | .inl x :: r => zx_go (pc + 1) h lv k r (zx_val G (zx_scale (-1) x))
  | _ => none
def zw_or (a c : zx_O) : zx_O := match a with
  | some z => some z
  | none => c
def zw_xmany : Bool := match sk with
  | _ :: .inr (.inl (_ :: _ :: _, _)) :: _ => true
  | _ => false
def zw_xmany2 : Bool := match sk with
  | _ :: _ :: .inr (.inl (_ :: _ :: _, _)) :: _ => true
  | _ => false
def zx_step : zx_O := match i with
  | .getfield ix => zw_or (zw_xget M pc G h lv k sk ix) (zw_or (zx_step0 M Y dt pc i G h lv k sk) (zx_xgx M Y pc G h lv k sk ix))
  | .putfield ix => if zw_xmany sk = true then zw_xput M pc G h lv k sk ix else zx_step0 M Y dt pc i G h lv k sk
  | .baload => zw_or (zw_xal pc G h lv k sk (fun t => t == 1 || t == 2)) (zx_step0 M Y dt pc i G h lv k sk)
  | .aaload => zw_or (zw_xal pc G h lv k sk (fun t => Nat.ble 3 t)) (zx_step0 M Y dt pc i G h lv k sk)
  | .iaload => zw_or (zw_xal pc G h lv k sk (fun t => t == 0)) (zx_step0 M Y dt pc i G h lv k sk)
  | .iastore => if zw_xmany2 sk = true then zw_xas pc G h lv k sk false else zw_or (zx_xasf M pc G h lv k sk) (zx_step0 M Y dt pc i G h lv k sk)
  | .bastore => if zw_xmany2 sk = true then zw_xas pc G h lv k sk true else zx_step0 M Y dt pc i G h lv k sk
  | .aastore => zw_or (zw_xqs pc G h lv k sk) (zx_step0 M Y dt pc i G h lv k sk)
  | .if_acmp _ off => zw_xacmp pc G h lv k sk off
  | .ineg => zw_xneg pc G h lv k sk
  | _ => zx_step0 M Y dt pc i G h lv k sk
end ZWD
end
