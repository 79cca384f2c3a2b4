/-! zx: the same runs, in fewer turns -/
noncomputable def zy_get {α : Type} (l : List α) : Nat → Option α := List.rec (motive := fun _ => Nat → Option α) (fun _ => none) (fun a _ ih n => Nat.rec (motive := fun _ => Option α) (some a) (fun m _ => ih m) n) l
theorem zy_get_eq {α : Type} : ∀ (l : List α) (n : Nat), zy_get l n = l[n]?
  | [], n => by simp [zy_get]
  | a :: t, 0 => rfl
  | a :: t, n + 1 => by
    rw [List.getElem?_cons_succ]
    exact zy_get_eq t n
noncomputable def zy_set {α : Type} (l : List α) : Nat → α → List α := List.rec (motive := fun _ => Nat → α → List α) (fun _ _ => []) (fun b t ih n a => Nat.rec (motive := fun _ => List α) (a :: t) (fun m _ => b :: ih m a) n) l
theorem zy_set_eq {α : Type} : ∀ (l : List α) (n : Nat) (a : α), zy_set l n a = l.set n a
  | [], n, a => rfl
  | b :: t, 0, a => rfl
  | b :: t, n + 1, a => by
    rw [List.set_cons_succ]
    show b :: zy_set t n a = _
    rw [zy_set_eq t n a]
noncomputable def zy_lk (lv : List (Nat × zx_V)) (i : Nat) : Option zx_V := List.rec (motive := fun _ => Option zx_V) none (fun q _ ih => Bool.rec (motive := fun _ => Option zx_V) ih (some q.2) (Nat.beq q.1 i)) lv
theorem zy_beq {α : Type} {n m : Nat} {a b : α} : (Bool.rec (motive := fun _ => α) a b (Nat.beq n m)) = if n = m then b else a := by
  by_cases h : n = m
  · rw [if_pos h, h, Nat.beq_refl]
  · rw [if_neg h]
    cases hb : Nat.beq n m with
    | true => exact absurd (Nat.eq_of_beq_eq_true hb) h
    | false => rfl
theorem zy_lk_eq : ∀ (lv : List (Nat × zx_V)) (i : Nat), zy_lk lv i = zx_lk lv i
  | [], _ => rfl
  | q :: r, i => by
    rw [zx_lk, ← zy_lk_eq r i]
    exact zy_beq
noncomputable def zy_st1 (lv : List (Nat × zx_V)) (i : Nat) (v : zx_V) : List (Nat × zx_V) := (i, v) :: List.rec (motive := fun _ => List (Nat × zx_V)) [] (fun q _ ih => Bool.rec (motive := fun _ => List (Nat × zx_V)) (Bool.rec (motive := fun _ => List (Nat × zx_V)) (q :: ih) (Bool.rec (motive := fun _ => List (Nat × zx_V)) (q :: ih) ih (Nat.beq (zx_cat q.2) 2)) (Nat.beq (q.1 + 1) i)) ih (Nat.beq q.1 i)) lv
theorem zy_st1_eq (lv : List (Nat × zx_V)) (i : Nat) (v : zx_V) : zy_st1 lv i v = zx_st1 lv i v := by
  unfold zy_st1 zx_st1
  congr 1
  induction lv with
  | nil => rfl
  | cons q r ih =>
    rw [List.filter_cons, ← ih]
    simp only [zy_beq]
    by_cases h1 : q.1 = i
    · simp [h1]
    · by_cases h2 : q.1 + 1 = i
      · by_cases h3 : zx_cat q.2 = 2
        · simp [h1, h2, h3]
        · simp [h1, h2, h3]
      · simp [h1, h2]
def zy_all {α β : Type} (f : α → Option (List β)) (l : List α) : Option (List β) := match l with
  | [] => some []
  | a :: t => match t with
    | [] => f a
    | c :: u => zx_all f (a :: c :: u)
theorem zy_all_eq {α β : Type} (f : α → Option (List β)) (l : List α) : zy_all f l = zx_all f l := by
  match l with
  | [] => rfl
  | [a] =>
    show f a = zx_all f [a]
    rw [zx_all, zx_all]
    cases f a with
    | none => rfl
    | some x => simp
  | a :: c :: u => rfl
section ZYX
variable (M : zx_M) (pc : Nat) (G : zx_G) (h : List zx_C) (lv : List (Nat × zx_V)) (k : Nat × Nat) (sk : List zx_V)
noncomputable def zy_xld (i d : Nat) : zx_O := match zy_lk lv i with
  | some (.inl e) => some [(pc + d, G, h, lv, .inl e :: sk, k)]
  | _ => none
noncomputable def zy_xlld (i d : Nat) : zx_O := match zy_lk lv i with
  | some (.inr (.inr true)) => some [(pc + d, G, h, lv, zx_lg :: sk, k)]
  | _ => none
noncomputable def zy_xald (i d : Nat) : zx_O := match zy_lk lv i with
  | some (.inr (.inl (r, false))) => some [(pc + d, G, h, lv, .inr (.inl (r, false)) :: sk, k)]
  | some (.inr (.inr false)) => some [(pc + d, G, h, lv, .inr (.inr false) :: sk, k)]
  | _ => none
noncomputable def zy_xst (i d : Nat) : zx_O := match sk with
  | .inl e :: r => if i < zx_mV M then some [(pc + d, G, h, zy_st1 lv i (.inl e), r, k)] else none
  | _ => none
noncomputable def zy_xast (i d : Nat) : zx_O := match sk with
  | .inr (.inl (q, false)) :: r => if i < zx_mV M then some [(pc + d, G, h, zy_st1 lv i (.inr (.inl (q, false))), r, k)] else none
  | _ => none
noncomputable def zy_xinc (i : Nat) (n : Int) : zx_O := match zy_lk lv i with
  | some (.inl e) => if decide (i < zx_mV M) && decide (-32768 ≤ n) && decide (n ≤ 32767) then (match zx_val G (zx_add e ([], n)) with
    | some r => some [(pc + 3, r.1, h, zy_st1 lv i r.2, sk, k)]
    | none => none) else none
  | _ => none
noncomputable def zy_xtab (dflt lo hi : Int) (offs : Array Int) : zx_O := match sk with
  | .inl x :: r => (match zx_rng G x with
    | some t => zy_all (zx_xtab1 pc h lv k dflt lo hi offs x r) (zx_tcuts G x t lo hi)
    | none => none)
  | _ => none
end ZYX
theorem zy_xld_eq : @zy_xld = @zx_xld := by
  delta zy_xld zx_xld
  first | rfl | (simp only [zy_get_eq, zy_set_eq, zy_lk_eq, zy_st1_eq, zy_all_eq] <;> rfl) | (simp only [zy_get_eq, zy_set_eq, zy_lk_eq, zy_st1_eq, zy_all_eq])
theorem zy_xlld_eq : @zy_xlld = @zx_xlld := by
  delta zy_xlld zx_xlld
  first | rfl | (simp only [zy_get_eq, zy_set_eq, zy_lk_eq, zy_st1_eq, zy_all_eq, zy_xld_eq] <;> rfl) | (simp only [zy_get_eq, zy_set_eq, zy_lk_eq, zy_st1_eq, zy_all_eq, zy_xld_eq])
theorem zy_xald_eq : @zy_xald = @zx_xald := by
  delta zy_xald zx_xald
  first | rfl | (simp only [zy_get_eq, zy_set_eq, zy_lk_eq, zy_st1_eq, zy_all_eq, zy_xld_eq, zy_xlld_eq] <;> rfl) | (simp only [zy_get_eq, zy_set_eq, zy_lk_eq, zy_st1_eq, zy_all_eq, zy_xld_eq, zy_xlld_eq])
theorem zy_xst_eq : @zy_xst = @zx_xst := by
  delta zy_xst zx_xst
  first | rfl | (simp only [zy_get_eq, zy_set_eq, zy_lk_eq, zy_st1_eq, zy_all_eq, zy_xld_eq, zy_xlld_eq, zy_xald_eq] <;> rfl) | (simp only [zy_get_eq, zy_set_eq, zy_lk_eq, zy_st1_eq, zy_all_eq, zy_xld_eq, zy_xlld_eq, zy_xald_eq])
theorem zy_xast_eq : @zy_xast = @zx_xast := by
  delta zy_xast zx_xast
  first | rfl | (simp only [zy_get_eq, zy_set_eq, zy_lk_eq, zy_st1_eq, zy_all_eq, zy_xld_eq, zy_xlld_eq, zy_xald_eq, zy_xst_eq] <;> rfl) | (simp only [zy_get_eq, zy_set_eq, zy_lk_eq, zy_st1_eq, zy_all_eq, zy_xld_eq, zy_xlld_eq, zy_xald_eq, zy_xst_eq])
theorem zy_xinc_eq : @zy_xinc = @zx_xinc := by
  delta zy_xinc zx_xinc
  first | rfl | (simp only [zy_get_eq, zy_set_eq, zy_lk_eq, zy_st1_eq, zy_all_eq, zy_xld_eq, zy_xlld_eq, zy_xald_eq, zy_xst_eq, zy_xast_eq] <;> rfl) | (simp only [zy_get_eq, zy_set_eq, zy_lk_eq, zy_st1_eq, zy_all_eq, zy_xld_eq, zy_xlld_eq, zy_xald_eq, zy_xst_eq, zy_xast_eq])
theorem zy_xtab_eq : @zy_xtab = @zx_xtab := by
  delta zy_xtab zx_xtab
  first | rfl | (simp only [zy_get_eq, zy_set_eq, zy_lk_eq, zy_st1_eq, zy_all_eq, zy_xld_eq, zy_xlld_eq, zy_xald_eq, zy_xst_eq, zy_xast_eq, zy_xinc_eq] <;> rfl) | (simp only [zy_get_eq, zy_set_eq, zy_lk_eq, zy_st1_eq, zy_all_eq, zy_xld_eq, zy_xlld_eq, zy_xald_eq, zy_xst_eq, zy_xast_eq, zy_xinc_eq])
section ZYY
variable (M : zx_M) (Y : zx_Y) (pc : Nat) (G : zx_G) (h : List zx_C) (lv : List (Nat × zx_V)) (k : Nat × Nat) (sk : List zx_V)
noncomputable def zy_xget1 (q : Nat × Nat × Nat × Bool) (r : List zx_V) (id : Nat) : zx_O := if id < 64 then none else match zy_get h (id - 64) with
  | some (.inl o) => if o.1 = q.1 then (match zy_get o.2 q.2.1 with
    | some sl => zx_xslot (pc + 3) G h lv k r sl
    | none => none) else none
  | _ => none
noncomputable def zy_xget (ix : Nat) : zx_O := match zx_mF M ix with
  | some q => (match sk with
    | .inr (.inl (ids, false)) :: r => zy_all (zy_xget1 pc G h lv k q r) ids
    | _ => none)
  | none => none
noncomputable def zy_xput (ix : Nat) : zx_O := match zx_mF M ix with
  | some q => (match sk with
    | v :: .inr (.inl ([id], false)) :: r => if id < 64 then none else (match zy_get h (id - 64) with
      | some (.inl o) => if o.1 = q.1 ∧ q.2.1 < o.2.length ∧ zx_fit G q.2.2.1 v = true ∧ (!q.2.2.2 || zx_mB M) = true then some [(pc + 3, G, zy_set h (id - 64) (.inl (o.1, zy_set o.2 q.2.1 (.inl v))), lv, r, k)] else none
      | _ => none)
    | _ => none)
  | none => none
noncomputable def zy_xal1 (r : List zx_V) (ar : Nat × Nat × Bool × List zx_S) (e : zx_L) (G1 : zx_G) : zx_O := match zx_rng G1 e with
  | none => none
  | some t => if 0 ≤ t.1 ∧ t.2 < (ar.2.1 : Int) then (if ar.2.2.1 = true then (match ar.2.2.2 with
      | sl :: _ => zx_xslot (pc + 1) G1 h lv k r sl
      | [] => none) else (if t.1 = t.2 then (match zy_get ar.2.2.2 t.1.toNat with
      | some sl => zx_xslot (pc + 1) G1 h lv k r sl
      | none => none) else none)) else none
noncomputable def zy_xal2 (ok : Nat → Bool) (r : List zx_V) (e : zx_L) (id : Nat) : zx_O := if id < 64 then none else match zy_get h (id - 64) with
  | some (.inr (.inl ar)) => if ok ar.1 = true then (if ar.2.2.1 = true then zy_xal1 pc h lv k r ar e G else (match zx_split G e with
    | some l => zy_all (zy_xal1 pc h lv k r ar e) l
    | none => none)) else none
  | _ => none
noncomputable def zy_xal (ok : Nat → Bool) : zx_O := match sk with
  | .inl e :: .inr (.inl (ids, false)) :: r => zy_all (zy_xal2 pc G h lv k ok r e) ids
  | _ => none
noncomputable def zy_xyl : zx_O := match sk with
  | .inl e :: .inr (.inl ([id], false)) :: r => (match zx_fd Y id with
    | some row => (match zx_split G e with
      | some l => zy_all (zx_xyl1 pc h lv k r row e) l
      | none => none)
    | none => none)
  | _ => none
noncomputable def zy_xas1 (r : List zx_V) (id : Nat) (ar : Nat × Nat × Bool × List zx_S) (v : zx_V) (e : zx_L) (G1 : zx_G) : zx_O := match zx_rng G1 e with
  | none => none
  | some t => if 0 ≤ t.1 ∧ t.1 = t.2 ∧ t.2 < (ar.2.1 : Int) then some [(pc + 1, G1, zy_set h (id - 64) (.inr (.inl (ar.1, ar.2.1, false, zy_set ar.2.2.2 t.1.toNat (.inl v)))), lv, r, k)] else none
noncomputable def zy_xas (by_ : Bool) : zx_O := match sk with
  | .inl v :: .inl e :: .inr (.inl ([id], false)) :: r => if id < 64 then none else (match zy_get h (id - 64), zx_rng G v, zx_rng G e with
    | some (.inr (.inl ar)), some tv, some te => if zx_bok by_ ar.1 tv = true then (if ar.2.2.1 = true then (match ar.2.2.2 with
        | [.inr t] => if 0 ≤ te.1 ∧ te.2 < (ar.2.1 : Int) ∧ zx_in tv t.1 t.2 = true then some [(pc + 1, G, h, lv, r, k)] else none
        | _ => none) else (match zx_split G e with
        | some l => zy_all (zy_xas1 pc h lv k r id ar (.inl v) e) l
        | none => none)) else none
    | _, _, _ => none)
  | _ => none
noncomputable def zy_xqs : zx_O := match sk with
  | .inr (.inl ([iv], false)) :: .inl e :: .inr (.inl ([id], false)) :: r => if id < 64 ∨ iv < 64 then none else (match zy_get h (id - 64), zy_get h (iv - 64) with
    | some (.inr (.inl ar)), some (.inl o) => if ar.1 = 3 + o.1 ∧ ar.2.2.1 = false then (match zx_split G e with
        | some l => zy_all (zy_xas1 pc h lv k r id ar (.inr (.inl ([iv], false))) e) l
        | none => none) else none
    | _, _ => none)
  | _ => none
noncomputable def zy_xlen1 (r : List zx_V) (id : Nat) : zx_O := if id < 64 then none else match zy_get h (id - 64) with
  | some (.inr (.inl ar)) => if ar.2.1 < 2147483648 then some [(pc + 1, G, h, lv, .inl ([], (ar.2.1 : Int)) :: r, k)] else none
  | _ => none
noncomputable def zy_xlen : zx_O := match sk with
  | .inr (.inl (ids, false)) :: r => zy_all (zy_xlen1 pc G h lv k r) ids
  | _ => none
end ZYY
theorem zy_xget1_eq : @zy_xget1 = @zx_xget1 := by
  delta zy_xget1 zx_xget1
  first | rfl | (simp only [zy_get_eq, zy_set_eq, zy_lk_eq, zy_st1_eq, zy_all_eq, zy_xld_eq, zy_xlld_eq, zy_xald_eq, zy_xst_eq, zy_xast_eq, zy_xinc_eq, zy_xtab_eq] <;> rfl) | (simp only [zy_get_eq, zy_set_eq, zy_lk_eq, zy_st1_eq, zy_all_eq, zy_xld_eq, zy_xlld_eq, zy_xald_eq, zy_xst_eq, zy_xast_eq, zy_xinc_eq, zy_xtab_eq])
theorem zy_xget_eq : @zy_xget = @zx_xget := by
  delta zy_xget zx_xget
  first | rfl | (simp only [zy_get_eq, zy_set_eq, zy_lk_eq, zy_st1_eq, zy_all_eq, zy_xld_eq, zy_xlld_eq, zy_xald_eq, zy_xst_eq, zy_xast_eq, zy_xinc_eq, zy_xtab_eq, zy_xget1_eq] <;> rfl) | (simp only [zy_get_eq, zy_set_eq, zy_lk_eq, zy_st1_eq, zy_all_eq, zy_xld_eq, zy_xlld_eq, zy_xald_eq, zy_xst_eq, zy_xast_eq, zy_xinc_eq, zy_xtab_eq, zy_xget1_eq])
theorem zy_xput_eq : @zy_xput = @zx_xput := by
  delta zy_xput zx_xput
  first | rfl | (simp only [zy_get_eq, zy_set_eq, zy_lk_eq, zy_st1_eq, zy_all_eq, zy_xld_eq, zy_xlld_eq, zy_xald_eq, zy_xst_eq, zy_xast_eq, zy_xinc_eq, zy_xtab_eq, zy_xget1_eq, zy_xget_eq] <;> rfl) | (simp only [zy_get_eq, zy_set_eq, zy_lk_eq, zy_st1_eq, zy_all_eq, zy_xld_eq, zy_xlld_eq, zy_xald_eq, zy_xst_eq, zy_xast_eq, zy_xinc_eq, zy_xtab_eq, zy_xget1_eq, zy_xget_eq])
theorem zy_xal1_eq : @zy_xal1 = @zx_xal1 := by
  delta zy_xal1 zx_xal1
  first | rfl | (simp only [zy_get_eq, zy_set_eq, zy_lk_eq, zy_st1_eq, zy_all_eq, zy_xld_eq, zy_xlld_eq, zy_xald_eq, zy_xst_eq, zy_xast_eq, zy_xinc_eq, zy_xtab_eq, zy_xget1_eq, zy_xget_eq, zy_xput_eq] <;> rfl) | (simp only [zy_get_eq, zy_set_eq, zy_lk_eq, zy_st1_eq, zy_all_eq, zy_xld_eq, zy_xlld_eq, zy_xald_eq, zy_xst_eq, zy_xast_eq, zy_xinc_eq, zy_xtab_eq, zy_xget1_eq, zy_xget_eq, zy_xput_eq])
theorem zy_xal2_eq : @zy_xal2 = @zx_xal2 := by
  delta zy_xal2 zx_xal2
  first | rfl | (simp only [zy_get_eq, zy_set_eq, zy_lk_eq, zy_st1_eq, zy_all_eq, zy_xld_eq, zy_xlld_eq, zy_xald_eq, zy_xst_eq, zy_xast_eq, zy_xinc_eq, zy_xtab_eq, zy_xget1_eq, zy_xget_eq, zy_xput_eq, zy_xal1_eq] <;> rfl) | (simp only [zy_get_eq, zy_set_eq, zy_lk_eq, zy_st1_eq, zy_all_eq, zy_xld_eq, zy_xlld_eq, zy_xald_eq, zy_xst_eq, zy_xast_eq, zy_xinc_eq, zy_xtab_eq, zy_xget1_eq, zy_xget_eq, zy_xput_eq, zy_xal1_eq])
theorem zy_xal_eq : @zy_xal = @zx_xal := by
  delta zy_xal zx_xal
  first | rfl | (simp only [zy_get_eq, zy_set_eq, zy_lk_eq, zy_st1_eq, zy_all_eq, zy_xld_eq, zy_xlld_eq, zy_xald_eq, zy_xst_eq, zy_xast_eq, zy_xinc_eq, zy_xtab_eq, zy_xget1_eq, zy_xget_eq, zy_xput_eq, zy_xal1_eq, zy_xal2_eq] <;> rfl) | (simp only [zy_get_eq, zy_set_eq, zy_lk_eq, zy_st1_eq, zy_all_eq, zy_xld_eq, zy_xlld_eq, zy_xald_eq, zy_xst_eq, zy_xast_eq, zy_xinc_eq, zy_xtab_eq, zy_xget1_eq, zy_xget_eq, zy_xput_eq, zy_xal1_eq, zy_xal2_eq])
theorem zy_xyl_eq : @zy_xyl = @zx_xyl := by
  delta zy_xyl zx_xyl
  first | rfl | (simp only [zy_get_eq, zy_set_eq, zy_lk_eq, zy_st1_eq, zy_all_eq, zy_xld_eq, zy_xlld_eq, zy_xald_eq, zy_xst_eq, zy_xast_eq, zy_xinc_eq, zy_xtab_eq, zy_xget1_eq, zy_xget_eq, zy_xput_eq, zy_xal1_eq, zy_xal2_eq, zy_xal_eq] <;> rfl) | (simp only [zy_get_eq, zy_set_eq, zy_lk_eq, zy_st1_eq, zy_all_eq, zy_xld_eq, zy_xlld_eq, zy_xald_eq, zy_xst_eq, zy_xast_eq, zy_xinc_eq, zy_xtab_eq, zy_xget1_eq, zy_xget_eq, zy_xput_eq, zy_xal1_eq, zy_xal2_eq, zy_xal_eq])
theorem zy_xas1_eq : @zy_xas1 = @zx_xas1 := by
  delta zy_xas1 zx_xas1
  first | rfl | (simp only [zy_get_eq, zy_set_eq, zy_lk_eq, zy_st1_eq, zy_all_eq, zy_xld_eq, zy_xlld_eq, zy_xald_eq, zy_xst_eq, zy_xast_eq, zy_xinc_eq, zy_xtab_eq, zy_xget1_eq, zy_xget_eq, zy_xput_eq, zy_xal1_eq, zy_xal2_eq, zy_xal_eq, zy_xyl_eq] <;> rfl) | (simp only [zy_get_eq, zy_set_eq, zy_lk_eq, zy_st1_eq, zy_all_eq, zy_xld_eq, zy_xlld_eq, zy_xald_eq, zy_xst_eq, zy_xast_eq, zy_xinc_eq, zy_xtab_eq, zy_xget1_eq, zy_xget_eq, zy_xput_eq, zy_xal1_eq, zy_xal2_eq, zy_xal_eq, zy_xyl_eq])
theorem zy_xas_eq : @zy_xas = @zx_xas := by
  delta zy_xas zx_xas
  first | rfl | (simp only [zy_get_eq, zy_set_eq, zy_lk_eq, zy_st1_eq, zy_all_eq, zy_xld_eq, zy_xlld_eq, zy_xald_eq, zy_xst_eq, zy_xast_eq, zy_xinc_eq, zy_xtab_eq, zy_xget1_eq, zy_xget_eq, zy_xput_eq, zy_xal1_eq, zy_xal2_eq, zy_xal_eq, zy_xyl_eq, zy_xas1_eq] <;> rfl) | (simp only [zy_get_eq, zy_set_eq, zy_lk_eq, zy_st1_eq, zy_all_eq, zy_xld_eq, zy_xlld_eq, zy_xald_eq, zy_xst_eq, zy_xast_eq, zy_xinc_eq, zy_xtab_eq, zy_xget1_eq, zy_xget_eq, zy_xput_eq, zy_xal1_eq, zy_xal2_eq, zy_xal_eq, zy_xyl_eq, zy_xas1_eq])
theorem zy_xqs_eq : @zy_xqs = @zx_xqs := by
  delta zy_xqs zx_xqs
  first | rfl | (simp only [zy_get_eq, zy_set_eq, zy_lk_eq, zy_st1_eq, zy_all_eq, zy_xld_eq, zy_xlld_eq, zy_xald_eq, zy_xst_eq, zy_xast_eq, zy_xinc_eq, zy_xtab_eq, zy_xget1_eq, zy_xget_eq, zy_xput_eq, zy_xal1_eq, zy_xal2_eq, zy_xal_eq, zy_xyl_eq, zy_xas1_eq, zy_xas_eq] <;> rfl) | (simp only [zy_get_eq, zy_set_eq, zy_lk_eq, zy_st1_eq, zy_all_eq, zy_xld_eq, zy_xlld_eq, zy_xald_eq, zy_xst_eq, zy_xast_eq, zy_xinc_eq, zy_xtab_eq, zy_xget1_eq, zy_xget_eq, zy_xput_eq, zy_xal1_eq, zy_xal2_eq, zy_xal_eq, zy_xyl_eq, zy_xas1_eq, zy_xas_eq])
theorem zy_xlen1_eq : @zy_xlen1 = @zx_xlen1 := by
  delta zy_xlen1 zx_xlen1
  first | rfl | (simp only [zy_get_eq, zy_set_eq, zy_lk_eq, zy_st1_eq, zy_all_eq, zy_xld_eq, zy_xlld_eq, zy_xald_eq, zy_xst_eq, zy_xast_eq, zy_xinc_eq, zy_xtab_eq, zy_xget1_eq, zy_xget_eq, zy_xput_eq, zy_xal1_eq, zy_xal2_eq, zy_xal_eq, zy_xyl_eq, zy_xas1_eq, zy_xas_eq, zy_xqs_eq] <;> rfl) | (simp only [zy_get_eq, zy_set_eq, zy_lk_eq, zy_st1_eq, zy_all_eq, zy_xld_eq, zy_xlld_eq, zy_xald_eq, zy_xst_eq, zy_xast_eq, zy_xinc_eq, zy_xtab_eq, zy_xget1_eq, zy_xget_eq, zy_xput_eq, zy_xal1_eq, zy_xal2_eq, zy_xal_eq, zy_xyl_eq, zy_xas1_eq, zy_xas_eq, zy_xqs_eq])
theorem zy_xlen_eq : @zy_xlen = @zx_xlen := by
  delta zy_xlen zx_xlen
  first | rfl | (simp only [zy_get_eq, zy_set_eq, zy_lk_eq, zy_st1_eq, zy_all_eq, zy_xld_eq, zy_xlld_eq, zy_xald_eq, zy_xst_eq, zy_xast_eq, zy_xinc_eq, zy_xtab_eq, zy_xget1_eq, zy_xget_eq, zy_xput_eq, zy_xal1_eq, zy_xal2_eq, zy_xal_eq, zy_xyl_eq, zy_xas1_eq, zy_xas_eq, zy_xqs_eq, zy_xlen1_eq] <;> rfl) | (simp only [zy_get_eq, zy_set_eq, zy_lk_eq, zy_st1_eq, zy_all_eq, zy_xld_eq, zy_xlld_eq, zy_xald_eq, zy_xst_eq, zy_xast_eq, zy_xinc_eq, zy_xtab_eq, zy_xget1_eq, zy_xget_eq, zy_xput_eq, zy_xal1_eq, zy_xal2_eq, zy_xal_eq, zy_xyl_eq, zy_xas1_eq, zy_xas_eq, zy_xqs_eq, zy_xlen1_eq])
section ZYD
variable (M : zx_M) (Y : zx_Y) (dt : List (List Nat)) (pc : Nat) (i : Instr) (G : zx_G) (h : List zx_C) (lv : List (Nat × zx_V)) (k : Nat × Nat) (sk : List zx_V)
noncomputable def zy_xiald : zx_O := match sk with
  | _ :: .inr (.inr false) :: _ => zx_xsl M pc G h lv k sk
  | _ :: .inr (.inl (id :: _, _)) :: _ => if id < 64 then zy_xyl Y pc G h lv k sk else zy_xal pc G h lv k sk (fun t => t == 0)
  | _ => none
noncomputable def zy_xalen : zx_O := match sk with
  | .inr (.inr false) :: _ => zx_xsn M pc G h lv k sk
  | .inr (.inl (id :: _, _)) :: _ => if id < 64 then zx_xyn Y pc G h lv k sk else zy_xlen pc G h lv k sk
  | _ => none
end ZYD
theorem zy_xiald_eq : @zy_xiald = @zx_xiald := by
  delta zy_xiald zx_xiald
  first | rfl | (simp only [zy_get_eq, zy_set_eq, zy_lk_eq, zy_st1_eq, zy_all_eq, zy_xld_eq, zy_xlld_eq, zy_xald_eq, zy_xst_eq, zy_xast_eq, zy_xinc_eq, zy_xtab_eq, zy_xget1_eq, zy_xget_eq, zy_xput_eq, zy_xal1_eq, zy_xal2_eq, zy_xal_eq, zy_xyl_eq, zy_xas1_eq, zy_xas_eq, zy_xqs_eq, zy_xlen1_eq, zy_xlen_eq] <;> rfl) | (simp only [zy_get_eq, zy_set_eq, zy_lk_eq, zy_st1_eq, zy_all_eq, zy_xld_eq, zy_xlld_eq, zy_xald_eq, zy_xst_eq, zy_xast_eq, zy_xinc_eq, zy_xtab_eq, zy_xget1_eq, zy_xget_eq, zy_xput_eq, zy_xal1_eq, zy_xal2_eq, zy_xal_eq, zy_xyl_eq, zy_xas1_eq, zy_xas_eq, zy_xqs_eq, zy_xlen1_eq, zy_xlen_eq])
theorem zy_xalen_eq : @zy_xalen = @zx_xalen := by
  delta zy_xalen zx_xalen
  first | rfl | (simp only [zy_get_eq, zy_set_eq, zy_lk_eq, zy_st1_eq, zy_all_eq, zy_xld_eq, zy_xlld_eq, zy_xald_eq, zy_xst_eq, zy_xast_eq, zy_xinc_eq, zy_xtab_eq, zy_xget1_eq, zy_xget_eq, zy_xput_eq, zy_xal1_eq, zy_xal2_eq, zy_xal_eq, zy_xyl_eq, zy_xas1_eq, zy_xas_eq, zy_xqs_eq, zy_xlen1_eq, zy_xlen_eq, zy_xiald_eq] <;> rfl) | (simp only [zy_get_eq, zy_set_eq, zy_lk_eq, zy_st1_eq, zy_all_eq, zy_xld_eq, zy_xlld_eq, zy_xald_eq, zy_xst_eq, zy_xast_eq, zy_xinc_eq, zy_xtab_eq, zy_xget1_eq, zy_xget_eq, zy_xput_eq, zy_xal1_eq, zy_xal2_eq, zy_xal_eq, zy_xyl_eq, zy_xas1_eq, zy_xas_eq, zy_xqs_eq, zy_xlen1_eq, zy_xlen_eq, zy_xiald_eq])
abbrev zy_F : Type := zx_G → List zx_C → List (Nat × zx_V) → Nat × Nat → List zx_V → zx_O
section ZYE
variable (M : zx_M) (Y : zx_Y) (dt : List (List Nat)) (pc : Nat) (i : Instr)
noncomputable def zy_op : Option zy_F := match i with
  | .iconst n => some (fun G h lv k sk => zx_xk pc G h lv k sk n (-128) 127 1)
  | .bipush n => some (fun G h lv k sk => zx_xk pc G h lv k sk n (-128) 127 2)
  | .sipush n => some (fun G h lv k sk => zx_xk pc G h lv k sk n (-32768) 32767 3)
  | .ldc ix => some (fun G h lv k sk => zx_xint pc G h lv k sk (zx_mI M ix) 2)
  | .ldc_w ix => some (fun G h lv k sk => zx_xint pc G h lv k sk (zx_mI M ix) 3)
  | .ldc2_w ix => some (fun G h lv k sk => zx_xldc2 M pc G h lv k sk ix)
  | .lconst _ => some (fun G h lv k sk => zx_xlc pc G h lv k sk)
  | .iload n => some (fun G h lv k sk => zy_xld pc G h lv k sk n 2)
  | .iload_n n => some (fun G h lv k sk => zy_xld pc G h lv k sk n 1)
  | .lload n => some (fun G h lv k sk => zy_xlld pc G h lv k sk n 2)
  | .lload_n n => some (fun G h lv k sk => zy_xlld pc G h lv k sk n 1)
  | .aload n => some (fun G h lv k sk => zy_xald pc G h lv k sk n 2)
  | .aload_n n => some (fun G h lv k sk => zy_xald pc G h lv k sk n 1)
  | .istore n => some (fun G h lv k sk => zy_xst M pc G h lv k sk n 2)
  | .istore_n n => some (fun G h lv k sk => zy_xst M pc G h lv k sk n 1)
  | .lstore n => some (fun G h lv k sk => zx_xlst M pc G h lv k sk n 2)
  | .lstore_n n => some (fun G h lv k sk => zx_xlst M pc G h lv k sk n 1)
  | .astore n => some (fun G h lv k sk => zy_xast M pc G h lv k sk n 2)
  | .astore_n n => some (fun G h lv k sk => zy_xast M pc G h lv k sk n 1)
  | .iinc n c => some (fun G h lv k sk => zy_xinc M pc G h lv k sk n c)
  | .iadd => some (fun G h lv k sk => zx_xbin pc h lv k sk (fun x y => zx_val G (zx_add x y)))
  | .isub => some (fun G h lv k sk => zx_xbin pc h lv k sk (fun x y => zx_val G (zx_sub x y)))
  | .imul => some (fun G h lv k sk => zx_xbin pc h lv k sk (fun x y => zx_mul G x y))
  | .idiv => some (fun G h lv k sk => zx_xbin pc h lv k sk (fun x y => zx_div G x y))
  | .irem => some (fun G h lv k sk => zx_xbin pc h lv k sk (fun x y => zx_rem G x y))
  | .iand => some (fun G h lv k sk => zx_xbin pc h lv k sk (fun x y => zx_and G x y))
  | .ior => some (fun G h lv k sk => zx_xbin pc h lv k sk (fun _ _ => some (zx_full G)))
  | .ixor => some (fun G h lv k sk => zx_xbin pc h lv k sk (fun _ _ => some (zx_full G)))
  | .ishl => some (fun G h lv k sk => zx_xbin pc h lv k sk (fun _ _ => some (zx_full G)))
  | .ishr => some (fun G h lv k sk => zx_xbin pc h lv k sk (fun _ _ => some (zx_full G)))
  | .i2b => some (fun G h lv k sk => zx_xi2b pc G h lv k sk)
  | .i2l => some (fun G h lv k sk => zx_xi2l pc G h lv k sk)
  | .l2i => some (fun G h lv k sk => zx_xl2i pc G h lv k sk)
  | .land => some (fun G h lv k sk => zx_xlbin pc G h lv k sk)
  | .lor => some (fun G h lv k sk => zx_xlbin pc G h lv k sk)
  | .lxor => some (fun G h lv k sk => zx_xlbin pc G h lv k sk)
  | .lshl => some (fun G h lv k sk => zx_xlsh pc G h lv k sk)
  | .lshr => some (fun G h lv k sk => zx_xlsh pc G h lv k sk)
  | .lcmp => some (fun G h lv k sk => zx_xlcmp pc G h lv k sk)
  | .dup => some (fun G h lv k sk => zx_xdup pc G h lv k sk)
  | .pop => some (fun G h lv k sk => zx_xpop pc G h lv k sk)
  | .dup2 => some (fun G h lv k sk => zx_xdup2 pc G h lv k sk)
  | .goto off => some (fun G h lv k sk => zx_xgoto pc G h lv k sk off)
  | .ifCond c off => some (fun G h lv k sk => zx_xif pc G h lv k sk c off)
  | .if_icmp c off => some (fun G h lv k sk => zx_xicmp pc G h lv k sk c off)
  | .tableswitch d lo hi offs => some (fun G h lv k sk => zy_xtab pc G h lv k sk d lo hi offs)
  | .getfield ix => some (fun G h lv k sk => zy_xget M pc G h lv k sk ix)
  | .putfield ix => some (fun G h lv k sk => zy_xput M pc G h lv k sk ix)
  | .getstatic ix => some (fun G h lv k sk => zx_xgs M pc G h lv k sk ix)
  | .iaload => some (fun G h lv k sk => zy_xiald M Y pc G h lv k sk)
  | .baload => some (fun G h lv k sk => zy_xal pc G h lv k sk (fun t => t == 1 || t == 2))
  | .aaload => some (fun G h lv k sk => zy_xal pc G h lv k sk (fun t => Nat.ble 3 t))
  | .iastore => some (fun G h lv k sk => zy_xas pc G h lv k sk false)
  | .bastore => some (fun G h lv k sk => zy_xas pc G h lv k sk true)
  | .aastore => some (fun G h lv k sk => zy_xqs pc G h lv k sk)
  | .arraylength => some (fun G h lv k sk => zy_xalen M Y pc G h lv k sk)
  | .new ix => some (fun G h lv k sk => zx_xnew M pc G h lv k sk ix dt)
  | .newarray a => some (fun G h lv k sk => zx_xna M pc G h lv k sk a)
  | .anewarray ix => some (fun G h lv k sk => zx_xnq M pc G h lv k sk ix)
  | _ => none
end ZYE
def zy_ap (f : Option zy_F) (G : zx_G) (h : List zx_C) (lv : List (Nat × zx_V)) (k : Nat × Nat) (sk : List zx_V) : zx_O := match f with
  | some f => f G h lv k sk
  | none => none
theorem zy_op_eq (M : zx_M) (Y : zx_Y) (dt : List (List Nat)) (pc : Nat) (i : Instr) (G : zx_G) (h : List zx_C) (lv : List (Nat × zx_V)) (k : Nat × Nat) (sk : List zx_V) : zy_ap (zy_op M Y dt pc i) G h lv k sk = zx_step M Y dt pc i G h lv k sk := by
  cases i <;> first | rfl | (simp only [zy_op, zy_ap, zx_step, zy_xld_eq, zy_xlld_eq, zy_xald_eq, zy_xst_eq, zy_xast_eq, zy_xinc_eq, zy_xtab_eq, zy_xget1_eq, zy_xget_eq, zy_xput_eq, zy_xal1_eq, zy_xal2_eq, zy_xal_eq, zy_xyl_eq, zy_xas1_eq, zy_xas_eq, zy_xqs_eq, zy_xlen1_eq, zy_xlen_eq, zy_xiald_eq, zy_xalen_eq])
/-! whole methods -/
noncomputable def zy_objs (h : List zx_C) (ci : Nat) : List Nat → Bool
  | [] => true
  | id :: r => if id < 64 then false else match zy_get h (id - 64) with
    | some (.inl o) => if o.1 = ci then zy_objs h ci r else false
    | _ => false
theorem zy_objs_eq (h : List zx_C) (ci : Nat) : ∀ l : List Nat, zy_objs h ci l = zx_objs h ci l
  | [] => rfl
  | id :: r => by
    rw [zy_objs, zx_objs, zy_get_eq, zy_objs_eq h ci r]
    rfl
noncomputable def zy_rc0 (h : List zx_C) (ci : Nat) (as : List zx_V) : Bool := match as with
  | .inr (.inl (ids, false)) :: _ => zy_objs h ci ids
  | _ => false
noncomputable def zy_recvr (kd ci : Nat) (h : List zx_C) (as : List zx_V) : Bool := match kd with
  | 0 => zy_rc0 h ci as
  | 2 => zx_rc1 as
  | 4 => zx_rc1 as
  | _ => true
theorem zy_recvr_eq (kd ci : Nat) (h : List zx_C) (as : List zx_V) : zy_recvr kd ci h as = zx_recvr kd ci h as := by
  have h0 : zy_rc0 h ci as = zx_rc0 h ci as := by
    unfold zy_rc0 zx_rc0
    simp only [zy_objs_eq]
    rfl
  unfold zy_recvr zx_recvr
  rw [h0]
  rfl
noncomputable def zy_call (M : zx_M) (cf : Nat → Option (Nat × Nat × Nat × Nat)) (rmt : List (Nat × Nat)) (f : zx_Fn) (ix : Nat × Nat) (G : zx_G) (h : List zx_C) (k : Nat × Nat) (sk : List zx_V) : Option (List (zx_G × (List zx_C × (List zx_V × (Nat × Nat))))) := match cf ix.1 with
  | some q => if q.1 = 5 ∧ ix.2 = 2 then (match sk with
      | .inr (.inl (_, false)) :: r => if zx_cats r ≤ 8 then some [(G, h, r, k)] else none
      | _ => none) else (match zy_get rmt q.2.1 with
      | some rm => if zx_kok q.1 ix.2 = true ∧ (sk.take q.2.2.1).length = q.2.2.1 ∧ zx_cats (sk.drop q.2.2.1) ≤ 8 ∧ zx_le2 (k.1 + rm.1, k.2 + rm.2) (zx_mR M) = true ∧ zy_recvr q.1 q.2.2.2 h (sk.take q.2.2.1).reverse = true then (match f q.2.1 G h (sk.take q.2.2.1).reverse with
        | some os => some (zx_back (sk.drop q.2.2.1) (k.1 + rm.1, k.2 + rm.2) os)
        | none => none) else none
      | none => none)
  | none => none
theorem zy_call_eq : @zy_call = @zx_call := by
  delta zy_call zx_call
  simp only [zy_get_eq, zy_recvr_eq] <;> rfl
noncomputable def zy_drop (t : Nat) (l : List (Nat × Instr × Nat)) : List (Nat × Instr × Nat) := List.rec (motive := fun _ => List (Nat × Instr × Nat)) [] (fun x r ih => Bool.rec (motive := fun _ => List (Nat × Instr × Nat)) ih (x :: r) (Nat.beq x.1 t)) l
theorem zy_drop_eq (t : Nat) : ∀ l : List (Nat × Instr × Nat), zy_drop t l = zx_drop t l
  | [] => rfl
  | x :: r => by
    rw [zx_drop, ← zy_drop_eq t r]
    exact zy_beq
noncomputable def zy_sk (tbl nx : List (Nat × Instr × Nat)) (t : Nat) : List (Nat × Instr × Nat) := match nx with
  | [] => zy_drop t tbl
  | x :: _ => Bool.rec (motive := fun _ => List (Nat × Instr × Nat)) (zy_drop t tbl) nx (Nat.beq x.1 t)
theorem zy_sk_eq (tbl nx : List (Nat × Instr × Nat)) (t : Nat) : zy_sk tbl nx t = zx_sk tbl nx t := by
  cases nx with
  | nil => exact zy_drop_eq t tbl
  | cons x r =>
    show Bool.rec (motive := fun _ => List (Nat × Instr × Nat)) (zy_drop t tbl) (x :: r) (Nat.beq x.1 t) = if x.1 = t then x :: r else zx_drop t tbl
    rw [← zy_drop_eq t tbl]
    exact zy_beq
noncomputable def zy_on (tbl nx : List (Nat × Instr × Nat)) (ih : zx_Ih) (q : Nat × zx_T) : Option (List zx_Os) := ih (zy_sk tbl nx q.1) q.2.1 q.2.2.1 q.2.2.2.1 q.2.2.2.2.2 q.2.2.2.2.1
theorem zy_on_eq (tbl nx : List (Nat × Instr × Nat)) (ih : zx_Ih) : zy_on tbl nx ih = zx_on (fun _ => false) tbl nx ih := by
  funext q
  unfold zy_on zx_on
  rw [zy_sk_eq]
  rfl
noncomputable def zy_ex1 (Y : zx_Y) (dt : List (List Nat)) (rmt : List (Nat × Nat)) (md : zx_MD) (f : zx_Fn) (ih : zx_Ih) (x : Nat × Instr × Nat) (nx : List (Nat × Instr × Nat)) (G : zx_G) (h : List zx_C) (lv : List (Nat × zx_V)) (k : Nat × Nat) (sk : List zx_V) : Option (List zx_Os) := match zy_op md.2.1 Y dt x.1 x.2.1 with
  | some g => (match g G h lv k sk with
    | some z => zy_all (zy_on md.1 nx ih) z
    | none => none)
  | none => match zx_inv x.2.1 with
    | some ix => (match zy_call md.2.1 md.2.2.1 rmt f ix G h k sk with
      | some l => zy_all (fun q => zy_on md.1 nx ih (x.1 + 3, q.1, q.2.1, lv, q.2.2.1, q.2.2.2)) l
      | none => none)
    | none => if zx_isret x.2.1 = true then (if zx_le2 k (zx_mR md.2.1) = true then (match zx_retv x.2.1 md.2.2.2 G h sk with
        | some l => some (zx_lefts l)
        | none => none) else none) else none
theorem zy_op_some {M : zx_M} {Y : zx_Y} {dt : List (List Nat)} {pc : Nat} {i : Instr} {g : zy_F} (h : zy_op M Y dt pc i = some g) : zx_inv i = none ∧ zx_isret i = false := by
  cases i <;> first | exact ⟨rfl, rfl⟩ | cases h
theorem zy_ex1_eq {Y : zx_Y} {dt : List (List Nat)} {rmt : List (Nat × Nat)} {md : zx_MD} {f : zx_Fn} {ih : zx_Ih} {x : Nat × Instr × Nat} {nx : List (Nat × Instr × Nat)} {G : zx_G} {h : List zx_C} {lv : List (Nat × zx_V)} {k : Nat × Nat} {sk : List zx_V} : zy_ex1 Y dt rmt md f ih x nx G h lv k sk = zx_ex1 Y dt rmt (fun _ => false) md f ih x nx G h lv k sk := by
  have hop := zy_op_eq md.2.1 Y dt x.1 x.2.1 G h lv k sk
  unfold zy_ex1 zx_ex1
  rw [zy_on_eq, zy_call_eq]
  cases hg : zy_op md.2.1 Y dt x.1 x.2.1 with
  | some g =>
    obtain ⟨h1, h2⟩ := zy_op_some hg
    rw [hg] at hop
    have hop' : g G h lv k sk = zx_step md.2.1 Y dt x.1 x.2.1 G h lv k sk := hop
    simp only [h1, h2, hop', zy_all_eq]
    rfl
  | none =>
    rw [hg] at hop
    have hop' : none = zx_step md.2.1 Y dt x.1 x.2.1 G h lv k sk := hop
    simp only [zy_all_eq, ← hop']
    rfl
noncomputable def zy_ex (Y : zx_Y) (dt : List (List Nat)) (rmt : List (Nat × Nat)) (md : zx_MD) (f : zx_Fn) (n : Nat) : zx_Ih :=
  Nat.rec (motive := fun _ => zx_Ih) (fun _ _ _ _ _ _ => none)
    (fun _ ih cur G h lv k sk => List.rec (motive := fun _ => Option (List zx_Os)) none (fun x nx _ => zy_ex1 Y dt rmt md f ih x nx G h lv k sk) cur) n
theorem zy_ex_eq (Y : zx_Y) (dt : List (List Nat)) (rmt : List (Nat × Nat)) (md : zx_MD) (f : zx_Fn) (n : Nat) : zy_ex Y dt rmt md f n = zx_ex Y dt rmt (fun _ => false) md f n := by
  induction n with
  | zero => rfl
  | succ n ih =>
    funext cur G h lv k sk
    cases cur with
    | nil => rfl
    | cons x nx =>
      show zy_ex1 Y dt rmt md f (zy_ex Y dt rmt md f n) x nx G h lv k sk = zx_ex1 Y dt rmt (fun _ => false) md f (zx_ex Y dt rmt (fun _ => false) md f n) x nx G h lv k sk
      rw [ih, zy_ex1_eq]
noncomputable def zy_run (Y : zx_Y) (dt : List (List Nat)) (rmt : List (Nat × Nat)) (P : List (Option zx_MD)) (xf : zx_Fn) (fuel d : Nat) : zx_Fn :=
  Nat.rec (motive := fun _ => zx_Fn) (fun _ _ _ _ => none) (fun _ ih => zx_run1 Y dt rmt P xf (fun md => zy_ex Y dt rmt md ih fuel)) d
theorem zy_run_eq (Y : zx_Y) (dt : List (List Nat)) (rmt : List (Nat × Nat)) (P : List (Option zx_MD)) (xf : zx_Fn) (fuel d : Nat) : zy_run Y dt rmt P xf fuel d = zx_run Y dt rmt P xf fuel d := by
  induction d with
  | zero => rfl
  | succ d ih =>
    show zx_run1 Y dt rmt P xf (fun md => zy_ex Y dt rmt md (zy_run Y dt rmt P xf fuel d) fuel) = zx_run1 Y dt rmt P xf (fun md => zx_ex Y dt rmt (fun _ => false) md (zx_run Y dt rmt P xf fuel d) fuel)
    rw [ih]
    congr 1
    funext md
    exact zy_ex_eq Y dt rmt md _ fuel
noncomputable def zy_rm (Y : zx_Y) (dt : List (List Nat)) (rmt : List (Nat × Nat)) (P : List (Option zx_MD)) (xf : zx_Fn) (fuel d : Nat) : zx_Fn :=
  Nat.rec (motive := fun _ => zx_Fn) (fun _ _ _ _ => none) (fun _ ih j G h as => match xf j G h as with
    | some os => some os
    | none => zx_run1 Y dt rmt P (fun _ _ _ _ => none) (fun md => zy_ex Y dt rmt md ih fuel) j G h as) d
theorem zy_rm_eq (Y : zx_Y) (dt : List (List Nat)) (rmt : List (Nat × Nat)) (P : List (Option zx_MD)) (xf : zx_Fn) (fuel d : Nat) : zy_rm Y dt rmt P xf fuel d = zx_rm Y dt rmt P xf fuel d := by
  induction d with
  | zero => rfl
  | succ d ih =>
    funext j G h as
    show (match xf j G h as with
      | some os => some os
      | none => zx_run1 Y dt rmt P (fun _ _ _ _ => none) (fun md => zy_ex Y dt rmt md (zy_rm Y dt rmt P xf fuel d) fuel) j G h as) = _
    rw [zx_rm_s, ih]
    have : (fun md => zy_ex Y dt rmt md (zx_rm Y dt rmt P xf fuel d) fuel) = (fun md => zx_ex Y dt rmt (fun _ => false) md (zx_rm Y dt rmt P xf fuel d) fuel) := by
      funext md
      exact zy_ex_eq Y dt rmt md _ fuel
    rw [this]
    rfl
