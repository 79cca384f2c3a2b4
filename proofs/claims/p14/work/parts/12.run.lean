noncomputable section
/-! zx: whole methods -/
/-- an end: bounds, cells, the answer -/
abbrev zx_Ou : Type := zx_G × (List zx_C × Option zx_V)
/-- a method: its code; the tables; its calls (sort, which, how many with the receiver, the receiver's class); the sort of its answer (4: none) -/
abbrev zx_MD : Type := List (Nat × Instr × Nat) × (zx_M × ((Nat → Option (Nat × Nat × Nat × Nat)) × Nat))
abbrev zx_Fn : Type := Nat → zx_G → List zx_C → List zx_V → Option (List zx_Ou)
def zx_inv (i : Instr) : Option (Nat × Nat) := match i with
  | .invokevirtual ix => some (ix, 0)
  | .invokespecial ix => some (ix, 2)
  | .invokestatic ix => some (ix, 1)
  | _ => none
/-- the sort of a call (0 a method, 1 static, 2 a constructor, 3 and 4: 1 and 2 among nest mates, 5 Object's constructor), and its instruction -/
def zx_kok (kd i : Nat) : Bool := match kd with
  | 0 => i == 0
  | 1 => i == 1
  | 3 => i == 1
  | 2 => i == 2
  | 4 => i == 2
  | _ => false
def zx_isret (i : Instr) : Bool := match i with
  | .return_ => true
  | .ireturn => true
  | .areturn => true
  | .lreturn => true
  | _ => false
def zx_le2 (k r : Nat × Nat) : Bool := Nat.ble k.1 r.1 && Nat.ble k.2 r.2
def zx_rtV (rt : Nat) (G : zx_G) (h : List zx_C) (sk : List zx_V) : Option (List zx_Ou) := match sk with
  | [] => if rt = 4 then some [(G, h, none)] else none
  | _ => none
def zx_rtI (rt : Nat) (G : zx_G) (h : List zx_C) (sk : List zx_V) : Option (List zx_Ou) := match sk with
  | [.inl e] => if zx_fit G rt (.inl e) = true then some [(G, h, some (.inl e))] else none
  | _ => none
def zx_rtA (rt : Nat) (G : zx_G) (h : List zx_C) (sk : List zx_V) : Option (List zx_Ou) := match sk with
  | [.inr (.inl q)] => if rt = 3 then some [(G, h, some (.inr (.inl q)))] else none
  | _ => none
def zx_rtL (rt : Nat) (G : zx_G) (h : List zx_C) (sk : List zx_V) : Option (List zx_Ou) := match sk with
  | [.inr (.inr true)] => if rt = 2 then some [(G, h, some zx_lg)] else none
  | _ => none
def zx_retv (i : Instr) (rt : Nat) (G : zx_G) (h : List zx_C) (sk : List zx_V) : Option (List zx_Ou) := match i with
  | .return_ => zx_rtV rt G h sk
  | .ireturn => zx_rtI rt G h sk
  | .areturn => zx_rtA rt G h sk
  | .lreturn => zx_rtL rt G h sk
  | _ => none
def zx_cats : List zx_V → Nat
  | [] => 0
  | v :: r => zx_cat v + zx_cats r
/-- all of them are objects of a class -/
def zx_objs (h : List zx_C) (ci : Nat) : List Nat → Bool
  | [] => true
  | id :: r => if id < 64 then false else match zy_get h (id - 64) with
    | some (.inl o) => if o.1 = ci then zx_objs h ci r else false
    | _ => false
def zx_rc0 (h : List zx_C) (ci : Nat) (as : List zx_V) : Bool := match as with
  | .inr (.inl (ids, false)) :: _ => zx_objs h ci ids
  | _ => false
def zx_rc1 (as : List zx_V) : Bool := match as with
  | .inr (.inl (_, false)) :: _ => true
  | _ => false
def zx_recvr (kd ci : Nat) (h : List zx_C) (as : List zx_V) : Bool := match kd with
  | 0 => zx_rc0 h ci as
  | 2 => zx_rc1 as
  | 4 => zx_rc1 as
  | _ => true
/-- the receiver is a constant object -/
def zx_rcX (Y : zx_Y) (ci : Nat) (as : List zx_V) : Bool := match as with
  | .inr (.inl (ids, false)) :: _ => Nat.beq ci 999 && ids.all (fun id => Nat.ble 8 id && (match zx_fd Y.1 id with
    | some _ => true
    | none => false))
  | _ => false
/-- behind a call: the ends of the callee, each with the stack and the count -/
def zx_back (rest : List zx_V) (k : Nat × Nat) : List zx_Ou → List (zx_G × (List zx_C × (List zx_V × (Nat × Nat))))
  | [] => []
  | o :: r => (o.1, o.2.1, o.2.2.toList ++ rest, k) :: zx_back rest k r
def zx_call (Y : zx_Y) (M : zx_M) (cf : Nat → Option (Nat × Nat × Nat × Nat)) (rmt : List (Nat × Nat)) (f : zx_Fn) (ix : Nat × Nat) (G : zx_G) (h : List zx_C) (k : Nat × Nat) (sk : List zx_V) : Option (List (zx_G × (List zx_C × (List zx_V × (Nat × Nat))))) := match cf ix.1 with
  | some q => if q.1 = 5 ∧ ix.2 = 2 then (match sk with
      | .inr (.inl (_, false)) :: r => if zx_cats r ≤ 8 then some [(G, h, r, k)] else none
      | _ => none) else (match zy_get rmt q.2.1 with
      | some rm => if zx_kok q.1 ix.2 = true ∧ (sk.take q.2.2.1).length = q.2.2.1 ∧ zx_cats (sk.drop q.2.2.1) ≤ 8 ∧ zx_le2 (k.1 + rm.1, k.2 + rm.2) (zx_mR M) = true ∧ (zx_recvr q.1 q.2.2.2 h (sk.take q.2.2.1).reverse || (Nat.beq q.1 0 && zx_rcX Y q.2.2.2 (sk.take q.2.2.1).reverse)) = true then (match f q.2.1 G h (sk.take q.2.2.1).reverse with
        | some os => some (zx_back (sk.drop q.2.2.1) (k.1 + rm.1, k.2 + rm.2) os)
        | none => none) else none
      | none => none)
  | none => none
/-- calls of the machine's own: 6 max, 7 min, 8 abs, 9 arraycopy -/
def zv_n2 (G : zx_G) (h : List zx_C) (k : Nat × Nat) (sk : List zx_V) : Option (List (zx_G × (List zx_C × (List zx_V × (Nat × Nat))))) := match sk with
  | .inl _ :: .inl _ :: r => if zx_cats r ≤ 8 then some [((zx_full G).1, h, (zx_full G).2 :: r, k)] else none
  | _ => none
def zv_n1 (G : zx_G) (h : List zx_C) (k : Nat × Nat) (sk : List zx_V) : Option (List (zx_G × (List zx_C × (List zx_V × (Nat × Nat))))) := match sk with
  | .inl _ :: r => if zx_cats r ≤ 8 then some [((zx_full G).1, h, (zx_full G).2 :: r, k)] else none
  | _ => none
def zv_n9 (G : zx_G) (h : List zx_C) (k : Nat × Nat) (sk : List zx_V) : Option (List (zx_G × (List zx_C × (List zx_V × (Nat × Nat))))) := match sk with
  | .inl n :: .inl dp :: .inr (.inl ([dst], false)) :: .inl sp :: .inr (.inl ([src], false)) :: r => if zx_cats r ≤ 8 ∧ ¬ dst < 64 ∧ ¬ src < 64 then (match zy_get h (dst - 64), zy_get h (src - 64), zx_rng G n with
    | some (.inr (.inl d)), some (.inr (.inl c)), some t => if d.1 = 0 ∧ c.1 = 0 ∧ d.2.2.1 = true ∧ c.2.2.1 = true ∧ zx_isc sp = true ∧ sp.2 = 0 ∧ zx_isc dp = true ∧ dp.2 = 0 ∧ 0 ≤ t.1 ∧ t.2 ≤ (d.2.1 : Int) ∧ t.2 ≤ (c.2.1 : Int) then (match d.2.2.2, c.2.2.2 with
      | [.inr u], [.inr w] => if u.1 ≤ w.1 ∧ w.2 ≤ u.2 then some [(G, h, r, k)] else none
      | _, _ => none) else none
    | _, _, _ => none) else none
  | _ => none
def zv_nk (KK : List Nat) (kd : Nat) (G : zx_G) (h : List zx_C) (k : Nat × Nat) (sk : List zx_V) : Option (List (zx_G × (List zx_C × (List zx_V × (Nat × Nat))))) := match kd with
  | 6 => zv_n2 G h k sk
  | 7 => zv_n2 G h k sk
  | 8 => zv_n1 G h k sk
  | 9 => (match KK with
    | [] => zv_n9 G h k sk
    | _ :: _ => none)
  | _ => none
def zv_nat (KK : List Nat) (M : zx_M) (kd : Nat) (G : zx_G) (h : List zx_C) (k : Nat × Nat) (sk : List zx_V) : Option (List (zx_G × (List zx_C × (List zx_V × (Nat × Nat))))) := if zx_le2 k (zx_mR M) = true then zv_nk KK kd G h k sk else none
def zv_call (Y : zx_Y) (M : zx_M) (cf : Nat → Option (Nat × Nat × Nat × Nat)) (rmt : List (Nat × Nat)) (f : zx_Fn) (ix : Nat × Nat) (G : zx_G) (h : List zx_C) (k : Nat × Nat) (sk : List zx_V) : Option (List (zx_G × (List zx_C × (List zx_V × (Nat × Nat))))) := match cf ix.1 with
  | some q => if Nat.ble 6 q.1 = true then (if ix.2 = 1 then zv_nat Y.2.1 M q.1 G h k sk else none) else zx_call Y M cf rmt f ix G h k sk
  | none => none
def zx_drop (t : Nat) : List (Nat × Instr × Nat) → List (Nat × Instr × Nat)
  | [] => []
  | x :: r => if x.1 = t then x :: r else zx_drop t r
def zx_sk (tbl nx : List (Nat × Instr × Nat)) (t : Nat) : List (Nat × Instr × Nat) := match nx with
  | [] => zx_drop t tbl
  | x :: _ => if x.1 = t then nx else zx_drop t tbl
theorem zx_drop_ok {t : Nat} : ∀ {l : List (Nat × Instr × Nat)}, (∀ x ∈ zx_drop t l, x ∈ l) ∧ ∀ x r, zx_drop t l = x :: r → x.1 = t
  | [] => ⟨fun _ h => h, fun _ _ h => nomatch h⟩
  | y :: l => by
    rw [zx_drop]
    by_cases hy : y.1 = t
    · rw [if_pos hy]
      exact ⟨fun _ h => h, fun x r h => by cases h; exact hy⟩
    · rw [if_neg hy]
      exact ⟨fun x h => List.mem_cons_of_mem _ (zx_drop_ok.1 x h), zx_drop_ok.2⟩
theorem zx_sk_ok {tbl nx : List (Nat × Instr × Nat)} {t : Nat} (h : ∀ x ∈ nx, x ∈ tbl) : (∀ x ∈ zx_sk tbl nx t, x ∈ tbl) ∧ ∀ x r, zx_sk tbl nx t = x :: r → x.1 = t := by
  unfold zx_sk
  split
  · exact zx_drop_ok
  · rename_i y r
    split
    · rename_i hy
      exact ⟨h, fun x r h => by cases h; exact hy⟩
    · exact zx_drop_ok
/-- an end, or a place where the run is cut -/
abbrev zx_Os : Type := zx_Ou ⊕ (Nat × zx_T)
def zx_lefts : List zx_Ou → List zx_Os
  | [] => []
  | o :: r => .inl o :: zx_lefts r
def zx_inls : List zx_Os → Option (List zx_Ou)
  | [] => some []
  | .inl o :: r => match zx_inls r with
    | some q => some (o :: q)
    | none => none
  | .inr _ :: _ => none
theorem zx_lefts_mem {o : zx_Ou} : ∀ {l : List zx_Ou}, o ∈ l → .inl o ∈ zx_lefts l
  | [], h => nomatch h
  | a :: r, h => by
    rw [zx_lefts]
    rcases List.mem_cons.mp h with e | e
    · subst e; exact List.mem_cons_self
    · exact List.mem_cons_of_mem _ (zx_lefts_mem e)
theorem zx_inls_mem : ∀ {l : List zx_Os} {q : List zx_Ou}, zx_inls l = some q → ∀ x ∈ l, ∃ o ∈ q, x = .inl o
  | [], _, _, _, hx => nomatch hx
  | .inr _ :: _, _, h, _, _ => nomatch h
  | .inl a :: r, q, h, x, hx => by
    rw [zx_inls] at h
    split at h
    · rename_i q' hq
      cases h
      rcases List.mem_cons.mp hx with e | e
      · exact ⟨a, List.mem_cons_self, e⟩
      · obtain ⟨o, h1, h2⟩ := zx_inls_mem hq x e
        exact ⟨o, List.mem_cons_of_mem _ h1, h2⟩
    · cases h
abbrev zx_Ih : Type := List (Nat × Instr × Nat) → zx_G → List zx_C → List (Nat × zx_V) → Nat × Nat → List zx_V → Option (List zx_Os)
def zx_on (stp : Nat → Bool) (tbl nx : List (Nat × Instr × Nat)) (ih : zx_Ih) (q : Nat × zx_T) : Option (List zx_Os) :=
  if stp q.1 = true then some [.inr q] else ih (zx_sk tbl nx q.1) q.2.1 q.2.2.1 q.2.2.2.1 q.2.2.2.2.2 q.2.2.2.2.1
def zx_ex0 (Y : zx_Y) (dt : List (List Nat)) (rmt : List (Nat × Nat)) (stp : Nat → Bool) (md : zx_MD) (f : zx_Fn) (ih : zx_Ih) (x : Nat × Instr × Nat) (nx : List (Nat × Instr × Nat)) (G : zx_G) (h : List zx_C) (lv : List (Nat × zx_V)) (k : Nat × Nat) (sk : List zx_V) : Option (List zx_Os) := match zx_inv x.2.1 with
  | some ix => (match zv_call Y md.2.1 md.2.2.1 rmt f ix G h k sk with
    | some l => zx_all (fun q => zx_on stp md.1 nx ih (x.1 + 3, q.1, q.2.1, lv, q.2.2.1, q.2.2.2)) (zv_pcl G.length l)
    | none => none)
  | none => if zx_isret x.2.1 = true then (if zx_le2 k (zx_mR md.2.1) = true then (match zx_retv x.2.1 md.2.2.2 G h sk with
      | some l => some (zx_lefts l)
      | none => none) else none) else (if zx_wK Y.2.1 x.2.1 sk = true then (match zx_step md.2.1 Y dt x.1 x.2.1 G h lv k sk with
    | some z => zx_all (zx_on stp md.1 nx ih) (zv_post x.2.1 sk z)
    | none => none) else none)
def zx_ex1 (Y : zx_Y) (dt : List (List Nat)) (rmt : List (Nat × Nat)) (stp : Nat → Bool) (md : zx_MD) (f : zx_Fn) (ih : zx_Ih) (x : Nat × Instr × Nat) (nx : List (Nat × Instr × Nat)) (G : zx_G) (h : List zx_C) (lv : List (Nat × zx_V)) (k : Nat × Nat) (sk : List zx_V) : Option (List zx_Os) :=
  zx_all (fun q => zx_ex0 Y dt rmt stp md f ih x nx q.1 q.2.1 q.2.2.1 k q.2.2.2) (zv_pre md.2.1 x.1 G h lv sk x.2.1)
def zx_ex (Y : zx_Y) (dt : List (List Nat)) (rmt : List (Nat × Nat)) (stp : Nat → Bool) (md : zx_MD) (f : zx_Fn) (n : Nat) : zx_Ih :=
  Nat.rec (motive := fun _ => zx_Ih) (fun _ _ _ _ _ _ => none)
    (fun _ ih cur G h lv k sk => match cur with
      | [] => none
      | x :: nx => zx_ex1 Y dt rmt stp md f ih x nx G h lv k sk) n
theorem zx_ex_s {Y : zx_Y} {dt : List (List Nat)} {rmt : List (Nat × Nat)} {stp : Nat → Bool} {md : zx_MD} {f : zx_Fn} {n : Nat} {x : Nat × Instr × Nat} {nx : List (Nat × Instr × Nat)} {G : zx_G} {h : List zx_C} {lv : List (Nat × zx_V)} {k : Nat × Nat} {sk : List zx_V} : zx_ex Y dt rmt stp md f (n + 1) (x :: nx) G h lv k sk = zx_ex1 Y dt rmt stp md f (zx_ex Y dt rmt stp md f n) x nx G h lv k sk := rfl
def zx_args : Nat → List zx_V → List (Nat × zx_V)
  | _, [] => []
  | i, v :: r => (i, v) :: zx_args (if zx_cat v = 2 then i + 2 else i + 1) r
theorem zx_args_ok {b : Nat} {ex : List Nat} {ρ : List Int} {ad : List Nat} : ∀ {as : List zx_V} {av : List Value} (i : Nat), zx_F2 (zx_R b ex ρ ad) as av → zx_F2 (fun x y => x.1 = y.1 ∧ zx_R b ex ρ ad x.2 y.2) (zx_args i as) (lv_args i av)
  | [], [], _, _ => trivial
  | v :: r, x :: m, i, h => by
    show zx_F2 _ ((i, v) :: zx_args (if zx_cat v = 2 then i + 2 else i + 1) r) ((i, x) :: lv_args (if x.category = 2 then i + 2 else i + 1) m)
    rw [zx_R_cat h.1]
    exact ⟨⟨rfl, h.1⟩, zx_args_ok _ h.2⟩
  | [], _ :: _, _, h => h.elim
  | _ :: _, [], _, h => h.elim
/-- a method to its end, calls no deeper than d -/
def zx_run1 (Y : zx_Y) (dt : List (List Nat)) (rmt : List (Nat × Nat)) (P : List (Option zx_MD)) (xf : zx_Fn) (ex : zx_MD → zx_Ih) (j : Nat) (G : zx_G) (h : List zx_C) (as : List zx_V) : Option (List zx_Ou) := match zy_get P j with
  | some (some md) => if zx_cats as ≤ zx_mV md.2.1 then (match ex md md.1 G h (zx_args 0 as) (0, 0) [] with
      | some l => zx_inls l
      | none => none) else none
  | some none => xf j G h as
  | none => none
def zx_run (Y : zx_Y) (dt : List (List Nat)) (rmt : List (Nat × Nat)) (P : List (Option zx_MD)) (xf : zx_Fn) (fuel d : Nat) : zx_Fn :=
  Nat.rec (motive := fun _ => zx_Fn) (fun _ _ _ _ => none) (fun _ ih => zx_run1 Y dt rmt P xf (fun md => zx_ex Y dt rmt (fun _ => false) md ih fuel)) d
theorem zx_run_s {Y : zx_Y} {dt : List (List Nat)} {rmt : List (Nat × Nat)} {P : List (Option zx_MD)} {xf : zx_Fn} {fuel d j : Nat} {G : zx_G} {h : List zx_C} {as : List zx_V} : zx_run Y dt rmt P xf fuel (d + 1) j G h as = zx_run1 Y dt rmt P xf (fun md => zx_ex Y dt rmt (fun _ => false) md (zx_run Y dt rmt P xf fuel d) fuel) j G h as := rfl
end
