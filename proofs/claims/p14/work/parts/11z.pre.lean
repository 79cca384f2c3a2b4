noncomputable section
/-! zv: what is done ahead of an instruction: sums get names, slots are opened -/
abbrev zv_Pr : Type := zx_G × (List zx_C × (List (Nat × zx_V) × List zx_V))
def zv_nm1 (G : zx_G) (e : zx_L) : zx_G × zx_L := if e.1.length < 2 then (G, e) else match zw_r3 G e with
  | some t => (G ++ [(t, some e)], ([(G.length, 1)], 0))
  | none => (G, e)
where zw_r3 (G : zx_G) (e : zx_L) : Option (Int × Int) := zv_rng G e
def zv_nm (G : zx_G) (e : zx_L) : zx_G × zx_L := if e.1.length < 2 then (G, e) else zv_nm1 G (zv_nrm G e)
def zv_i32 (t : Int × Int) : Bool := decide (-2147483648 ≤ t.1) && decide (t.2 ≤ 2147483647)
def zv_vl2 (G : zx_G) (e : zx_L) : zx_G × zx_L := match zv_rng G e with
  | some t => if zv_i32 t = true then (if e.1.length < 4 then (G ++ [(t, some e)], ([(G.length, 1)], 0)) else (G ++ [(t, none)], ([(G.length, 1)], 0))) else (G, e)
  | none => (G, e)
def zv_vl1 (G : zx_G) (e : zx_L) : zx_G × zx_L := if e.1.length < 2 then (G, e) else if e.1.length < 4 then (match zx_rng G e with
  | some t => if zv_i32 t = true then (G, e) else zv_vl2 G e
  | none => (G, e)) else zv_vl2 G e
def zv_vl (G : zx_G) (e : zx_L) : zx_G × zx_L := if e.1.length < 2 then (G, e) else zv_vl1 G (zv_nrm G e)
section ZVN
variable {ρ : List Int} {G : zx_G} {e : zx_L} {v : Int}
theorem zv_same (hG : zx_ok ρ G) (he : zx_ev ρ e = some v) : ∃ r2, zx_ok (ρ ++ r2) (G, e).1 ∧ zx_ev (ρ ++ r2) (G, e).2 = some v := ⟨[], by rw [List.append_nil]; exact hG, by rw [List.append_nil]; exact he⟩
theorem zv_push (hG : zx_ok ρ G) {t : Int × Int} {o : Option zx_L} (h1 : t.1 ≤ v) (h2 : v ≤ t.2) (h3 : ∀ e, o = some e → zx_ev ρ e = some v) : ∃ r2, zx_ok (ρ ++ r2) (G ++ [(t, o)]) ∧ zx_ev (ρ ++ r2) ([(G.length, 1)], 0) = some v :=
  ⟨[v], zx_ok_pushq hG (b := (t, o)) h1 h2 h3, zx_ev_new hG v⟩
theorem zv_nm_ok (hG : zx_ok ρ G) (he : zx_ev ρ e = some v) : ∃ r2, zx_ok (ρ ++ r2) (zv_nm G e).1 ∧ zx_ev (ρ ++ r2) (zv_nm G e).2 = some v := by
  unfold zv_nm
  split
  · exact zv_same hG he
  · have hn := zv_nrm_ok hG he
    unfold zv_nm1
    split
    · exact zv_same hG hn
    · split
      · rename_i t ht
        obtain ⟨k1, k2⟩ := zv_rng_ok hG (show zv_rng G (zv_nrm G e) = some t from ht) hn
        exact zv_push hG k1 k2 (fun e' he' => by cases he'; exact hn)
      · exact zv_same hG hn
theorem zv_vl2_ok (hG : zx_ok ρ G) (he : zx_ev ρ e = some v) : ∃ r2, zx_ok (ρ ++ r2) (zv_vl2 G e).1 ∧ zx_ev (ρ ++ r2) (zv_vl2 G e).2 = some v := by
  unfold zv_vl2
  split
  · rename_i t ht
    obtain ⟨k1, k2⟩ := zv_rng_ok hG ht he
    split
    · split
      · exact zv_push hG k1 k2 (fun e' he' => by cases he'; exact he)
      · exact zv_push hG k1 k2 (fun e' he' => by cases he')
    · exact zv_same hG he
  · exact zv_same hG he
theorem zv_vl_ok (hG : zx_ok ρ G) (he : zx_ev ρ e = some v) : ∃ r2, zx_ok (ρ ++ r2) (zv_vl G e).1 ∧ zx_ev (ρ ++ r2) (zv_vl G e).2 = some v := by
  unfold zv_vl
  split
  · exact zv_same hG he
  · have hn := zv_nrm_ok hG he
    unfold zv_vl1
    split
    · exact zv_same hG hn
    · split
      · split
        · split
          · exact zv_same hG hn
          · exact zv_vl2_ok hG hn
        · exact zv_same hG hn
      · exact zv_vl2_ok hG hn
end ZVN
section ZVP
variable (M : zx_M) (pc : Nat) (G : zx_G) (h : List zx_C) (lv : List (Nat × zx_V)) (sk : List zx_V)
def zv_as : List zv_Pr := [(G, h, lv, sk)]
def zv_ptop : List zv_Pr := match sk with
  | .inl e :: r => (fun (q : zx_G × zx_L) => [(q.1, h, lv, .inl q.2 :: r)]) (zv_nm G e)
  | _ => zv_as G h lv sk
def zv_pnd : List zv_Pr := match sk with
  | v :: .inl e :: r => (fun (q : zx_G × zx_L) => [(q.1, h, lv, v :: .inl q.2 :: r)]) (zv_nm G e)
  | _ => zv_as G h lv sk
def zv_ptwo : List zv_Pr := match sk with
  | .inl y :: .inl x :: r => (fun (q : zx_G × zx_L) => (fun (t : zx_G × zx_L) => [(t.1, h, lv, .inl q.2 :: .inl t.2 :: r)]) (zv_nm q.1 x)) (zv_nm G y)
  | _ => zv_as G h lv sk
/-- the difference of two gets a name -/
def zv_pcmp : List zv_Pr := match sk with
  | .inl y :: .inl x :: r => (fun (q : zx_G × zx_L) => [(q.1, h, lv, .inl y :: .inl (zx_add q.2 y) :: r)]) (zv_nm G (zx_sub x y))
  | _ => zv_as G h lv sk
def zv_padd : List zv_Pr := match sk with
  | .inl y :: .inl x :: r => (fun (q : zx_G × zx_L) => [(q.1, h, lv, .inl y :: .inl (zx_sub q.2 y) :: r)]) (zv_vl G (zx_add x y))
  | _ => zv_as G h lv sk
def zv_psub : List zv_Pr := match sk with
  | .inl y :: .inl x :: r => (fun (q : zx_G × zx_L) => [(q.1, h, lv, .inl y :: .inl (zx_add q.2 y) :: r)]) (zv_vl G (zx_sub x y))
  | _ => zv_as G h lv sk
/-- a slot's number gets a name -/
def zv_opn (id f : Nat) (o : Nat × List zx_S) (t : Int × Int) : zv_Pr := (G ++ [(t, none)], zy_set h (id - 64) (.inl (o.1, zy_set o.2 f (.inl (.inl ([(G.length, 1)], 0))))), lv, sk)
def zv_spl (id f : Nat) (o : Nat × List zx_S) : List Nat → List zv_Pr
  | [] => []
  | i :: r => (G, zy_set h (id - 64) (.inl (o.1, zy_set o.2 f (.inl (.inr (.inl ([i], false)))))), lv, sk) :: zv_spl id f o r
def zv_pg1 (id : Nat) (o : Nat × List zx_S) (f : Nat) : List zv_Pr := match zy_get o.2 f with
  | some (.inr t) => [zv_opn G h lv sk id f o t]
  | some (.inl (.inr (.inl (i :: j :: r, false)))) => (match zx_mN M (100000 + pc) with
    | some _ => zv_spl G h lv sk id f o (i :: j :: r)
    | none => zv_as G h lv sk)
  | _ => zv_as G h lv sk
def zv_pget (ix : Nat) : List zv_Pr := match sk with
  | .inr (.inl ([id], false)) :: _ => if Nat.blt id 64 = true then zv_as G h lv sk else (match zy_get h (id - 64), zx_mF M ix with
    | some (.inl o), some q => if Nat.beq o.1 q.1 = true then zv_pg1 M pc G h lv sk id o q.2.1 else zv_as G h lv sk
    | _, _ => zv_as G h lv sk)
  | _ => zv_as G h lv sk
/-- a place of a row whose places are known one by one -/
def zv_pe1 (id : Nat) (ar : Nat × Nat × Bool × List zx_S) (e : zx_L) (G1 : zx_G) : zv_Pr := match zx_rng G1 e with
  | some t => if t.1 = t.2 then (match zy_get ar.2.2.2 t.1.toNat with
    | some (.inr u) => (G1 ++ [(u, none)], zy_set h (id - 64) (.inr (.inl (ar.1, ar.2.1, false, zy_set ar.2.2.2 t.1.toNat (.inl (.inl ([(G1.length, 1)], 0)))))), lv, sk)
    | _ => (G1, h, lv, sk)) else (G1, h, lv, sk)
  | none => (G1, h, lv, sk)
def zv_pes (id : Nat) (ar : Nat × Nat × Bool × List zx_S) (e : zx_L) : List zx_G → List zv_Pr
  | [] => []
  | g :: r => zv_pe1 h lv sk id ar e g :: zv_pes id ar e r
def zv_pel : List zv_Pr := match sk with
  | .inl e :: .inr (.inl ([id], false)) :: _ => if Nat.blt id 64 = true then zv_as G h lv sk else (match zy_get h (id - 64) with
    | some (.inr (.inl ar)) => if (Nat.blt ar.1 3 && !ar.2.2.1) = true then (match zx_split G e with
      | some l => zv_pes h lv sk id ar e l
      | none => zv_as G h lv sk) else zv_as G h lv sk
    | _ => zv_as G h lv sk)
  | _ => zv_as G h lv sk
/-- what stands at a place of a row gets a name, and is known from then on -/
def zv_pr1 (id : Nat) (ar : Nat × Nat × Bool × List zx_S) (e : zx_L) : List zv_Pr := match ar.2.2.2, zx_rng G e with
  | .inr t :: fs, some u => if 0 ≤ u.1 ∧ u.2 < (ar.2.1 : Int) then (match zx_fl e (zx_fs fs) with
    | some _ => zv_as G h lv sk
    | none => [(G ++ [(t, none)], zy_set h (id - 64) (.inr (.inl (ar.1, ar.2.1, true, .inr t :: .inl (.inl e) :: .inl (.inl ([(G.length, 1)], 0)) :: fs))), lv, sk)]) else zv_as G h lv sk
  | _, _ => zv_as G h lv sk
def zv_prc : List zv_Pr := match sk with
  | .inl e :: .inr (.inl ([id], false)) :: _ => if Nat.blt id 64 = true then zv_as G h lv sk else (match zy_get h (id - 64) with
    | some (.inr (.inl ar)) => if (Nat.blt ar.1 3 && ar.2.2.1) = true then zv_pr1 G h lv sk id ar e else zv_as G h lv sk
    | _ => zv_as G h lv sk)
  | _ => zv_as G h lv sk
def zv_prM : List zv_Pr := match zx_mN M (300000 + pc) with
  | some _ => zv_prc G h lv sk
  | none => zv_as G h lv sk
/-- what was known of places is forgotten -/
def zv_pd1 (id : Nat) (ar : Nat × Nat × Bool × List zx_S) : List zv_Pr := match ar.2.2.2 with
  | t :: _ :: _ => [(G, zy_set h (id - 64) (.inr (.inl (ar.1, ar.2.1, true, [t]))), lv, sk)]
  | _ => zv_as G h lv sk
def zv_pdr : List zv_Pr := match sk with
  | _ :: _ :: .inr (.inl ([id], false)) :: _ => if Nat.blt id 64 = true then zv_as G h lv sk else (match zy_get h (id - 64) with
    | some (.inr (.inl ar)) => if ar.2.2.1 = true then zv_pd1 G h lv sk id ar else zv_as G h lv sk
    | _ => zv_as G h lv sk)
  | _ => zv_as G h lv sk
def zv_app (f : zx_G → List zx_C → List (Nat × zx_V) → List zx_V → List zv_Pr) : List zv_Pr → List zv_Pr
  | [] => []
  | q :: r => f q.1 q.2.1 q.2.2.1 q.2.2.2 ++ zv_app f r
def zv_pinc (i : Nat) (n : Int) : List zv_Pr := match zx_lk lv i with
  | some (.inl e) => (fun (q : zx_G × zx_L) => [(q.1, h, zv_slv i (.inl (zx_sub q.2 ([], n))) lv, sk)]) (zv_vl G (zx_add e ([], n)))
  | _ => zv_as G h lv sk
where zv_slv (i : Nat) (v : zx_V) : List (Nat × zx_V) → List (Nat × zx_V)
  | [] => []
  | q :: r => if Nat.beq q.1 i = true then (i, v) :: r else q :: zv_slv i v r
/-- a local that holds one of many objects is taken apart -/
def zv_pa1 (i : Nat) (ids : List Nat) : List zv_Pr := ids.map (fun id => (G, h, zv_pinc.zv_slv i (.inr (.inl ([id], false))) lv, sk))
def zv_pal (i : Nat) : List zv_Pr := match zx_mN M (200000 + pc) with
  | some _ => (match zx_lk lv i with
    | some (.inr (.inl (ids, false))) => zv_pa1 G h lv sk i ids
    | _ => zv_as G h lv sk)
  | none => zv_as G h lv sk
/-- of a byte the sign is asked ahead of its last eight bits -/
def zv_pand : List zv_Pr := match sk with
  | .inl y :: .inl ([(x, 1)], 0) :: _ => if zx_isc y = true ∧ y.2 = 255 then (match zy_get G x with
    | some g => if -128 ≤ g.1.1 ∧ g.1.1 < 0 ∧ 0 ≤ g.1.2 ∧ g.1.2 ≤ 127 then [(G.set x ((g.1.1, -1), g.2), h, lv, sk), (G.set x ((0, g.1.2), g.2), h, lv, sk)] else zv_as G h lv sk
    | none => zv_as G h lv sk) else zv_as G h lv sk
  | _ => zv_as G h lv sk
def zv_pre (i : Instr) : List zv_Pr := match i with
  | .aload_n n => zv_pal M pc G h lv sk n
  | .ifCond _ _ => zv_ptop G h lv sk
  | .if_icmp _ _ => zv_pcmp G h lv sk
  | .tableswitch _ _ _ _ => zv_ptop G h lv sk
  | .iadd => zv_padd G h lv sk
  | .isub => zv_psub G h lv sk
  | .imul => zv_ptwo G h lv sk
  | .idiv => zv_ptwo G h lv sk
  | .irem => zv_ptwo G h lv sk
  | .iinc n c => zv_pinc G h lv sk n c
  | .iaload => zv_app (zv_prM M pc) (zv_app zv_pel (zv_ptop G h lv sk))
  | .baload => zv_app (zv_prM M pc) (zv_app zv_pel (zv_ptop G h lv sk))
  | .aaload => zv_ptop G h lv sk
  | .iastore => if (zx_mN M (400000 + pc)).isSome = true then zv_ptwo G h lv sk else zv_app zv_pdr (zv_ptwo G h lv sk)
  | .bastore => zv_app zv_pdr (zv_ptwo G h lv sk)
  | .aastore => zv_pnd G h lv sk
  | .getfield ix => zv_pget M pc G h lv sk ix
  | .iand => zv_pand G h lv sk
  | _ => zv_as G h lv sk
end ZVP
section ZVQ
variable {s : State} {D : va_G} {cl : List vw_C} {A : Nat → Prop} {b : Nat} {ex : List Nat} {ad0 : zx_A0} {nL : Nat} {ρ : List Int} {G : zx_G} {h : List zx_C} {lv : List (Nat × zx_V)} {sk : List zx_V} {H : Heap} {locs : List Loc} {ls : Array Slot} {kc : List Value} {tys : List (ClassId × FieldType)} {ws : va_W} {lc : List (Nat × Value)}
/-- one of the states holds -/
def zv_P (s : State) (D : va_G) (cl : List vw_C) (A : Nat → Prop) (b : Nat) (ex : List Nat) (ad0 : zx_A0) (nL : Nat) (ρ : List Int) (H : Heap) (locs : List Loc) (ls : Array Slot) (kc : List Value) (tys : List (ClassId × FieldType)) (ws : va_W) (lc : List (Nat × Value)) (l : List zv_Pr) : Prop :=
  ∃ q ∈ l, ∃ r2, zx_ok (ρ ++ r2) q.1 ∧ zx_B D cl A b ex ad0 nL s (ρ ++ r2) q.2.1 q.2.2.1 q.2.2.2 H locs ls kc tys ws lc
theorem zv_as_ok (hG : zx_ok ρ G) (B : zx_B D cl A b ex ad0 nL s ρ h lv sk H locs ls kc tys ws lc) : zv_P s D cl A b ex ad0 nL ρ H locs ls kc tys ws lc (zv_as G h lv sk) :=
  ⟨_, List.mem_singleton.mpr rfl, [], by rw [List.append_nil]; exact hG, by rw [List.append_nil]; exact B⟩
theorem zv_one {q : zv_Pr} {r2 : List Int} (hG : zx_ok (ρ ++ r2) q.1) (B : zx_B D cl A b ex ad0 nL s (ρ ++ r2) q.2.1 q.2.2.1 q.2.2.2 H locs ls kc tys ws lc) : zv_P s D cl A b ex ad0 nL ρ H locs ls kc tys ws lc [q] :=
  ⟨_, List.mem_singleton.mpr rfl, r2, hG, B⟩
theorem zv_ptop_ok (hG : zx_ok ρ G) (B : zx_B D cl A b ex ad0 nL s ρ h lv sk H locs ls kc tys ws lc) : zv_P s D cl A b ex ad0 nL ρ H locs ls kc tys ws lc (zv_ptop G h lv sk) := by
  unfold zv_ptop
  split
  · rename_i e r
    obtain ⟨w, kr, rfl, he, B1⟩ := zx_topi B
    obtain ⟨r2, h1, h2⟩ := zv_nm_ok hG he
    have B2 := zx_B_up (r := r2) B1
    exact zv_one h1 (zx_B_sk B2 ⟨⟨w, rfl, h2⟩, B2.2.2.2.2.2.2.2⟩)
  · exact zv_as_ok hG B
theorem zv_pnd_ok (hG : zx_ok ρ G) (B : zx_B D cl A b ex ad0 nL s ρ h lv sk H locs ls kc tys ws lc) : zv_P s D cl A b ex ad0 nL ρ H locs ls kc tys ws lc (zv_pnd G h lv sk) := by
  unfold zv_pnd
  split
  · rename_i v e r
    obtain ⟨x, kr0, rfl, hx, B0⟩ := zx_top1 B
    obtain ⟨w, kr, rfl, he, B1⟩ := zx_topi B0
    obtain ⟨r2, h1, h2⟩ := zv_nm_ok hG he
    have B2 := zx_B_up (r := r2) B1
    exact zv_one h1 (zx_B_sk B2 ⟨zx_R_up hx, ⟨w, rfl, h2⟩, B2.2.2.2.2.2.2.2⟩)
  · exact zv_as_ok hG B
theorem zv_ptwo_ok (hG : zx_ok ρ G) (B : zx_B D cl A b ex ad0 nL s ρ h lv sk H locs ls kc tys ws lc) : zv_P s D cl A b ex ad0 nL ρ H locs ls kc tys ws lc (zv_ptwo G h lv sk) := by
  unfold zv_ptwo
  split
  · rename_i y x r
    obtain ⟨wy, kr0, rfl, hy, B0⟩ := zx_topi B
    obtain ⟨wx, kr, rfl, hx, B1⟩ := zx_topi B0
    obtain ⟨r2, h1, h2⟩ := zv_nm_ok hG hy
    obtain ⟨r3, h3, h4⟩ := zv_nm_ok h1 (zx_ev_app (r := r2) hx)
    rw [List.append_assoc] at h3 h4
    have B2 := zx_B_up (r := r2 ++ r3) B1
    refine zv_one h3 (zx_B_sk B2 ⟨⟨wy, rfl, ?_⟩, ⟨wx, rfl, h4⟩, B2.2.2.2.2.2.2.2⟩)
    rw [← List.append_assoc]; exact zx_ev_app h2
  · exact zv_as_ok hG B
theorem zv_pcmp_ok (hG : zx_ok ρ G) (B : zx_B D cl A b ex ad0 nL s ρ h lv sk H locs ls kc tys ws lc) : zv_P s D cl A b ex ad0 nL ρ H locs ls kc tys ws lc (zv_pcmp G h lv sk) := by
  unfold zv_pcmp
  split
  · rename_i y x r
    obtain ⟨wy, kr0, rfl, hy, B0⟩ := zx_topi B
    obtain ⟨wx, kr, rfl, hx, B1⟩ := zx_topi B0
    obtain ⟨r2, h1, h2⟩ := zv_nm_ok hG (zx_sub_ev hx hy)
    have B2 := zx_B_up (r := r2) B1
    refine zv_one h1 (zx_B_sk B2 ⟨⟨wy, rfl, zx_ev_app hy⟩, ⟨wx, rfl, ?_⟩, B2.2.2.2.2.2.2.2⟩)
    rw [zx_add_ev h2 (zx_ev_app hy)]; congr 1; omega
  · exact zv_as_ok hG B
theorem zv_padd_ok (hG : zx_ok ρ G) (B : zx_B D cl A b ex ad0 nL s ρ h lv sk H locs ls kc tys ws lc) : zv_P s D cl A b ex ad0 nL ρ H locs ls kc tys ws lc (zv_padd G h lv sk) := by
  unfold zv_padd
  split
  · rename_i y x r
    obtain ⟨wy, kr0, rfl, hy, B0⟩ := zx_topi B
    obtain ⟨wx, kr, rfl, hx, B1⟩ := zx_topi B0
    obtain ⟨r2, h1, h2⟩ := zv_vl_ok hG (zx_add_ev hx hy)
    have B2 := zx_B_up (r := r2) B1
    refine zv_one h1 (zx_B_sk B2 ⟨⟨wy, rfl, zx_ev_app hy⟩, ⟨wx, rfl, ?_⟩, B2.2.2.2.2.2.2.2⟩)
    rw [zx_sub_ev h2 (zx_ev_app hy)]; congr 1; omega
  · exact zv_as_ok hG B
theorem zv_psub_ok (hG : zx_ok ρ G) (B : zx_B D cl A b ex ad0 nL s ρ h lv sk H locs ls kc tys ws lc) : zv_P s D cl A b ex ad0 nL ρ H locs ls kc tys ws lc (zv_psub G h lv sk) := by
  unfold zv_psub
  split
  · rename_i y x r
    obtain ⟨wy, kr0, rfl, hy, B0⟩ := zx_topi B
    obtain ⟨wx, kr, rfl, hx, B1⟩ := zx_topi B0
    obtain ⟨r2, h1, h2⟩ := zv_vl_ok hG (zx_sub_ev hx hy)
    have B2 := zx_B_up (r := r2) B1
    refine zv_one h1 (zx_B_sk B2 ⟨⟨wy, rfl, zx_ev_app hy⟩, ⟨wx, rfl, ?_⟩, B2.2.2.2.2.2.2.2⟩)
    rw [zx_add_ev h2 (zx_ev_app hy)]; congr 1; omega
  · exact zv_as_ok hG B
/-- more is known of a cell -/
theorem zv_B_cell (B : zx_B D cl A b ex ad0 nL s ρ h lv sk H locs ls kc tys ws lc) {i : Nat} {c : zx_C} {q : Nat × va_E} (hw : ws[i]? = some q) (hc : zx_RC cl b ex ρ (zx_as ws) tys c q.2) : zx_B D cl A b ex ad0 nL s ρ (h.set i c) lv sk H locs ls kc tys ws lc := by
  obtain ⟨h1, h2, h3, h4, h5, h6, h7, h8⟩ := B
  refine ⟨h1, h2, h3, h4, ?_, h6, h7, h8⟩
  have := zx_F2_set (R := fun c q => zx_RC cl b ex ρ (zx_as ws) tys c q.2) (b := q) hc i h5
  rwa [zx_set_same hw] at this
theorem zv_F2_slot {R : zx_S → Value → Prop} {l : List zx_S} {fs : List Value} {f : Nat} {x : Value} {t : zx_S} (h : zx_F2 R l fs) (hx : fs[f]? = some x) (ht : R t x) : zx_F2 R (l.set f t) fs := by
  have := zx_F2_set (b := x) ht f h
  rwa [zx_set_same hx] at this
theorem zv_pget_ok {M : zx_M} {pc ix : Nat} (hG : zx_ok ρ G) (B : zx_B D cl A b ex ad0 nL s ρ h lv sk H locs ls kc tys ws lc) : zv_P s D cl A b ex ad0 nL ρ H locs ls kc tys ws lc (zv_pget M pc G h lv sk ix) := by
  unfold zv_pget
  split
  · rename_i id r
    split
    · exact zv_as_ok hG B
    · split
      · rename_i o q ho hq
        rw [zy_get_eq] at ho
        split
        · unfold zv_pg1
          obtain ⟨⟨a, en⟩, h1, fs, h2, h3⟩ := zx_F2_get B.2.2.2.2.1 ho
          split
          · rename_i t ht
            rw [zy_get_eq] at ht
            obtain ⟨x, h4, w, h5, h6, h7⟩ := zx_F2_get h3 ht
            obtain ⟨r2, g1, g2⟩ := zv_push hG (t := t) (o := none) h6 h7 (fun e he => by cases he)
            have B2 := zx_B_up (r := r2) B
            refine zv_one (q := zv_opn G h lv _ id q.2.1 o t) (r2 := r2) g1 ?_
            show zx_B D cl A b ex ad0 nL s (ρ ++ r2) (zy_set h (id - 64) (.inl (o.1, zy_set o.2 q.2.1 (.inl (.inl ([(G.length, 1)], 0)))))) lv _ H locs ls kc tys ws lc
            rw [zy_set_eq, zy_set_eq]
            refine zv_B_cell B2 h1 ⟨fs, h2, ?_⟩
            refine zv_F2_slot (zx_F2_imp (fun t y hy => ?_) h3) h4 ⟨w, h5, g2⟩
            have := zx_RS_app (r := r2) (q := []) hy
            rwa [List.append_nil] at this
          · rename_i i j rr ht
            rw [zy_get_eq] at ht
            split
            · obtain ⟨x, h4, h5⟩ := zx_F2_get h3 ht
              rcases h5 with ⟨h5, -⟩ | ⟨i0, a0, h5, h6, h7⟩
              · cases h5
              · have key : ∀ l : List Nat, i0 ∈ l → (G, zy_set h (id - 64) (.inl (o.1, zy_set o.2 q.2.1 (.inl (.inr (.inl ([i0], false)))))), lv, (.inr (.inl ([id], false)) : zx_V) :: r) ∈ zv_spl G h lv (.inr (.inl ([id], false)) :: r) id q.2.1 o l := by
                  intro l
                  induction l with
                  | nil => intro hh; cases hh
                  | cons y l ih =>
                    intro hh
                    rw [zv_spl]
                    rcases List.mem_cons.mp hh with e | e
                    · subst e; exact List.mem_cons_self
                    · exact List.mem_cons_of_mem _ (ih e)
                refine ⟨_, key _ h5, [], by rw [List.append_nil]; exact hG, ?_⟩
                rw [List.append_nil]
                show zx_B D cl A b ex ad0 nL s ρ (zy_set h (id - 64) (.inl (o.1, zy_set o.2 q.2.1 (.inl (.inr (.inl ([i0], false))))))) lv _ H locs ls kc tys ws lc
                rw [zy_set_eq, zy_set_eq]
                exact zv_B_cell B h1 ⟨fs, h2, zv_F2_slot h3 h4 (Or.inr ⟨i0, a0, List.mem_singleton.mpr rfl, h6, h7⟩)⟩
            · exact zv_as_ok hG B
          · exact zv_as_ok hG B
        · exact zv_as_ok hG B
      · exact zv_as_ok hG B
  · exact zv_as_ok hG B
theorem zv_pes_mem {id : Nat} {ar : Nat × Nat × Bool × List zx_S} {e : zx_L} {g : zx_G} : ∀ {l : List zx_G}, g ∈ l → zv_pe1 h lv sk id ar e g ∈ zv_pes h lv sk id ar e l
  | [], hg => nomatch hg
  | a :: r, hg => by
    rw [zv_pes]
    rcases List.mem_cons.mp hg with q | q
    · subst q; exact List.mem_cons_self
    · exact List.mem_cons_of_mem _ (zv_pes_mem q)
theorem zv_pel_ok (hG : zx_ok ρ G) (B : zx_B D cl A b ex ad0 nL s ρ h lv sk H locs ls kc tys ws lc) : zv_P s D cl A b ex ad0 nL ρ H locs ls kc tys ws lc (zv_pel G h lv sk) := by
  unfold zv_pel
  split
  · rename_i e id r
    split
    · exact zv_as_ok hG B
    · split
      · rename_i ar har
        rw [zy_get_eq] at har
        split
        · rename_i hc
          simp only [Bool.and_eq_true, Nat.blt_eq, Bool.not_eq_true'] at hc
          split
          · rename_i l hl
            obtain ⟨w, kr, h0, he, B1⟩ := zx_topi B
            obtain ⟨g, g1, g2⟩ := zx_split_ok hG he hl
            refine ⟨_, zv_pes_mem g1, ?_⟩
            have triv : ∃ r2, zx_ok (ρ ++ r2) g ∧ zx_B D cl A b ex ad0 nL s (ρ ++ r2) h lv (.inl e :: .inr (.inl ([id], false)) :: r) H locs ls kc tys ws lc := ⟨[], by rw [List.append_nil]; exact g2, by rw [List.append_nil]; exact B⟩
            unfold zv_pe1
            split
            · rename_i t ht
              split
              · split
                · rename_i u hu
                  rw [zy_get_eq] at hu
                  obtain ⟨⟨a, en⟩, h1, cA, t0, h2, h3⟩ := zx_F2_get B.2.2.2.2.1 har
                  rcases h3 with ⟨h3, f, h4, h5⟩ | ⟨h3, -⟩
                  · rw [hc.2] at h5
                    obtain ⟨h5, h6⟩ := h5
                    obtain ⟨w1, h7, h8, h9⟩ := h6 _ _ hu
                    obtain ⟨r2, k1, k2⟩ := zv_push g2 (t := u) (o := none) h8 h9 (fun e he => by cases he)
                    have B2 := zx_B_up (r := r2) B
                    refine ⟨r2, k1, ?_⟩
                    show zx_B D cl A b ex ad0 nL s (ρ ++ r2) (zy_set h (id - 64) (.inr (.inl (ar.1, ar.2.1, false, zy_set ar.2.2.2 t.1.toNat (.inl (.inl ([(g.length, 1)], 0))))))) lv _ H locs ls kc tys ws lc
                    rw [zy_set_eq, zy_set_eq]
                    refine zv_B_cell B2 h1 ⟨cA, t0, h2, Or.inl ⟨h3, f, h4, by show (ar.2.2.2.set _ _).length = _; rw [List.length_set]; exact h5, fun j tt hj => ?_⟩⟩
                    rw [List.getElem?_set] at hj
                    split at hj
                    · rename_i hjj
                      split at hj
                      · cases hj
                        subst hjj
                        exact ⟨w1, h7, k2⟩
                      · cases hj
                    · have := zx_RS_app (r := r2) (q := []) (h6 j tt hj)
                      rwa [List.append_nil] at this
                  · omega
                · exact triv
              · exact triv
            · exact triv
          · exact zv_as_ok hG B
        · exact zv_as_ok hG B
      · exact zv_as_ok hG B
  · exact zv_as_ok hG B
theorem zv_app_mem {f : zx_G → List zx_C → List (Nat × zx_V) → List zx_V → List zv_Pr} {q t : zv_Pr} : ∀ {l : List zv_Pr}, q ∈ l → t ∈ f q.1 q.2.1 q.2.2.1 q.2.2.2 → t ∈ zv_app f l
  | [], h, _ => nomatch h
  | a :: r, h, ht => by
    rw [zv_app]
    rcases List.mem_cons.mp h with e | e
    · subst e; exact List.mem_append_left _ ht
    · exact List.mem_append_right _ (zv_app_mem e ht)
theorem zv_two_ok (hG : zx_ok ρ G) (B : zx_B D cl A b ex ad0 nL s ρ h lv sk H locs ls kc tys ws lc) : zv_P s D cl A b ex ad0 nL ρ H locs ls kc tys ws lc (zv_app zv_pel (zv_ptop G h lv sk)) := by
  obtain ⟨q, h1, r2, h2, h3⟩ := zv_ptop_ok hG B
  obtain ⟨t, h4, r3, h5, h6⟩ := zv_pel_ok h2 h3
  exact ⟨t, zv_app_mem h1 h4, r2 ++ r3, by rw [← List.append_assoc]; exact h5, by rw [← List.append_assoc]; exact h6⟩
theorem zv_app_ok {f : zx_G → List zx_C → List (Nat × zx_V) → List zx_V → List zv_Pr} {l : List zv_Pr} (hf : ∀ (ρ : List Int) (G : zx_G) (h : List zx_C) (lv : List (Nat × zx_V)) (sk : List zx_V), zx_ok ρ G → zx_B D cl A b ex ad0 nL s ρ h lv sk H locs ls kc tys ws lc → zv_P s D cl A b ex ad0 nL ρ H locs ls kc tys ws lc (f G h lv sk)) (hl : zv_P s D cl A b ex ad0 nL ρ H locs ls kc tys ws lc l) : zv_P s D cl A b ex ad0 nL ρ H locs ls kc tys ws lc (zv_app f l) := by
  obtain ⟨q, h1, r2, h2, h3⟩ := hl
  obtain ⟨t, h4, r3, h5, h6⟩ := hf _ _ _ _ _ h2 h3
  exact ⟨t, zv_app_mem h1 h4, r2 ++ r3, by rw [← List.append_assoc]; exact h5, by rw [← List.append_assoc]; exact h6⟩
theorem zv_prc_ok (hG : zx_ok ρ G) (B : zx_B D cl A b ex ad0 nL s ρ h lv sk H locs ls kc tys ws lc) : zv_P s D cl A b ex ad0 nL ρ H locs ls kc tys ws lc (zv_prc G h lv sk) := by
  unfold zv_prc
  split
  case h_2 => exact zv_as_ok hG B
  rename_i e id r
  split
  · exact zv_as_ok hG B
  split
  case h_2 => exact zv_as_ok hG B
  rename_i ar har
  rw [zy_get_eq] at har
  split
  case isFalse => exact zv_as_ok hG B
  rename_i hc
  simp only [Bool.and_eq_true, Nat.blt_eq] at hc
  unfold zv_pr1
  split
  case h_2 => exact zv_as_ok hG B
  rename_i t fs u hl hu
  split
  case isFalse => exact zv_as_ok hG B
  rename_i hcu
  split
  · exact zv_as_ok hG B
  obtain ⟨w, kr, h0, he, B1⟩ := zx_topi B
  obtain ⟨q1, q2⟩ := zx_rng_ok hG hu he
  obtain ⟨⟨a, en⟩, h1, cA, t0, h2, h3⟩ := zx_F2_get B.2.2.2.2.1 har
  rcases h3 with ⟨h3, f, h4, h5⟩ | ⟨h3, -⟩
  · rw [hc.2, hl] at h5
    obtain ⟨t', fs', h5, h6, h7⟩ := h5
    cases h5
    obtain ⟨w1, h8, h9, h10⟩ := h6 w.toInt.toNat (by omega)
    obtain ⟨r2, k1, k2⟩ := zv_push hG (t := t) (o := none) h9 h10 (fun e he => by cases he)
    have B2 := zx_B_up (r := r2) B
    refine zv_one (r2 := r2) k1 ?_
    show zx_B D cl A b ex ad0 nL s (ρ ++ r2) (zy_set h (id - 64) _) lv _ H locs ls kc tys ws lc
    rw [zy_set_eq]
    refine zv_B_cell B2 h1 ⟨cA, t0, h2, Or.inl ⟨h3, f, h4, .inr t, _, rfl, fun j hj => ?_, fun q hq => ?_⟩⟩
    · exact h6 j hj
    · have hq : q ∈ (e, (.inl ([(G.length, 1)], 0) : zx_V)) :: zx_fs fs := hq
      rcases List.mem_cons.mp hq with g | g
      · subst g
        refine ⟨w.toInt, zx_ev_app he, by omega, by show w.toInt < (ar.2.1 : Int); omega, w1, h8, k2⟩
      · have := zx_FP_app (r := r2) (q := []) (h7 q g)
        rwa [List.append_nil] at this
  · omega
theorem zv_prM_ok {M : zx_M} {pc : Nat} (hG : zx_ok ρ G) (B : zx_B D cl A b ex ad0 nL s ρ h lv sk H locs ls kc tys ws lc) : zv_P s D cl A b ex ad0 nL ρ H locs ls kc tys ws lc (zv_prM M pc G h lv sk) := by
  unfold zv_prM
  split
  · exact zv_prc_ok hG B
  · exact zv_as_ok hG B
theorem zv_pdr_ok (hG : zx_ok ρ G) (B : zx_B D cl A b ex ad0 nL s ρ h lv sk H locs ls kc tys ws lc) : zv_P s D cl A b ex ad0 nL ρ H locs ls kc tys ws lc (zv_pdr G h lv sk) := by
  unfold zv_pdr
  split
  case h_2 => exact zv_as_ok hG B
  split
  · exact zv_as_ok hG B
  split
  case h_2 => exact zv_as_ok hG B
  rename_i ar har
  rw [zy_get_eq] at har
  split
  case isFalse => exact zv_as_ok hG B
  rename_i hs
  unfold zv_pd1
  split
  case h_2 => exact zv_as_ok hG B
  rename_i t u fs hl
  obtain ⟨⟨a, en⟩, h1, cA, t0, h2, h3⟩ := zx_F2_get B.2.2.2.2.1 har
  refine zv_one (r2 := []) (by rw [List.append_nil]; exact hG) ?_
  rw [List.append_nil]
  show zx_B D cl A b ex ad0 nL s ρ (zy_set h _ _) lv _ H locs ls kc tys ws lc
  rw [zy_set_eq]
  refine zv_B_cell B h1 ⟨cA, t0, h2, ?_⟩
  have cut : ∀ (el : Nat → Value), zx_RA b ex ρ (zx_as ws) ar.2.1 ar.2.2.1 ar.2.2.2 el → zx_RA b ex ρ (zx_as ws) ar.2.1 true [t] el := by
    intro el hel
    rw [hs, hl] at hel
    obtain ⟨t', fs', h5, h6, -⟩ := hel
    cases h5
    exact ⟨_, [], rfl, h6, fun q hq => nomatch hq⟩
  rcases h3 with ⟨h3, f, h4, h5⟩ | ⟨h3, f, h4, h5⟩
  · exact Or.inl ⟨h3, f, h4, cut _ h5⟩
  · exact Or.inr ⟨h3, f, h4, cut _ h5⟩
theorem zv_slv_ok {b : Nat} {ex : List Nat} {ρ : List Int} {ad : List Nat} {i : Nat} {v v' : zx_V} (hv : ∀ x, zx_R b ex ρ ad v x → zx_R b ex ρ ad v' x) : ∀ {lv : List (Nat × zx_V)} {lc : List (Nat × Value)}, zx_lk lv i = some v → zx_F2 (fun x y => x.1 = y.1 ∧ zx_R b ex ρ ad x.2 y.2) lv lc → zx_F2 (fun x y => x.1 = y.1 ∧ zx_R b ex ρ ad x.2 y.2) (zv_pinc.zv_slv i v' lv) lc
  | [], _, h, _ => nomatch h
  | q :: r, [], _, h => h.elim
  | q :: r, y :: m, hk, h => by
    rw [zx_lk] at hk
    rw [zv_pinc.zv_slv]
    by_cases hq : q.1 = i
    · rw [if_pos hq] at hk
      cases hk
      rw [if_pos (by rw [hq]; exact Nat.beq_refl i)]
      exact ⟨⟨by rw [← hq]; exact h.1.1, hv _ h.1.2⟩, h.2⟩
    · rw [if_neg hq] at hk
      rw [if_neg (fun hh => hq (Nat.eq_of_beq_eq_true hh))]
      exact ⟨h.1, zv_slv_ok hv hk h.2⟩
theorem zv_pinc_ok {i : Nat} {n : Int} (hG : zx_ok ρ G) (B : zx_B D cl A b ex ad0 nL s ρ h lv sk H locs ls kc tys ws lc) : zv_P s D cl A b ex ad0 nL ρ H locs ls kc tys ws lc (zv_pinc G h lv sk i n) := by
  unfold zv_pinc
  split
  · rename_i e he
    obtain ⟨x, j, -, -, w, rfl, hw⟩ := zx_lk_B B he
    have hn : ∀ ρ : List Int, zx_ev ρ ([], n) = some n := fun ρ => zx_ev_iff.mpr ⟨0, rfl, by simp⟩
    obtain ⟨r2, h1, h2⟩ := zv_vl_ok hG (zx_add_ev hw (hn ρ))
    have B2 := zx_B_up (r := r2) B
    refine zv_one h1 (zx_B_lv B2 (zv_slv_ok (fun x hx => ?_) he B2.2.2.2.2.2.1) B2.2.2.2.2.2.2.1)
    obtain ⟨w', rfl, hw'⟩ := hx
    refine ⟨w', rfl, ?_⟩
    rw [zx_ev_app hw] at hw'
    rw [zx_sub_ev h2 (hn _), ← hw']
    congr 1; omega
  · exact zv_as_ok hG B
theorem zv_slv_at {b : Nat} {ex : List Nat} {ρ : List Int} {ad : List Nat} {i : Nat} {v : zx_V} : ∀ {lv : List (Nat × zx_V)} {lc : List (Nat × Value)}, zx_lk lv i = some v → zx_F2 (fun x y => x.1 = y.1 ∧ zx_R b ex ρ ad x.2 y.2) lv lc → ∃ x, zx_R b ex ρ ad v x ∧ ∀ v', zx_R b ex ρ ad v' x → zx_F2 (fun x y => x.1 = y.1 ∧ zx_R b ex ρ ad x.2 y.2) (zv_pinc.zv_slv i v' lv) lc
  | [], _, h, _ => nomatch h
  | q :: r, [], _, h => h.elim
  | q :: r, y :: m, hk, h => by
    rw [zx_lk] at hk
    by_cases hq : q.1 = i
    · rw [if_pos hq] at hk
      cases hk
      refine ⟨y.2, h.1.2, fun v' hv' => ?_⟩
      rw [zv_pinc.zv_slv, if_pos (by rw [hq]; exact Nat.beq_refl i)]
      exact ⟨⟨by rw [← hq]; exact h.1.1, hv'⟩, h.2⟩
    · rw [if_neg hq] at hk
      obtain ⟨x, h1, h2⟩ := zv_slv_at hk h.2
      refine ⟨x, h1, fun v' hv' => ?_⟩
      rw [zv_pinc.zv_slv, if_neg (fun hh => hq (Nat.eq_of_beq_eq_true hh))]
      exact ⟨h.1, h2 v' hv'⟩
theorem zv_pal_ok {M : zx_M} {pc i : Nat} (hG : zx_ok ρ G) (B : zx_B D cl A b ex ad0 nL s ρ h lv sk H locs ls kc tys ws lc) : zv_P s D cl A b ex ad0 nL ρ H locs ls kc tys ws lc (zv_pal M pc G h lv sk i) := by
  unfold zv_pal
  split
  case h_2 => exact zv_as_ok hG B
  split
  case h_2 => exact zv_as_ok hG B
  rename_i ids hlk
  obtain ⟨x, h1, h2⟩ := zv_slv_at hlk B.2.2.2.2.2.1
  rcases h1 with ⟨h3, -⟩ | ⟨i0, a, h3, h4, h5⟩
  · cases h3
  · refine ⟨_, List.mem_map.mpr ⟨i0, h3, rfl⟩, [], by rw [List.append_nil]; exact hG, ?_⟩
    rw [List.append_nil]
    exact zx_B_lv B (h2 _ (Or.inr ⟨i0, a, List.mem_singleton.mpr rfl, h4, h5⟩)) B.2.2.2.2.2.2.1
theorem zv_pand_ok (hG : zx_ok ρ G) (B : zx_B D cl A b ex ad0 nL s ρ h lv sk H locs ls kc tys ws lc) : zv_P s D cl A b ex ad0 nL ρ H locs ls kc tys ws lc (zv_pand G h lv sk) := by
  unfold zv_pand
  split
  case h_2 => exact zv_as_ok hG B
  rename_i y x r
  split
  case isFalse => exact zv_as_ok hG B
  split
  case h_2 => exact zv_as_ok hG B
  rename_i g hg
  rw [zy_get_eq] at hg
  split
  case isFalse => exact zv_as_ok hG B
  obtain ⟨x1, kr1, rfl, -, B1⟩ := zx_top1 B
  obtain ⟨w, kr2, rfl, he, B2⟩ := zx_topi B1
  obtain ⟨u, g1, g2⟩ := zx_ev_iff.mp he
  obtain ⟨v, u1, g3, g4, g5⟩ := zx_evl_cons.mp g1
  have hb := hG.2 _ _ _ g3 hg
  by_cases hv : v < 0
  · refine ⟨_, List.mem_cons_self, [], ?_, by rw [List.append_nil]; exact B⟩
    rw [List.append_nil]
    refine zx_ok_set hG hg (fun v' hv' => ?_)
    rw [hv'] at g3
    have e9 : v' = v := Option.some.inj g3
    have k1 := hb.1
    exact ⟨by show g.1.1 ≤ v'; omega, by show v' ≤ -1; omega⟩
  · refine ⟨_, List.mem_cons_of_mem _ List.mem_cons_self, [], ?_, by rw [List.append_nil]; exact B⟩
    rw [List.append_nil]
    refine zx_ok_set hG hg (fun v' hv' => ?_)
    rw [hv'] at g3
    have e9 : v' = v := Option.some.inj g3
    have k1 := hb.2.1
    exact ⟨by show 0 ≤ v'; omega, by show v' ≤ g.1.2; omega⟩
theorem zv_pre_ok {M : zx_M} {pc : Nat} {i : Instr} (hG : zx_ok ρ G) (B : zx_B D cl A b ex ad0 nL s ρ h lv sk H locs ls kc tys ws lc) : zv_P s D cl A b ex ad0 nL ρ H locs ls kc tys ws lc (zv_pre M pc G h lv sk i) := by
  unfold zv_pre
  split
  · exact zv_pal_ok hG B
  · exact zv_ptop_ok hG B
  · exact zv_pcmp_ok hG B
  · exact zv_ptop_ok hG B
  · exact zv_padd_ok hG B
  · exact zv_psub_ok hG B
  · exact zv_ptwo_ok hG B
  · exact zv_ptwo_ok hG B
  · exact zv_ptwo_ok hG B
  · exact zv_pinc_ok hG B
  · exact zv_app_ok (fun _ _ _ _ _ g1 g2 => zv_prM_ok g1 g2) (zv_two_ok hG B)
  · exact zv_app_ok (fun _ _ _ _ _ g1 g2 => zv_prM_ok g1 g2) (zv_two_ok hG B)
  · exact zv_ptop_ok hG B
  · split
    · exact zv_ptwo_ok hG B
    · exact zv_app_ok (fun _ _ _ _ _ g1 g2 => zv_pdr_ok g1 g2) (zv_ptwo_ok hG B)
  · exact zv_app_ok (fun _ _ _ _ _ g1 g2 => zv_pdr_ok g1 g2) (zv_ptwo_ok hG B)
  · exact zv_pnd_ok hG B
  · exact zv_pget_ok hG B
  · exact zv_pand_ok hG B
  · exact zv_as_ok hG B
end ZVQ
end
