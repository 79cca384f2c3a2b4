noncomputable section
/-! zx: one instruction -/
/-- the tables that go with a method: fields (class, place, sort, final), statics, classes, whole numbers, longs, what a new row holds (as one, from .. to); the locals; <init>; the room; a script -/
abbrev zx_M : Type := (Nat → Option (Nat × Nat × Nat × Bool)) × ((Nat → Option Nat) × ((Nat → Option Nat) × ((Nat → Option Int) × ((Nat → Bool) × ((Nat → Option (Bool × Int × Int)) × (Nat × (Bool × ((Nat × Nat) × Bool))))))))
abbrev zx_mF (M : zx_M) := M.1
abbrev zx_mS (M : zx_M) := M.2.1
abbrev zx_mC (M : zx_M) := M.2.2.1
abbrev zx_mI (M : zx_M) := M.2.2.2.1
abbrev zx_mL (M : zx_M) := M.2.2.2.2.1
abbrev zx_mN (M : zx_M) := M.2.2.2.2.2.1
abbrev zx_mV (M : zx_M) := M.2.2.2.2.2.2.1
abbrev zx_mB (M : zx_M) := M.2.2.2.2.2.2.2.1
abbrev zx_mR (M : zx_M) := M.2.2.2.2.2.2.2.2.1
abbrev zx_mX (M : zx_M) := M.2.2.2.2.2.2.2.2.2
abbrev zx_O : Type := Option (List (Nat × zx_T))
abbrev zx_lg : zx_V := .inr (.inr true)
def zx_go (pc : Nat) (h : List zx_C) (lv : List (Nat × zx_V)) (k : Nat × Nat) (sk : List zx_V) (r : Option (zx_G × zx_V)) : zx_O := match r with
  | some r => some [(pc, r.1, h, lv, r.2 :: sk, k)]
  | none => none
def zx_tg (pc : Nat) (off : Int) : Option Nat := if 0 ≤ (pc : Int) + off then some ((pc : Int) + off).toNat else none
theorem zx_tg_ok {pc t : Nat} {off : Int} (h : zx_tg pc off = some t) : (pc : Int) + off = (t : Int) := by
  rw [zx_tg] at h
  split at h
  · cases h; rw [Int.toNat_of_nonneg (by assumption)]
  · cases h
section ZXX
variable (M : zx_M) (pc : Nat) (G : zx_G) (h : List zx_C) (lv : List (Nat × zx_V)) (k : Nat × Nat) (sk : List zx_V)
def zx_xk (n lo hi : Int) (d : Nat) : zx_O := if decide (lo ≤ n) && decide (n ≤ hi) then some [(pc + d, G, h, lv, .inl ([], n) :: sk, k)] else none
def zx_xld (i d : Nat) : zx_O := match zx_lk lv i with
  | some (.inl e) => some [(pc + d, G, h, lv, .inl e :: sk, k)]
  | _ => none
def zx_xlld (i d : Nat) : zx_O := match zx_lk lv i with
  | some (.inr (.inr true)) => some [(pc + d, G, h, lv, zx_lg :: sk, k)]
  | _ => none
def zx_xald (i d : Nat) : zx_O := match zx_lk lv i with
  | some (.inr (.inl (r, false))) => some [(pc + d, G, h, lv, .inr (.inl (r, false)) :: sk, k)]
  | some (.inr (.inr false)) => some [(pc + d, G, h, lv, .inr (.inr false) :: sk, k)]
  | _ => none
def zx_xst (i d : Nat) : zx_O := match sk with
  | .inl e :: r => if i < zx_mV M then some [(pc + d, G, h, zx_st1 lv i (.inl e), r, k)] else none
  | _ => none
def zx_xlst (i d : Nat) : zx_O := match sk with
  | .inr (.inr true) :: r => if i + 1 < zx_mV M then some [(pc + d, G, h, zx_st2 lv i zx_lg, r, k)] else none
  | _ => none
def zx_xast (i d : Nat) : zx_O := match sk with
  | .inr (.inl (q, false)) :: r => if i < zx_mV M then some [(pc + d, G, h, zx_st1 lv i (.inr (.inl (q, false))), r, k)] else none
  | _ => none
def zx_xinc (i : Nat) (n : Int) : zx_O := match zx_lk lv i with
  | some (.inl e) => if decide (i < zx_mV M) && decide (-32768 ≤ n) && decide (n ≤ 32767) then (match zx_val G (zx_add e ([], n)) with
    | some r => some [(pc + 3, r.1, h, zx_st1 lv i r.2, sk, k)]
    | none => none) else none
  | _ => none
/-- two ints come off, one goes on -/
def zx_xbin (f : zx_L → zx_L → Option (zx_G × zx_V)) : zx_O := match sk with
  | .inl y :: .inl x :: r => zx_go (pc + 1) h lv k r (f x y)
  | _ => none
def zx_xi2b : zx_O := match sk with
  | .inl x :: r => (match zx_rng G x with
    | some t => zx_go (pc + 1) h lv k r (if zx_in t (-128) 127 = true then some (G, .inl x) else some (zx_fr G (-128) 127))
    | none => none)
  | _ => none
def zx_xi2l : zx_O := match sk with
  | .inl _ :: r => some [(pc + 1, G, h, lv, zx_lg :: r, k)]
  | _ => none
def zx_xl2i : zx_O := match sk with
  | .inr (.inr true) :: r => zx_go (pc + 1) h lv k r (some (zx_full G))
  | _ => none
def zx_xlbin : zx_O := match sk with
  | .inr (.inr true) :: .inr (.inr true) :: r => some [(pc + 1, G, h, lv, zx_lg :: r, k)]
  | _ => none
def zx_xlsh : zx_O := match sk with
  | .inl _ :: .inr (.inr true) :: r => some [(pc + 1, G, h, lv, zx_lg :: r, k)]
  | _ => none
def zx_xlcmp : zx_O := match sk with
  | .inr (.inr true) :: .inr (.inr true) :: r => zx_go (pc + 1) h lv k r (some (zx_full G))
  | _ => none
def zx_xdup : zx_O := match sk with
  | v :: r => if zx_cat v = 1 then some [(pc + 1, G, h, lv, v :: v :: r, k)] else none
  | _ => none
def zx_xpop : zx_O := match sk with
  | v :: r => if zx_cat v = 1 then some [(pc + 1, G, h, lv, r, k)] else none
  | _ => none
def zx_xdupx1 : zx_O := match sk with
  | v :: w :: r => if zx_cat v = 1 ∧ zx_cat w = 1 then some [(pc + 1, G, h, lv, v :: w :: v :: r, k)] else none
  | _ => none
def zx_xdup2 : zx_O := match sk with
  | v :: w :: r => if zx_cat v = 1 ∧ zx_cat w = 1 then some [(pc + 1, G, h, lv, v :: w :: v :: w :: r, k)] else none
  | _ => none
def zx_xgoto (off : Int) : zx_O := match zx_tg pc off with
  | some t => some [(t, G, h, lv, sk, k)]
  | none => none
def zx_xbr (c : ClassFile.Cond) (t : Nat) (d : zx_L) (r : List zx_V) : zx_O := match zx_rng G d with
  | some q => some ((zx_cmp c G d q).map (fun z => (if z.1 = true then t else pc + 3, z.2, h, lv, r, k)))
  | none => none
def zx_xif (c : ClassFile.Cond) (off : Int) : zx_O := match sk with
  | .inl x :: r => (match zx_tg pc off with
    | some t => zx_xbr pc G h lv k c t x r
    | none => none)
  | _ => none
def zx_xicmp (c : ClassFile.Cond) (off : Int) : zx_O := match sk with
  | .inl y :: .inl x :: r => (match zx_tg pc off with
    | some t => zx_xbr pc G h lv k c t (zx_sub x y) r
    | none => none)
  | _ => none
def zx_xtab1 (dflt lo hi : Int) (offs : Array Int) (x : zx_L) (r : List zx_V) (G1 : zx_G) : zx_O := match zx_rng G1 x with
  | some t => if t.2 < lo ∨ hi < t.1 then (match zx_tg pc dflt with
      | some g => some [(g, G1, h, lv, r, k)]
      | none => none) else if t.1 = t.2 then (match offs[(t.1 - lo).toNat]? with
      | some off => (match zx_tg pc off with
        | some g => some [(g, G1, h, lv, r, k)]
        | none => none)
      | none => none) else none
  | none => none
def zx_xtab (dflt lo hi : Int) (offs : Array Int) : zx_O := match sk with
  | .inl x :: r => (match zx_rng G x with
    | some t => zx_all (zx_xtab1 pc h lv k dflt lo hi offs x r) (zx_tcuts G x t lo hi)
    | none => none)
  | _ => none
def zx_xint (n : Option Int) (d : Nat) : zx_O := match n with
  | some n => some [(pc + d, G, h, lv, .inl ([], n) :: sk, k)]
  | none => none
end ZXX
section ZXW
variable {p : Program} {l : Launch} {e : Env} {R : Room} {s : State} {m : MethodId} {args : Array Value} {below : List Frame} {meth : Method} {c : Code} {Q : State → Prop}
variable {D : va_G} {cl : List vw_C} {A : Nat → Prop} {b : Nat} {ex : List Nat} {ad0 : zx_A0} {nL : Nat} {ρ : List Int} {G : zx_G} {h : List zx_C} {lv : List (Nat × zx_V)} {k : Nat × Nat} {sk : List zx_V} {H : Heap} {locs : List Loc} {ls : Array Slot} {kc : List Value} {tys : List (ClassId × FieldType)} {ws : va_W} {lc : List (Nat × Value)}
variable {cc : ByteArray} {pc : Nat} {M : zx_M} {z : List (Nat × zx_T)}
/-- every way goes on -/
def zx_KK (p : Program) (l : Launch) (e : Env) (R : Room) (s : State) (m : MethodId) (args : Array Value) (below : List Frame) (meth : Method) (c : Code) (Q : State → Prop) (D : va_G) (cl : List vw_C) (A : Nat → Prop) (b : Nat) (ex : List Nat) (ad0 : zx_A0) (nL : Nat) (ρ : List Int) (z : List (Nat × zx_T)) : Prop :=
  ∀ q ∈ z, ∀ (r2 : List Int) (H' : Heap) (locs' : List Loc) (ls' : Array Slot) (kc' : List Value), zx_J D cl A b ex ad0 nL s (ρ ++ r2) q.2.1 q.2.2.1 q.2.2.2.1 q.2.2.2.2.1 H' locs' ls' kc' → W p l e R s m args below meth c H' locs' q.2.2.2.2.2.1 q.2.2.2.2.2.2 Q (F0 m q.1 ls' kc')
theorem zx_K1 {pc' : Nat} {G' : zx_G} {h' : List zx_C} {lv' : List (Nat × zx_V)} {sk' : List zx_V} {k' : Nat × Nat} {r2 : List Int} {H' : Heap} {locs' : List Loc} {ls' : Array Slot} {kc' : List Value} (K : zx_KK p l e R s m args below meth c Q D cl A b ex ad0 nL ρ z) (hz : (pc', G', h', lv', sk', k') ∈ z) (J : zx_J D cl A b ex ad0 nL s (ρ ++ r2) G' h' lv' sk' H' locs' ls' kc') : W p l e R s m args below meth c H' locs' k'.1 k'.2 Q (F0 m pc' ls' kc') := K _ hz r2 H' locs' ls' kc' J
theorem zx_one {α : Type} {a : α} {z : List α} (h : some [a] = some z) : a ∈ z := by cases h; exact List.mem_singleton.mpr rfl
theorem zx_go_W {pc' : Nat} {r : Option (zx_G × zx_V)} {x : Value} (B : zx_B D cl A b ex ad0 nL s ρ h lv sk H locs ls kc tys ws lc) (hz : zx_go pc' h lv k sk r = some z) (hr : ∀ q, r = some q → zx_P b ex ρ (zx_as ws) q x) (K : zx_KK p l e R s m args below meth c Q D cl A b ex ad0 nL ρ z) : W p l e R s m args below meth c H locs k.1 k.2 Q (F0 m pc' ls (x :: kc)) := by
  cases r with
  | none => cases hz
  | some q =>
    obtain ⟨r2, J⟩ := zx_J_res B (hr q rfl)
    exact zx_K1 K (zx_one hz) J
/-- one value more on the stack, bounds as they were -/
theorem zx_push_W {pc' : Nat} {v : zx_V} {x : Value} (hG : zx_ok ρ G) (B : zx_B D cl A b ex ad0 nL s ρ h lv sk H locs ls kc tys ws lc) (hz : some [(pc', G, h, lv, v :: sk, k)] = some z) (hv : zx_R b ex ρ (zx_as ws) v x) (K : zx_KK p l e R s m args below meth c Q D cl A b ex ad0 nL ρ z) : W p l e R s m args below meth c H locs k.1 k.2 Q (F0 m pc' ls (x :: kc)) :=
  zx_K1 K (zx_one hz) (zx_J_same hG (zx_B_sk B ⟨hv, B.2.2.2.2.2.2.2⟩))
theorem zx_top1 {v : zx_V} {r : List zx_V} (B : zx_B D cl A b ex ad0 nL s ρ h lv (v :: r) H locs ls kc tys ws lc) : ∃ x kr, kc = x :: kr ∧ zx_R b ex ρ (zx_as ws) v x ∧ zx_B D cl A b ex ad0 nL s ρ h lv r H locs ls kr tys ws lc := by
  have h8 := B.2.2.2.2.2.2.2
  rcases kc with _ | ⟨x, kr⟩
  · exact h8.elim
  · exact ⟨x, kr, rfl, h8.1, zx_B_sk B h8.2⟩
theorem zx_topi {y : zx_L} {r : List zx_V} (B : zx_B D cl A b ex ad0 nL s ρ h lv (.inl y :: r) H locs ls kc tys ws lc) : ∃ (w : Int32) (kr : List Value), kc = .int w :: kr ∧ zx_ev ρ y = some w.toInt ∧ zx_B D cl A b ex ad0 nL s ρ h lv r H locs ls kr tys ws lc := by
  obtain ⟨x, kr, h1, ⟨w, h2, h3⟩, h4⟩ := zx_top1 B
  subst h2
  exact ⟨w, kr, h1, h3, h4⟩
theorem zx_topl {r : List zx_V} (B : zx_B D cl A b ex ad0 nL s ρ h lv (zx_lg :: r) H locs ls kc tys ws lc) : ∃ (w : Int64) (kr : List Value), kc = .long w :: kr ∧ zx_B D cl A b ex ad0 nL s ρ h lv r H locs ls kr tys ws lc := by
  obtain ⟨x, kr, h1, ⟨w, h2⟩, h4⟩ := zx_top1 B
  subst h2
  exact ⟨w, kr, h1, h4⟩
theorem zx_xk_ok {n lo hi : Int} {d : Nat} {w : Int32} (hG : zx_ok ρ G) (B : zx_B D cl A b ex ad0 nL s ρ h lv sk H locs ls kc tys ws lc) (hz : zx_xk pc G h lv k sk n lo hi d = some z) (K : zx_KK p l e R s m args below meth c Q D cl A b ex ad0 nL ρ z) (hw : lo ≤ n → n ≤ hi → w.toInt = n) : W p l e R s m args below meth c H locs k.1 k.2 Q (F0 m (pc + d) ls (.int w :: kc)) := by
  unfold zx_xk at hz
  split at hz
  · rename_i hc
    simp only [Bool.and_eq_true, decide_eq_true_iff] at hc
    refine zx_push_W hG B hz ⟨w, rfl, ?_⟩ K
    rw [hw hc.1 hc.2]
    exact zx_ev_iff.mpr ⟨0, rfl, by simp⟩
  · cases hz
theorem zx_lk_B {i : Nat} {v : zx_V} (B : zx_B D cl A b ex ad0 nL s ρ h lv sk H locs ls kc tys ws lc) (hv : zx_lk lv i = some v) : ∃ (x : Value) (j : Nat), lc[j]? = some (i, x) ∧ ls[i]? = some (.val x) ∧ zx_R b ex ρ (zx_as ws) v x := by
  obtain ⟨x, j, h1, h2⟩ := zx_lk_ok (R := zx_R b ex ρ (zx_as ws)) B.2.2.2.2.2.1 hv
  exact ⟨x, j, h1, lv_at B.2.2.2.2.2.2.1 j h1, h2⟩
theorem zx_xld_ok {i d : Nat} (hG : zx_ok ρ G) (B : zx_B D cl A b ex ad0 nL s ρ h lv sk H locs ls kc tys ws lc) (hz : zx_xld pc G h lv k sk i d = some z) (K : zx_KK p l e R s m args below meth c Q D cl A b ex ad0 nL ρ z) : ∃ w : Int32, ls[i]? = some (.val (.int w)) ∧ W p l e R s m args below meth c H locs k.1 k.2 Q (F0 m (pc + d) ls (.int w :: kc)) := by
  unfold zx_xld at hz
  split at hz
  · rename_i e0 he
    obtain ⟨x, j, h1, h2, w, h3, h4⟩ := zx_lk_B B he
    subst h3
    exact ⟨w, h2, zx_push_W hG B hz ⟨w, rfl, h4⟩ K⟩
  · cases hz
theorem zx_xlld_ok {i d : Nat} (hG : zx_ok ρ G) (B : zx_B D cl A b ex ad0 nL s ρ h lv sk H locs ls kc tys ws lc) (hz : zx_xlld pc G h lv k sk i d = some z) (K : zx_KK p l e R s m args below meth c Q D cl A b ex ad0 nL ρ z) : ∃ w : Int64, ls[i]? = some (.val (.long w)) ∧ W p l e R s m args below meth c H locs k.1 k.2 Q (F0 m (pc + d) ls (.long w :: kc)) := by
  unfold zx_xlld at hz
  split at hz
  · rename_i he
    obtain ⟨x, j, h1, h2, w, h3⟩ := zx_lk_B B he
    subst h3
    exact ⟨w, h2, zx_push_W hG B hz ⟨w, rfl⟩ K⟩
  · cases hz
theorem zx_xald_ok {i d : Nat} (hG : zx_ok ρ G) (B : zx_B D cl A b ex ad0 nL s ρ h lv sk H locs ls kc tys ws lc) (hz : zx_xald pc G h lv k sk i d = some z) (K : zx_KK p l e R s m args below meth c Q D cl A b ex ad0 nL ρ z) : ∃ w : Nat, ls[i]? = some (.val (.ref w)) ∧ W p l e R s m args below meth c H locs k.1 k.2 Q (F0 m (pc + d) ls (.ref w :: kc)) := by
  unfold zx_xald at hz
  split at hz
  · rename_i r he
    obtain ⟨x, j, h1, h2, h3⟩ := zx_lk_B B he
    rcases h3 with ⟨h4, -⟩ | ⟨i0, a, h4, h5, h6⟩
    · cases h4
    · subst h6
      exact ⟨a, h2, zx_push_W hG B hz (Or.inr ⟨i0, a, h4, h5, rfl⟩) K⟩
  · rename_i he
    obtain ⟨x, j, h1, h2, h3⟩ := zx_lk_B B he
    have h3 : x = .ref b := h3
    subst h3
    exact ⟨b, h2, zx_push_W hG B hz rfl K⟩
  · cases hz
theorem zx_B_lv {lv' : List (Nat × zx_V)} {lc' : List (Nat × Value)} {ls' : Array Slot} (B : zx_B D cl A b ex ad0 nL s ρ h lv sk H locs ls kc tys ws lc) (h6 : zx_F2 (fun x y => x.1 = y.1 ∧ zx_R b ex ρ (zx_as ws) x.2 y.2) lv' lc') (h7 : lv_has ls' nL lc') : zx_B D cl A b ex ad0 nL s ρ h lv' sk H locs ls' kc tys ws lc' := by
  obtain ⟨h1, h2, h3, h4, h5, -, -, h8⟩ := B
  exact ⟨h1, h2, h3, h4, h5, h6, h7, h8⟩
theorem zx_xst_ok {i d : Nat} (hG : zx_ok ρ G) (hM : zx_mV M = nL) (B : zx_B D cl A b ex ad0 nL s ρ h lv sk H locs ls kc tys ws lc) (hz : zx_xst M pc G h lv k sk i d = some z) (K : zx_KK p l e R s m args below meth c Q D cl A b ex ad0 nL ρ z) : ∃ (w : Int32) (kr : List Value), kc = .int w :: kr ∧ i < nL ∧ ∀ ls' : Array Slot, lv_has ls' nL ((i, Value.int w) :: lc.filter (fun q => !(q.1 == i) && !(q.1 + 1 == i && q.2.category == 2))) → W p l e R s m args below meth c H locs k.1 k.2 Q (F0 m (pc + d) ls' kr) := by
  unfold zx_xst at hz
  split at hz
  · rename_i e0 r
    obtain ⟨w, kr, h1, h2, B'⟩ := zx_topi B
    split at hz
    · rename_i hi
      refine ⟨w, kr, h1, by rw [← hM]; exact hi, fun ls' hl => ?_⟩
      exact zx_K1 K (zx_one hz) (zx_J_same hG (zx_B_lv B' (zx_st1_ok (v := .inl e0) (x := .int w) B.2.2.2.2.2.1 ⟨w, rfl, h2⟩) hl))
    · cases hz
  · cases hz
theorem zx_xlst_ok {i d : Nat} (hG : zx_ok ρ G) (hM : zx_mV M = nL) (B : zx_B D cl A b ex ad0 nL s ρ h lv sk H locs ls kc tys ws lc) (hz : zx_xlst M pc G h lv k sk i d = some z) (K : zx_KK p l e R s m args below meth c Q D cl A b ex ad0 nL ρ z) : ∃ (w : Int64) (kr : List Value), kc = .long w :: kr ∧ i + 1 < nL ∧ ∀ ls' : Array Slot, lv_has ls' nL ((i, Value.long w) :: lc.filter (fun q => !(q.1 == i) && (!(q.1 == i + 1) && !(q.1 + 1 == i && q.2.category == 2)))) → W p l e R s m args below meth c H locs k.1 k.2 Q (F0 m (pc + d) ls' kr) := by
  unfold zx_xlst at hz
  split at hz
  · rename_i r
    obtain ⟨w, kr, h1, B'⟩ := zx_topl B
    split at hz
    · rename_i hi
      refine ⟨w, kr, h1, by rw [← hM]; exact hi, fun ls' hl => ?_⟩
      exact zx_K1 K (zx_one hz) (zx_J_same hG (zx_B_lv B' (zx_st2_ok (v := zx_lg) (x := .long w) B.2.2.2.2.2.1 ⟨w, rfl⟩) hl))
    · cases hz
  · cases hz
theorem zx_xast_ok {i d : Nat} (hG : zx_ok ρ G) (hM : zx_mV M = nL) (B : zx_B D cl A b ex ad0 nL s ρ h lv sk H locs ls kc tys ws lc) (hz : zx_xast M pc G h lv k sk i d = some z) (K : zx_KK p l e R s m args below meth c Q D cl A b ex ad0 nL ρ z) : ∃ (w : Nat) (kr : List Value), kc = .ref w :: kr ∧ i < nL ∧ ∀ ls' : Array Slot, lv_has ls' nL ((i, Value.ref w) :: lc.filter (fun q => !(q.1 == i) && !(q.1 + 1 == i && q.2.category == 2))) → W p l e R s m args below meth c H locs k.1 k.2 Q (F0 m (pc + d) ls' kr) := by
  unfold zx_xast at hz
  split at hz
  · rename_i q0 r
    obtain ⟨x, kr, h1, h2, B'⟩ := zx_top1 B
    rcases h2 with ⟨h4, -⟩ | ⟨i0, a, h4, h5, h6⟩
    · cases h4
    · subst h6
      split at hz
      · rename_i hi
        refine ⟨a, kr, h1, by rw [← hM]; exact hi, fun ls' hl => ?_⟩
        exact zx_K1 K (zx_one hz) (zx_J_same hG (zx_B_lv B' (zx_st1_ok (v := .inr (.inl (q0, false))) (x := .ref a) B.2.2.2.2.2.1 (Or.inr ⟨i0, a, h4, h5, rfl⟩)) hl))
      · cases hz
  · cases hz
theorem zx_xinc_ok {i : Nat} {n : Int} (hG : zx_ok ρ G) (hM : zx_mV M = nL) (B : zx_B D cl A b ex ad0 nL s ρ h lv sk H locs ls kc tys ws lc) (hz : zx_xinc M pc G h lv k sk i n = some z) (K : zx_KK p l e R s m args below meth c Q D cl A b ex ad0 nL ρ z) : ∃ (w : Int32) (j : Nat), lc[j]? = some (i, .int w) ∧ i < nL ∧ ∀ ls' : Array Slot, lv_has ls' nL ((i, Value.int (w + Int32.ofInt n)) :: lc.filter (fun q => !(q.1 == i) && !(q.1 + 1 == i && q.2.category == 2))) → W p l e R s m args below meth c H locs k.1 k.2 Q (F0 m (pc + 3) ls' kc) := by
  unfold zx_xinc at hz
  split at hz
  · rename_i e0 he
    obtain ⟨x, j, h1, h2, w, h3, h4⟩ := zx_lk_B B he
    subst h3
    split at hz
    · rename_i hi
      simp only [Bool.and_eq_true, decide_eq_true_iff] at hi
      split at hz
      · rename_i r hr
        refine ⟨w, j, h1, by rw [← hM]; exact hi.1.1, fun ls' hl => ?_⟩
        have hn : (Int32.ofInt n).toInt = n := zx_ofI (by omega) (by omega)
        have hadd : zx_ev ρ (zx_add e0 ([], n)) = some (w.toInt + n) := zx_add_ev h4 (zx_ev_iff.mpr ⟨0, rfl, by simp⟩)
        obtain ⟨r2, g1, g2⟩ := zx_val_ok (b := b) (ex := ex) (ad := zx_as ws) hG hr hadd (w := w + Int32.ofInt n) (fun k1 k2 => by
          have h9 := zx_addI w (Int32.ofInt n) (by rw [hn]; exact k1) (by rw [hn]; exact k2)
          rw [h9, hn])
        have B2 := zx_B_up (r := r2) B
        exact zx_K1 K (zx_one hz) ⟨g1, tys, ws, _, zx_B_lv B2 (zx_st1_ok (v := r.2) (x := .int (w + Int32.ofInt n)) B2.2.2.2.2.2.1 g2) hl⟩
      · cases hz
    · cases hz
  · cases hz
theorem zx_xbin_ok {f : zx_L → zx_L → Option (zx_G × zx_V)} (B : zx_B D cl A b ex ad0 nL s ρ h lv sk H locs ls kc tys ws lc) (hz : zx_xbin pc h lv k sk f = some z) (K : zx_KK p l e R s m args below meth c Q D cl A b ex ad0 nL ρ z) : ∃ (x y : Int32) (kr : List Value) (e1 e2 : zx_L) (q : zx_G × zx_V), kc = .int y :: .int x :: kr ∧ zx_ev ρ e1 = some x.toInt ∧ zx_ev ρ e2 = some y.toInt ∧ f e1 e2 = some q ∧ ∀ v : Int32, zx_P b ex ρ (zx_as ws) q (.int v) → W p l e R s m args below meth c H locs k.1 k.2 Q (F0 m (pc + 1) ls (.int v :: kr)) := by
  unfold zx_xbin at hz
  split at hz
  · rename_i y x r
    obtain ⟨y', kr, h1, h2, B1⟩ := zx_topi B
    obtain ⟨x', kr', h3, h4, B2⟩ := zx_topi B1
    subst h3
    cases hf : f x y with
    | none => rw [hf] at hz; cases hz
    | some q =>
      rw [hf] at hz
      exact ⟨x', y', kr', x, y, q, h1, h4, h2, hf, fun v hv => zx_go_W B2 hz (fun q' hq' => by cases hq'; exact hv) K⟩
  · cases hz
theorem zx_xbr_ok {cn : ClassFile.Cond} {t : Nat} {d : zx_L} {v : Int} (hG : zx_ok ρ G) (B : zx_B D cl A b ex ad0 nL s ρ h lv sk H locs ls kc tys ws lc) (hv : zx_ev ρ d = some v) (hz : zx_xbr pc G h lv k cn t d sk = some z) (K : zx_KK p l e R s m args below meth c Q D cl A b ex ad0 nL ρ z) : (zx_holds cn v → W p l e R s m args below meth c H locs k.1 k.2 Q (F0 m t ls kc)) ∧ (¬ zx_holds cn v → W p l e R s m args below meth c H locs k.1 k.2 Q (F0 m (pc + 3) ls kc)) := by
  unfold zx_xbr at hz
  split at hz
  · rename_i q hq
    cases hz
    obtain ⟨h1, h2⟩ := zx_cmp_ok hG hv hq cn
    refine ⟨fun hh => ?_, fun hh => ?_⟩
    · obtain ⟨G', g1, g2⟩ := h1 hh
      exact zx_K1 K (List.mem_map.mpr ⟨_, g1, rfl⟩) (zx_J_same g2 B)
    · obtain ⟨G', g1, g2⟩ := h2 hh
      exact zx_K1 K (List.mem_map.mpr ⟨_, g1, rfl⟩) (zx_J_same g2 B)
  · cases hz
theorem zx_xif_ok {cn : ClassFile.Cond} {off : Int} (hG : zx_ok ρ G) (B : zx_B D cl A b ex ad0 nL s ρ h lv sk H locs ls kc tys ws lc) (hz : zx_xif pc G h lv k sk cn off = some z) (K : zx_KK p l e R s m args below meth c Q D cl A b ex ad0 nL ρ z) : ∃ (x : Int32) (kr : List Value) (t : Nat), kc = .int x :: kr ∧ (pc : Int) + off = (t : Int) ∧ (zx_holds cn x.toInt → W p l e R s m args below meth c H locs k.1 k.2 Q (F0 m t ls kr)) ∧ (¬ zx_holds cn x.toInt → W p l e R s m args below meth c H locs k.1 k.2 Q (F0 m (pc + 3) ls kr)) := by
  unfold zx_xif at hz
  split at hz
  · rename_i x r
    obtain ⟨x', kr, h1, h2, B1⟩ := zx_topi B
    split at hz
    · rename_i t ht
      exact ⟨x', kr, t, h1, zx_tg_ok ht, zx_xbr_ok hG B1 h2 hz K⟩
    · cases hz
  · cases hz
theorem zx_xicmp_ok {cn : ClassFile.Cond} {off : Int} (hG : zx_ok ρ G) (B : zx_B D cl A b ex ad0 nL s ρ h lv sk H locs ls kc tys ws lc) (hz : zx_xicmp pc G h lv k sk cn off = some z) (K : zx_KK p l e R s m args below meth c Q D cl A b ex ad0 nL ρ z) : ∃ (x y : Int32) (kr : List Value) (t : Nat), kc = .int y :: .int x :: kr ∧ (pc : Int) + off = (t : Int) ∧ (zx_holds cn (x.toInt - y.toInt) → W p l e R s m args below meth c H locs k.1 k.2 Q (F0 m t ls kr)) ∧ (¬ zx_holds cn (x.toInt - y.toInt) → W p l e R s m args below meth c H locs k.1 k.2 Q (F0 m (pc + 3) ls kr)) := by
  unfold zx_xicmp at hz
  split at hz
  · rename_i y x r
    obtain ⟨y', kr, h1, h2, B1⟩ := zx_topi B
    obtain ⟨x', kr', h3, h4, B2⟩ := zx_topi B1
    subst h3
    split at hz
    · rename_i t ht
      exact ⟨x', y', kr', t, h1, zx_tg_ok ht, zx_xbr_ok hG B2 (zx_sub_ev h4 h2) hz K⟩
    · cases hz
  · cases hz
theorem zx_xtab_ok {dflt lo hi : Int} {offs : Array Int} (hG : zx_ok ρ G) (B : zx_B D cl A b ex ad0 nL s ρ h lv sk H locs ls kc tys ws lc) (hz : zx_xtab pc G h lv k sk dflt lo hi offs = some z) (K : zx_KK p l e R s m args below meth c Q D cl A b ex ad0 nL ρ z) : ∃ (x : Int32) (kr : List Value) (t : Nat), kc = .int x :: kr ∧ W p l e R s m args below meth c H locs k.1 k.2 Q (F0 m t ls kr) ∧ (((x.toInt < lo ∨ hi < x.toInt) ∧ (pc : Int) + dflt = (t : Int)) ∨ (¬ x.toInt < lo ∧ ¬ hi < x.toInt ∧ ∃ off, offs[(x.toInt - lo).toNat]? = some off ∧ (pc : Int) + off = (t : Int))) := by
  unfold zx_xtab at hz
  split at hz
  · rename_i x r
    obtain ⟨x', kr, h1, h2, B1⟩ := zx_topi B
    split at hz
    · rename_i t0 ht0
      obtain ⟨G', g1, g2⟩ := zx_tcuts_ok hG (lo := lo) (hi := hi) h2 (zx_rng_ok hG ht0 h2)
      obtain ⟨y, h3, h4⟩ := zx_all_ok hz g1
      unfold zx_xtab1 at h3
      split at h3
      · rename_i t ht
        obtain ⟨q1, q2⟩ := zx_rng_ok g2 ht h2
        split at h3
        · rename_i ho
          split at h3
          · rename_i g hg
            exact ⟨x', kr, g, h1, zx_K1 K (h4 _ (zx_one h3)) (zx_J_same g2 B1), Or.inl ⟨by omega, zx_tg_ok hg⟩⟩
          · cases h3
        · rename_i ho
          split at h3
          · rename_i hc
            have hx : x'.toInt = t.1 := by omega
            split at h3
            · rename_i off hoff
              split at h3
              · rename_i g hg
                exact ⟨x', kr, g, h1, zx_K1 K (h4 _ (zx_one h3)) (zx_J_same g2 B1), Or.inr ⟨fun q => ho (Or.inl (by omega)), fun q => ho (Or.inr (by omega)), off, by rw [hx]; exact hoff, zx_tg_ok hg⟩⟩
              · cases h3
            · cases h3
          · cases h3
      · cases h3
    · cases hz
  · cases hz
end ZXW
end
