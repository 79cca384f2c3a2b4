noncomputable section
/-! zx: what is known of a state, and what of it stays -/
def zx_RS (b : Nat) (ex : List Nat) (ρ : List Int) (ad : List Nat) (t : zx_S) (x : Value) : Prop := match t with
  | .inl v => zx_R b ex ρ ad v x
  | .inr q => ∃ w : Int32, x = .int w ∧ q.1 ≤ w.toInt ∧ w.toInt ≤ q.2
theorem zx_RS_app {b : Nat} {ex : List Nat} {ρ r : List Int} {ad q : List Nat} {t : zx_S} {x : Value} (h : zx_RS b ex ρ ad t x) : zx_RS b ex (ρ ++ r) (ad ++ q) t x := by
  rcases t with v | k
  · exact zx_R_app (v := v) h
  · exact h
/-- rows of numbers that never change; the cells of the block that are kept; what is known of these -/
abbrev zx_Y : Type := List (Nat × List Int) × (List Nat × (va_W → Prop))
/-- what is known of single places of a row: place, value -/
def zx_fs : List zx_S → List (zx_L × zx_V)
  | .inl (.inl e) :: .inl v :: r => (e, v) :: zx_fs r
  | _ => []
def zx_FP (b : Nat) (ex : List Nat) (ρ : List Int) (ad : List Nat) (n : Nat) (el : Nat → Value) (q : zx_L × zx_V) : Prop := ∃ w : Int, zx_ev ρ q.1 = some w ∧ 0 ≤ w ∧ w < (n : Int) ∧ zx_R b ex ρ ad q.2 (el w.toNat)
theorem zx_FP_app {b : Nat} {ex : List Nat} {ρ r : List Int} {ad q : List Nat} {n : Nat} {el : Nat → Value} {f : zx_L × zx_V} (h : zx_FP b ex ρ ad n el f) : zx_FP b ex (ρ ++ r) (ad ++ q) n el f := by
  obtain ⟨w, h1, h2, h3, h4⟩ := h
  exact ⟨w, zx_ev_app h1, h2, h3, zx_R_app h4⟩
def zx_RA (b : Nat) (ex : List Nat) (ρ : List Int) (ad : List Nat) (n : Nat) (sm : Bool) (l : List zx_S) (el : Nat → Value) : Prop := match sm with
  | true => ∃ t fs, l = t :: fs ∧ (∀ j, j < n → zx_RS b ex ρ ad t (el j)) ∧ ∀ q ∈ zx_fs fs, zx_FP b ex ρ ad n el q
  | false => l.length = n ∧ ∀ (j : Nat) (t : zx_S), l[j]? = some t → zx_RS b ex ρ ad t (el j)
theorem zx_RA_app {b : Nat} {ex : List Nat} {ρ r : List Int} {ad q : List Nat} {n : Nat} {sm : Bool} {l : List zx_S} {el : Nat → Value} (h : zx_RA b ex ρ ad n sm l el) : zx_RA b ex (ρ ++ r) (ad ++ q) n sm l el := by
  cases sm with
  | true =>
    obtain ⟨t, fs, h1, h2, h3⟩ := h
    exact ⟨t, fs, h1, fun j hj => zx_RS_app (h2 j hj), fun q hq => zx_FP_app (h3 q hq)⟩
  | false => exact ⟨h.1, fun j t ht => zx_RS_app (h.2 j t ht)⟩
def zx_ty (cl : List vw_C) (t : Nat) : FieldType := match t with
  | 0 => .int
  | 1 => .byte
  | 2 => .boolean
  | k + 3 => .object ((cl[k]?.map (fun q => q.1)).getD "")
def zx_RC (cl : List vw_C) (b : Nat) (ex : List Nat) (ρ : List Int) (ad : List Nat) (tys : List (ClassId × FieldType)) (c : zx_C) (e : va_E) : Prop := match c with
  | .inl o => ∃ fs, e = .inr (o.1, fs) ∧ zx_F2 (zx_RS b ex ρ ad) o.2 fs
  | .inr (.inl q) => ∃ (cA : ClassId) (t0 : Nat), tys[t0]? = some (cA, zx_ty cl q.1) ∧
      ((q.1 < 3 ∧ ∃ f : Nat → Int32, e = .inl (cA, q.2.1, .inl f) ∧ zx_RA b ex ρ ad q.2.1 q.2.2.1 q.2.2.2 (fun j => .int (f j))) ∨
       (3 ≤ q.1 ∧ ∃ f : Nat → Option Nat, e = .inl (cA, q.2.1, .inr (.inr (.inr (.inr f)))) ∧ zx_RA b ex ρ ad q.2.1 q.2.2.1 q.2.2.2 (fun j => va_rf (f j))))
  | .inr (.inr n) => ∃ (cA : ClassId) (t0 : Nat) (f : Nat → Int64), tys[t0]? = some (cA, .long) ∧ e = .inl (cA, n, .inr (.inl f))
theorem zx_tys_app {tys q : List (ClassId × FieldType)} {k : Nat} {x : ClassId × FieldType} (h : tys[k]? = some x) : (tys ++ q)[k]? = some x := by
  rw [List.getElem?_append_left (List.getElem?_eq_some_iff.mp h).1]; exact h
theorem zx_RC_app {cl : List vw_C} {b : Nat} {ex : List Nat} {ρ r : List Int} {ad q : List Nat} {tys ty : List (ClassId × FieldType)} {c : zx_C} {e : va_E} (h : zx_RC cl b ex ρ ad tys c e) : zx_RC cl b ex (ρ ++ r) (ad ++ q) (tys ++ ty) c e := by
  rcases c with o | k | n
  · obtain ⟨fs, h1, h2⟩ := h
    exact ⟨fs, h1, zx_F2_imp (fun _ _ => zx_RS_app) h2⟩
  · obtain ⟨cA, t0, h1, h2⟩ := h
    refine ⟨cA, t0, zx_tys_app h1, ?_⟩
    rcases h2 with ⟨h2, f, h3, h4⟩ | ⟨h2, f, h3, h4⟩
    · exact Or.inl ⟨h2, f, h3, zx_RA_app h4⟩
    · exact Or.inr ⟨h2, f, h3, zx_RA_app h4⟩
  · obtain ⟨cA, t0, f, h1, h2⟩ := h
    exact ⟨cA, t0, f, zx_tys_app h1, h2⟩
/-- unknowns; cells; locals; stack; how many cells and slots are new -/
abbrev zx_T : Type := zx_G × (List zx_C × (List (Nat × zx_V) × (List zx_V × (Nat × Nat))))
abbrev zx_as (ws : va_W) : List Nat := ws.map Prod.fst
/-- the entry's cells, and which of them are kept -/
abbrev zx_A0 : Type := va_W × List Nat
def zx_KP (a : zx_A0) (ws : va_W) : Prop := (∃ xt, zx_as ws = zx_as a.1 ++ xt) ∧ ∀ i ∈ a.2, ∀ q, a.1[i]? = some q → ws[i]? = some q
theorem zx_KP_rf (ws : va_W) (K : List Nat) : zx_KP (ws, K) ws := ⟨⟨[], by rw [List.append_nil]⟩, fun _ _ _ h => h⟩
/-- all but the bounds -/
def zx_B (D : va_G) (cl : List vw_C) (A : Nat → Prop) (b : Nat) (ex : List Nat) (ad0 : zx_A0) (nL : Nat) (s : State) (ρ : List Int) (h : List zx_C) (lv : List (Nat × zx_V)) (sk : List zx_V) (H : Heap) (locs : List Loc) (ls : Array Slot) (kc : List Value) (tys : List (ClassId × FieldType)) (ws : va_W) (lc : List (Nat × Value)) : Prop :=
  va_K D cl tys s ∧ va_P D cl ws H ∧ va_D A ws ∧ (va_S A s.heap H locs ∧ zx_KP ad0 ws) ∧ zx_F2 (fun c q => zx_RC cl b ex ρ (zx_as ws) tys c q.2) h ws ∧ zx_F2 (fun x y => x.1 = y.1 ∧ zx_R b ex ρ (zx_as ws) x.2 y.2) lv lc ∧ lv_has ls nL lc ∧ zx_F2 (zx_R b ex ρ (zx_as ws)) sk kc
def zx_J (D : va_G) (cl : List vw_C) (A : Nat → Prop) (b : Nat) (ex : List Nat) (ad0 : zx_A0) (nL : Nat) (s : State) (ρ : List Int) (G : zx_G) (h : List zx_C) (lv : List (Nat × zx_V)) (sk : List zx_V) (H : Heap) (locs : List Loc) (ls : Array Slot) (kc : List Value) : Prop :=
  zx_ok ρ G ∧ ∃ (tys : List (ClassId × FieldType)) (ws : va_W) (lc : List (Nat × Value)), zx_B D cl A b ex ad0 nL s ρ h lv sk H locs ls kc tys ws lc
section ZXB
variable {D : va_G} {cl : List vw_C} {A : Nat → Prop} {b : Nat} {ex : List Nat} {ad0 : zx_A0} {nL : Nat} {s : State} {ρ : List Int} {G : zx_G} {h : List zx_C} {lv : List (Nat × zx_V)} {sk : List zx_V} {H : Heap} {locs : List Loc} {ls : Array Slot} {kc : List Value} {tys : List (ClassId × FieldType)} {ws : va_W} {lc : List (Nat × Value)}
theorem zx_RC_up {r : List Int} {ad : List Nat} {c : zx_C} {e : va_E} (h : zx_RC cl b ex ρ ad tys c e) : zx_RC cl b ex (ρ ++ r) ad tys c e := by
  have h1 := zx_RC_app (r := r) (q := []) (ty := []) h
  rwa [List.append_nil, List.append_nil] at h1
theorem zx_B_up {r : List Int} (B : zx_B D cl A b ex ad0 nL s ρ h lv sk H locs ls kc tys ws lc) : zx_B D cl A b ex ad0 nL s (ρ ++ r) h lv sk H locs ls kc tys ws lc := by
  obtain ⟨h1, h2, h3, h4, h5, h6, h7, h8⟩ := B
  exact ⟨h1, h2, h3, h4, zx_F2_imp (fun _ _ q => zx_RC_up q) h5, zx_F2_imp (fun _ _ q => ⟨q.1, zx_R_up q.2⟩) h6, h7, zx_F2_imp (fun _ _ q => zx_R_up q) h8⟩
theorem zx_B_sk {sk' : List zx_V} {kc' : List Value} (B : zx_B D cl A b ex ad0 nL s ρ h lv sk H locs ls kc tys ws lc) (h8 : zx_F2 (zx_R b ex ρ (zx_as ws)) sk' kc') : zx_B D cl A b ex ad0 nL s ρ h lv sk' H locs ls kc' tys ws lc := by
  obtain ⟨h1, h2, h3, h4, h5, h6, h7, -⟩ := B
  exact ⟨h1, h2, h3, h4, h5, h6, h7, h8⟩
/-- a result on the stack -/
theorem zx_J_res {r : zx_G × zx_V} {x : Value} (B : zx_B D cl A b ex ad0 nL s ρ h lv sk H locs ls kc tys ws lc) (hr : zx_P b ex ρ (zx_as ws) r x) : ∃ r2, zx_J D cl A b ex ad0 nL s (ρ ++ r2) r.1 h lv (r.2 :: sk) H locs ls (x :: kc) := by
  obtain ⟨r2, h1, h2⟩ := hr
  have B2 := zx_B_up (r := r2) B
  exact ⟨r2, h1, tys, ws, lc, zx_B_sk B2 ⟨h2, B2.2.2.2.2.2.2.2⟩⟩
theorem zx_J_same (hG : zx_ok ρ G) (B : zx_B D cl A b ex ad0 nL s ρ h lv sk H locs ls kc tys ws lc) : zx_J D cl A b ex ad0 nL s (ρ ++ []) G h lv sk H locs ls kc := by
  rw [List.append_nil]; exact ⟨hG, tys, ws, lc, B⟩
end ZXB
/-- a local -/
def zx_lk : List (Nat × zx_V) → Nat → Option zx_V
  | [], _ => none
  | q :: r, i => if q.1 = i then some q.2 else zx_lk r i
theorem zx_lk_ok {R : zx_V → Value → Prop} {i : Nat} {v : zx_V} : ∀ {lv : List (Nat × zx_V)} {lc : List (Nat × Value)}, zx_F2 (fun x y => x.1 = y.1 ∧ R x.2 y.2) lv lc → zx_lk lv i = some v → ∃ (x : Value) (k : Nat), lc[k]? = some (i, x) ∧ R v x
  | [], _, _, h => nomatch h
  | q :: r, [], h, _ => h.elim
  | q :: r, y :: m, h, hk => by
    rw [zx_lk] at hk
    by_cases hq : q.1 = i
    · rw [if_pos hq] at hk
      cases hk
      refine ⟨y.2, 0, ?_, h.1.2⟩
      show some y = _
      rw [← hq, h.1.1]
    · rw [if_neg hq] at hk
      obtain ⟨x, k, h1, h2⟩ := zx_lk_ok h.2 hk
      exact ⟨x, k + 1, by simpa using h1, h2⟩
/-- a local anew: of one word, of two -/
def zx_st1 (lv : List (Nat × zx_V)) (i : Nat) (v : zx_V) : List (Nat × zx_V) := (i, v) :: lv.filter (fun q => !(q.1 == i) && !(q.1 + 1 == i && zx_cat q.2 == 2))
def zx_st2 (lv : List (Nat × zx_V)) (i : Nat) (v : zx_V) : List (Nat × zx_V) := (i, v) :: lv.filter (fun q => !(q.1 == i) && (!(q.1 == i + 1) && !(q.1 + 1 == i && zx_cat q.2 == 2)))
theorem zx_st1_ok {b : Nat} {ex : List Nat} {ρ : List Int} {ad : List Nat} {lv : List (Nat × zx_V)} {lc : List (Nat × Value)} {i : Nat} {v : zx_V} {x : Value} (h : zx_F2 (fun x y => x.1 = y.1 ∧ zx_R b ex ρ ad x.2 y.2) lv lc) (hv : zx_R b ex ρ ad v x) : zx_F2 (fun x y => x.1 = y.1 ∧ zx_R b ex ρ ad x.2 y.2) (zx_st1 lv i v) ((i, x) :: lc.filter (fun q => !(q.1 == i) && !(q.1 + 1 == i && q.2.category == 2))) :=
  ⟨⟨rfl, hv⟩, zx_F2_filter (fun p q hpq => by rw [hpq.1, zx_R_cat hpq.2]) h⟩
theorem zx_st2_ok {b : Nat} {ex : List Nat} {ρ : List Int} {ad : List Nat} {lv : List (Nat × zx_V)} {lc : List (Nat × Value)} {i : Nat} {v : zx_V} {x : Value} (h : zx_F2 (fun x y => x.1 = y.1 ∧ zx_R b ex ρ ad x.2 y.2) lv lc) (hv : zx_R b ex ρ ad v x) : zx_F2 (fun x y => x.1 = y.1 ∧ zx_R b ex ρ ad x.2 y.2) (zx_st2 lv i v) ((i, x) :: lc.filter (fun q => !(q.1 == i) && (!(q.1 == i + 1) && !(q.1 + 1 == i && q.2.category == 2)))) :=
  ⟨⟨rfl, hv⟩, zx_F2_filter (fun p q hpq => by rw [hpq.1, zx_R_cat hpq.2]) h⟩
end
