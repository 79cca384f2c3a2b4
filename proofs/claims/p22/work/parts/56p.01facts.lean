noncomputable section
/-! zj: what a state tells of the cells, told plainly -/
def zj_kI (s : zx_S) : Bool := match s with
  | .inl (.inl _) => true
  | .inr _ => true
  | _ => false
def zj_kR (s : zx_S) : Bool := match s with
  | .inl (.inr (.inl (_, false))) => true
  | _ => false
def zj_kL (s : zx_S) : Bool := match s with
  | .inl (.inr (.inr true)) => true
  | _ => false
def zj_k1 (p : Nat) (s : zx_S) : Bool := match s with
  | .inl (.inr (.inl ([id], false))) => Nat.beq id (64 + p)
  | _ => false
/-- a slot of an object -/
def zj_qs (h : List zx_C) (i ci k : Nat) (P : zx_S → Bool) : Bool := match zy_get h i with
  | some (.inl (c, ss)) => Nat.beq c ci && (match zy_get ss k with
    | some s => P s
    | none => false)
  | _ => false
def zj_ql (h : List zx_C) (i ci n : Nat) : Bool := match zy_get h i with
  | some (.inl (c, ss)) => Nat.beq c ci && Nat.beq ss.length n
  | _ => false
def zj_qa (h : List zx_C) (i tg n : Nat) : Bool := match zy_get h i with
  | some (.inr (.inl (t, m, _))) => Nat.beq t tg && Nat.beq m n
  | _ => false
section ZKU
variable {b : Nat} {ex : List Nat} {ρ : List Int} {ad : List Nat} {tys : List (ClassId × FieldType)} {h : List zx_C} {ws : va_W}
theorem zj_kI_ok {s : zx_S} {x : Value} (hs : zj_kI s = true) (hx : zx_RS b ex ρ ad s x) : ∃ w : Int32, x = .int w := by
  rcases s with (e | (r | c)) | q
  · obtain ⟨w, h1, -⟩ := hx
    exact ⟨w, h1⟩
  · cases hs
  · cases hs
  · obtain ⟨w, h1, -⟩ := hx
    exact ⟨w, h1⟩
theorem zj_kR_ok {s : zx_S} {x : Value} (hs : zj_kR s = true) (hx : zx_RS b ex ρ ad s x) : ∃ a : Nat, x = .ref a := by
  rcases s with (e | (⟨r, n⟩ | c)) | q
  · cases hs
  · cases n
    · rcases hx with ⟨h1, -⟩ | ⟨i, a, -, -, h1⟩
      · cases h1
      · exact ⟨a, h1⟩
    · cases hs
  · cases hs
  · cases hs
theorem zj_kL_ok {s : zx_S} {x : Value} (hs : zj_kL s = true) (hx : zx_RS b ex ρ ad s x) : ∃ w : Int64, x = .long w := by
  rcases s with (e | (r | c)) | q
  · cases hs
  · cases hs
  · cases c
    · cases hs
    · exact hx
  · cases hs
theorem zj_k1_ok {s : zx_S} {x : Value} {p : Nat} (hs : zj_k1 p s = true) (hx : zx_RS b ex ρ ad s x) : ∃ a : Nat, ad[p]? = some a ∧ x = .ref a := by
  rcases s with (e | (⟨r, n⟩ | c)) | q
  · cases hs
  · cases n
    · rcases r with _ | ⟨id, _ | ⟨y, z⟩⟩
      · cases hs
      · have hs := Nat.eq_of_beq_eq_true hs
        rcases hx with ⟨h1, -⟩ | ⟨i, a, h2, h3, h1⟩
        · cases h1
        · have h2 : i = id := List.mem_singleton.mp h2
          rw [h2, hs, zx_ad, if_neg (by omega)] at h3
          exact ⟨a, by rw [← h3]; congr 1; omega, h1⟩
      · cases hs
    · rcases r with _ | ⟨id, _ | ⟨y, z⟩⟩ <;> cases hs
  · cases hs
  · cases hs
theorem zj_o (hh : zx_F2 (fun c q => zx_RC vwCl b ex ρ (zx_as ws) tys c q.2) h ws) {i ci n : Nat} (hq : zj_ql h i ci n = true) : ∃ (a : Nat) (fs : List Value), ws[i]? = some (a, .inr (ci, fs)) ∧ fs.length = n := by
  unfold zj_ql at hq
  split at hq
  case h_2 => cases hq
  rename_i c ss hi
  rw [zy_get_eq] at hi
  rw [Bool.and_eq_true] at hq
  have e1 := Nat.eq_of_beq_eq_true hq.1
  have e2 := Nat.eq_of_beq_eq_true hq.2
  obtain ⟨⟨a, e⟩, h1, fs, h2, h3⟩ := zx_F2_get hh hi
  have h2 : e = .inr (c, fs) := h2
  subst h2
  subst e1
  exact ⟨a, fs, h1, (zx_F2_len h3).symm.trans e2⟩
theorem zj_s (hh : zx_F2 (fun c q => zx_RC vwCl b ex ρ (zx_as ws) tys c q.2) h ws) {i ci k a : Nat} {fs : List Value} {P : zx_S → Bool} (hq : zj_qs h i ci k P = true) (ho : ws[i]? = some (a, .inr (ci, fs))) : ∃ (s : zx_S) (x : Value), P s = true ∧ fs[k]? = some x ∧ zx_RS b ex ρ (zx_as ws) s x := by
  unfold zj_qs at hq
  split at hq
  case h_2 => cases hq
  rename_i c ss hi
  rw [zy_get_eq] at hi
  rw [Bool.and_eq_true] at hq
  obtain ⟨hc, hq⟩ := hq
  split at hq
  case h_2 => cases hq
  rename_i s hs
  rw [zy_get_eq] at hs
  obtain ⟨⟨a', e⟩, h1, fs', h2, h3⟩ := zx_F2_get hh hi
  have h2 : e = .inr (c, fs') := h2
  subst h2
  rw [h1] at ho
  cases ho
  obtain ⟨x, h4, h5⟩ := zx_F2_get h3 hs
  exact ⟨s, x, hq, h4, h5⟩
theorem zj_sI (hh : zx_F2 (fun c q => zx_RC vwCl b ex ρ (zx_as ws) tys c q.2) h ws) {i ci k a : Nat} {fs : List Value} (hq : zj_qs h i ci k zj_kI = true) (ho : ws[i]? = some (a, .inr (ci, fs))) : ∃ w : Int32, fs[k]? = some (.int w) := by
  obtain ⟨s, x, h1, h2, h3⟩ := zj_s hh hq ho
  obtain ⟨w, rfl⟩ := zj_kI_ok h1 h3
  exact ⟨w, h2⟩
theorem zj_sR (hh : zx_F2 (fun c q => zx_RC vwCl b ex ρ (zx_as ws) tys c q.2) h ws) {i ci k a : Nat} {fs : List Value} (hq : zj_qs h i ci k zj_kR = true) (ho : ws[i]? = some (a, .inr (ci, fs))) : ∃ w : Nat, fs[k]? = some (.ref w) := by
  obtain ⟨s, x, h1, h2, h3⟩ := zj_s hh hq ho
  obtain ⟨w, rfl⟩ := zj_kR_ok h1 h3
  exact ⟨w, h2⟩
theorem zj_sL (hh : zx_F2 (fun c q => zx_RC vwCl b ex ρ (zx_as ws) tys c q.2) h ws) {i ci k a : Nat} {fs : List Value} (hq : zj_qs h i ci k zj_kL = true) (ho : ws[i]? = some (a, .inr (ci, fs))) : ∃ w : Int64, fs[k]? = some (.long w) := by
  obtain ⟨s, x, h1, h2, h3⟩ := zj_s hh hq ho
  obtain ⟨w, rfl⟩ := zj_kL_ok h1 h3
  exact ⟨w, h2⟩
theorem zj_adw {p a : Nat} (h1 : (zx_as ws)[p]? = some a) : ∃ e, ws[p]? = some (a, e) := by
  rw [zx_as, List.getElem?_map] at h1
  cases h2 : ws[p]? with
  | none => rw [h2] at h1; cases h1
  | some q =>
    rw [h2] at h1
    cases h1
    exact ⟨q.2, rfl⟩
theorem zj_s1 (hh : zx_F2 (fun c q => zx_RC vwCl b ex ρ (zx_as ws) tys c q.2) h ws) {i ci k a p : Nat} {fs : List Value} (hq : zj_qs h i ci k (zj_k1 p) = true) (ho : ws[i]? = some (a, .inr (ci, fs))) : ∃ (w : Nat) (e : va_E), fs[k]? = some (.ref w) ∧ ws[p]? = some (w, e) := by
  obtain ⟨s, x, h1, h2, h3⟩ := zj_s hh hq ho
  obtain ⟨w, h4, rfl⟩ := zj_k1_ok h1 h3
  obtain ⟨e, h5⟩ := zj_adw h4
  exact ⟨w, e, h2, h5⟩
theorem zj_r (hh : zx_F2 (fun c q => zx_RC vwCl b ex ρ (zx_as ws) tys c q.2) h ws) {i tg n a : Nat} {e : va_E} (hq : zj_qa h i tg n = true) (ht : tg < 3) (ho : ws[i]? = some (a, e)) : ∃ f, zj_row tys ws i a n (zx_ty vwCl tg) f := by
  unfold zj_qa at hq
  split at hq
  case h_2 => cases hq
  rename_i t m sl hi
  rw [zy_get_eq] at hi
  rw [Bool.and_eq_true] at hq
  have e1 := Nat.eq_of_beq_eq_true hq.1
  have e2 := Nat.eq_of_beq_eq_true hq.2
  subst e1
  subst e2
  obtain ⟨⟨a', e'⟩, h1, cA, t0, h2, h3⟩ := zx_F2_get hh hi
  rw [h1] at ho
  cases ho
  rcases h3 with ⟨-, f, h4, -⟩ | ⟨h4, -⟩
  · have h4 : e = .inl (cA, m, .inl f) := h4
    subst h4
    exact ⟨f, cA, t0, h1, h2⟩
  · have h4 : 3 ≤ t := h4
    omega
theorem zj_rq (hh : zx_F2 (fun c q => zx_RC vwCl b ex ρ (zx_as ws) tys c q.2) h ws) {i k n a : Nat} {e : va_E} {r : vw_C} (hr : vwCl[k]? = some r) (hq : zj_qa h i (k + 3) n = true) (hnn : ∀ c, h[i]? = some c → match c with
    | .inr (.inl (_, _, true, t :: _)) => zj_kR t = true
    | .inr (.inl (_, _, false, l)) => l.all zj_kR = true
    | _ => False) (ho : ws[i]? = some (a, e)) : ∃ (cA : ClassId) (t0 : Nat) (f : Nat → Option Nat), ws[i]? = some (a, .inl (cA, n, .inr (.inr (.inr (.inr f))))) ∧ tys[t0]? = some (cA, .object r.1) ∧ ∀ j, j < n → ∃ x, f j = some x := by
  unfold zj_qa at hq
  split at hq
  case h_2 => cases hq
  rename_i t m sl hi
  rw [zy_get_eq] at hi
  rw [Bool.and_eq_true] at hq
  have e1 := Nat.eq_of_beq_eq_true hq.1
  have e2 := Nat.eq_of_beq_eq_true hq.2
  subst e1
  subst e2
  have h9 := hnn _ hi
  obtain ⟨sm, l⟩ := sl
  obtain ⟨⟨a', e'⟩, h1, cA, t0, h2, h3⟩ := zx_F2_get hh hi
  rw [h1] at ho
  cases ho
  have h2 : tys[t0]? = some (cA, .object ((vwCl[k]?.map (fun q => q.1)).getD "")) := h2
  rw [hr] at h2
  rcases h3 with ⟨h4, -⟩ | ⟨-, f, h4, h5⟩
  · have h4 : k + 3 < 3 := h4
    omega
  · have h4 : e = .inl (cA, m, .inr (.inr (.inr (.inr f)))) := h4
    subst h4
    refine ⟨cA, t0, f, h1, h2, fun j hj => ?_⟩
    have h6 : ∃ x : Nat, va_rf (f j) = .ref x := by
      cases sm with
      | true =>
        obtain ⟨t, fs, g1, g2, -⟩ := h5
        have g1 : l = t :: fs := g1
        subst g1
        exact zj_kR_ok h9 (g2 j hj)
      | false =>
        obtain ⟨g1, g2⟩ := h5
        have g1 : l.length = m := g1
        have g3 : l[j]? = some l[j] := List.getElem?_eq_getElem (by omega)
        exact zj_kR_ok (List.all_eq_true.mp h9 _ (List.getElem_mem _)) (g2 j _ g3)
    obtain ⟨x, h7⟩ := h6
    cases h8 : f j with
    | none => rw [h8] at h7; cases h7
    | some y => exact ⟨y, rfl⟩
end ZKU
end
