noncomputable section
/-! zg: what rows hold -/
def zg_row (ws : va_W) (i : Nat) (f : Nat → Int32) : Prop := ∃ (a : Nat) (c : ClassId) (n : Nat), ws[i]? = some (a, .inl (c, n, .inl f))
def zg_fld (ws : va_W) (q : Nat) (w : Int) : Prop := ∃ (a ci : Nat) (fs : List Value) (x : Int32), ws[0]? = some (a, .inr (ci, fs)) ∧ fs[q]? = some (.int x) ∧ x.toInt = w
theorem zg_row_eq {ws : va_W} {i a : Nat} {c : ClassId} {n : Nat} {f g : Nat → Int32} (h : zg_row ws i f) (h' : ws[i]? = some (a, .inl (c, n, .inl g))) : f = g := by
  obtain ⟨a1, c1, n1, h1⟩ := h
  rw [h1] at h'
  cases h'
  rfl
theorem zg_row_u {ws : va_W} {i : Nat} {f g : Nat → Int32} (h : zg_row ws i f) (h' : zg_row ws i g) : f = g := by
  obtain ⟨a1, c1, n1, h1⟩ := h'
  exact zg_row_eq h h1
theorem zg_fld_u {ws : va_W} {q : Nat} {w w' : Int} (h : zg_fld ws q w) (h' : zg_fld ws q w') : w = w' := by
  obtain ⟨a, ci, fs, x, h1, h2, h3⟩ := h
  obtain ⟨a', ci', fs', x', h4, h5, h6⟩ := h'
  rw [h1] at h4
  cases h4
  rw [h2] at h5
  cases h5
  rw [← h3, ← h6]
theorem zg_row_kp {ws ws' : va_W} {K : List Nat} {i : Nat} {f : Nat → Int32} (h : zx_KP (ws, K) ws') (hi : i ∈ K) (hr : zg_row ws i f) : zg_row ws' i f := by
  obtain ⟨a, c, n, h1⟩ := hr
  exact ⟨a, c, n, h.2 i hi _ h1⟩
theorem zg_row_ne {ws : va_W} {i j : Nat} {x : Nat × va_E} {f : Nat → Int32} (hij : j ≠ i) (h : zg_row ws i f) : zg_row (ws.set j x) i f := by
  obtain ⟨a, c, n, h1⟩ := h
  exact ⟨a, c, n, by rw [List.getElem?_set_ne hij]; exact h1⟩
theorem zg_fld_ne {ws : va_W} {j q : Nat} {x : Nat × va_E} {w : Int} (hj : j ≠ 0) (h : zg_fld ws q w) : zg_fld (ws.set j x) q w := by
  obtain ⟨a, ci, fs, y, h1, h2⟩ := h
  exact ⟨a, ci, fs, y, by rw [List.getElem?_set_ne hj]; exact h1, h2⟩
theorem zg_row_set {ws : va_W} {i a : Nat} {c : ClassId} {n : Nat} {y : Nat × va_E} {g : Nat → Int32} (h : ws[i]? = some y) : zg_row (ws.set i (a, .inl (c, n, .inl g))) i g := by
  refine ⟨a, c, n, ?_⟩
  rw [List.getElem?_set]
  simp only [if_true]
  rw [if_pos (List.getElem?_eq_some_iff.mp h).1]
/-- a field's expression -/
def zg_fe (h : List zx_C) (q : Nat) : Option zx_L := match h with
  | .inl o :: _ => (match zy_get o.2 q with
    | some (.inl (.inl e)) => some e
    | _ => none)
  | _ => none
section ZGP
variable {b : Nat} {ex : List Nat} {ρ r2 : List Int} {tys tys' : List (ClassId × FieldType)} {G G' : zx_G} {h h' : List zx_C} {ws ws' : va_W}
theorem zg_fe_ok (hh : zx_F2 (fun c q => zx_RC vwCl b ex ρ (zx_as ws) tys c q.2) h ws) {q : Nat} {e : zx_L} (he : zg_fe h q = some e) : ∃ w, zg_fld ws q w ∧ zx_ev ρ e = some w := by
  unfold zg_fe at he
  split at he
  case h_2 => cases he
  rename_i o r
  split at he
  case h_2 => cases he
  rename_i e' hs
  cases he
  rw [zy_get_eq] at hs
  rcases ws with _ | ⟨y, t⟩
  · exact hh.elim
  · obtain ⟨⟨fs, h1, h2⟩, -⟩ := hh
    obtain ⟨x, h3, h4⟩ := zx_F2_get h2 hs
    obtain ⟨w, h5, h6⟩ := (h4 : ∃ w : Int32, x = .int w ∧ zx_ev ρ e = some w.toInt)
    subst h5
    obtain ⟨ya, ye⟩ := y
    have h1 : ye = .inr (o.1, fs) := h1
    subst h1
    exact ⟨w.toInt, ⟨ya, o.1, fs, w, rfl, h3, rfl⟩, h6⟩
/-- an expression is a field and so much -/
def zg_xf (G : zx_G) (h : List zx_C) (e : zx_L) (q : Nat) (δ : Int) : Bool := match zg_fe h q with
  | some f => (match zv_rng G (zx_sub e f) with
    | some t => decide (t.1 = δ) && decide (t.2 = δ)
    | none => false)
  | none => false
theorem zg_xf_ok (hG : zx_ok ρ G) (hh : zx_F2 (fun c q => zx_RC vwCl b ex ρ (zx_as ws) tys c q.2) h ws) {e : zx_L} {q : Nat} {δ x w : Int} (hc : zg_xf G h e q δ = true) (hx : zg_fld ws q x) (he : zx_ev ρ e = some w) : w = x + δ := by
  unfold zg_xf at hc
  split at hc
  case h_2 => cases hc
  rename_i f hf
  split at hc
  case h_2 => cases hc
  rename_i t ht
  rw [Bool.and_eq_true, decide_eq_true_iff, decide_eq_true_iff] at hc
  obtain ⟨w', h1, h2⟩ := zg_fe_ok hh hf
  have h3 := zg_fld_u hx h1
  subst h3
  have h4 := zv_rng_ok hG ht (zx_sub_ev he h2)
  omega
/-- an expression is another one and so much -/
def zg_xo (G : zx_G) (e f : zx_L) (δ : Int) : Bool := match zv_rng G (zx_sub e f) with
  | some t => decide (t.1 = δ) && decide (t.2 = δ)
  | none => false
theorem zg_xo_ok (hG : zx_ok ρ G) {e f : zx_L} {δ w x : Int} (hc : zg_xo G e f δ = true) (he : zx_ev ρ e = some w) (hf : zx_ev ρ f = some x) : w = x + δ := by
  unfold zg_xo at hc
  split at hc
  case h_2 => cases hc
  rename_i t ht
  rw [Bool.and_eq_true, decide_eq_true_iff, decide_eq_true_iff] at hc
  have h4 := zv_rng_ok hG ht (zx_sub_ev he hf)
  omega
/-- bounds of an expression -/
def zg_xb (G : zx_G) (e : zx_L) (lo hi : Int) : Bool := match zv_rng G e with
  | some t => decide (lo ≤ t.1) && decide (t.2 ≤ hi)
  | none => false
theorem zg_xb_ok (hG : zx_ok ρ G) {e : zx_L} {lo hi w : Int} (hc : zg_xb G e lo hi = true) (he : zx_ev ρ e = some w) : lo ≤ w ∧ w ≤ hi := by
  unfold zg_xb at hc
  split at hc
  case h_2 => cases hc
  rename_i t ht
  rw [Bool.and_eq_true, decide_eq_true_iff, decide_eq_true_iff] at hc
  have h4 := zv_rng_ok hG ht he
  exact ⟨by omega, by omega⟩
/-- bounds of a field -/
def zg_fb (G : zx_G) (h : List zx_C) (q : Nat) (lo hi : Int) : Bool := match zg_fe h q with
  | some f => zg_xb G f lo hi
  | none => false
theorem zg_fb_ok (hG : zx_ok ρ G) (hh : zx_F2 (fun c q => zx_RC vwCl b ex ρ (zx_as ws) tys c q.2) h ws) {q : Nat} {lo hi : Int} (hc : zg_fb G h q lo hi = true) : ∃ w, zg_fld ws q w ∧ lo ≤ w ∧ w ≤ hi := by
  unfold zg_fb at hc
  split at hc
  case h_2 => cases hc
  rename_i f hf
  obtain ⟨w, h1, h2⟩ := zg_fe_ok hh hf
  exact ⟨w, h1, zg_xb_ok hG hc h2⟩
/-- a field behind a run: so much more -/
def zg_dl (G' : zx_G) (h h' : List zx_C) (q : Nat) (δ : Int) : Bool := match zg_fe h q with
  | some f => zg_xf G' h' f q (-δ)
  | none => false
theorem zg_dl_ok (hG' : zx_ok (ρ ++ r2) G') (hh : zx_F2 (fun c q => zx_RC vwCl b ex ρ (zx_as ws) tys c q.2) h ws) (hh' : zx_F2 (fun c q => zx_RC vwCl b ex (ρ ++ r2) (zx_as ws') tys' c q.2) h' ws') {q : Nat} {δ w : Int} (hc : zg_dl G' h h' q δ = true) (hw : zg_fld ws q w) : zg_fld ws' q (w + δ) := by
  unfold zg_dl at hc
  split at hc
  case h_2 => cases hc
  rename_i f hf
  obtain ⟨w1, h1, h2⟩ := zg_fe_ok hh hf
  have h3 := zg_fld_u hw h1
  subst h3
  have hc0 := hc
  unfold zg_xf at hc0
  split at hc0
  case h_2 => cases hc0
  rename_i f' hf'
  obtain ⟨w2, h4, h5⟩ := zg_fe_ok hh' hf'
  have h6 := zg_xf_ok hG' hh' hc h4 (zx_ev_app h2)
  have h7 : w + δ = w2 := by omega
  rw [h7]
  exact h4
/-- a row that is there -/
theorem zg_row_of (hh : zx_F2 (fun c q => zx_RC vwCl b ex ρ (zx_as ws) tys c q.2) h ws) {i n t : Nat} {sm : Bool} {l : List zx_S} (hc : h[i]? = some (.inr (.inl (t, n, sm, l)))) (ht : t < 3) : ∃ f, zg_row ws i f := by
  obtain ⟨⟨a, q⟩, h1, cB, t0, h2, h3⟩ := zx_F2_get hh hc
  rcases h3 with ⟨h3, g, h4, h5⟩ | ⟨h3, -⟩
  · have h4 : q = .inl (cB, n, .inl g) := h4
    subst h4
    exact ⟨g, a, cB, n, h1⟩
  · have h3 : 3 ≤ t := h3
    omega
theorem zg_row_rg (hh : zx_F2 (fun c q => zx_RC vwCl b ex ρ (zx_as ws) tys c q.2) h ws) {i n : Nat} {t : Int × Int} {l : List zx_S} (hc : h[i]? = some (.inr (.inl (0, n, true, .inr t :: l)))) {f : Nat → Int32} (hf : zg_row ws i f) {j : Nat} (hj : j < n) : t.1 ≤ (f j).toInt ∧ (f j).toInt ≤ t.2 := by
  obtain ⟨⟨a, q⟩, h1, cB, t0, h2, h3⟩ := zx_F2_get hh hc
  rcases h3 with ⟨h3, g, h4, h5⟩ | ⟨h3, -⟩
  · have h4 : q = .inl (cB, n, .inl g) := h4
    subst h4
    have e := zg_row_eq hf h1
    subst e
    obtain ⟨t', fs', k1, k2, k3⟩ := h5
    cases k1
    obtain ⟨w, k4, k5, k6⟩ := (k2 j hj : ∃ w : Int32, Value.int (f j) = .int w ∧ t.1 ≤ w.toInt ∧ w.toInt ≤ t.2)
    cases k4
    exact ⟨k5, k6⟩
  · have h3 : 3 ≤ 0 := h3
    omega
end ZGP
/-! counts -/
def zg_c1 (a v : Int) : Option Int := if v = 21 ∨ v = 22 then some (a + 1) else if v = 20 ∨ v = 23 then some a else none
def zg_cn (f : Nat → Int32) : Nat → Option Int
  | 0 => some 0
  | m + 1 => match zg_cn f m with
    | some a => zg_c1 a (f m).toInt
    | none => none
theorem zg_cn_s {f : Nat → Int32} {m : Nat} {A : Int} (h : zg_cn f (m + 1) = some A) : ∃ B, zg_cn f m = some B ∧ zg_c1 B (f m).toInt = some A := by
  rw [zg_cn] at h
  split at h
  · rename_i a ha
    exact ⟨a, ha, h⟩
  · cases h
theorem zg_cn_up {f : Nat → Int32} {m : Nat} {B : Int} (h : zg_cn f m = some B) : zg_cn f (m + 1) = zg_c1 B (f m).toInt := by
  rw [zg_cn, h]
theorem zg_c1_of {B v A : Int} (h : zg_c1 B v = some A) : ((v = 21 ∨ v = 22) ∧ A = B + 1) ∨ ((v = 20 ∨ v = 23) ∧ A = B) := by
  unfold zg_c1 at h
  split at h
  · cases h; exact Or.inl ⟨by assumption, rfl⟩
  · split at h
    · cases h; exact Or.inr ⟨by assumption, rfl⟩
    · cases h
theorem zg_cn_le {f : Nat → Int32} : ∀ {m : Nat} {A : Int}, zg_cn f m = some A → 0 ≤ A ∧ A ≤ m
  | 0, A, h => by cases h; exact ⟨Int.le_refl _, Int.le_refl _⟩
  | m + 1, A, h => by
    obtain ⟨B, h1, h2⟩ := zg_cn_s h
    have h3 := zg_cn_le h1
    rcases zg_c1_of h2 with ⟨-, h4⟩ | ⟨-, h4⟩ <;> omega
theorem zg_cn_eq {f g : Nat → Int32} : ∀ {m : Nat}, (∀ j, j < m → f j = g j) → zg_cn f m = zg_cn g m
  | 0, _ => rfl
  | m + 1, h => by rw [zg_cn, zg_cn, zg_cn_eq (m := m) (fun j hj => h j (by omega)), h m (by omega)]
theorem zg_dp_eq {f g : Nat → Int32} {lo lo' : Nat} : ∀ {m : Nat}, (∀ j, j < m → f (lo + j) = g (lo' + j)) → zx_dp f lo m = zx_dp g lo' m
  | 0, _ => rfl
  | m + 1, h => by rw [zx_dp, zx_dp, zg_dp_eq (m := m) (fun j hj => h j (by omega)), h m (by omega)]
theorem zg_dp_up {f : Nat → Int32} {lo m : Nat} {d : Int} (h : zx_dp f lo m = some d) : zx_dp f lo (m + 1) = zx_d1 d (f (lo + m)).toInt := by
  rw [zx_dp, h]
theorem zg_upd_ne {f : Nat → Int32} {i j : Nat} {v : Int32} (h : j ≠ i) : upd f i v j = f j := by simp [upd, h]
theorem zg_upd_eq {f : Nat → Int32} {i : Nat} {v : Int32} : upd f i v i = v := by simp [upd]
/-- a condition under way: so many steps and waiting words -/
def zg_I (F : Nat) (g : Nat → Int32) (e sm pm : Int) (fS fP : Nat → Int32) : Prop := ∃ (A : Int) (m n : Nat), sm = m ∧ pm = n ∧ F ≤ m ∧ zg_cn fP n = some A ∧ zx_dp fS (2000 + F) (m - F) = some (A + e) ∧ ∀ i, i < 2000 + F → fS i = g i
theorem zg_I_step {F : Nat} {g fS fP : Nat → Int32} {e sm pm : Int} {v : Int32} {d : Int} {A : Int} {m n : Nat} (h1 : sm = m) (h2 : pm = n) (h3 : F ≤ m) (h4 : zg_cn fP n = some A) (h5 : zx_dp fS (2000 + F) (m - F) = some d) (h6 : ∀ i, i < 2000 + F → fS i = g i) (h7 : zx_d1 d v.toInt = some (A + e)) : zg_I F g e (sm + 1) pm (upd fS (2000 + m) v) fP := by
  refine ⟨A, m + 1, n, by omega, h2, by omega, h4, ?_, fun i hi => ?_⟩
  · rw [show m + 1 - F = (m - F) + 1 by omega]
    have h8 : zx_dp (upd fS (2000 + m) v) (2000 + F) (m - F) = zx_dp fS (2000 + F) (m - F) := zg_dp_eq (fun j hj => zg_upd_ne (by omega))
    rw [zg_dp_up (h8.trans h5), show 2000 + F + (m - F) = 2000 + m by omega, zg_upd_eq]
    exact h7
  · rw [zg_upd_ne (by omega)]
    exact h6 i hi
/-- a plain word is written -/
theorem zg_I_word {F : Nat} {g fS fP : Nat → Int32} {sm pm : Int} {v : Int32} {m : Nat} (h : zg_I F g 0 sm pm fS fP) (hm : sm = m) (hv : 0 ≤ v.toInt ∧ v.toInt ≤ 9) (hp : pm ≤ 62) : zg_I F g 1 (sm + 1) pm (upd fS (2000 + m) v) fP := by
  obtain ⟨A, m', n, h1, h2, h3, h4, h5, h6⟩ := h
  have e : m' = m := by omega
  subst e
  refine zg_I_step h1 h2 h3 h4 h5 h6 ?_
  have h7 := zg_cn_le h4
  unfold zx_d1
  rw [if_neg (by omega), if_neg (by omega), if_pos ⟨hv.1, hv.2⟩, if_pos ⟨by omega, by omega⟩]
  congr 1
  omega
/-- what waits is written -/
theorem zg_I_pop {F : Nat} {g fS fP : Nat → Int32} {sm pm : Int} {v : Int32} {m n : Nat} (h : zg_I F g 1 sm pm fS fP) (hm : sm = m) (hn : pm = n + 1) (hv : v = fP n) (h23 : v.toInt ≠ 23) : zg_I F g 1 (sm + 1) (pm - 1) (upd fS (2000 + m) v) fP := by
  obtain ⟨A, m', n', h1, h2, h3, h4, h5, h6⟩ := h
  have e : m' = m := by omega
  subst e
  have e : n' = n + 1 := by omega
  subst e
  obtain ⟨B, k1, k2⟩ := zg_cn_s h4
  have k3 := zg_cn_le k1
  rw [← hv] at k2
  refine zg_I_step (A := B) (n := n) h1 (by omega) h3 k1 h5 h6 ?_
  unfold zx_d1
  rcases zg_c1_of k2 with ⟨k4, k5⟩ | ⟨k4, k5⟩
  · rw [if_neg (by omega), if_pos k4, if_pos (by omega)]
    congr 1
    omega
  · rw [if_pos (by omega), if_pos (by omega)]
    congr 1
    omega
/-- an open bracket goes -/
theorem zg_I_open {F : Nat} {g fS fP : Nat → Int32} {sm pm : Int} {n : Nat} (h : zg_I F g 1 sm pm fS fP) (hn : pm = n + 1) (hv : (fP n).toInt = 23) : zg_I F g 1 sm (pm - 1) fS fP := by
  obtain ⟨A, m', n', h1, h2, h3, h4, h5, h6⟩ := h
  have e : n' = n + 1 := by omega
  subst e
  obtain ⟨B, k1, k2⟩ := zg_cn_s h4
  rcases zg_c1_of k2 with ⟨k4, k5⟩ | ⟨k4, k5⟩
  · omega
  · rw [k5] at h5
    exact ⟨B, m', n, h1, by omega, h3, k1, h5, h6⟩
/-- a word that waits -/
theorem zg_I_push {F : Nat} {g fS fP : Nat → Int32} {e sm pm : Int} {v : Int32} {n : Nat} (h : zg_I F g e sm pm fS fP) (hn : pm = n) {e' : Int} (hv : ((v.toInt = 21 ∨ v.toInt = 22) ∧ e' = e - 1) ∨ ((v.toInt = 20 ∨ v.toInt = 23) ∧ e' = e)) : zg_I F g e' sm (pm + 1) fS (upd fP n v) := by
  obtain ⟨A, m', n', h1, h2, h3, h4, h5, h6⟩ := h
  have e9 : n' = n := by omega
  subst e9
  have k1 : zg_cn (upd fP n' v) n' = some A := by
    rw [← h4]
    exact zg_cn_eq (fun j hj => zg_upd_ne (by omega))
  have k2 := zg_cn_up k1
  rw [zg_upd_eq] at k2
  unfold zg_c1 at k2
  rcases hv with ⟨hv, he⟩ | ⟨hv, he⟩
  · rw [if_pos hv] at k2
    exact ⟨A + 1, m', n' + 1, h1, by omega, h3, k2, by rw [h5]; congr 1; omega, h6⟩
  · rw [if_neg (by omega), if_pos hv] at k2
    exact ⟨A, m', n' + 1, h1, by omega, h3, k2, by rw [h5]; congr 1; omega, h6⟩
end
