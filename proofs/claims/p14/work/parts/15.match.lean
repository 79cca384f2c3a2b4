noncomputable section
/-! zw: a state with unknowns that says less than another one -/
/-- unknowns for unknowns -/
def zw_sb (σ : List zx_L) : List (Nat × Int) → Option zx_L
  | [] => some ([], 0)
  | q :: r => match zy_get σ q.1, zw_sb σ r with
    | some e, some f => some (zx_add (zx_scale q.2 e) f)
    | some _, none => none
    | none, _ => none
def zw_sub (σ : List zx_L) (e : zx_L) : Option zx_L := match zw_sb σ e.1 with
  | some f => some (f.1, f.2 + e.2)
  | none => none
def zw_sig (ρ : List Int) (σ : List zx_L) (ρ0 : List Int) : Prop := zx_F2 (fun e v => zx_ev ρ e = some v) σ ρ0
theorem zw_sb_ok {ρ ρ0 : List Int} {σ : List zx_L} (hσ : zw_sig ρ σ ρ0) : ∀ {l : List (Nat × Int)} {f : zx_L}, zw_sb σ l = some f → ∃ w, zx_evl ρ0 l = some w ∧ zx_ev ρ f = some w
  | [], f, h => by cases h; exact ⟨0, rfl, rfl⟩
  | q :: r, f, h => by
    rw [zw_sb] at h
    split at h
    · rename_i e g he hg
      rw [zy_get_eq] at he
      cases h
      obtain ⟨v, h1, h2⟩ := zx_F2_get hσ he
      obtain ⟨w, h3, h4⟩ := zw_sb_ok hσ hg
      exact ⟨q.2 * v + w, zx_evl_cons.mpr ⟨v, w, h1, h3, rfl⟩, zx_add_ev (zx_scale_ev q.2 h2) h4⟩
    · cases h
    · cases h
theorem zw_sub_ok {ρ ρ0 : List Int} {σ : List zx_L} (hσ : zw_sig ρ σ ρ0) {e f : zx_L} (h : zw_sub σ e = some f) : ∃ w, zx_ev ρ0 e = some w ∧ zx_ev ρ f = some w := by
  rw [zw_sub] at h
  split at h
  · rename_i g hg
    cases h
    obtain ⟨w, h1, h2⟩ := zw_sb_ok hσ hg
    obtain ⟨u, h3, h4⟩ := zx_ev_iff.mp h2
    exact ⟨w + e.2, zx_ev_iff.mpr ⟨w, h1, rfl⟩, zx_ev_iff.mpr ⟨u, h3, by show w + e.2 = u + (g.2 + e.2); omega⟩⟩
  · cases h
theorem zx_rg_some {ρ : List Int} {G : zx_G} (hG : zx_ok ρ G) : ∀ {l : List (Nat × Int)} {t : Int × Int}, zx_rg G l = some t → ∃ w, zx_evl ρ l = some w
  | [], t, _ => ⟨0, rfl⟩
  | q :: r, t, h => by
    rw [zx_rg] at h
    split at h
    · rename_i b t' hb ht
      obtain ⟨w, hw⟩ := zx_rg_some hG ht
      rw [zy_get_eq] at hb
      have hl : q.1 < ρ.length := by rw [hG.1]; exact (List.getElem?_eq_some_iff.mp hb).1
      exact ⟨_, zx_evl_cons.mpr ⟨ρ[q.1], w, List.getElem?_eq_getElem hl, hw, rfl⟩⟩
    · cases h
    · cases h
theorem zx_rng_some {ρ : List Int} {G : zx_G} (hG : zx_ok ρ G) {e : zx_L} {t : Int × Int} (h : zx_rng G e = some t) : ∃ w, zx_ev ρ e = some w := by
  rw [zx_rng] at h
  split at h
  · rename_i t' ht
    obtain ⟨w, hw⟩ := zx_rg_some hG ht
    exact ⟨w + e.2, zx_ev_iff.mpr ⟨w, hw, rfl⟩⟩
  · cases h
/-- each unknown keeps its bounds -/
def zw_r2 (G : zx_G) (e : zx_L) : Option (Int × Int) := match zx_rng G e with
  | none => none
  | some _ => zv_rng G e
theorem zw_r2_ok {ρ : List Int} {G : zx_G} (hG : zx_ok ρ G) {e : zx_L} {t : Int × Int} (h : zw_r2 G e = some t) : ∃ w, zx_ev ρ e = some w ∧ t.1 ≤ w ∧ w ≤ t.2 := by
  rw [zw_r2] at h
  split at h
  · cases h
  · rename_i t0 ht0
    obtain ⟨w, hw⟩ := zx_rng_some hG ht0
    exact ⟨w, hw, zv_rng_ok hG h hw⟩
def zw_bd1 (G : zx_G) : List zx_L → zx_G → Bool
  | [], [] => true
  | e :: r, q :: t => (match zw_r2 G e with
    | some b => decide (q.1.1 ≤ b.1) && decide (b.2 ≤ q.1.2)
    | none => false) && zw_bd1 G r t
  | [], _ :: _ => false
  | _ :: _, [] => false
/-- and its equation -/
def zw_bdq (G : zx_G) (σ : List zx_L) : List zx_L → zx_G → Bool
  | e :: r, q :: t => (match q.2 with
    | none => true
    | some e0 => (match zw_sub σ e0 with
      | some f => (match zv_rng G (zx_sub f e) with
        | some u => decide (u.1 = 0) && decide (u.2 = 0)
        | none => false)
      | none => false)) && zw_bdq G σ r t
  | _, _ => true
def zw_bd (G : zx_G) (σ : List zx_L) (G0 : zx_G) : Bool := zw_bd1 G σ G0 && zw_bdq G σ σ G0
theorem zw_bd1_ok {ρ : List Int} {G : zx_G} (hG : zx_ok ρ G) : ∀ {σ : List zx_L} {G0 : zx_G}, zw_bd1 G σ G0 = true → ∃ ρ0, zw_sig ρ σ ρ0 ∧ ρ0.length = G0.length ∧ ∀ (i : Nat) (v : Int) (b : zx_b), ρ0[i]? = some v → G0[i]? = some b → b.1.1 ≤ v ∧ v ≤ b.1.2
  | [], [], _ => ⟨[], trivial, rfl, fun i v b h => by simp at h⟩
  | e :: r, q :: t, h => by
    rw [zw_bd1, Bool.and_eq_true] at h
    obtain ⟨h1, h2⟩ := h
    obtain ⟨ρ0, g1, g2, g3⟩ := zw_bd1_ok hG h2
    split at h1
    · rename_i b hb
      rw [Bool.and_eq_true, decide_eq_true_iff, decide_eq_true_iff] at h1
      obtain ⟨w, hw, k1, k2⟩ := zw_r2_ok hG hb
      refine ⟨w :: ρ0, ⟨hw, g1⟩, by rw [List.length_cons, List.length_cons, g2], fun i v c hv hc => ?_⟩
      cases i with
      | zero => cases hv; cases hc; exact ⟨by omega, by omega⟩
      | succ i => exact g3 i v c (by simpa using hv) (by simpa using hc)
    · cases h1
  | [], _ :: _, h => nomatch h
  | _ :: _, [], h => nomatch h
theorem zw_bdq_get {G : zx_G} {σ : List zx_L} : ∀ {l : List zx_L} {G0 : zx_G}, zw_bdq G σ l G0 = true → ∀ (i : Nat) (e : zx_L) (q : zx_b), l[i]? = some e → G0[i]? = some q → ∀ e0, q.2 = some e0 → ∃ f u, zw_sub σ e0 = some f ∧ zv_rng G (zx_sub f e) = some u ∧ u.1 = 0 ∧ u.2 = 0
  | [], _, _, i, e, q, h, _, _, _ => by simp at h
  | _ :: _, [], _, i, e, q, _, h, _, _ => by simp at h
  | e1 :: r, q1 :: t, h, i, e, q, he, hq, e0, h0 => by
    rw [zw_bdq, Bool.and_eq_true] at h
    cases i with
    | zero =>
      cases he; cases hq
      have h1 := h.1
      rw [h0] at h1
      dsimp only at h1
      split at h1
      · rename_i f hf
        split at h1
        · rename_i u hu
          rw [Bool.and_eq_true, decide_eq_true_iff, decide_eq_true_iff] at h1
          exact ⟨f, u, hf, hu, h1⟩
        · cases h1
      · cases h1
    | succ i => exact zw_bdq_get h.2 i e q (by simpa using he) (by simpa using hq) e0 h0
theorem zw_bd_ok {ρ : List Int} {G : zx_G} (hG : zx_ok ρ G) {σ : List zx_L} {G0 : zx_G} (h : zw_bd G σ G0 = true) : ∃ ρ0, zw_sig ρ σ ρ0 ∧ zx_ok ρ0 G0 := by
  rw [zw_bd, Bool.and_eq_true] at h
  obtain ⟨ρ0, g1, g2, g3⟩ := zw_bd1_ok hG h.1
  refine ⟨ρ0, g1, g2, fun i v b hv hb => ⟨(g3 i v b hv hb).1, (g3 i v b hv hb).2, fun e0 h0 => ?_⟩⟩
  have hl : i < σ.length := by rw [zx_F2_len g1]; exact (List.getElem?_eq_some_iff.mp hv).1
  obtain ⟨v', hv', hev⟩ := zx_F2_get g1 (List.getElem?_eq_getElem hl)
  rw [hv] at hv'
  cases hv'
  obtain ⟨f, u, k1, k2, k3, k4⟩ := zw_bdq_get h.2 i _ b (List.getElem?_eq_getElem hl) hb e0 h0
  obtain ⟨w, j1, j2⟩ := zw_sub_ok g1 k1
  have := zv_rng_ok hG k2 (zx_sub_ev j2 hev)
  rw [j1]; congr 1; omega
def zw_has (l : List Nat) (i : Nat) : Bool := match l with
  | [] => false
  | q :: r => Nat.beq q i || zw_has r i
theorem zw_has_ok {i : Nat} : ∀ {l : List Nat}, zw_has l i = true → i ∈ l
  | [], h => nomatch h
  | q :: r, h => by
    rw [zw_has, Bool.or_eq_true] at h
    rcases h with h | h
    · rw [← Nat.eq_of_beq_eq_true h]; exact List.mem_cons_self
    · exact List.mem_cons_of_mem _ (zw_has_ok h)
/-- each of the source's cells is one of the target's -/
def zw_I (n o : Nat) (ids0 : List Nat) : List Nat → Bool
  | [] => true
  | j :: r => (if j < 64 then zw_has ids0 j else Nat.ble (64 + o) j && (Nat.blt j (64 + o + n) && zw_has ids0 (j - o))) && zw_I n o ids0 r
def zw_V (n o : Nat) (σ : List zx_L) (G : zx_G) (v0 v : zx_V) : Bool := match v0, v with
  | .inl e0, .inl e => (match zw_sub σ e0 with
    | some f => (match zv_rng G (zx_sub f e) with
      | some t => decide (t.1 = 0) && decide (t.2 = 0)
      | none => false)
    | none => false)
  | .inr (.inl r0), .inr (.inl r) => (r0.2 || !r.2) && zw_I n o r0.1 r.1
  | .inr (.inr true), .inr (.inr true) => true
  | .inr (.inr false), .inr (.inr false) => true
  | _, _ => false
def zw_S (n o : Nat) (σ : List zx_L) (G : zx_G) (t0 t : zx_S) : Bool := match t0, t with
  | .inl v0, .inl v => zw_V n o σ G v0 v
  | .inr q0, .inr q => decide (q0.1 ≤ q.1) && decide (q.2 ≤ q0.2)
  | .inr q0, .inl (.inl e) => (match zv_rng G e with
    | some t => decide (q0.1 ≤ t.1) && decide (t.2 ≤ q0.2)
    | none => false)
  | _, _ => false
def zw_L (n o : Nat) (σ : List zx_L) (G : zx_G) : List zx_S → List zx_S → Bool
  | [], [] => true
  | a :: r, b :: t => zw_S n o σ G a b && zw_L n o σ G r t
  | [], _ :: _ => false
  | _ :: _, [] => false
/-- all of the target's by one of the source's; one of the target's for all of the source's -/
def zw_L1 (n o : Nat) (σ : List zx_L) (G : zx_G) (b : zx_S) : List zx_S → Bool
  | [] => true
  | a :: r => zw_S n o σ G a b && zw_L1 n o σ G b r
def zw_L2 (n o : Nat) (σ : List zx_L) (G : zx_G) (a : zx_S) : List zx_S → Bool
  | [] => true
  | b :: r => zw_S n o σ G a b && zw_L2 n o σ G a r
/-- what the target says of single places, the source says too -/
def zw_f1 (n o : Nat) (σ : List zx_L) (G : zx_G) (q0 : zx_L × zx_V) : List (zx_L × zx_V) → Bool
  | [] => false
  | q :: r => (zw_V n o σ G (.inl q0.1) (.inl q.1) && zw_V n o σ G q0.2 q.2) || zw_f1 n o σ G q0 r
def zw_fs (n o : Nat) (σ : List zx_L) (G : zx_G) (l : List (zx_L × zx_V)) : List (zx_L × zx_V) → Bool
  | [] => true
  | q0 :: r => zw_f1 n o σ G q0 l && zw_fs n o σ G l r
def zw_A1 (n o : Nat) (σ : List zx_L) (G : zx_G) (l0 l : List zx_S) : Bool := match l0, l with
  | a :: r0, b :: r => zw_S n o σ G a b && zw_fs n o σ G (zx_fs r) (zx_fs r0)
  | _, _ => false
def zw_A (n o : Nat) (σ : List zx_L) (G : zx_G) (N : Nat) (sm0 sm : Bool) (l0 l : List zx_S) : Bool := match sm0, sm with
  | true, true => zw_A1 n o σ G l0 l
  | false, false => zw_L n o σ G l0 l
  | true, false => (match l0 with
    | [a] => zw_L2 n o σ G a l
    | _ => false)
  | false, true => (match l with
    | [b] => Nat.beq l0.length N && zw_L1 n o σ G b l0
    | _ => false)
def zw_C (n o : Nat) (σ : List zx_L) (G : zx_G) (c0 c : zx_C) : Bool := match c0, c with
  | .inl a, .inl b => Nat.beq a.1 b.1 && zw_L n o σ G a.2 b.2
  | .inr (.inl a), .inr (.inl b) => Nat.beq a.1 b.1 && (Nat.beq a.2.1 b.2.1 && zw_A n o σ G a.2.1 a.2.2.1 b.2.2.1 a.2.2.2 b.2.2.2)
  | .inr (.inr a), .inr (.inr b) => Nat.beq a b
  | _, _ => false
/-- the same cell, no unknowns in it -/
def zw_nq : List Nat → List Nat → Bool
  | [], [] => true
  | a :: r, b :: t => Nat.beq a b && zw_nq r t
  | [], _ :: _ => false
  | _ :: _, [] => false
theorem zw_nq_ok : ∀ {l m : List Nat}, zw_nq l m = true → l = m
  | [], [], _ => rfl
  | a :: r, b :: t, h => by
    rw [zw_nq, Bool.and_eq_true] at h
    rw [Nat.eq_of_beq_eq_true h.1, zw_nq_ok h.2]
  | [], _ :: _, h => nomatch h
  | _ :: _, [], h => nomatch h
def zw_lt (n : Nat) : List Nat → Bool
  | [] => true
  | a :: r => Nat.blt a (64 + n) && zw_lt n r
def zw_qS (n : Nat) (a b : zx_S) : Bool := match a, b with
  | .inr p, .inr q => decide (p.1 = q.1) && decide (p.2 = q.2)
  | .inl (.inr (.inl p)), .inl (.inr (.inl q)) => zw_nq p.1 q.1 && ((p.2 || !q.2) && zw_lt n p.1)
  | .inl (.inr (.inr true)), .inl (.inr (.inr true)) => true
  | _, _ => false
def zw_qL (n : Nat) : List zx_S → List zx_S → Bool
  | [], [] => true
  | a :: r, b :: t => zw_qS n a b && zw_qL n r t
  | [], _ :: _ => false
  | _ :: _, [] => false
def zw_qC (n : Nat) (a b : zx_C) : Bool := match a, b with
  | .inl a, .inl b => Nat.beq a.1 b.1 && zw_qL n a.2 b.2
  | .inr (.inl (t, k, true, [x])), .inr (.inl (t', k', true, [x'])) => Nat.beq t t' && (Nat.beq k k' && zw_qS n x x')
  | .inr (.inr a), .inr (.inr b) => Nat.beq a b
  | _, _ => false
theorem zw_lt_I {n : Nat} : ∀ {r l : List Nat}, zw_lt n r = true → (∀ j ∈ r, j ∈ l) → zw_I n 0 l r = true
  | [], _, _, _ => rfl
  | j :: r, l, h, hl => by
    rw [zw_lt, Bool.and_eq_true, Nat.blt_eq] at h
    have hj : ∀ {l : List Nat}, j ∈ l → zw_has l j = true := by
      intro l
      induction l with
      | nil => intro h; cases h
      | cons a t ih =>
        intro h
        rw [zw_has, Bool.or_eq_true]
        rcases List.mem_cons.mp h with e | e
        · subst e; exact Or.inl (Nat.beq_refl j)
        · exact Or.inr (ih e)
    rw [zw_I, Bool.and_eq_true]
    refine ⟨?_, zw_lt_I h.2 (fun x hx => hl x (List.mem_cons_of_mem _ hx))⟩
    have h2 := hj (hl j List.mem_cons_self)
    split
    · exact h2
    · simp only [Bool.and_eq_true]
      refine ⟨Nat.ble_eq_true_of_le (by omega), ?_, by rw [Nat.sub_zero]; exact h2⟩
      rw [Nat.blt_eq]; omega
theorem zw_qS_ok {n : Nat} {σ : List zx_L} {G : zx_G} {a b : zx_S} (h : zw_qS n a b = true) : zw_S n 0 σ G a b = true := by
  unfold zw_qS at h
  split at h
  · rename_i p q
    rw [Bool.and_eq_true, decide_eq_true_iff, decide_eq_true_iff] at h
    show (decide (p.1 ≤ q.1) && decide (q.2 ≤ p.2)) = true
    rw [Bool.and_eq_true, decide_eq_true_iff, decide_eq_true_iff]
    omega
  · rename_i p q
    simp only [Bool.and_eq_true] at h
    obtain ⟨h1, h2, h3⟩ := h
    have h1 := zw_nq_ok h1
    show ((p.2 || !q.2) && zw_I n 0 p.1 q.1) = true
    rw [Bool.and_eq_true]
    exact ⟨h2, zw_lt_I (by rw [← h1]; exact h3) (fun j hj => by rw [h1]; exact hj)⟩
  · rfl
  · cases h
theorem zw_qL_ok {n : Nat} {σ : List zx_L} {G : zx_G} : ∀ {l m : List zx_S}, zw_qL n l m = true → zw_L n 0 σ G l m = true
  | [], [], _ => rfl
  | a :: r, b :: t, h => by
    rw [zw_qL, Bool.and_eq_true] at h
    rw [zw_L, Bool.and_eq_true]
    exact ⟨zw_qS_ok h.1, zw_qL_ok h.2⟩
  | [], _ :: _, h => nomatch h
  | _ :: _, [], h => nomatch h
theorem zw_qC_ok {n : Nat} {σ : List zx_L} {G : zx_G} {a b : zx_C} (h : zw_qC n a b = true) : zw_C n 0 σ G a b = true := by
  unfold zw_qC at h
  split at h
  · rename_i a b
    rw [Bool.and_eq_true] at h
    show (Nat.beq a.1 b.1 && zw_L n 0 σ G a.2 b.2) = true
    rw [Bool.and_eq_true]
    exact ⟨h.1, zw_qL_ok h.2⟩
  · rename_i t k x t' k' x'
    simp only [Bool.and_eq_true] at h
    show (Nat.beq t t' && (Nat.beq k k' && (zw_S n 0 σ G x x' && true))) = true
    simp only [Bool.and_eq_true]
    exact ⟨h.1, h.2.1, zw_qS_ok h.2.2, trivial⟩
  · exact h
  · cases h
def zw_q (n o : Nat) (σ : List zx_L) (G : zx_G) (a b : zx_C) : Bool := match o with
  | 0 => zw_qC n a b || zw_C n 0 σ G a b
  | o + 1 => zw_C n (o + 1) σ G a b
theorem zw_q_ok {n o : Nat} {σ : List zx_L} {G : zx_G} {a b : zx_C} (h : zw_q n o σ G a b = true) : zw_C n o σ G a b = true := by
  unfold zw_q at h
  split at h
  · rw [Bool.or_eq_true] at h
    rcases h with h | h
    · exact zw_qC_ok h
    · exact h
  · exact h
def zw_H (n o : Nat) (σ : List zx_L) (G : zx_G) : List zx_C → List zx_C → Bool
  | [], _ => true
  | a :: r, b :: t => zw_q n o σ G a b && zw_H n o σ G r t
  | _ :: _, [] => false
def zw_Vs (n o : Nat) (σ : List zx_L) (G : zx_G) : List zx_V → List zx_V → Bool
  | [], [] => true
  | a :: r, b :: t => zw_V n o σ G a b && zw_Vs n o σ G r t
  | [], _ :: _ => false
  | _ :: _, [] => false
def zw_lv (n o : Nat) (σ : List zx_L) (G : zx_G) (lv : List (Nat × zx_V)) : List (Nat × zx_V) → Bool
  | [] => true
  | q :: r => (match zx_lk lv q.1 with
    | some v => zw_V n o σ G q.2 v
    | none => false) && zw_lv n o σ G lv r
section ZWM
variable {cl : List vw_C} {b : Nat} {ex : List Nat} {ρ ρ0 : List Int} {ad ad0 : List Nat} {G : zx_G} {n o : Nat} {σ : List zx_L}
theorem zw_I_ok {ids0 : List Nat} : ∀ {r : List Nat} {j : Nat}, zw_I n o ids0 r = true → j ∈ r → ∃ i ∈ ids0, (i < 64 ∧ i = j) ∨ (¬ i < 64 ∧ i < 64 + n ∧ i + o = j)
  | [], _, _, hj => nomatch hj
  | k :: r, j, h, hj => by
    rw [zw_I, Bool.and_eq_true] at h
    rcases List.mem_cons.mp hj with e | e
    · subst e
      have h1 := h.1
      split at h1
      · exact ⟨j, zw_has_ok h1, Or.inl ⟨by assumption, rfl⟩⟩
      · simp only [Bool.and_eq_true] at h1
        obtain ⟨h1, h2, h3⟩ := h1
        have h1 := Nat.le_of_ble_eq_true h1
        rw [Nat.blt_eq] at h2
        exact ⟨j - o, zw_has_ok h3, Or.inr ⟨by omega, by omega, by omega⟩⟩
    · exact zw_I_ok h.2 e
theorem zw_V_ok (hG : zx_ok ρ G) (hσ : zw_sig ρ σ ρ0) (had : ∀ i, i < n → ad0[i]? = ad[i + o]?) {v0 v : zx_V} {x : Value} (h : zw_V n o σ G v0 v = true) (hx : zx_R b ex ρ ad v x) : zx_R b ex ρ0 ad0 v0 x := by
  unfold zw_V at h
  split at h
  · rename_i e0 e
    split at h
    · rename_i f hf
      split at h
      · rename_i t ht
        rw [Bool.and_eq_true, decide_eq_true_iff, decide_eq_true_iff] at h
        obtain ⟨w, rfl, hw⟩ := hx
        obtain ⟨u, h1, h2⟩ := zw_sub_ok hσ hf
        obtain ⟨k1, k2⟩ := zv_rng_ok hG ht (zx_sub_ev h2 hw)
        exact ⟨w, rfl, by rw [h1]; congr 1; omega⟩
      · cases h
    · cases h
  · rename_i r0 r
    rw [Bool.and_eq_true] at h
    rcases hx with ⟨h1, rfl⟩ | ⟨j, a, h1, h2, rfl⟩
    · refine Or.inl ⟨?_, rfl⟩
      have h3 := h.1
      rw [h1] at h3
      simpa using h3
    · obtain ⟨i, g1, g2⟩ := zw_I_ok h.2 h1
      refine Or.inr ⟨i, a, g1, ?_, rfl⟩
      rw [zx_ad] at h2 ⊢
      rcases g2 with ⟨g2, rfl⟩ | ⟨g2, g3, rfl⟩
      · rw [if_pos g2] at h2 ⊢; exact h2
      · rw [if_neg (by omega)] at h2
        rw [if_neg g2, had _ (by omega)]
        rw [← h2]; congr 1; omega
  · exact hx
  · exact hx
  · cases h
theorem zw_S_ok (hG : zx_ok ρ G) (hσ : zw_sig ρ σ ρ0) (had : ∀ i, i < n → ad0[i]? = ad[i + o]?) {t0 t : zx_S} {x : Value} (h : zw_S n o σ G t0 t = true) (hx : zx_RS b ex ρ ad t x) : zx_RS b ex ρ0 ad0 t0 x := by
  unfold zw_S at h
  split at h
  · exact zw_V_ok hG hσ had h hx
  · rw [Bool.and_eq_true, decide_eq_true_iff, decide_eq_true_iff] at h
    obtain ⟨w, h1, h2, h3⟩ := hx
    exact ⟨w, h1, by omega, by omega⟩
  · split at h
    · rename_i e t ht
      rw [Bool.and_eq_true, decide_eq_true_iff, decide_eq_true_iff] at h
      obtain ⟨w, h1, h2⟩ := hx
      obtain ⟨k1, k2⟩ := zv_rng_ok hG ht h2
      exact ⟨w, h1, by omega, by omega⟩
    · cases h
  · cases h
theorem zw_L_F2 (hG : zx_ok ρ G) (hσ : zw_sig ρ σ ρ0) (had : ∀ i, i < n → ad0[i]? = ad[i + o]?) : ∀ {l0 l : List zx_S} {xs : List Value}, zw_L n o σ G l0 l = true → zx_F2 (zx_RS b ex ρ ad) l xs → zx_F2 (zx_RS b ex ρ0 ad0) l0 xs
  | [], [], [], _, _ => trivial
  | [], [], _ :: _, _, h => h.elim
  | a :: r, c :: t, x :: m, h, hx => by
    rw [zw_L, Bool.and_eq_true] at h
    exact ⟨zw_S_ok hG hσ had h.1 hx.1, zw_L_F2 hG hσ had h.2 hx.2⟩
  | _ :: _, _ :: _, [], _, hx => hx.elim
  | [], _ :: _, _, h, _ => nomatch h
  | _ :: _, [], _, h, _ => nomatch h
theorem zw_L_get : ∀ {l0 l : List zx_S}, zw_L n o σ G l0 l = true → l0.length = l.length ∧ ∀ (j : Nat) (t0 : zx_S), l0[j]? = some t0 → ∃ t, l[j]? = some t ∧ zw_S n o σ G t0 t = true
  | [], [], _ => ⟨rfl, fun j t0 h => by simp at h⟩
  | a :: r, c :: t, h => by
    rw [zw_L, Bool.and_eq_true] at h
    obtain ⟨g1, g2⟩ := zw_L_get h.2
    refine ⟨by rw [List.length_cons, List.length_cons, g1], fun j t0 hj => ?_⟩
    cases j with
    | zero => cases hj; exact ⟨c, rfl, h.1⟩
    | succ j => obtain ⟨t', k1, k2⟩ := g2 j t0 (by simpa using hj); exact ⟨t', by simpa using k1, k2⟩
  | [], _ :: _, h => nomatch h
  | _ :: _, [], h => nomatch h
theorem zw_L1_get {c : zx_S} : ∀ {l : List zx_S}, zw_L1 n o σ G c l = true → ∀ (j : Nat) (t : zx_S), l[j]? = some t → zw_S n o σ G t c = true
  | [], _, j, t, h => by simp at h
  | a :: r, h, j, t, hj => by
    rw [zw_L1, Bool.and_eq_true] at h
    cases j with
    | zero => cases hj; exact h.1
    | succ j => exact zw_L1_get h.2 j t (by simpa using hj)
theorem zw_L2_get {c : zx_S} : ∀ {l : List zx_S}, zw_L2 n o σ G c l = true → ∀ (j : Nat) (t : zx_S), l[j]? = some t → zw_S n o σ G c t = true
  | [], _, j, t, h => by simp at h
  | a :: r, h, j, t, hj => by
    rw [zw_L2, Bool.and_eq_true] at h
    cases j with
    | zero => cases hj; exact h.1
    | succ j => exact zw_L2_get h.2 j t (by simpa using hj)
theorem zw_f1_ok (hG : zx_ok ρ G) (hσ : zw_sig ρ σ ρ0) (had : ∀ i, i < n → ad0[i]? = ad[i + o]?) {N : Nat} {el : Nat → Value} {q0 : zx_L × zx_V} : ∀ {l : List (zx_L × zx_V)}, zw_f1 n o σ G q0 l = true → (∀ q ∈ l, zx_FP b ex ρ ad N el q) → zx_FP b ex ρ0 ad0 N el q0
  | [], h, _ => nomatch h
  | q :: r, h, hx => by
    rw [zw_f1, Bool.or_eq_true, Bool.and_eq_true] at h
    rcases h with ⟨h1, h2⟩ | h
    · obtain ⟨w, k1, k2, k3, k4⟩ := hx q List.mem_cons_self
      refine ⟨w, ?_, k2, k3, zw_V_ok hG hσ had h2 k4⟩
      have h1 : (match zw_sub σ q0.1 with
        | some f => (match zv_rng G (zx_sub f q.1) with
          | some t => decide (t.1 = 0) && decide (t.2 = 0)
          | none => false)
        | none => false) = true := h1
      split at h1
      · rename_i f hf
        split at h1
        · rename_i t ht
          rw [Bool.and_eq_true, decide_eq_true_iff, decide_eq_true_iff] at h1
          obtain ⟨u, g1, g2⟩ := zw_sub_ok hσ hf
          have := zv_rng_ok hG ht (zx_sub_ev g2 k1)
          have hu : u = w := by omega
          rw [g1, hu]
        · cases h1
      · cases h1
    · exact zw_f1_ok hG hσ had h (fun x hxr => hx x (List.mem_cons_of_mem _ hxr))
theorem zw_fs_ok (hG : zx_ok ρ G) (hσ : zw_sig ρ σ ρ0) (had : ∀ i, i < n → ad0[i]? = ad[i + o]?) {N : Nat} {el : Nat → Value} {l : List (zx_L × zx_V)} (hx : ∀ q ∈ l, zx_FP b ex ρ ad N el q) : ∀ {l0 : List (zx_L × zx_V)}, zw_fs n o σ G l l0 = true → ∀ q ∈ l0, zx_FP b ex ρ0 ad0 N el q
  | [], _, q, hq => nomatch hq
  | q0 :: r, h, q, hq => by
    rw [zw_fs, Bool.and_eq_true] at h
    rcases List.mem_cons.mp hq with e | e
    · subst e; exact zw_f1_ok hG hσ had h.1 hx
    · exact zw_fs_ok hG hσ had hx h.2 q e
theorem zw_A_RA (hG : zx_ok ρ G) (hσ : zw_sig ρ σ ρ0) (had : ∀ i, i < n → ad0[i]? = ad[i + o]?) {N : Nat} {sm0 sm : Bool} {l0 l : List zx_S} {el : Nat → Value} (h : zw_A n o σ G N sm0 sm l0 l = true) (hx : zx_RA b ex ρ ad N sm l el) : zx_RA b ex ρ0 ad0 N sm0 l0 el := by
  unfold zw_A at h
  split at h
  · obtain ⟨t, fs, rfl, h2, h3⟩ := hx
    cases l0 with
    | nil => cases h
    | cons a r =>
      have h : (zw_S n o σ G a t && zw_fs n o σ G (zx_fs fs) (zx_fs r)) = true := h
      rw [Bool.and_eq_true] at h
      exact ⟨a, r, rfl, fun j hj => zw_S_ok hG hσ had h.1 (h2 j hj), zw_fs_ok hG hσ had h3 h.2⟩
  · obtain ⟨g1, g2⟩ := zw_L_get h
    refine ⟨by rw [g1]; exact hx.1, fun j t0 hj => ?_⟩
    obtain ⟨t, k1, k2⟩ := g2 j t0 hj
    exact zw_S_ok hG hσ had k2 (hx.2 j t k1)
  · split at h
    · rename_i a
      refine ⟨a, [], rfl, fun j hj => ?_, fun q hq => nomatch hq⟩
      have hl : j < l.length := by rw [hx.1]; exact hj
      exact zw_S_ok hG hσ had (zw_L2_get h j _ (List.getElem?_eq_getElem hl)) (hx.2 j _ (List.getElem?_eq_getElem hl))
    · cases h
  · split at h
    · rename_i c
      rw [Bool.and_eq_true] at h
      obtain ⟨t, fs, h1, h2, h3⟩ := hx
      cases h1
      have hl := Nat.eq_of_beq_eq_true h.1
      refine ⟨hl, fun j t0 hj => ?_⟩
      exact zw_S_ok hG hσ had (zw_L1_get h.2 j t0 hj) (h2 j (by rw [← hl]; exact (List.getElem?_eq_some_iff.mp hj).1))
    · cases h
theorem zw_C_ok (hG : zx_ok ρ G) (hσ : zw_sig ρ σ ρ0) (had : ∀ i, i < n → ad0[i]? = ad[i + o]?) {tys : List (ClassId × FieldType)} {c0 c : zx_C} {e : va_E} (h : zw_C n o σ G c0 c = true) (hx : zx_RC cl b ex ρ ad tys c e) : zx_RC cl b ex ρ0 ad0 tys c0 e := by
  unfold zw_C at h
  split at h
  · rename_i a c'
    rw [Bool.and_eq_true] at h
    obtain ⟨fs, h1, h2⟩ := hx
    exact ⟨fs, by rw [h1, Nat.eq_of_beq_eq_true h.1], zw_L_F2 hG hσ had h.2 h2⟩
  · rename_i a c'
    obtain ⟨a1, a2, a3, a4⟩ := a
    obtain ⟨c1, c2, c3, c4⟩ := c'
    simp only [Bool.and_eq_true] at h
    obtain ⟨h1, h2, h4⟩ := h
    cases Nat.eq_of_beq_eq_true h1
    cases Nat.eq_of_beq_eq_true h2
    obtain ⟨cA, t0, g1, g2⟩ := hx
    refine ⟨cA, t0, g1, ?_⟩
    rcases g2 with ⟨g2, f, g3, g4⟩ | ⟨g2, f, g3, g4⟩
    · exact Or.inl ⟨g2, f, g3, zw_A_RA hG hσ had h4 g4⟩
    · exact Or.inr ⟨g2, f, g3, zw_A_RA hG hσ had h4 g4⟩
  · cases Nat.eq_of_beq_eq_true h
    exact hx
  · cases h
theorem zw_H_ok (hG : zx_ok ρ G) (hσ : zw_sig ρ σ ρ0) (had : ∀ i, i < n → ad0[i]? = ad[i + o]?) {tys : List (ClassId × FieldType)} : ∀ {h0 h : List zx_C} {ws : va_W}, zw_H n o σ G h0 h = true → zx_F2 (fun c q => zx_RC cl b ex ρ ad tys c q.2) h ws → zx_F2 (fun c q => zx_RC cl b ex ρ0 ad0 tys c q.2) h0 (ws.take h0.length)
  | [], _, _, _, _ => by rw [List.length_nil, List.take_zero]; trivial
  | a :: r, c :: t, q :: m, h, hx => by
    rw [zw_H, Bool.and_eq_true] at h
    exact ⟨zw_C_ok hG hσ had (zw_q_ok h.1) hx.1, zw_H_ok hG hσ had h.2 hx.2⟩
  | _ :: _, _ :: _, [], _, hx => hx.elim
  | _ :: _, [], _, h, _ => nomatch h
theorem zw_Vs_ok (hG : zx_ok ρ G) (hσ : zw_sig ρ σ ρ0) (had : ∀ i, i < n → ad0[i]? = ad[i + o]?) : ∀ {l0 l : List zx_V} {xs : List Value}, zw_Vs n o σ G l0 l = true → zx_F2 (zx_R b ex ρ ad) l xs → zx_F2 (zx_R b ex ρ0 ad0) l0 xs
  | [], [], [], _, _ => trivial
  | [], [], _ :: _, _, h => h.elim
  | a :: r, c :: t, x :: m, h, hx => by
    rw [zw_Vs, Bool.and_eq_true] at h
    exact ⟨zw_V_ok hG hσ had h.1 hx.1, zw_Vs_ok hG hσ had h.2 hx.2⟩
  | _ :: _, _ :: _, [], _, hx => hx.elim
  | [], _ :: _, _, h, _ => nomatch h
  | _ :: _, [], _, h, _ => nomatch h
theorem zw_lv_ok (hG : zx_ok ρ G) (hσ : zw_sig ρ σ ρ0) (had : ∀ i, i < n → ad0[i]? = ad[i + o]?) {lv : List (Nat × zx_V)} {lc : List (Nat × Value)} (hl : zx_F2 (fun x y => x.1 = y.1 ∧ zx_R b ex ρ ad x.2 y.2) lv lc) : ∀ {lv0 : List (Nat × zx_V)}, zw_lv n o σ G lv lv0 = true → ∃ lc0, zx_F2 (fun x y => x.1 = y.1 ∧ zx_R b ex ρ0 ad0 x.2 y.2) lv0 lc0 ∧ ∀ q ∈ lc0, q ∈ lc
  | [], _ => ⟨[], trivial, fun _ h => nomatch h⟩
  | q :: r, h => by
    rw [zw_lv, Bool.and_eq_true] at h
    obtain ⟨lc0, g1, g2⟩ := zw_lv_ok hG hσ had hl h.2
    have h1 := h.1
    split at h1
    · rename_i v hv
      obtain ⟨x, k, k1, k2⟩ := zx_lk_ok (R := zx_R b ex ρ ad) hl hv
      refine ⟨(q.1, x) :: lc0, ⟨⟨rfl, zw_V_ok hG hσ had h1 k2⟩, g1⟩, fun z hz => ?_⟩
      rcases List.mem_cons.mp hz with e | e
      · subst e; exact List.mem_of_getElem? k1
      · exact g2 z e
    · cases h1
end ZWM
end
