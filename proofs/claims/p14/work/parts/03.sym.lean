/-! zx: runs of the code over numbers that are only known between two bounds. Here: numbers, lists -/
abbrev zx_L : Type := List (Nat × Int) × Int
abbrev zx_V : Type := zx_L ⊕ ((List Nat × Bool) ⊕ Bool)
abbrev zx_S : Type := zx_V ⊕ (Int × Int)
abbrev zx_C : Type := (Nat × List zx_S) ⊕ ((Nat × Nat × Bool × List zx_S) ⊕ Nat)
/-- what is known of an unknown: its bounds; what it equals -/
abbrev zx_b : Type := (Int × Int) × Option zx_L
abbrev zx_G : Type := List zx_b
noncomputable def zy_get {α : Type} (l : List α) : Nat → Option α := List.rec (motive := fun _ => Nat → Option α) (fun _ => none) (fun a _ ih n => Nat.rec (motive := fun _ => Option α) (some a) (fun m _ => ih m) n) l
theorem zy_get_eq {α : Type} : ∀ (l : List α) (n : Nat), zy_get l n = l[n]?
  | [], n => by simp [zy_get]
  | a :: t, 0 => rfl
  | a :: t, n + 1 => by
    rw [List.getElem?_cons_succ]
    exact zy_get_eq t n
noncomputable def zy_set {α : Type} (l : List α) : Nat → α → List α := List.rec (motive := fun _ => Nat → α → List α) (fun _ _ => []) (fun b t ih n a => Nat.rec (motive := fun _ => List α) (a :: t) (fun m _ => b :: ih m a) n) l
theorem zy_set_eq {α : Type} : ∀ (l : List α) (n : Nat) (a : α), zy_set l n a = l.set n a
  | [], n, a => rfl
  | b :: t, 0, a => rfl
  | b :: t, n + 1, a => by
    rw [List.set_cons_succ]
    show b :: zy_set t n a = _
    rw [zy_set_eq t n a]
def zx_F2 {α β : Type} (R : α → β → Prop) : List α → List β → Prop
  | [], [] => True
  | a :: l, b :: m => R a b ∧ zx_F2 R l m
  | [], _ :: _ => False
  | _ :: _, [] => False
theorem zx_F2_len {α β : Type} {R : α → β → Prop} : ∀ {l : List α} {m : List β}, zx_F2 R l m → l.length = m.length
  | [], [], _ => rfl
  | _ :: _, _ :: _, h => by rw [List.length_cons, List.length_cons, zx_F2_len h.2]
  | [], _ :: _, h => h.elim
  | _ :: _, [], h => h.elim
theorem zx_F2_get {α β : Type} {R : α → β → Prop} : ∀ {l : List α} {m : List β} {i : Nat} {a : α}, zx_F2 R l m → l[i]? = some a → ∃ b, m[i]? = some b ∧ R a b
  | a0 :: l, b0 :: m, 0, a, h, hi => ⟨b0, rfl, by cases hi; exact h.1⟩
  | a0 :: l, b0 :: m, i + 1, a, h, hi => by
    obtain ⟨b, h1, h2⟩ := zx_F2_get (i := i) h.2 (by simpa using hi)
    exact ⟨b, by simpa using h1, h2⟩
  | [], _, _, _, _, hi => by simp at hi
  | _ :: _, [], _, _, h, _ => h.elim
theorem zx_F2_set {α β : Type} {R : α → β → Prop} {a : α} {b : β} (hab : R a b) : ∀ {l : List α} {m : List β} (i : Nat), zx_F2 R l m → zx_F2 R (l.set i a) (m.set i b)
  | [], [], _, _ => trivial
  | _ :: _, _ :: _, 0, h => ⟨hab, h.2⟩
  | _ :: _, _ :: _, i + 1, h => ⟨h.1, zx_F2_set hab i h.2⟩
  | [], _ :: _, _, h => h.elim
  | _ :: _, [], _, h => h.elim
theorem zx_F2_imp {α β : Type} {R S : α → β → Prop} (hRS : ∀ a b, R a b → S a b) : ∀ {l : List α} {m : List β}, zx_F2 R l m → zx_F2 S l m
  | [], [], _ => trivial
  | _ :: _, _ :: _, h => ⟨hRS _ _ h.1, zx_F2_imp hRS h.2⟩
  | [], _ :: _, h => h.elim
  | _ :: _, [], h => h.elim
theorem zx_F2_app {α β : Type} {R : α → β → Prop} {l' : List α} {m' : List β} (h' : zx_F2 R l' m') : ∀ {l : List α} {m : List β}, zx_F2 R l m → zx_F2 R (l ++ l') (m ++ m')
  | [], [], _ => h'
  | _ :: _, _ :: _, h => ⟨h.1, zx_F2_app h' h.2⟩
  | [], _ :: _, h => h.elim
  | _ :: _, [], h => h.elim
theorem zx_F2_filter {α β : Type} {R : α → β → Prop} {f : α → Bool} {g : β → Bool} (hfg : ∀ a b, R a b → f a = g b) : ∀ {l : List α} {m : List β}, zx_F2 R l m → zx_F2 R (l.filter f) (m.filter g)
  | [], [], _ => trivial
  | a :: l, b :: m, h => by
    rw [List.filter_cons, List.filter_cons, ← hfg a b h.1]
    by_cases hf : f a = true
    · rw [if_pos hf, if_pos hf]; exact ⟨h.1, zx_F2_filter hfg h.2⟩
    · rw [if_neg hf, if_neg hf]; exact zx_F2_filter hfg h.2
  | [], _ :: _, h => h.elim
  | _ :: _, [], h => h.elim
theorem zx_F2_take {α β : Type} {R : α → β → Prop} : ∀ (n : Nat) {l : List α} {m : List β}, zx_F2 R l m → zx_F2 R (l.take n) (m.take n) ∧ zx_F2 R (l.drop n) (m.drop n)
  | 0, _, _, h => ⟨trivial, h⟩
  | n + 1, [], [], _ => ⟨trivial, trivial⟩
  | n + 1, _ :: _, _ :: _, h => ⟨⟨h.1, (zx_F2_take n h.2).1⟩, (zx_F2_take n h.2).2⟩
  | _ + 1, [], _ :: _, h => h.elim
  | _ + 1, _ :: _, [], h => h.elim
theorem zx_F2_rev {α β : Type} {R : α → β → Prop} : ∀ {l : List α} {m : List β}, zx_F2 R l m → zx_F2 R l.reverse m.reverse
  | [], [], _ => trivial
  | a :: l, b :: m, h => by
    rw [List.reverse_cons, List.reverse_cons]
    exact zx_F2_app (l' := [a]) (m' := [b]) ⟨h.1, trivial⟩ (zx_F2_rev h.2)
  | [], _ :: _, h => h.elim
  | _ :: _, [], h => h.elim
theorem zx_F2_rep {α β : Type} {R : α → β → Prop} {a : α} {b : β} (h : R a b) : ∀ n : Nat, zx_F2 R (List.replicate n a) (List.replicate n b)
  | 0 => trivial
  | n + 1 => ⟨h, zx_F2_rep h n⟩
/-! a sum of unknowns -/
def zx_evl (ρ : List Int) : List (Nat × Int) → Option Int
  | [] => some 0
  | q :: r => match ρ[q.1]?, zx_evl ρ r with
    | some v, some w => some (q.2 * v + w)
    | some _, none => none
    | none, _ => none
def zx_ev (ρ : List Int) (e : zx_L) : Option Int := (zx_evl ρ e.1).map (fun w => w + e.2)
theorem zx_evl_cons {ρ : List Int} {q : Nat × Int} {r : List (Nat × Int)} {w : Int} : zx_evl ρ (q :: r) = some w ↔ ∃ v u, ρ[q.1]? = some v ∧ zx_evl ρ r = some u ∧ w = q.2 * v + u := by
  rw [zx_evl]
  constructor
  · intro h
    split at h
    · rename_i v u h1 h2
      exact ⟨v, u, h1, h2, (Option.some.inj h).symm⟩
    · cases h
    · cases h
  · rintro ⟨v, u, h1, h2, h3⟩
    rw [h1, h2, h3]
theorem zx_ev_iff {ρ : List Int} {e : zx_L} {w : Int} : zx_ev ρ e = some w ↔ ∃ u, zx_evl ρ e.1 = some u ∧ w = u + e.2 := by
  rw [zx_ev]
  constructor
  · intro h
    obtain ⟨u, h1, h2⟩ := Option.map_eq_some_iff.mp h
    exact ⟨u, h1, h2.symm⟩
  · rintro ⟨u, h1, h2⟩
    rw [h1, h2]; rfl
theorem zx_evl_app {ρ r : List Int} : ∀ {l : List (Nat × Int)} {w : Int}, zx_evl ρ l = some w → zx_evl (ρ ++ r) l = some w
  | [], _, h => h
  | q :: t, w, h => by
    obtain ⟨v, u, h1, h2, h3⟩ := zx_evl_cons.mp h
    refine zx_evl_cons.mpr ⟨v, u, ?_, zx_evl_app h2, h3⟩
    rw [List.getElem?_append_left (List.getElem?_eq_some_iff.mp h1).1]; exact h1
theorem zx_ev_app {ρ r : List Int} {e : zx_L} {w : Int} (h : zx_ev ρ e = some w) : zx_ev (ρ ++ r) e = some w := by
  obtain ⟨u, h1, h2⟩ := zx_ev_iff.mp h
  exact zx_ev_iff.mpr ⟨u, zx_evl_app h1, h2⟩
def zx_ins (x : Nat) (c : Int) : List (Nat × Int) → List (Nat × Int)
  | [] => [(x, c)]
  | q :: r => if q.1 = x then (if q.2 + c = 0 then r else (x, q.2 + c) :: r) else q :: zx_ins x c r
theorem zx_ins_ev {ρ : List Int} {x : Nat} {c v : Int} (hv : ρ[x]? = some v) : ∀ {l : List (Nat × Int)} {w : Int}, zx_evl ρ l = some w → zx_evl ρ (zx_ins x c l) = some (c * v + w)
  | [], w, h => by
    rw [zx_ins]
    exact zx_evl_cons.mpr ⟨v, w, hv, h, rfl⟩
  | q :: r, w, h => by
    obtain ⟨v', u, h1, h2, h3⟩ := zx_evl_cons.mp h
    rw [zx_ins]
    by_cases hq : q.1 = x
    · rw [if_pos hq]
      have hvv : v' = v := by rw [hq, hv] at h1; exact (Option.some.inj h1).symm
      subst hvv
      by_cases hz : q.2 + c = 0
      · rw [if_pos hz, h2, h3]
        have : c * v' + (q.2 * v' + u) = (q.2 + c) * v' + u := by rw [Int.add_mul]; omega
        rw [this, hz]; simp
      · rw [if_neg hz]
        exact zx_evl_cons.mpr ⟨v', u, hv, h2, by rw [h3, Int.add_mul]; omega⟩
    · rw [if_neg hq]
      exact zx_evl_cons.mpr ⟨v', c * v + u, h1, zx_ins_ev hv h2, by rw [h3]; omega⟩
def zx_adds : List (Nat × Int) → List (Nat × Int) → List (Nat × Int)
  | [], b => b
  | q :: r, b => zx_ins q.1 q.2 (zx_adds r b)
theorem zx_adds_ev {ρ : List Int} {b : List (Nat × Int)} {w' : Int} (hb : zx_evl ρ b = some w') : ∀ {a : List (Nat × Int)} {w : Int}, zx_evl ρ a = some w → zx_evl ρ (zx_adds a b) = some (w + w')
  | [], w, h => by cases h; rw [zx_adds, hb]; simp
  | q :: r, w, h => by
    obtain ⟨v, u, h1, h2, h3⟩ := zx_evl_cons.mp h
    rw [zx_adds, zx_ins_ev h1 (zx_adds_ev hb h2), h3]
    congr 1
    omega
def zx_add (e f : zx_L) : zx_L := (zx_adds e.1 f.1, e.2 + f.2)
theorem zx_add_ev {ρ : List Int} {e f : zx_L} {v w : Int} (he : zx_ev ρ e = some v) (hf : zx_ev ρ f = some w) : zx_ev ρ (zx_add e f) = some (v + w) := by
  obtain ⟨u1, h1, h2⟩ := zx_ev_iff.mp he
  obtain ⟨u2, h3, h4⟩ := zx_ev_iff.mp hf
  exact zx_ev_iff.mpr ⟨u1 + u2, zx_adds_ev h3 h1, by rw [h2, h4]; show _ = u1 + u2 + (e.2 + f.2); omega⟩
def zx_scl (c : Int) : List (Nat × Int) → List (Nat × Int)
  | [] => []
  | q :: r => (q.1, c * q.2) :: zx_scl c r
theorem zx_scl_ev {ρ : List Int} (c : Int) : ∀ {a : List (Nat × Int)} {w : Int}, zx_evl ρ a = some w → zx_evl ρ (zx_scl c a) = some (c * w)
  | [], w, h => by cases h; rw [zx_scl, zx_evl]; simp
  | q :: r, w, h => by
    obtain ⟨v, u, h1, h2, h3⟩ := zx_evl_cons.mp h
    rw [zx_scl]
    exact zx_evl_cons.mpr ⟨v, c * u, h1, zx_scl_ev c h2, by rw [h3, Int.mul_add, Int.mul_assoc]⟩
def zx_scale (c : Int) (e : zx_L) : zx_L := if c = 0 then ([], 0) else (zx_scl c e.1, c * e.2)
theorem zx_scale_ev {ρ : List Int} (c : Int) {e : zx_L} {v : Int} (he : zx_ev ρ e = some v) : zx_ev ρ (zx_scale c e) = some (c * v) := by
  obtain ⟨u, h1, h2⟩ := zx_ev_iff.mp he
  rw [zx_scale]
  by_cases hc : c = 0
  · rw [if_pos hc, hc]; exact zx_ev_iff.mpr ⟨0, rfl, by simp⟩
  · rw [if_neg hc]; exact zx_ev_iff.mpr ⟨c * u, zx_scl_ev c h1, by rw [h2, Int.mul_add]⟩
def zx_sub (e f : zx_L) : zx_L := zx_add e (zx_scale (-1) f)
theorem zx_sub_ev {ρ : List Int} {e f : zx_L} {v w : Int} (he : zx_ev ρ e = some v) (hf : zx_ev ρ f = some w) : zx_ev ρ (zx_sub e f) = some (v - w) := by
  have h := zx_add_ev he (zx_scale_ev (-1) hf)
  rw [zx_sub, h]
  congr 1
  omega
noncomputable def zx_rg (G : zx_G) : List (Nat × Int) → Option (Int × Int)
  | [] => some (0, 0)
  | q :: r => match zy_get G q.1, zx_rg G r with
    | some b, some t => if 0 ≤ q.2 then some (q.2 * b.1.1 + t.1, q.2 * b.1.2 + t.2) else some (q.2 * b.1.2 + t.1, q.2 * b.1.1 + t.2)
    | some _, none => none
    | none, _ => none
noncomputable def zx_rng (G : zx_G) (e : zx_L) : Option (Int × Int) := match zx_rg G e.1 with
  | some t => some (t.1 + e.2, t.2 + e.2)
  | none => none
def zx_ok (ρ : List Int) (G : zx_G) : Prop := ρ.length = G.length ∧ ∀ (i : Nat) (v : Int) (b : zx_b), ρ[i]? = some v → G[i]? = some b → b.1.1 ≤ v ∧ v ≤ b.1.2 ∧ ∀ e, b.2 = some e → zx_ev ρ e = some v
theorem zx_rg_ok {ρ : List Int} {G : zx_G} (hG : zx_ok ρ G) : ∀ {l : List (Nat × Int)} {t : Int × Int} {w : Int}, zx_rg G l = some t → zx_evl ρ l = some w → t.1 ≤ w ∧ w ≤ t.2
  | [], t, w, h, hw => by cases h; cases hw; exact ⟨Int.le_refl _, Int.le_refl _⟩
  | q :: r, t, w, h, hw => by
    obtain ⟨v, u, h1, h2, h3⟩ := zx_evl_cons.mp hw
    rw [zx_rg] at h
    split at h
    · rename_i b t' hb ht
      rw [zy_get_eq] at hb
      obtain ⟨k1, k2⟩ := zx_rg_ok hG ht h2
      obtain ⟨g1, g2, -⟩ := hG.2 _ _ _ h1 hb
      split at h
      · rename_i hq
        cases h
        subst h3
        exact ⟨Int.add_le_add (Int.mul_le_mul_of_nonneg_left g1 hq) k1, Int.add_le_add (Int.mul_le_mul_of_nonneg_left g2 hq) k2⟩
      · rename_i hq
        have hq' : q.2 ≤ 0 := by omega
        cases h
        subst h3
        exact ⟨Int.add_le_add (Int.mul_le_mul_of_nonpos_left hq' g2) k1, Int.add_le_add (Int.mul_le_mul_of_nonpos_left hq' g1) k2⟩
    · cases h
    · cases h
theorem zx_rng_ok {ρ : List Int} {G : zx_G} (hG : zx_ok ρ G) {e : zx_L} {t : Int × Int} {w : Int} (h : zx_rng G e = some t) (hw : zx_ev ρ e = some w) : t.1 ≤ w ∧ w ≤ t.2 := by
  obtain ⟨u, h1, h2⟩ := zx_ev_iff.mp hw
  rw [zx_rng] at h
  split at h
  · rename_i t' ht
    obtain ⟨k1, k2⟩ := zx_rg_ok hG ht h1
    cases h
    subst h2
    exact ⟨by show t'.1 + e.2 ≤ u + e.2; omega, by show u + e.2 ≤ t'.2 + e.2; omega⟩
  · cases h
/-- one more unknown between two bounds -/
theorem zx_ok_pushq {ρ : List Int} {G : zx_G} (hG : zx_ok ρ G) {v : Int} {b : zx_b} (h1 : b.1.1 ≤ v) (h2 : v ≤ b.1.2) (h3 : ∀ e, b.2 = some e → zx_ev ρ e = some v) : zx_ok (ρ ++ [v]) (G ++ [b]) := by
  refine ⟨by rw [List.length_append, List.length_append, hG.1]; rfl, fun i x c hx hc => ?_⟩
  by_cases hi : i < ρ.length
  · rw [List.getElem?_append_left hi] at hx
    rw [List.getElem?_append_left (by rw [← hG.1]; exact hi)] at hc
    obtain ⟨k1, k2, k3⟩ := hG.2 i x c hx hc
    exact ⟨k1, k2, fun e he => zx_ev_app (k3 e he)⟩
  · have hl : i < (ρ ++ [v]).length := (List.getElem?_eq_some_iff.mp hx).1
    rw [List.length_append, List.length_singleton] at hl
    have he : i = ρ.length := by omega
    subst he
    rw [List.getElem?_append_right (Nat.le_refl _)] at hx
    rw [hG.1, List.getElem?_append_right (Nat.le_refl _)] at hc
    simp at hx hc
    subst hx; subst hc
    exact ⟨h1, h2, fun e he => zx_ev_app (h3 e he)⟩
theorem zx_ok_push {ρ : List Int} {G : zx_G} (hG : zx_ok ρ G) {v : Int} {b : Int × Int} (h1 : b.1 ≤ v) (h2 : v ≤ b.2) : zx_ok (ρ ++ [v]) (G ++ [(b, none)]) :=
  zx_ok_pushq hG (b := (b, none)) h1 h2 (fun e he => by cases he)
theorem zx_ev_new {ρ : List Int} {G : zx_G} (hG : zx_ok ρ G) (v : Int) : zx_ev (ρ ++ [v]) ([(G.length, 1)], 0) = some v := by
  refine zx_ev_iff.mpr ⟨v, zx_evl_cons.mpr ⟨v, 0, ?_, rfl, by simp⟩, by simp⟩
  show (ρ ++ [v])[G.length]? = some v
  rw [← hG.1]; simp
/-- tighter bounds of one unknown -/
theorem zx_ok_set {ρ : List Int} {G : zx_G} (hG : zx_ok ρ G) {x : Nat} {b : Int × Int} {g : zx_b} (hg : G[x]? = some g) (hb : ∀ v, ρ[x]? = some v → b.1 ≤ v ∧ v ≤ b.2) : zx_ok ρ (G.set x (b, g.2)) := by
  refine ⟨by rw [List.length_set]; exact hG.1, fun i v c hv hc => ?_⟩
  by_cases hi : x = i
  · subst hi
    rw [List.getElem?_set] at hc
    simp only [if_true] at hc
    split at hc
    · cases hc
      obtain ⟨k1, k2⟩ := hb v hv
      exact ⟨k1, k2, (hG.2 x v g hv hg).2.2⟩
    · cases hc
  · rw [List.getElem?_set, if_neg hi] at hc
    exact hG.2 i v c hv hc
